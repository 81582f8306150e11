/-! the memory at the law's entry -/
def xnumb (i : Nat) : Int32 := ([0, 8, 8, 7, 64, 64, 2, 2, 4, 0] : List Int32).getD i 0
def xtake (i : Nat) : Int32 := ([0, 0, 1, 2, 0, 1, 1, 2, 1, 0] : List Int32).getD i 0
def xputs (i : Nat) : Int32 := ([1, 1, 0, 1, 0, 0, 1, 0, 0, 0] : List Int32).getD i 0
def xcf (xs : Nat → Int32) (k : Nat) : Nat → Int32 := match k with
  | 0 => xs
  | 1 => xnumb
  | 2 => xtake
  | _ => xputs
def xmr0 (L : Nat) (a k : Nat) : Option Nat := match a with
  | 1000 => (match k with
    | 0 => some L
    | 1 => some 10
    | 2 => some 10
    | 3 => some 10
    | _ => none)
  | _ => none
def xmi0 (xs : Nat → Int32) (a : Nat) : Nat → Int32 := match a with
  | 1000 => xs
  | 1001 => xnumb
  | 1002 => xtake
  | 1003 => xputs
  | _ => fun _ => 0
def x0 (L : Nat) (xs : Nat → Int32) : xM := ([], xmr0 L, xmi0 xs, fun _ _ => 0)
/-- what is left: the law, over the pure machine -/
def xPure : Prop := ∀ (L : Nat) (xs : Nat → Int32), L ≤ 2560 → xR (xC 10) mL_law (600000, 7302250) (fun r M => r = some (.int 1) ∧ xsum M ≤ 7302250) (0, [(0, .ref 1000)], [], x0 L xs)
/-! THE CLAIM OUT OF ONE WALK OF THE LAW'S BODY. Your part is whole_start (and what it stands on); all else here is the same for every law, but numbers. -/
def R_law : String := "SecretLoomLaw"
def lw_P (b : Addr) (xs : List Int32) (args : Array Value) (s : State) : Prop := args = #[.ref b] ∧ s.IntsAt b xs ∧ xs.length ≤ 2560 ∧ (Jvm.Cond.and given_1 narrow_1).before args s = true
def lw_Q (_ : Array Value) (s : State) (o : Outcome) (t : State) : Prop := o = .returned (some (.int 1)) ∧ Framed s o t [] 600000 7302250
def lw_Z (below : List Frame) (a : Array Value) (s : State) : State → Prop := fun t => ∃ o, t.status = .running ∧ Ended t below o ∧ lw_Q a s o t
/-- the law's own end, with 1 on the stack, nothing written that was there before, its room as the claim has it -/
theorem lw_ret {p : Program} {l : Launch} {e : Env} {s : State} {m : MethodId} {below : List Frame} {meth : Method} {c : Code} {b : Nat} (hx : p.tables.exec = Jvm.exec) (hb : c.code = code) (hr : meth.sig.returnType = ret) (hlocks : meth.locks = false) {pc : Nat} {H : Heap} {ls : Array Slot} (hdg : decode code pc = .ok (.ireturn, 1)) : W p l e room_1 s m #[Value.ref b] below meth c H [] 600000 7302250 (lw_Z below #[Value.ref b] s) (F0 m pc ls [.int 1]) := by
  intro T hT X
  obtain ⟨fs, hret, hrun, hended, hW, hframe⟩ := X.leave (v := some (.int 1)) (hlocks := hlocks) (fun h => by rw [hr] at h; cases h)
  have hmeth' : T.vm.method? m = some meth := X.method'
  refine ⟨T.setFrames fs, ?_, .returned (some (.int 1)), hrun, hended, rfl, ⟨_, rfl⟩, hW, hframe⟩
  jvm_step X.here [X.here.top, hx, hb, hdg, hmeth', hr, ret, narrow_b1]
  (try refine ⟨rfl, ?_⟩); (try refine ⟨rfl, ?_⟩)
  first | (intro acts; rw [hret _ acts rfl rfl rfl]) | rw [hret _ _ rfl rfl rfl]
  exact Steps.refl _
/-- what holds at the law's entry: the machine, the code, the tables' words (any of lw_tbl by 'hts w (by decide +kernel)'), the script of L ints xs at the cell b, what the Statement gives of the start (any of its parts by flat_of_before) -/
def lw_At (p : Program) (s : State) (m : MethodId) (meth : Method) (c : Code) (b L : Nat) (xs : Nat → Int32) : Prop :=
  p.tables.exec = Jvm.exec ∧ c.code = code ∧ meth.sig.returnType = ret ∧ c.maxLocals = 4 ∧ s.vm.findClass R_law = some m.cls ∧ (∀ w ∈ lw_tbl, w.before #[Value.ref b] s = true) ∧ va_X b L xs s s.heap ∧ b < s.heap.size ∧ meth.locks = false ∧ (Jvm.Cond.and given_1 narrow_1).before #[Value.ref b] s = true
theorem xe_arr {s : State} {args : Array Value} {ty : FieldType} (hty : ∀ C, ty ≠ .object C) (h : (Jvm.Cond.arrayClass ty).before args s = true) : ∃ cA : ClassId, ArrOfT s cA ty ∧ va_RA s cA ty := by
  obtain ⟨cA, k, comp, h1, h2, h3⟩ := Cond.arrayClass_spec h
  refine ⟨cA, fun n z => ⟨fun k h => (by cases h), k, h2, comp, h3⟩, ?_⟩
  cases ty <;> first | exact h1 | exact absurd rfl (hty _)
theorem xe_ref {s : State} {args : Array Value} {C : String} (h : (Jvm.Cond.arrayOver (.object C)).before args s = true) : ∃ cA : ClassId, ArrOfT s cA (.object C) ∧ va_RA s cA (.object C) := by
  obtain ⟨comp, cA, k, h1, -, h2, h3, h4⟩ := Cond.arrayOver_spec h
  exact ⟨cA, fun n z => ⟨fun k h => (by cases h), k, h2, comp, h3⟩, k, comp, h2, h3, h1, h4⟩
theorem xao_1 : Jvm.Cond.arrayOver (.object (xnm (xcomp 23))) ∈ lw_tbl := by decide +kernel
theorem xao_2 : Jvm.Cond.arrayOver (.object (xnm (xcomp 24))) ∈ lw_tbl := by decide +kernel
theorem xini_S : Jvm.Cond.initialized "SecretLoom" ∈ lw_tbl := by decide +kernel
theorem xls_1 : Jvm.Cond.laysStatic "SecretLoom" "NUMBERS" "[I" ∈ lw_tbl := by decide +kernel
theorem xls_2 : Jvm.Cond.laysStatic "SecretLoom" "TAKES" "[I" ∈ lw_tbl := by decide +kernel
theorem xls_3 : Jvm.Cond.laysStatic "SecretLoom" "PUTS" "[I" ∈ lw_tbl := by decide +kernel
theorem xinst : ∀ c, c < 10 → Jvm.Cond.instantiable (xnm c) (xN c) ∈ lw_tbl := by decide +kernel
theorem xe_st1 {s : State} {args : Array Value} {A : Nat → Prop} (hs : ∀ w ∈ flatC (Jvm.Cond.and given_1 narrow_1), w.before args s = true) (hts : ∀ w ∈ lw_tbl, w.before args s = true) (hA : ∀ a : Nat, a < s.heap.size → ¬ A a) : ∃ t : Nat, va_T .int t 10 (fun i => .int (xnumb i)) A s s.heap ∧ va_Z "SecretLoom" "NUMBERS" "[I" (.ref t) A s s.heap := by
  obtain ⟨t, h1, h2⟩ := va_Tof (tm := .static "SecretLoom" "NUMBERS" "[I") (ty := .int) (N := 10) (f := fun i => .int (xnumb i)) (A := A) (by decide) (hs _ (by decide +kernel)) (va_eqt (z := 10) (hs _ (by decide +kernel))) (fun j hj => by
    rcases (show j = 0 ∨ j = 1 ∨ j = 2 ∨ j = 3 ∨ j = 4 ∨ j = 5 ∨ j = 6 ∨ j = 7 ∨ j = 8 ∨ j = 9 by omega) with rfl | rfl | rfl | rfl | rfl | rfl | rfl | rfl | rfl | rfl
    · exact va_eqt (z := 0) (hs _ (by decide +kernel))
    · exact va_eqt (z := 8) (hs _ (by decide +kernel))
    · exact va_eqt (z := 8) (hs _ (by decide +kernel))
    · exact va_eqt (z := 7) (hs _ (by decide +kernel))
    · exact va_eqt (z := 64) (hs _ (by decide +kernel))
    · exact va_eqt (z := 64) (hs _ (by decide +kernel))
    · exact va_eqt (z := 2) (hs _ (by decide +kernel))
    · exact va_eqt (z := 2) (hs _ (by decide +kernel))
    · exact va_eqt (z := 4) (hs _ (by decide +kernel))
    · exact va_eqt (z := 0) (hs _ (by decide +kernel))) hA
  exact ⟨t, h2, va_Zref (hts _ xls_1) (hts _ xini_S) h1 hA⟩
theorem xe_st2 {s : State} {args : Array Value} {A : Nat → Prop} (hs : ∀ w ∈ flatC (Jvm.Cond.and given_1 narrow_1), w.before args s = true) (hts : ∀ w ∈ lw_tbl, w.before args s = true) (hA : ∀ a : Nat, a < s.heap.size → ¬ A a) : ∃ t : Nat, va_T .int t 10 (fun i => .int (xtake i)) A s s.heap ∧ va_Z "SecretLoom" "TAKES" "[I" (.ref t) A s s.heap := by
  obtain ⟨t, h1, h2⟩ := va_Tof (tm := .static "SecretLoom" "TAKES" "[I") (ty := .int) (N := 10) (f := fun i => .int (xtake i)) (A := A) (by decide) (hs _ (by decide +kernel)) (va_eqt (z := 10) (hs _ (by decide +kernel))) (fun j hj => by
    rcases (show j = 0 ∨ j = 1 ∨ j = 2 ∨ j = 3 ∨ j = 4 ∨ j = 5 ∨ j = 6 ∨ j = 7 ∨ j = 8 ∨ j = 9 by omega) with rfl | rfl | rfl | rfl | rfl | rfl | rfl | rfl | rfl | rfl
    · exact va_eqt (z := 0) (hs _ (by decide +kernel))
    · exact va_eqt (z := 0) (hs _ (by decide +kernel))
    · exact va_eqt (z := 1) (hs _ (by decide +kernel))
    · exact va_eqt (z := 2) (hs _ (by decide +kernel))
    · exact va_eqt (z := 0) (hs _ (by decide +kernel))
    · exact va_eqt (z := 1) (hs _ (by decide +kernel))
    · exact va_eqt (z := 1) (hs _ (by decide +kernel))
    · exact va_eqt (z := 2) (hs _ (by decide +kernel))
    · exact va_eqt (z := 1) (hs _ (by decide +kernel))
    · exact va_eqt (z := 0) (hs _ (by decide +kernel))) hA
  exact ⟨t, h2, va_Zref (hts _ xls_2) (hts _ xini_S) h1 hA⟩
theorem xe_st3 {s : State} {args : Array Value} {A : Nat → Prop} (hs : ∀ w ∈ flatC (Jvm.Cond.and given_1 narrow_1), w.before args s = true) (hts : ∀ w ∈ lw_tbl, w.before args s = true) (hA : ∀ a : Nat, a < s.heap.size → ¬ A a) : ∃ t : Nat, va_T .int t 10 (fun i => .int (xputs i)) A s s.heap ∧ va_Z "SecretLoom" "PUTS" "[I" (.ref t) A s s.heap := by
  obtain ⟨t, h1, h2⟩ := va_Tof (tm := .static "SecretLoom" "PUTS" "[I") (ty := .int) (N := 10) (f := fun i => .int (xputs i)) (A := A) (by decide) (hs _ (by decide +kernel)) (va_eqt (z := 10) (hs _ (by decide +kernel))) (fun j hj => by
    rcases (show j = 0 ∨ j = 1 ∨ j = 2 ∨ j = 3 ∨ j = 4 ∨ j = 5 ∨ j = 6 ∨ j = 7 ∨ j = 8 ∨ j = 9 by omega) with rfl | rfl | rfl | rfl | rfl | rfl | rfl | rfl | rfl | rfl
    · exact va_eqt (z := 1) (hs _ (by decide +kernel))
    · exact va_eqt (z := 1) (hs _ (by decide +kernel))
    · exact va_eqt (z := 0) (hs _ (by decide +kernel))
    · exact va_eqt (z := 1) (hs _ (by decide +kernel))
    · exact va_eqt (z := 0) (hs _ (by decide +kernel))
    · exact va_eqt (z := 0) (hs _ (by decide +kernel))
    · exact va_eqt (z := 1) (hs _ (by decide +kernel))
    · exact va_eqt (z := 0) (hs _ (by decide +kernel))
    · exact va_eqt (z := 0) (hs _ (by decide +kernel))
    · exact va_eqt (z := 0) (hs _ (by decide +kernel))) hA
  exact ⟨t, h2, va_Zref (hts _ xls_3) (hts _ xini_S) h1 hA⟩
theorem xsel {α : Type} (f : Nat → α → Prop) (n : Nat) (d : α) (h : ∀ k, k < n → ∃ x, f k x) : ∃ g : Nat → α, ∀ k, k < n → f k (g k) := by
  refine ⟨fun k => if hk : k < n then (h k hk).choose else d, fun k hk => ?_⟩
  simp only [dif_pos hk]
  exact (h k hk).choose_spec
set_option maxHeartbeats 4000000 in
set_option maxRecDepth 100000 in
theorem xentry (hpure : xPure) {p : Program} {e : Env} {s : State} {m : MethodId} {below : List Frame} {meth : Method} {c : Code} (l : Launch) {b L : Nat} {xs : Nat → Int32} (hL : L ≤ 2560) (C0 : lw_At p s m meth c b L xs) : W p l e room_1 s m #[Value.ref b] below meth c s.heap [] 0 0 (lw_Z below #[Value.ref b] s) (entryFrame m ([Value.ref b] : List Value).toArray 4) := by
  obtain ⟨hx, hb, hr, hml, hown, hts, hX, hbl, hlocks, hgv⟩ := id C0
  have hs := flat_of_before _ hgv
  have hA : ∀ a : Nat, a < s.heap.size → ¬ (fun q : Nat => s.heap.size ≤ q) a := fun a h g => absurd g (Nat.not_le.mpr h)
  have htg : ∀ w ∈ gws, w.before #[Value.ref b] s = true := fun w h => hts w (List.mem_filter.mp h).1
  obtain ⟨t1, hT1, hZ1⟩ := xe_st1 (A := fun q : Nat => s.heap.size ≤ q) hs hts hA
  obtain ⟨t2, hT2, hZ2⟩ := xe_st2 (A := fun q : Nat => s.heap.size ≤ q) hs hts hA
  obtain ⟨t3, hT3, hZ3⟩ := xe_st3 (A := fun q : Nat => s.heap.size ≤ q) hs hts hA
  obtain ⟨cA0, a0, r0⟩ := xe_arr (fun C h => by cases h) (hts _ xac_int)
  obtain ⟨cA1, a1, r1⟩ := xe_arr (fun C h => by cases h) (hts _ xac_long)
  obtain ⟨cA2, a2, r2⟩ := xe_arr (fun C h => by cases h) (hts _ xac_boolean)
  obtain ⟨cA3, a3, r3⟩ := xe_ref (hts _ xao_1)
  obtain ⟨cA4, a4, r4⟩ := xe_ref (hts _ xao_2)
  have hkn : ∀ c, c < 10 → ∃ q : ClassId × (Nat → Nat), u_Kn s (xnm c) (xT c) (xN c) q.1 q.2 := fun c hc => by
    obtain ⟨cC, iS, h⟩ := u_known (C := xnm c) (T := xT c) (N := xN c) (n := xN c) htg (xws_in hc) (hts _ (xinst c hc))
    exact ⟨(cC, iS), h⟩
  obtain ⟨g, hg⟩ := xsel _ 10 (0, fun _ => 0) hkn
  obtain ⟨scr, x1, x2, x3, x4, x5⟩ := hX
  have hTs : va_T .int b L (fun i => .int (xs i)) (fun q : Nat => s.heap.size ≤ q) s s.heap := ⟨scr, x1, x2, x3, by omega, by rw [x4], x5, hA b hbl⟩
  let fx : Nat → Nat := fun k => match k with
    | 0 => b
    | 1 => t1
    | 2 => t2
    | _ => t3
  let fl : Nat → Nat := fun k => match k with
    | 0 => L
    | _ => 10
  let dA : Nat → ClassId := fun k => match k with
    | 0 => cA0
    | 1 => cA1
    | 2 => cA2
    | 3 => cA3
    | _ => cA4
  let G : xG := (s.heap.size, fx, fl, xcf xs, (fun k => (g k).1, fun k => (g k).2), dA)
  have hK : xKs G s := by
    refine ⟨⟨fun c q hq => ?_, fun k q hq => ?_⟩, fun w hw hn => ?_, ⟨va_AO.of (hts _ xao_1), va_AO.of (hts _ xao_2)⟩, fun k hk => ?_, fun k k1 k4 => ?_⟩
    · have hc := xcl_lt hq
      rw [xcl_at c hc] at hq
      cases hq
      exact hg c hc
    · have hk5 : k < 5 := (List.getElem?_eq_some_iff.mp hq).1
      rcases (show k = 0 ∨ k = 1 ∨ k = 2 ∨ k = 3 ∨ k = 4 by omega) with rfl | rfl | rfl | rfl | rfl
      · cases hq; exact ⟨a0, r0⟩
      · cases hq; exact ⟨a1, r1⟩
      · cases hq; exact ⟨a2, r2⟩
      · cases hq; exact ⟨a3, r3⟩
      · cases hq; exact ⟨a4, r4⟩
    · refine va_Nw.of ?_ (hts w hw)
      cases w <;> first | rfl | (simp [xnest] at hn)
    · rcases (show k = 0 ∨ k = 1 ∨ k = 2 ∨ k = 3 by omega) with rfl | rfl | rfl | rfl
      · exact hTs
      · exact hT1
      · exact hT2
      · exact hT3
    · rcases (show k = 1 ∨ k = 2 ∨ k = 3 by omega) with rfl | rfl | rfl
      · exact hZ1
      · exact hZ2
      · exact hZ3
  have hHp : xHp G (x0 L xs) s.heap := by
    refine ⟨rfl, Nat.zero_le _, (fun a q h => by simp [x0] at h), fun k hk => ?_⟩
    rcases (show k = 0 ∨ k = 1 ∨ k = 2 ∨ k = 3 by omega) with rfl | rfl | rfl | rfl
    · exact ⟨rfl, fun _ => rfl⟩
    · exact ⟨rfl, fun _ => rfl⟩
    · exact ⟨rfl, fun _ => rfl⟩
    · exact ⟨rfl, fun _ => rfl⟩
  have Bd : xBd p room_1 s m #[Value.ref b] meth c G 0 0 13 0 (600000, 7302250) := ⟨hx, hown, htg, hK, fun h => absurd h (by decide), rfl, by decide, by decide⟩
  have hret : ∀ (pc : Nat) (ls : xL) (st : List Value) (M : xM) (r : Option Value) (M' : xM), xret mL_law (pc, ls, st, M) = some (r, M') → (r = some (.int 1) ∧ xsum M' ≤ 7302250) → xPW p l e room_1 s m #[Value.ref b] below meth c (lw_Z below #[Value.ref b] s) G 0 0 pc ls st M := by
    intro pc ls st M r M' h hQ H locs LS cells slots g1 g2 g3 g4 g5 g6
    simp only [xret] at h
    split at h
    · rename_i i len op hat
      obtain ⟨hd, ok⟩ := xat_ok (bytes := c.code) hat (by rw [hb]; exact kL_dec) (show xokc mL_law.1 4 mL_law.2.2.2.2.2.2.2 = true from kL_ok)
      split at h
      · rename_i v hrt; exact absurd hrt (by decide)
      · rename_i v hrt
        cases hz : xz v with
        | false => rw [hz] at h; cases h
        | true =>
          rw [hz] at h
          cases h
          obtain ⟨hv, hsl⟩ := hQ
          cases hv
          obtain rfl : len = 1 := Nat.eq_of_beq_eq_true ok
          have hl1 := g1.2.1
          rw [hb] at hd
          refine va_forget g3 ?_
          refine W.widen (k := 600000) (n := 7302250) (by omega) (by omega) ?_
          exact lw_ret hx hb hr hlocks hd
      · rename_i v hrt; exact absurd hrt (by decide)
      · rename_i nm v hrt; exact absurd hrt (by simp [mL_law])
      · rename_i hrt; exact absurd hrt (by decide)
      · cases h
    · cases h
  have hw := x_run (l := l) (e := e) (below := below) (Qw := lw_Z below #[Value.ref b] s) (xSnd_all 10) Bd (by decide) (by decide) (mt := mL_law) rfl rfl (by rw [hb]; exact kL_dec) (by rw [hml]; exact kL_ok) hret (hpure L xs hL)
  have hl := lv_entry ([.ref b]) (n := 4) (Nat.le_of_ble_eq_true rfl)
  rw [lg_entry_eq]
  exact hw s.heap [] _ 0 0 hHp (fun _ _ => rfl) (fun _ h => by cases h) (by rw [hml]; exact hl) rfl rfl
