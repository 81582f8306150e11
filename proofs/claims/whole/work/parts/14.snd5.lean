theorem xac_int : Jvm.Cond.arrayClass .int ∈ lw_tbl := by decide +kernel
theorem xac_long : Jvm.Cond.arrayClass .long ∈ lw_tbl := by decide +kernel
theorem xac_boolean : Jvm.Cond.arrayClass .boolean ∈ lw_tbl := by decide +kernel
def xkindB : FieldType → Bool
  | .int => true
  | .boolean => true
  | .long => true
  | .object _ => true
  | .array _ => true
  | _ => false
theorem xty_kindB : ∀ c, c < 10 → ∀ j, j < xN c → xkindB (xty c j) = true := by decide +kernel
theorem xty_kind (c : Nat) (hc : c < 10) (j : Nat) (hj : j < xN c) : xty c j = .int ∨ xty c j = .boolean ∨ xty c j = .long ∨ (∃ n, xty c j = .object n) ∨ ∃ t, xty c j = .array t := by
  have h := xty_kindB c hc j hj
  generalize xty c j = t at h ⊢
  cases t <;> simp [xkindB] at h ⊢
section XINS
variable {p : Program} {l : Launch} {e : Env} {R : Room} {s : State} {m : MethodId} {args : Array Value} {below : List Frame} {meth : Method} {c : Code} {Qw : State → Prop} {G : xG} {n0 t0 : Nat} {own mk : Nat} {lim : Nat × Nat} {len op pc : Nat} {ls : xL} {st : List Value} {M : xM} {S : xS}

theorem xkind {q1 q2 n : Nat} (h : Nat.beq q1 n = true) : q1 = n := Nat.eq_of_beq_eq_true h
theorem xE20 {r : Nat → Nat} {dA : Nat → ClassId} {M : xM} {a n : Nat} : xE r dA M a (20, n) = .inl (dA 0, n, .inl (M.2.2.1 a)) := rfl
theorem xE21 {r : Nat → Nat} {dA : Nat → ClassId} {M : xM} {a n : Nat} : xE r dA M a (21, n) = .inl (dA 1, n, .inr (.inl (M.2.2.2 a))) := rfl
theorem xE22 {r : Nat → Nat} {dA : Nat → ClassId} {M : xM} {a n : Nat} : xE r dA M a (22, n) = .inl (dA 2, n, .inl (M.2.2.1 a)) := rfl
theorem xE23 {r : Nat → Nat} {dA : Nat → ClassId} {M : xM} {a n : Nat} : xE r dA M a (23, n) = .inl (dA 3, n, .inr (.inr (.inr (.inr (fun i => (M.2.1 a i).map r))))) := rfl
theorem xE24 {r : Nat → Nat} {dA : Nat → ClassId} {M : xM} {a n : Nat} : xE r dA M a (24, n) = .inl (dA 4, n, .inr (.inr (.inr (.inr (fun i => (M.2.1 a i).map r))))) := rfl
/-- an array that nobody writes, at the heap as it now is -/
theorem xfix {s : State} {G : xG} {H : Heap} (hK : xKs G s) (hF : ∀ q : Nat, q < G.1 → H[q]? = s.heap[q]?) {k : Nat} (hk : k < 4) : va_T .int (G.2.1 k) (G.2.2.1 k) (fun i => .int (G.2.2.2.1 k i)) (fun q => G.1 ≤ q) s H :=
  (hK.2.2.2.1 k hk).kept (fun a _ g => hF a (Nat.not_le.mp g))
theorem xz_narrow {x : Int32} (h : xz x = true) : narrow .boolean (.int x) = .int x ∧ fits .boolean (.int x) = true := by
  have hx : x = 0 ∨ x = 1 := by simpa [xz] using h
  rcases hx with rfl | rfl <;> exact ⟨rfl, rfl⟩
theorem xfv_get {r : Nat → Nat} {M : xM} {a c k : Nat} (hk : k < xN c) : ((List.range (xN c)).map (fun j => xv r (xfv (xty c j) M a j)))[k]? = some (xv r (xfv (xty c k) M a k)) := by
  rw [List.getElem?_map, List.getElem?_range hk]; rfl

theorem xi_getfield (x : Nat) (Bd : xBd p R s m args meth c G n0 t0 own mk lim) (hd : decode c.code pc = .ok (.getfield x, len)) (ok : xokI own c.maxLocals pc (.getfield x) len op = true) (h : xins own mk lim (.getfield x) len op pc ls st M = some S) (k : xPW p l e R s m args below meth c Qw G n0 t0 S.1 S.2.1 S.2.2.1 S.2.2.2) : xPW p l e R s m args below meth c Qw G n0 t0 pc ls st M := by
  obtain ⟨hx, hown, hts, hK, hin, hlim, hfr, hlo⟩ := Bd
  obtain ⟨ok1, ok2⟩ := Bool.and_eq_true_iff.mp ok
  obtain rfl : len = 3 := Nat.eq_of_beq_eq_true ok1
  obtain ⟨hc10, hkN, hlk⟩ := xFL_ok _ (contains_mem ok2)
  dsimp only at hc10 hkN hlk
  simp only [xins] at h
  split at h
  · rename_i a r
    split at h
    · rename_i q1 q2 hq
      cases hb : Nat.beq q1 (op / 64) with
      | false => rw [hb] at h; cases h
      | true =>
        rw [hb] at h
        cases h
        obtain rfl := Nat.eq_of_beq_eq_true hb
        refine xs_go k (fun H locs LS cells slots g1 _ _ w => ?_)
        have ha := g1.2.2.1 a _ hq
        rw [xE_obj (q := (op / 64, q2)) hc10] at ha
        have hlt := xlay_lt g1 hq
        simp only [List.map_cons, xv, xGr_lt hlt]
        refine va_get (D := G.2.2.2.2.1) (ci := op / 64) (C := xnm (op / 64)) (T := xT (op / 64)) (N := xN (op / 64)) hx rfl hts (xws_in hc10) hown hK.1 (va_one ha) 0 rfl (xcl_at _ hc10) (op % 64) hkN (hts _ (gws_in hlk rfl)) ?_ (xfv_get hkN) hd w
        exact fun _ h9 => h9
    · cases h
  · cases h

theorem xfw_eq {ty : FieldType} {M M' : xM} {a k : Nat} {v : Value} (r : Nat → Nat) (h : xfw ty M a k v = some M') : M'.1 = M.1 ∧ (∀ x, x ≠ a → M'.2.1 x = M.2.1 x ∧ M'.2.2.1 x = M.2.2.1 x ∧ M'.2.2.2 x = M.2.2.2 x) ∧ narrow ty (xv r v) = xv r v ∧ fits ty (xv r v) = true ∧ xv r (xfv ty M' a k) = xv r v ∧ (∀ ty' j, j ≠ k → xfv ty' M' a j = xfv ty' M a j) := by
  obtain ⟨lay, mr, mi, ml⟩ := M
  have hrow : ∀ {α : Type} (f : Nat → Nat → α) (b : α) (x : Nat), x ≠ a → xU f a k b x = f x := fun f b x hx => va_up_ne f _ hx
  have hself : ∀ {α : Type} (f : Nat → Nat → α) (b : α), xU f a k b a k = b := fun f b => by unfold xU; rw [va_up_self, va_up_self]
  have hoth : ∀ {α : Type} (f : Nat → Nat → α) (b : α) (j : Nat), j ≠ k → xU f a k b a j = f a j := fun f b j hj => by unfold xU; rw [va_up_self, va_up_ne _ _ hj]
  unfold xfw at h
  split at h
  · cases h; exact ⟨rfl, fun x hx => ⟨rfl, hrow mi _ x hx, rfl⟩, rfl, rfl, by simp only [xwi, xfv, hself], fun ty' j hj => by cases ty' <;> simp only [xwi, xfv, hoth _ _ j hj]⟩
  · rename_i x
    cases hz : xz x with
    | false => rw [hz] at h; cases h
    | true =>
      rw [hz] at h; cases h
      exact ⟨rfl, fun x hx => ⟨rfl, hrow mi _ x hx, rfl⟩, (xz_narrow hz).1, (xz_narrow hz).2, by simp only [xwi, xfv, hself], fun ty' j hj => by cases ty' <;> simp only [xwi, xfv, hoth _ _ j hj]⟩
  · cases h; exact ⟨rfl, fun x hx => ⟨rfl, rfl, hrow ml _ x hx⟩, rfl, rfl, by simp only [xwl, xfv, hself], fun ty' j hj => by cases ty' <;> simp only [xwl, xfv, hoth _ _ j hj]⟩
  · cases h; exact ⟨rfl, fun x hx => ⟨hrow mr _ x hx, rfl, rfl⟩, rfl, rfl, by simp only [xwr, xfv, hself, xrv], fun ty' j hj => by cases ty' <;> simp only [xwr, xfv, hoth _ _ j hj]⟩
  · cases h; exact ⟨rfl, fun x hx => ⟨hrow mr _ x hx, rfl, rfl⟩, rfl, rfl, by simp only [xwr, xfv, hself, xrv], fun ty' j hj => by cases ty' <;> simp only [xwr, xfv, hoth _ _ j hj]⟩
  · cases h

theorem xi_putfield (x : Nat) (Bd : xBd p R s m args meth c G n0 t0 own mk lim) (hd : decode c.code pc = .ok (.putfield x, len)) (ok : xokI own c.maxLocals pc (.putfield x) len op = true) (h : xins own mk lim (.putfield x) len op pc ls st M = some S) (k : xPW p l e R s m args below meth c Qw G n0 t0 S.1 S.2.1 S.2.2.1 S.2.2.2) : xPW p l e R s m args below meth c Qw G n0 t0 pc ls st M := by
  obtain ⟨hx, hown, hts, hK, hin, hlim, hfr, hlo⟩ := Bd
  obtain ⟨ok1, ok2⟩ := Bool.and_eq_true_iff.mp ok
  obtain rfl : len = 3 := Nat.eq_of_beq_eq_true ok1
  obtain ⟨hc10, hkN, hlk⟩ := xFL_ok _ (contains_mem ok2)
  dsimp only at hc10 hkN hlk
  simp only [xins] at h
  split at h
  · rename_i v a r
    split at h
    · rename_i q1 q2 hq
      cases hb : (Nat.beq q1 (op / 64) && (!(xT (op / 64) (op % 64)).2.2.2 || (Nat.beq mk 2 && Nat.beq own (op / 64)))) with
      | false => rw [hb] at h; cases h
      | true =>
        rw [hb] at h
        simp only [cond_true] at h
        split at h
        · rename_i M' hM
          cases h
          obtain ⟨hb1, hb2⟩ := Bool.and_eq_true_iff.mp hb
          obtain rfl := Nat.eq_of_beq_eq_true hb1
          obtain ⟨e1, e2, e3, e4, e5, e6⟩ := xfw_eq (xGr G) hM
          have hfin : (xT (op / 64) (op % 64)).2.2.2 = false ∨ (meth.name = "<init>" ∧ (xT (op / 64) (op % 64)).1 = xnm own) := by
            rcases Bool.or_eq_true_iff.mp hb2 with z | z
            · exact Or.inl (by simpa using z)
            · obtain ⟨z1, z2⟩ := Bool.and_eq_true_iff.mp z
              exact Or.inr ⟨hin (Nat.eq_of_beq_eq_true z1), by rw [xdecl _ hc10 _ hkN, Nat.eq_of_beq_eq_true z2]⟩
          refine xs_wr k hq e1 e2 (fun H locs LS cells slots ha g1 kk => ?_)
          have hlt := xlay_lt g1 hq
          simp only [List.map_cons]
          rw [show xv (xGr G) (Value.ref a) = .ref (G.1 + a) from congrArg Value.ref (xGr_lt hlt)]
          rw [xE_obj (q := (op / 64, q2)) hc10] at ha
          refine xr_put (D := G.2.2.2.2.1) (ci := op / 64) (C := xnm (op / 64)) (T := xT (op / 64)) (N := xN (op / 64)) hx rfl hts (xws_in hc10) (xty (op / 64)) (xty_ok _ hc10) (xnm_ok _ hc10) hown hK.1 ha (xcl_at _ hc10) (op % 64) hkN (hts _ (gws_in hlk rfl)) (fun _ h9 => h9) hfin (xty_ok _ hc10 _ hkN) e3 e4 (by simpa using hkN) hd (fun H1 i ha1 hs ho => kk H1 i ?_ hs ho)
          rw [xE_obj (q := (op / 64, q2)) hc10]
          refine cast ?_ ha1
          congr 4
          apply List.ext_getElem?
          intro j
          by_cases hj : j = op % 64
          · subst hj
            rw [List.getElem?_set_self (by simpa using hkN), xfv_get hkN, e5]
          · rw [List.getElem?_set_ne (fun z => hj z.symm)]
            by_cases hjn : j < xN (op / 64)
            · rw [xfv_get hjn, xfv_get hjn, e6 _ j hj]
            · rw [List.getElem?_eq_none (by simpa using hjn), List.getElem?_eq_none (by simpa using hjn)]
        · cases h
    · cases h
  · cases h

theorem xi_getstatic (x : Nat) (Bd : xBd p R s m args meth c G n0 t0 own mk lim) (hd : decode c.code pc = .ok (.getstatic x, len)) (ok : xokI own c.maxLocals pc (.getstatic x) len op = true) (h : xins own mk lim (.getstatic x) len op pc ls st M = some S) (k : xPW p l e R s m args below meth c Qw G n0 t0 S.1 S.2.1 S.2.2.1 S.2.2.2) : xPW p l e R s m args below meth c Qw G n0 t0 pc ls st M := by
  obtain ⟨hx, hown, hts, hK, hin, hlim, hfr, hlo⟩ := Bd
  obtain ⟨ok1, ok2⟩ := Bool.and_eq_true_iff.mp ok
  obtain rfl : len = 3 := Nat.eq_of_beq_eq_true ok1
  obtain ⟨h1, h4, hlk⟩ := xSL_ok _ (contains_mem ok2)
  dsimp only at h1 h4 hlk
  cases h
  refine xs_go k (fun H locs LS cells slots _ hF _ w => ?_)
  have hZ := (hK.2.2.2.2 op h1 h4).kept (fun a _ g => hF a (Nat.not_le.mp g))
  obtain ⟨cf, kf, fi, f, a, cell, z1, z2, z3, z4, z5, z6, z7, z8⟩ := hZ
  simp only [List.map_cons, xv, xGr_fx] at w
  exact va_WgetsN hx rfl hown (va_Nw.use rfl (hK.2.1 _ hlk rfl)) z1 z2 z3 z4 z5 (fun e => by rw [e] at z6; cases z6) z7 rfl hd w

theorem xi_new (x : Nat) (Bd : xBd p R s m args meth c G n0 t0 own mk lim) (hd : decode c.code pc = .ok (.new x, len)) (ok : xokI own c.maxLocals pc (.new x) len op = true) (h : xins own mk lim (.new x) len op pc ls st M = some S) (k : xPW p l e R s m args below meth c Qw G n0 t0 S.1 S.2.1 S.2.2.1 S.2.2.2) : xPW p l e R s m args below meth c Qw G n0 t0 pc ls st M := by
  obtain ⟨hx, hown, hts, hK, hin, hlim, hfr, hlo⟩ := Bd
  obtain ⟨ok1, ok2⟩ := Bool.and_eq_true_iff.mp ok
  obtain rfl : len = 3 := Nat.eq_of_beq_eq_true ok1
  obtain ⟨hc10, hl1, hl2, hl3⟩ := xCL_ok _ (contains_mem ok2)
  dsimp only at hc10 hl1 hl2 hl3
  simp only [xins] at h
  split at h
  · rename_i M' hM
    cases h
    obtain ⟨rfl, m1, m2, m3⟩ := xmk_eq hM
    refine xs_new hlim m1 m2 m3 k (fun H locs LS cells slots hc hs hsz kk => ?_)
    have hKn := hK.1.1 op _ (xcl_at _ hc10)
    refine W.newcK hx rfl hown (hts _ (gws_in hl1 rfl)) (hts _ (gws_in hl2 rfl)) (hts _ (gws_in hl3 rfl)) rfl hd hc hs hKn.2.1 rfl fun H1 kC hkC e1 z1 o1 => kk H1 ?_ z1 o1
    rw [xE_obj (q := (op, xN op)) hc10, ← hsz]
    refine ⟨_, xcl_at _ hc10, (u_born (xty op) hts (xws_in hc10) hKn hkC e1 (xty_ok _ hc10)).to fun j hj => ?_⟩
    simp only [vp_V, List.getD_eq_getElem?_getD]
    rw [xfv_get hj]
    obtain ⟨lay, mr, mi, ml⟩ := M
    have hz : ∀ ty : FieldType, (ty = .int ∨ ty = .boolean ∨ ty = .long ∨ (∃ n, ty = .object n) ∨ ∃ t, ty = .array t) → defaultValue ty = xv (xGr G) (xfv ty (xnew (lay, mr, mi, ml) op (xN op)) lay.length j) := by
      rintro ty (rfl | rfl | rfl | ⟨n, rfl⟩ | ⟨n, rfl⟩) <;> simp only [xnew, xfv, va_up_self, xrv, xv, defaultValue]
    exact hz _ (xty_kind _ hc10 j hj)
  · cases h

theorem xnewcell {G : xG} {M : xM} {kind n : Nat} : True := trivial

theorem xi_newarray (t : ArrayType) (Bd : xBd p R s m args meth c G n0 t0 own mk lim) (hd : decode c.code pc = .ok (.newarray t, len)) (ok : xokI own c.maxLocals pc (.newarray t) len op = true) (h : xins own mk lim (.newarray t) len op pc ls st M = some S) (k : xPW p l e R s m args below meth c Qw G n0 t0 S.1 S.2.1 S.2.2.1 S.2.2.2) : xPW p l e R s m args below meth c Qw G n0 t0 pc ls st M := by
  obtain ⟨hx, hown, hts, hK, hin, hlim, hfr, hlo⟩ := Bd
  obtain ⟨ok1, ok2⟩ := Bool.and_eq_true_iff.mp ok
  obtain rfl : len = 2 := Nat.eq_of_beq_eq_true ok1
  simp only [xins] at h
  split at h
  · rename_i n r
    cases hb : (!(decide (n < 0)) && Nat.ble (n.toNatClampNeg * 8) 536870912) with
    | false => rw [hb] at h; cases h
    | true =>
      rw [hb] at h
      simp only [cond_true] at h
      obtain ⟨hb1, hb2⟩ := Bool.and_eq_true_iff.mp hb
      have hn : ¬ n < 0 := by simpa using hb1
      have hbt := Nat.le_of_ble_eq_true hb2
      split at h
      · rename_i M' hM
        cases h
        obtain ⟨rfl, m1, m2, m3⟩ := xmk_eq hM
        refine xs_new hlim m1 m2 m3 k (fun H locs LS cells slots hc hs hsz kk => ?_)
        obtain ⟨lay, mr, mi, ml⟩ := M
        cases t with
        | int =>
          obtain rfl := Nat.eq_of_beq_eq_true ok2
          refine va_newaK (atype := .int) hx rfl (hts _ (gws_in xac_int rfl)) rfl hd rfl hn rfl (by show n.toNatClampNeg * 4 ≤ _; omega) hc hs rfl fun H1 cA e1 z1 o1 _ hNm => kk H1 ?_ z1 o1
          obtain rfl : G.2.2.2.2.2 0 = cA := Option.some.inj ((hK.1.2 0 _ rfl).2.symm.trans hNm)
          rw [xE20, ← hsz]
          show H1[H.size]? = some (vp_cell _ _)
          rw [vp_cell_i, e1]
          simp only [xnew, va_up_self]; rfl
        | long =>
          obtain rfl := Nat.eq_of_beq_eq_true ok2
          refine va_newaK (atype := .long) hx rfl (hts _ (gws_in xac_long rfl)) rfl hd rfl hn rfl (by show n.toNatClampNeg * 8 ≤ _; omega) hc hs rfl fun H1 cA e1 z1 o1 _ hNm => kk H1 ?_ z1 o1
          obtain rfl : G.2.2.2.2.2 1 = cA := Option.some.inj ((hK.1.2 1 _ rfl).2.symm.trans hNm)
          rw [xE21, ← hsz]
          show H1[H.size]? = some (vp_cell _ _)
          rw [vp_cell_l, e1]
          simp only [xnew, va_up_self]; rfl
        | boolean =>
          obtain rfl := Nat.eq_of_beq_eq_true ok2
          refine va_newaK (atype := .boolean) hx rfl (hts _ (gws_in xac_boolean rfl)) rfl hd rfl hn rfl (by show n.toNatClampNeg * 1 ≤ _; omega) hc hs rfl fun H1 cA e1 z1 o1 _ hNm => kk H1 ?_ z1 o1
          obtain rfl : G.2.2.2.2.2 2 = cA := Option.some.inj ((hK.1.2 2 _ rfl).2.symm.trans hNm)
          rw [xE22, ← hsz]
          show H1[H.size]? = some (vp_cell _ _)
          rw [vp_cell_i, e1]
          simp only [xnew, va_up_self]; rfl
        | _ => cases ok2
      · cases h
  · cases h

theorem xi_anewarray (x : Nat) (Bd : xBd p R s m args meth c G n0 t0 own mk lim) (hd : decode c.code pc = .ok (.anewarray x, len)) (ok : xokI own c.maxLocals pc (.anewarray x) len op = true) (h : xins own mk lim (.anewarray x) len op pc ls st M = some S) (k : xPW p l e R s m args below meth c Qw G n0 t0 S.1 S.2.1 S.2.2.1 S.2.2.2) : xPW p l e R s m args below meth c Qw G n0 t0 pc ls st M := by
  obtain ⟨hx, hown, hts, hK, hin, hlim, hfr, hlo⟩ := Bd
  obtain ⟨ok1, ok2⟩ := Bool.and_eq_true_iff.mp ok
  obtain rfl : len = 3 := Nat.eq_of_beq_eq_true ok1
  obtain ⟨hkd, hl1⟩ := xAL_ok _ (contains_mem ok2)
  dsimp only at hkd hl1
  simp only [xins] at h
  split at h
  · rename_i n r
    cases hb : (!(decide (n < 0)) && Nat.ble (n.toNatClampNeg * 8) 536870912) with
    | false => rw [hb] at h; cases h
    | true =>
      rw [hb] at h
      simp only [cond_true] at h
      obtain ⟨hb1, hb2⟩ := Bool.and_eq_true_iff.mp hb
      have hn : ¬ n < 0 := by simpa using hb1
      have hbt := Nat.le_of_ble_eq_true hb2
      split at h
      · rename_i M' hM
        cases h
        obtain ⟨rfl, m1, m2, m3⟩ := xmk_eq hM
        refine xs_new hlim m1 m2 m3 k (fun H locs LS cells slots hc hs hsz kk => ?_)
        obtain ⟨lay, mr, mi, ml⟩ := M
        rcases hkd with rfl | rfl
        · refine W.anew hx rfl hown (hts _ (gws_in hl1 rfl)) (va_AO.use hK.2.2.1.1) rfl hd rfl hn (by omega) hc hs fun cA kA comp f1 f2 f3 f4 => kk _ ?_ (by rw [Array.size_push]) (fun q hq => by rw [Array.getElem?_push, if_neg (Nat.ne_of_lt hq)])
          obtain ⟨_, _, _, _, _, hNm⟩ := (hK.1.2 3 _ rfl).2
          obtain rfl : G.2.2.2.2.2 3 = cA := Option.some.inj (hNm.symm.trans f1)
          rw [xE23, ← hsz]
          show (Array.push H _)[H.size]? = some (vp_cell _ _)
          rw [Array.getElem?_push_size, vp_cell_q, arrV_new]
          simp only [xnew, va_up_self]; rfl
        · refine W.anew hx rfl hown (hts _ (gws_in hl1 rfl)) (va_AO.use hK.2.2.1.2) rfl hd rfl hn (by omega) hc hs fun cA kA comp f1 f2 f3 f4 => kk _ ?_ (by rw [Array.size_push]) (fun q hq => by rw [Array.getElem?_push, if_neg (Nat.ne_of_lt hq)])
          obtain ⟨_, _, _, _, _, hNm⟩ := (hK.1.2 4 _ rfl).2
          obtain rfl : G.2.2.2.2.2 4 = cA := Option.some.inj (hNm.symm.trans f1)
          rw [xE24, ← hsz]
          show (Array.push H _)[H.size]? = some (vp_cell _ _)
          rw [Array.getElem?_push_size, vp_cell_q, arrV_new]
          simp only [xnew, va_up_self]; rfl
      · cases h
  · cases h

end XINS
