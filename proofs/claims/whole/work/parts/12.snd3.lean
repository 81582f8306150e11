/-! one step -/
section XSTEP
variable {p : Program} {l : Launch} {e : Env} {R : Room} {s : State} {m : MethodId} {args : Array Value} {below : List Frame} {meth : Method} {c : Code} {Qw : State → Prop} {G : xG} {n0 t0 : Nat}
/-- the JVM, at a state of the pure machine, comes to Qw -/
def xPW (p : Program) (l : Launch) (e : Env) (R : Room) (s : State) (m : MethodId) (args : Array Value) (below : List Frame) (meth : Method) (c : Code) (Qw : State → Prop) (G : xG) (n0 t0 : Nat) (pc : Nat) (ls : xL) (st : List Value) (M : xM) : Prop :=
  ∀ (H : Heap) (locs : List Loc) (LS : Array Slot) (cells slots : Nat), xHp G M H → (∀ q : Nat, q < G.1 → H[q]? = s.heap[q]?) → (∀ q ∈ locs, G.1 ≤ q.base) → lv_has LS c.maxLocals (xvl (xGr G) ls) → M.1.length = n0 + cells → xsum M = t0 + slots →
    W p l e R s m args below meth c H locs cells slots Qw (F0 m pc LS (st.map (xv (xGr G))))
/-- what a body stands on -/
def xBd (p : Program) (R : Room) (s : State) (m : MethodId) (args : Array Value) (meth : Method) (c : Code) (G : xG) (n0 t0 own mk : Nat) (lim : Nat × Nat) : Prop :=
  p.tables.exec = Jvm.exec ∧ s.vm.findClass (xnm own) = some m.cls ∧ (∀ w ∈ gws, w.before args s = true) ∧ xKs G s ∧ (mk = 2 → meth.name = "<init>") ∧ lim = (n0 + R.cells, t0 + R.slots) ∧ 1 ≤ R.frames ∧ 36 ≤ R.locals
theorem xs_xldi {pc i len : Nat} {ls : xL} {st : List Value} {M : xM} {S : xS} (h : xldi i len pc ls st M = some S) : ∃ v, xget ls i = some (.int v) ∧ S = (pc + len, ls, .int v :: st, M) := by
  unfold xldi at h
  split at h
  · rename_i v hv; cases h; exact ⟨v, hv, rfl⟩
  · cases h
theorem xs_xldl {pc i len : Nat} {ls : xL} {st : List Value} {M : xM} {S : xS} (h : xldl i len pc ls st M = some S) : ∃ v, xget ls i = some (.long v) ∧ S = (pc + len, ls, .long v :: st, M) := by
  unfold xldl at h
  split at h
  · rename_i v hv; cases h; exact ⟨v, hv, rfl⟩
  · cases h
theorem xs_xlda {pc i len : Nat} {ls : xL} {st : List Value} {M : xM} {S : xS} (h : xlda i len pc ls st M = some S) : ∃ v, xget ls i = some (.ref v) ∧ S = (pc + len, ls, .ref v :: st, M) := by
  unfold xlda at h
  split at h
  · rename_i v hv; cases h; exact ⟨v, hv, rfl⟩
  · cases h
theorem contains_mem {L : List (Nat × Nat × Nat)} {q : Nat × Nat × Nat} (h : L.contains q = true) : q ∈ L := by simpa using h
/-- loads of any kind of value -/
theorem xs_load (B0 : p.tables.exec = Jvm.exec) {pc i len : Nat} {ls : xL} {st : List Value} {M : xM} {v : Value} (hg : xget ls i = some v) (k : xPW p l e R s m args below meth c Qw G n0 t0 (pc + len) ls (v :: st) M)
    (hw : ∀ (H : Heap) (locs : List Loc) (LS : Array Slot) (cells slots : Nat), LS[i]? = some (.val (xv (xGr G) v)) → W p l e R s m args below meth c H locs cells slots Qw (F0 m (pc + len) LS (xv (xGr G) v :: st.map (xv (xGr G)))) → W p l e R s m args below meth c H locs cells slots Qw (F0 m pc LS (st.map (xv (xGr G))))) : xPW p l e R s m args below meth c Qw G n0 t0 pc ls st M :=
  fun H locs LS cells slots h1 h2 h3 h4 h5 h6 => hw H locs LS cells slots (xvl_get h4 hg) (k H locs LS cells slots h1 h2 h3 h4 h5 h6)
theorem xbr_cases {b : Bool} {pc : Nat} {ls : xL} {r : List Value} {M : xM} {op len : Nat} {S : xS} (h : xbr b pc ls r M op len = some S) : (b = true ∧ S = (op, ls, r, M)) ∨ (b = false ∧ S = (pc + len, ls, r, M)) := by
  cases b with
  | true => left; cases h; exact ⟨rfl, rfl⟩
  | false => right; cases h; exact ⟨rfl, rfl⟩
theorem xto_eq {off : Int} {pc : Nat} {ls : xL} {r : List Value} {M : xM} {S : xS} (h : xto off pc ls r M = some S) : ∃ t : Nat, (pc : Int) + off = (t : Int) ∧ S = (t, ls, r, M) := by
  unfold xto at h
  split at h
  · rename_i t ht; cases h; exact ⟨t, ht, rfl⟩
  · cases h
theorem xmk_eq {M M' : xM} {lim : Nat × Nat} {kind n : Nat} (h : xmk M lim kind n = some M') : M' = xnew M kind n ∧ M.1.length + 1 ≤ lim.1 ∧ xsum M + n ≤ lim.2 ∧ M.1.length + 1 ≤ 1000 := by
  obtain ⟨lay, mr, mi, ml⟩ := M
  obtain ⟨l1, l2⟩ := lim
  simp only [xmk] at h
  cases hb : (Nat.ble (lay.length + 1) l1 && Nat.ble (xsuml lay + n) l2 && Nat.ble (lay.length + 1) 1000) with
  | false => rw [hb] at h; cases h
  | true =>
    rw [hb] at h
    cases h
    simp only [Bool.and_eq_true] at hb
    exact ⟨rfl, Nat.le_of_ble_eq_true hb.1.1, Nat.le_of_ble_eq_true hb.1.2, Nat.le_of_ble_eq_true hb.2⟩
theorem xsuml_app (l : List (Nat × Nat)) (k n : Nat) : xsuml (l ++ [(k, n)]) = xsuml l + n := by
  induction l with
  | nil => simp [xsuml]
  | cons q t ih => obtain ⟨a, b⟩ := q; simp only [List.cons_append, xsuml, ih]; omega
theorem xnew_len (M : xM) (k n : Nat) : (xnew M k n).1.length = M.1.length + 1 ∧ xsum (xnew M k n) = xsum M + n := by
  obtain ⟨lay, mr, mi, ml⟩ := M
  exact ⟨by simp [xnew], by simp only [xsum, xnew]; exact xsuml_app _ _ _⟩
/-- a step of the JVM behind which memory and heap stand as before -/
theorem xs_go {pc pc' : Nat} {ls : xL} {st st' : List Value} {M : xM} (k : xPW p l e R s m args below meth c Qw G n0 t0 pc' ls st' M)
    (hw : ∀ (H : Heap) (locs : List Loc) (LS : Array Slot) (cells slots : Nat), xHp G M H → (∀ q : Nat, q < G.1 → H[q]? = s.heap[q]?) → lv_has LS c.maxLocals (xvl (xGr G) ls) → W p l e R s m args below meth c H locs cells slots Qw (F0 m pc' LS (st'.map (xv (xGr G)))) → W p l e R s m args below meth c H locs cells slots Qw (F0 m pc LS (st.map (xv (xGr G))))) : xPW p l e R s m args below meth c Qw G n0 t0 pc ls st M :=
  fun H locs LS cells slots h1 h2 h3 h4 h5 h6 => hw H locs LS cells slots h1 h2 h4 (k H locs LS cells slots h1 h2 h3 h4 h5 h6)
/-- a store of a local -/
theorem xs_sto1 {pc pc' i : Nat} {ls : xL} {st : List Value} {M : xM} {v : Value} (k : xPW p l e R s m args below meth c Qw G n0 t0 pc' (xset1 ls i v) st M)
    (hw : ∀ (H : Heap) (locs : List Loc) (LS : Array Slot) (cells slots : Nat), lv_has LS c.maxLocals (xvl (xGr G) ls) → (∀ LS' : Array Slot, lv_has LS' c.maxLocals ((i, xv (xGr G) v) :: (xvl (xGr G) ls).filter (fun q => !(q.1 == i) && !(q.1 + 1 == i && q.2.category == 2))) → W p l e R s m args below meth c H locs cells slots Qw (F0 m pc' LS' (st.map (xv (xGr G))))) → W p l e R s m args below meth c H locs cells slots Qw (F0 m pc LS (xv (xGr G) v :: st.map (xv (xGr G))))) : xPW p l e R s m args below meth c Qw G n0 t0 pc ls (v :: st) M :=
  fun H locs LS cells slots h1 h2 h3 h4 h5 h6 => hw H locs LS cells slots h4 (fun LS' h => k H locs LS' cells slots h1 h2 h3 (xset1_has h) h5 h6)
theorem xs_sto2 {pc pc' i : Nat} {ls : xL} {st : List Value} {M : xM} {v : Value} (k : xPW p l e R s m args below meth c Qw G n0 t0 pc' (xset2 ls i v) st M)
    (hw : ∀ (H : Heap) (locs : List Loc) (LS : Array Slot) (cells slots : Nat), lv_has LS c.maxLocals (xvl (xGr G) ls) → (∀ LS' : Array Slot, lv_has LS' c.maxLocals ((i, xv (xGr G) v) :: (xvl (xGr G) ls).filter (fun q => !(q.1 == i) && (!(q.1 == i + 1) && !(q.1 + 1 == i && q.2.category == 2)))) → W p l e R s m args below meth c H locs cells slots Qw (F0 m pc' LS' (st.map (xv (xGr G))))) → W p l e R s m args below meth c H locs cells slots Qw (F0 m pc LS (xv (xGr G) v :: st.map (xv (xGr G))))) : xPW p l e R s m args below meth c Qw G n0 t0 pc ls (v :: st) M :=
  fun H locs LS cells slots h1 h2 h3 h4 h5 h6 => hw H locs LS cells slots h4 (fun LS' h => k H locs LS' cells slots h1 h2 h3 (xset2_has h) h5 h6)
/-- a write of one cell -/
theorem xs_wr {pc pc' a : Nat} {ls : xL} {st st' : List Value} {M M' : xM} {q : Nat × Nat} (k : xPW p l e R s m args below meth c Qw G n0 t0 pc' ls st' M') (hq : M.1[a]? = some q) (h1 : M'.1 = M.1) (hr : ∀ x, x ≠ a → M'.2.1 x = M.2.1 x ∧ M'.2.2.1 x = M.2.2.1 x ∧ M'.2.2.2 x = M.2.2.2 x)
    (hw : ∀ (H : Heap) (locs : List Loc) (LS : Array Slot) (cells slots : Nat), va_at G.2.2.2.2.1 xcl (G.1 + a, xE (xGr G) G.2.2.2.2.2 M a q) H → xHp G M H → (∀ (H1 : Heap) (i : Nat), va_at G.2.2.2.2.1 xcl (G.1 + a, xE (xGr G) G.2.2.2.2.2 M' a q) H1 → H1.size = H.size → (∀ x, x ≠ G.1 + a → H1[x]? = H[x]?) → W p l e R s m args below meth c H1 (locs ++ [⟨G.1 + a, i⟩]) cells slots Qw (F0 m pc' LS (st'.map (xv (xGr G))))) → W p l e R s m args below meth c H locs cells slots Qw (F0 m pc LS (st.map (xv (xGr G))))) : xPW p l e R s m args below meth c Qw G n0 t0 pc ls st M := by
  intro H locs LS cells slots g1 g2 g3 g4 g5 g6
  refine hw H locs LS cells slots (g1.2.2.1 a q hq) g1 fun H1 i ha hs ho => ?_
  refine k H1 _ LS cells slots (g1.set hq h1 hr hs ho ha) (fun x hx => ?_) (fun x hx => ?_) g4 (by rw [h1]; exact g5) (by unfold xsum; rw [h1]; exact g6)
  · rw [ho x (by omega)]; exact g2 x hx
  · rcases List.mem_append.mp hx with h | h
    · exact g3 x h
    · rw [List.mem_singleton.mp h]; exact Nat.le_add_right _ _
/-- a cell is made -/
theorem xs_new {pc pc' kind n : Nat} {ls : xL} {st st' : List Value} {M : xM} {lim : Nat × Nat} (hlim : lim = (n0 + R.cells, t0 + R.slots)) (h1 : M.1.length + 1 ≤ lim.1) (h2 : xsum M + n ≤ lim.2) (h3 : M.1.length + 1 ≤ 1000) (k : xPW p l e R s m args below meth c Qw G n0 t0 pc' ls (.ref M.1.length :: st') (xnew M kind n))
    (hw : ∀ (H : Heap) (locs : List Loc) (LS : Array Slot) (cells slots : Nat), cells + 1 ≤ R.cells → slots + n ≤ R.slots → H.size = G.1 + M.1.length → (∀ H1 : Heap, va_at G.2.2.2.2.1 xcl (G.1 + M.1.length, xE (xGr G) G.2.2.2.2.2 (xnew M kind n) M.1.length (kind, n)) H1 → H1.size = H.size + 1 → (∀ x, x < H.size → H1[x]? = H[x]?) → W p l e R s m args below meth c H1 locs (cells + 1) (slots + n) Qw (F0 m pc' LS (.ref H.size :: st'.map (xv (xGr G))))) → W p l e R s m args below meth c H locs cells slots Qw (F0 m pc LS (st.map (xv (xGr G))))) : xPW p l e R s m args below meth c Qw G n0 t0 pc ls st M := by
  intro H locs LS cells slots g1 g2 g3 g4 g5 g6
  rw [hlim] at h1 h2
  dsimp only at h1 h2
  refine hw H locs LS cells slots (by omega) (by omega) g1.1 fun H1 ha hs ho => ?_
  have hk := k H1 locs LS (cells + 1) (slots + n) (g1.new h3 hs ho ha) (fun x hx => by rw [ho x (by rw [g1.1]; omega)]; exact g2 x hx) g3 g4 (by rw [(xnew_len M kind n).1]; omega) (by rw [(xnew_len M kind n).2]; omega)
  have he : xGr G M.1.length = H.size := by rw [xGr_lt (by omega), g1.1]
  simpa only [List.map_cons, xv, he] using hk
end XSTEP
