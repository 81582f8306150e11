/-! a body, a method, all methods -/
section XBODY
variable {p : Program} {l : Launch} {e : Env} {R : Room} {s : State} {m : MethodId} {args : Array Value} {below : List Frame} {meth : Method} {c : Code} {Qw : State → Prop} {G : xG} {n0 t0 : Nat} {own mk : Nat} {lim : Nat × Nat}
theorem x_run {d : Nat} (hS : xSnd d) (Bd : xBd p R s m args meth c G n0 t0 own mk lim) (hRf : d + 1 ≤ R.frames) (hRl : 36 * d + 36 ≤ R.locals) {mt : xMt} (hown : mt.1 = own) (hmk : mt.2.1 = mk) (hdc : xdec c.code mt.2.2.2.2.2.2.2 = true) (hok : xokc mt.1 c.maxLocals mt.2.2.2.2.2.2.2 = true) {Q : Option Value → xM → Prop}
    (hret : ∀ (pc : Nat) (ls : xL) (st : List Value) (M : xM) (r : Option Value) (M' : xM), xret mt (pc, ls, st, M) = some (r, M') → Q r M' → xPW p l e R s m args below meth c Qw G n0 t0 pc ls st M)
    {pc : Nat} {ls : xL} {st : List Value} {M : xM} (h : xR (xC d) mt lim Q (pc, ls, st, M)) : xPW p l e R s m args below meth c Qw G n0 t0 pc ls st M := by
  refine h (fun S => xPW p l e R s m args below meth c Qw G n0 t0 S.1 S.2.1 S.2.2.1 S.2.2.2) ?_ ?_ ?_ ?_
  · rintro ⟨pc, ls, st, M⟩ r M' h1 h2
    exact hret pc ls st M r M' h1 h2
  · rintro ⟨pc, ls, st, M⟩ S' h1 k
    simp only [xstep] at h1
    split at h1
    · rename_i i len op hat
      obtain ⟨hd, ok⟩ := xat_ok hat hdc hok
      rw [hown, hmk] at h1
      rw [hown] at ok
      exact x_ins Bd hd ok h1 k
    · cases h1
  · rintro ⟨pc, ls, st, M⟩ j as rest kc ks Q' h1 h2 h3 h4 k
    exact x_call hS Bd hRf hRl hown hdc hok h1 h2 h3 h4 k
  · rintro ⟨pc, ls, st, M⟩ ls' h1 k H locs LS cells slots g1 g2 g3 g4 g5 g6
    exact k H locs LS cells slots g1 g2 g3 (lv_less g4 (fun q hq => by
      obtain ⟨q0, hq0, rfl⟩ := List.mem_map.mp hq
      exact List.mem_map.mpr ⟨q0, h1 q0 hq0, rfl⟩)) g5 g6
end XBODY
theorem xSnd_succ {d : Nat} (hS : xSnd d) : xSnd (d + 1) := by
  intro l G j y as M kc ks Q hy hC
  obtain ⟨mt, hj, hw_words, hR⟩ := hC
  obtain rfl : mt = y := Option.some.inj (hj.symm.trans hy)
  obtain ⟨k1, k2, k3, k4, k5, k6, k7, k8, k9, kd, ko⟩ := xtab_ok _ (List.mem_of_getElem? hy)
  refine va_MetF (cc := mt.2.2.2.2.1) (maxL := mt.2.2.2.2.2.1) (ret := mt.2.2.2.2.2.2.1) k1 rfl ?_
  intro p e s m args below meth c s₁ B hml hv
  obtain ⟨rfl, hHp, hKs⟩ := hv
  have hb := B.bytes
  have hr := B.returns
  have hlocks := B.notSynchronized
  have hts0 := atoms_spec (ws := .code mt.2.2.2.1 mt.2.2.2.2.1 mt.2.2.2.2.2.1 mt.2.2.2.2.2.2.1 :: gws) B.pre
  have hts : ∀ w ∈ gws, w.before (as.map (xv (xGr G))).toArray s = true := fun w h => hts0 w (List.mem_cons_of_mem _ h)
  have hown : s.vm.findClass (xnm mt.1) = some m.cls := by rw [k5]; exact findClass_of_methodNamed B.named
  have hin : mt.2.1 = 2 → meth.name = "<init>" := fun h => (name_of_methodNamed B.named B.method).1.trans (k9 h).1
  have Bd : xBd p (headSpec (.code mt.2.2.2.1 mt.2.2.2.2.1 mt.2.2.2.2.2.1 mt.2.2.2.2.2.2.1 :: gws) (xrm (d + 1) kc ks)).room s m (as.map (xv (xGr G))).toArray meth c G M.1.length (xsum M) mt.1 mt.2.1 (M.1.length + kc, xsum M + ks) :=
    ⟨B.exec, hown, hts, hKs, hin, rfl, by show 1 ≤ d + 1; omega, by show 36 ≤ 36 * (d + 1); omega⟩
  have hx := B.exec
  have hret : ∀ (pc : Nat) (ls : xL) (st : List Value) (M1 : xM) (r : Option Value) (M' : xM), xret mt (pc, ls, st, M1) = some (r, M') → (Q r M' ∧ M'.1.length = M.1.length + kc ∧ xsum M' = xsum M + ks) → xPW p l e (headSpec (.code mt.2.2.2.1 mt.2.2.2.2.1 mt.2.2.2.2.2.1 mt.2.2.2.2.2.2.1 :: gws) (xrm (d + 1) kc ks)).room s m (as.map (xv (xGr G))).toArray below meth c (MQ below (xQc G (fun r M' => Q r M' ∧ M'.1.length = M.1.length + kc ∧ xsum M' = xsum M + ks)) (as.map (xv (xGr G))).toArray s kc ks (fun q => G.1 ≤ q)) G M.1.length (xsum M) pc ls st M1 := by
    intro pc ls st M1 r M' h hQ H locs LS cells slots g1 g2 g3 g4 g5 g6
    simp only [xret] at h
    split at h
    · rename_i i len op hat
      obtain ⟨hd, ok⟩ := xat_ok (bytes := c.code) hat (by rw [hb]; exact kd) (show xokc mt.1 c.maxLocals mt.2.2.2.2.2.2.2 = true by rw [hml]; exact ko)
      split at h
      · rename_i v hrt
        cases h
        rw [hrt] at hr
        obtain rfl : cells = kc := by omega
        obtain rfl : slots = ks := by omega
        obtain rfl : len = 1 := Nat.eq_of_beq_eq_true ok
        exact W.iret hx rfl hr (fun t ht hW => ⟨some (.int v), _, rfl, hQ, by rw [ht]; exact g1, fun q hq => by rw [ht]; exact g2 q hq⟩) g3 hd
      · rename_i v hrt
        cases hz : xz v with
        | false => rw [hz] at h; cases h
        | true =>
          rw [hz] at h
          cases h
          rw [hrt] at hr
          obtain rfl : cells = kc := by omega
          obtain rfl : slots = ks := by omega
          obtain rfl : len = 1 := Nat.eq_of_beq_eq_true ok
          exact W.zret hx rfl hr (xz_narrow hz).1 (fun t ht hW => ⟨some (.int v), _, rfl, hQ, by rw [ht]; exact g1, fun q hq => by rw [ht]; exact g2 q hq⟩) g3 hd
      · rename_i v hrt
        cases h
        rw [hrt] at hr
        obtain rfl : cells = kc := by omega
        obtain rfl : slots = ks := by omega
        obtain rfl : len = 1 := Nat.eq_of_beq_eq_true ok
        exact W.lret hx rfl hr (fun t ht hW => ⟨some (.long v), _, rfl, hQ, by rw [ht]; exact g1, fun q hq => by rw [ht]; exact g2 q hq⟩) g3 hd
      · rename_i nm v hrt
        cases h
        rw [hrt] at hr
        obtain rfl : cells = kc := by omega
        obtain rfl : slots = ks := by omega
        obtain rfl : len = 1 := Nat.eq_of_beq_eq_true ok
        exact W.aret hx rfl hr (Or.inl ⟨nm, rfl⟩) (Or.inr ⟨_, rfl⟩) (fun t ht hW => ⟨some (.ref v), _, rfl, hQ, by rw [ht]; exact g1, fun q hq => by rw [ht]; exact g2 q hq⟩) g3 hd
      · rename_i hrt
        cases h
        rw [hrt] at hr
        obtain rfl : cells = kc := by omega
        obtain rfl : slots = ks := by omega
        obtain rfl : len = 1 := Nat.eq_of_beq_eq_true ok
        exact W.vret hx rfl hr (fun t ht hW => ⟨none, _, rfl, hQ, by rw [ht]; exact g1, fun q hq => by rw [ht]; exact g2 q hq⟩) g3 hd
      · cases h
    · cases h
  have hw := x_run (l := l) (e := e) (below := below) (Qw := MQ below (xQc G (fun r M' => Q r M' ∧ M'.1.length = M.1.length + kc ∧ xsum M' = xsum M + ks)) (as.map (xv (xGr G))).toArray s kc ks (fun q => G.1 ≤ q)) hS Bd (Nat.le_refl _) (by show 36 * d + 36 ≤ 36 * (d + 1); omega) rfl rfl (by rw [hb]; exact kd) (by rw [hml]; exact ko) hret hR
  have hl := lv_entry (as.map (xv (xGr G))) (n := mt.2.2.2.2.2.1) (by rw [xwords_eq]; exact hw_words)
  rw [lg_entry_eq]
  exact hw s.heap [] _ 0 0 hHp (fun _ _ => rfl) (fun _ h => by cases h) (by rw [xargs_map, hml]; exact hl) rfl rfl
theorem xSnd_all : ∀ d, xSnd d
  | 0 => fun _ _ _ _ _ _ _ _ _ _ h => h.elim
  | d + 1 => xSnd_succ (xSnd_all d)
