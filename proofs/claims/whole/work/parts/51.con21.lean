/-! Machine.work, run -/
theorem lt_cl {x : Int32} {k : Nat} (hk : k < 2 ^ 31) : nI k < x ↔ k < x.toNatClampNeg := by
  rw [Int32.lt_iff_toInt_lt, nI_toInt hk]
  unfold Int32.toNatClampNeg
  omega
theorem nxA_Fo {K T : Nat → Nat} {i h : Nat} {s : RS} (h9 : K i ≠ 9) : Fo K T i (nxA (K i) (T i) i h s) := by
  refine ⟨h9, ?_⟩
  unfold nxA
  by_cases h4 : K i = 4
  · left; rw [if_pos h4, if_pos h4]
  · by_cases h5 : K i = 5
    · rw [if_neg h4, if_neg h4, if_pos h5]
      split
      · exact Or.inr ⟨h5, rfl⟩
      · exact Or.inl rfl
    · left; rw [if_neg h4, if_neg h4, if_neg h5]
theorem stA_cn (k : Nat) (z : Int32) (h : Nat) (s : RS) : (stA k z h s).2.2.2.2 ≤ s.2.2.2.2 + 1 := by
  unfold stA
  repeat' split
  all_goals first | exact Nat.le_succ _ | exact Nat.le_refl _
def WK (M O : Nat) (mi : xmi) (s : RS) (hl : Bool) (c : Nat) (a : xmi) : Prop := (∀ x, x ≠ 18 → x ≠ 19 → x ≠ M → x ≠ O → x ≠ O + 1 → x ≠ O + 2 → a x = mi x) ∧ a 19 = s.1 ∧ a M = s.2.1 ∧ a (O + 1) = s.2.2.1 ∧ a (O + 2) = s.2.2.2.1 ∧ a O 4 = nI s.2.2.2.2 ∧ s.2.2.2.2 ≤ c ∧ a O 2 = 1 ∧ a O 3 = (bif hl then 1 else 0)
theorem WK.le {M O : Nat} {mi a : xmi} {s : RS} {hl : Bool} {c c' : Nat} (h : WK M O mi s hl c a) (hc : c ≤ c') : WK M O mi s hl c' a := ⟨h.1, h.2.1, h.2.2.1, h.2.2.2.1, h.2.2.2.2.1, h.2.2.2.2.2.1, Nat.le_trans h.2.2.2.2.2.2.1 hc, h.2.2.2.2.2.2.2⟩
def fuel (x : Int32) : Nat := (if x ≤ 10000 then x else 10000).toNatClampNeg
theorem fuel_le (x : Int32) : fuel x ≤ 10000 := by
  unfold fuel
  split
  · rename_i h
    rw [Int32.le_iff_toInt_le, show (10000 : Int32).toInt = 10000 from by decide +kernel] at h
    unfold Int32.toNatClampNeg; omega
  · decide +kernel
theorem CI.frame {n : Nat} {K T : Nat → Nat} {vL aL cL : Nat → Nat → Bool} {mi a : xmi} {ml b : xml} (h : CI n K T vL aL cL mi ml) (ha : ∀ x, x < 18 ∨ 1000 ≤ x → a x = mi x) (hb : ∀ x, x < 18 → b x = ml x) : CI n K T vL aL cL a b := by
  obtain ⟨h1, h2, h3, h4, h5, h6, h7⟩ := h
  have e0 := ha 0 (by decide); have e8 := ha 8 (by decide)
  refine ⟨h1.frame (ha 1 (by decide)) (ha 2 (by decide)) (ha 3 (by decide)) (ha 1002 (by decide)) (ha 1003 (by decide)), h2.frame (ha 3 (by decide)), h3.frame (ha 5 (by decide)) (ha 6 (by decide)) (ha 7 (by decide)), by rw [e0]; exact h4, by rw [e0]; exact h5, fun z => ?_, fun z z2 z3 => ?_⟩
  · rw [e0] at z
    obtain ⟨g1, g2⟩ := h6 z
    exact ⟨g1.frame e8 (ha 9 (by decide)) (hb 8 (by decide)), fun y => by rw [e8] at y; exact (g2 y).frame (ha 14 (by decide)) (hb 15 (by decide))⟩
  · rw [e0] at z z2; rw [e8] at z3
    exact (h7 z z2 z3).frame (hb 16 (by decide)) (hb 17 (by decide))
set_option maxRecDepth 100000 in
set_option maxHeartbeats 1000000 in
theorem work_h0 (d L : Nat) (mi : xmi) (ml : xml) {dn c : Nat} {s : RS} {a : xmi} (x pl : Int32) (hk : WK 23 24 mi s true c a) : xB (d + 4) mX2_work L (fun rr a b => b = ml ∧ rr = some (.int (nI (dn))) ∧ WK 23 24 mi s (true) c a) (15, [(0, .ref 18), (1, .ref 22), (2, .ref 24), (3, .int x), (4, .int pl), (5, .int (nI dn))], [], XM L a ml) := by
  refine xB.go 2 (18, [(0, .ref 18), (1, .ref 22), (2, .ref 24), (3, .int x), (4, .int pl), (5, .int (nI dn))], [.int x, .int (nI dn)], XM L a ml) rfl ?_
  refine xB.bp (x ≤ (nI dn)) (44, [(0, .ref 18), (1, .ref 22), (2, .ref 24), (3, .int x), (4, .int pl), (5, .int (nI dn))], [], XM L a ml) (21, [(0, .ref 18), (1, .ref 22), (2, .ref 24), (3, .int x), (4, .int pl), (5, .int (nI dn))], [], XM L a ml) rfl (fun h1 => ?_) (fun h1 => ?_)
  · refine xB.go 1 (46, [(0, .ref 18), (1, .ref 22), (2, .ref 24), (3, .int x), (4, .int pl), (5, .int (nI dn))], [.int (nI dn)], XM L a ml) rfl ?_
    refine xB.rt (some (.int (nI dn))) a ml rfl ?_
    exact ⟨rfl, rfl, hk⟩
  · refine xB.go 1 (22, [(0, .ref 18), (1, .ref 22), (2, .ref 24), (3, .int x), (4, .int pl), (5, .int (nI dn))], [.ref 24], XM L a ml) rfl ?_
    refine xB.c1 29 [.ref 24] [] (c_isHalted24 _ L _ _ (by rw [hk.2.2.2.2.2.2.2.2]; rfl)) rfl ?_
    refine xB.bp (¬ (a 24 3) = 0) (44, [(0, .ref 18), (1, .ref 22), (2, .ref 24), (3, .int x), (4, .int pl), (5, .int (nI dn))], [], XM L a ml) (28, [(0, .ref 18), (1, .ref 22), (2, .ref 24), (3, .int x), (4, .int pl), (5, .int (nI dn))], [], XM L a ml) rfl (fun h2 => ?_) (fun h2 => ?_)
    · refine xB.go 1 (46, [(0, .ref 18), (1, .ref 22), (2, .ref 24), (3, .int x), (4, .int pl), (5, .int (nI dn))], [.int (nI dn)], XM L a ml) rfl ?_
      refine xB.rt (some (.int (nI dn))) a ml rfl ?_
      exact ⟨rfl, rfl, hk⟩
    · rw [hk.2.2.2.2.2.2.2.2] at h2; exact absurd (by decide) h2
set_option maxRecDepth 100000 in
set_option maxHeartbeats 1000000 in
theorem work_z0 (d L : Nat) (mi : xmi) (ml : xml) {dn c : Nat} {s : RS} {a : xmi} (x pl : Int32) (hge : x.toNatClampNeg ≤ dn) (hd : dn < 2 ^ 31) (hk : WK 23 24 mi s false c a) : xB (d + 4) mX2_work L (fun rr a b => b = ml ∧ rr = some (.int (nI (dn))) ∧ WK 23 24 mi s (false) c a) (15, [(0, .ref 18), (1, .ref 22), (2, .ref 24), (3, .int x), (4, .int pl), (5, .int (nI dn))], [], XM L a ml) := by
  refine xB.go 2 (18, [(0, .ref 18), (1, .ref 22), (2, .ref 24), (3, .int x), (4, .int pl), (5, .int (nI dn))], [.int x, .int (nI dn)], XM L a ml) rfl ?_
  refine xB.bp (x ≤ (nI dn)) (44, [(0, .ref 18), (1, .ref 22), (2, .ref 24), (3, .int x), (4, .int pl), (5, .int (nI dn))], [], XM L a ml) (21, [(0, .ref 18), (1, .ref 22), (2, .ref 24), (3, .int x), (4, .int pl), (5, .int (nI dn))], [], XM L a ml) rfl (fun h1 => ?_) (fun h1 => ?_)
  · refine xB.go 1 (46, [(0, .ref 18), (1, .ref 22), (2, .ref 24), (3, .int x), (4, .int pl), (5, .int (nI dn))], [.int (nI dn)], XM L a ml) rfl ?_
    refine xB.rt (some (.int (nI dn))) a ml rfl ?_
    exact ⟨rfl, rfl, hk⟩
  · exact absurd ((lt_cl hd).mp (i_nle.mp h1)) (by omega)
set_option maxRecDepth 100000 in
set_option maxHeartbeats 1000000 in
theorem work_15_0 (d L : Nat) (mi : xmi) (ml : xml) {n : Nat} {K T : Nat → Nat} (hP : PRG mi n K T) (hN : NUM mi n K T) (hw : WF n K T) (x : Int32) (hx : x.toNatClampNeg ≤ 10000) : ∀ (f dn i h : Nat) (s : RS) (a : xmi), dn + f = x.toNatClampNeg → Rh n K T i h → WK 23 24 mi s false dn a → a 18 2 = nI h → xB (d + 4) mX2_work L (fun rr a b => b = ml ∧ rr = some (.int (nI (dn + (runA K T (mi 3) f i h s).1))) ∧ WK 23 24 mi (runA K T (mi 3) f i h s).2.1 ((runA K T (mi 3) f i h s).2.2) 10000 a) (15, [(0, .ref 18), (1, .ref 22), (2, .ref 24), (3, .int x), (4, .int (nI i)), (5, .int (nI dn))], [], XM L a ml) := by
  intro f
  induction f with
  | zero =>
    intro dn i h s a hdn hr hk hh
    have hin := (hw.1 i h hr).1
    have hge : x.toNatClampNeg ≤ dn := by omega
    refine xR.po (work_z0 d L mi ml x (nI i) hge (by omega) (hk.le (show dn ≤ 10000 by omega))) (fun r M q => q)
  | succ f ih =>
    intro dn i h s a hdn hr hk hh
    have hin := (hw.1 i h hr).1
    have hk7 := hk.2.2.2.2.2.2.1
    have hPa : PRG a n K T := hP.frame (hk.1 1 (by decide) (by decide) (by decide) (by decide) (by decide) (by decide)) (hk.1 2 (by decide) (by decide) (by decide) (by decide) (by decide) (by decide)) (hk.1 3 (by decide) (by decide) (by decide) (by decide) (by decide) (by decide)) (hk.1 1002 (by decide) (by decide) (by decide) (by decide) (by decide) (by decide)) (hk.1 1003 (by decide) (by decide) (by decide) (by decide) (by decide) (by decide))
    have hNa : NUM a n K T := hN.frame (hk.1 3 (by decide) (by decide) (by decide) (by decide) (by decide) (by decide))
    refine xB.go 2 (18, [(0, .ref 18), (1, .ref 22), (2, .ref 24), (3, .int x), (4, .int (nI i)), (5, .int (nI dn))], [.int x, .int (nI dn)], XM L a ml) rfl ?_
    refine xB.bp (x ≤ (nI dn)) (44, [(0, .ref 18), (1, .ref 22), (2, .ref 24), (3, .int x), (4, .int (nI i)), (5, .int (nI dn))], [], XM L a ml) (21, [(0, .ref 18), (1, .ref 22), (2, .ref 24), (3, .int x), (4, .int (nI i)), (5, .int (nI dn))], [], XM L a ml) rfl (fun h1 => ?_) (fun h1 => ?_)
    · refine xB.go 1 (46, [(0, .ref 18), (1, .ref 22), (2, .ref 24), (3, .int x), (4, .int (nI i)), (5, .int (nI dn))], [.int (nI dn)], XM L a ml) rfl ?_
      refine xB.rt (some (.int (nI dn))) a ml rfl ?_
      have hge : ¬ dn < x.toNatClampNeg := fun z => absurd ((lt_cl (by omega)).mpr z) (i_nlt.mpr h1)
      exfalso; omega
    · refine xB.go 1 (22, [(0, .ref 18), (1, .ref 22), (2, .ref 24), (3, .int x), (4, .int (nI i)), (5, .int (nI dn))], [.ref 24], XM L a ml) rfl ?_
      refine xB.c1 29 [.ref 24] [] (c_isHalted24 _ L _ _ (by rw [hk.2.2.2.2.2.2.2.2]; rfl)) rfl ?_
      refine xB.bp (¬ (a 24 3) = 0) (44, [(0, .ref 18), (1, .ref 22), (2, .ref 24), (3, .int x), (4, .int (nI i)), (5, .int (nI dn))], [], XM L a ml) (28, [(0, .ref 18), (1, .ref 22), (2, .ref 24), (3, .int x), (4, .int (nI i)), (5, .int (nI dn))], [], XM L a ml) rfl (fun h2 => ?_) (fun h2 => ?_)
      · refine xB.go 1 (46, [(0, .ref 18), (1, .ref 22), (2, .ref 24), (3, .int x), (4, .int (nI i)), (5, .int (nI dn))], [.int (nI dn)], XM L a ml) rfl ?_
        refine xB.rt (some (.int (nI dn))) a ml rfl ?_
        exact absurd hk.2.2.2.2.2.2.2.2 h2
      · refine xB.go 4 (33, [(0, .ref 18), (1, .ref 22), (2, .ref 24), (3, .int x), (4, .int (nI i)), (5, .int (nI dn))], [.ref 24, .ref 22, .int (nI i), .ref 18], XM L a ml) rfl ?_
        refine xB.ca 17 [.ref 18, .int (nI i), .ref 22, .ref 24] [] (c_doAt22 _ L _ _ hPa hNa hin hh hr.le16 (hw.1 i h hr).2.1 (hw.1 i h hr).2.2 hk.2.2.2.2.2.1 (by omega) hk.2.2.2.2.2.2.2.2) rfl ?_
        intro r1 a1 b1 hq
        obtain ⟨v1, rfl, hb1, hD⟩ := hq
        rw [hb1]
        show xB _ _ L _ (36, [(0, .ref 18), (1, .ref 22), (2, .ref 24), (3, .int x), (4, .int (nI i)), (5, .int (nI dn))], [.int v1], XM L a1 ml)
        refine xB.go 3 (15, [(0, .ref 18), (1, .ref 22), (2, .ref 24), (3, .int x), (4, .int v1), (5, .int ((nI dn) + 1))], [], XM L a1 ml) rfl ?_
        have hlt : dn < x.toNatClampNeg := (lt_cl (by omega)).mp (i_nle.mp h1)
        obtain ⟨k1, k2, k3, k4, k5, k6, k7, k8, k9⟩ := hk
        obtain ⟨p, m, c, o, cn⟩ := s
        obtain ⟨d1, d2, d3, d4, d5, d6, d7, d8, d9, d10⟩ := hD
        rw [k2, k3, k4, k5, k1 3 (by decide) (by decide) (by decide) (by decide) (by decide) (by decide)] at d3 d4 d5 d6 d7
        rw [k2, k3, k4, k5] at d1
        have hcn := stA_cn (K i) (mi 3 i) h (p, m, c, o, cn)
        have k7 : cn ≤ dn := k7
        have hcn : (stA (K i) (mi 3 i) h (p, m, c, o, cn)).2.2.2.2 ≤ cn + 1 := hcn
        have hfr : ∀ x, x ≠ 18 → x ≠ 19 → x ≠ 23 → x ≠ 24 → x ≠ 24 + 1 → x ≠ 24 + 2 → a1 x = mi x := fun x h1 h2 h3 h4 h5 h6 => by rw [d2 x h1 h2 h3 h4 h5 h6, k1 x h1 h2 h3 h4 h5 h6]
        rw [nI_1]
        by_cases h9 : K i = 9
        · have e : runA K T (mi 3) (f + 1) i h (p, m, c, o, cn) = (1, (p, m, c, o, cn), true) := if_pos h9
          have es : stA (K i) (mi 3 i) h (p, m, c, o, cn) = (p, m, c, o, cn) := by rw [h9]; rfl
          rw [es] at d3 d4 d5 d6 d7
          rw [if_pos h9] at d9
          rw [e]
          exact work_h0 d L mi ml x v1 ⟨hfr, d3, d4, d5, d6, d7, by show cn ≤ 10000; omega, by rw [d8]; exact k8, d9⟩
        · have e : runA K T (mi 3) (f + 1) i h (p, m, c, o, cn) = ((runA K T (mi 3) f (nxA (K i) (T i) i h (p, m, c, o, cn)) (h - tk (K i) + pt (K i)) (stA (K i) (mi 3 i) h (p, m, c, o, cn))).1 + 1, (runA K T (mi 3) f (nxA (K i) (T i) i h (p, m, c, o, cn)) (h - tk (K i) + pt (K i)) (stA (K i) (mi 3 i) h (p, m, c, o, cn))).2) := if_neg h9
          rw [e, d1, if_neg h9]
          rw [if_neg h9] at d9
          show xB (d + 4) mX2_work L (fun rr a b => b = ml ∧ rr = some (.int (nI (dn + ((runA K T (mi 3) f _ _ _).1 + 1)))) ∧ _) _
          rw [show ∀ z, dn + (z + 1) = dn + 1 + z from fun z => by omega]
          exact ih (dn + 1) _ _ _ a1 (by omega) (hr.next hin (hw.1 i h hr).2.1 (hw.1 i h hr).2.2 (nxA_Fo h9)) ⟨hfr, d3, d4, d5, d6, d7, by omega, by rw [d8]; exact k8, d9⟩ d10
set_option maxRecDepth 100000 in
set_option maxHeartbeats 1000000 in
theorem c_work0 (d L : Nat) (mi : xmi) (ml : xml) {n : Nat} {K T : Nat → Nat} (hP : PRG mi n K T) (hN : NUM mi n K T) (hw : WF n K T) (x : Int32) (hx : x.toNatClampNeg ≤ 10000) : xF (d + 5) 16 [.ref 18, .ref 22, .ref 24, .int x] L mi ml (fun rr a b => b = ml ∧ rr = some (.int (nI ((runA K T (mi 3) x.toNatClampNeg 0 0 (mi 19, mi 23, mi 25, mi 26, 0)).1))) ∧ WK 23 24 mi (runA K T (mi 3) x.toNatClampNeg 0 0 (mi 19, mi 23, mi 25, mi 26, 0)).2.1 ((runA K T (mi 3) x.toNatClampNeg 0 0 (mi 19, mi 23, mi 25, mi 26, 0)).2.2) 10000 a) := by
  refine xF.mk mX2_work rfl rfl ?_
  refine xB.go 1 (1, [(0, .ref 18), (1, .ref 22), (2, .ref 24), (3, .int x)], [.ref 24], XM L mi ml) rfl ?_
  refine xB.c0 34 [.ref 24] [] (c_begin24 _ L mi ml  ) rfl ?_
  refine xB.go 7 (15, [(0, .ref 18), (1, .ref 22), (2, .ref 24), (3, .int x), (4, .int 0), (5, .int 0)], [], XM L (xU (xU (xU (xU mi 24 2 1) 24 3 0) 24 4 0) 18 2 0) ml) rfl ?_
  have hx := work_15_0 d L mi ml hP hN hw x hx (x.toNatClampNeg) 0 0 0 (mi 19, mi 23, mi 25, mi 26, 0) (xU (xU (xU (xU mi 24 2 1) 24 3 0) 24 4 0) 18 2 0) (by omega) Rh.zero ⟨fun y h1 h2 h3 h4 h5 h6 => by simp only [xU_ne h1, xU_ne h4], rfl, rfl, rfl, rfl, rfl, Nat.le_refl _, rfl, rfl⟩ rfl
  rw [Nat.zero_add] at hx
  exact hx
set_option maxRecDepth 100000 in
set_option maxHeartbeats 1000000 in
theorem work_h1 (d L : Nat) (mi : xmi) (ml : xml) {dn c : Nat} {s : RS} {a : xmi} (x pl : Int32) (hk : WK 28 29 mi s true c a) : xB (d + 4) mX2_work L (fun rr a b => b = ml ∧ rr = some (.int (nI (dn))) ∧ WK 28 29 mi s (true) c a) (15, [(0, .ref 18), (1, .ref 27), (2, .ref 29), (3, .int x), (4, .int pl), (5, .int (nI dn))], [], XM L a ml) := by
  refine xB.go 2 (18, [(0, .ref 18), (1, .ref 27), (2, .ref 29), (3, .int x), (4, .int pl), (5, .int (nI dn))], [.int x, .int (nI dn)], XM L a ml) rfl ?_
  refine xB.bp (x ≤ (nI dn)) (44, [(0, .ref 18), (1, .ref 27), (2, .ref 29), (3, .int x), (4, .int pl), (5, .int (nI dn))], [], XM L a ml) (21, [(0, .ref 18), (1, .ref 27), (2, .ref 29), (3, .int x), (4, .int pl), (5, .int (nI dn))], [], XM L a ml) rfl (fun h1 => ?_) (fun h1 => ?_)
  · refine xB.go 1 (46, [(0, .ref 18), (1, .ref 27), (2, .ref 29), (3, .int x), (4, .int pl), (5, .int (nI dn))], [.int (nI dn)], XM L a ml) rfl ?_
    refine xB.rt (some (.int (nI dn))) a ml rfl ?_
    exact ⟨rfl, rfl, hk⟩
  · refine xB.go 1 (22, [(0, .ref 18), (1, .ref 27), (2, .ref 29), (3, .int x), (4, .int pl), (5, .int (nI dn))], [.ref 29], XM L a ml) rfl ?_
    refine xB.c1 29 [.ref 29] [] (c_isHalted29 _ L _ _ (by rw [hk.2.2.2.2.2.2.2.2]; rfl)) rfl ?_
    refine xB.bp (¬ (a 29 3) = 0) (44, [(0, .ref 18), (1, .ref 27), (2, .ref 29), (3, .int x), (4, .int pl), (5, .int (nI dn))], [], XM L a ml) (28, [(0, .ref 18), (1, .ref 27), (2, .ref 29), (3, .int x), (4, .int pl), (5, .int (nI dn))], [], XM L a ml) rfl (fun h2 => ?_) (fun h2 => ?_)
    · refine xB.go 1 (46, [(0, .ref 18), (1, .ref 27), (2, .ref 29), (3, .int x), (4, .int pl), (5, .int (nI dn))], [.int (nI dn)], XM L a ml) rfl ?_
      refine xB.rt (some (.int (nI dn))) a ml rfl ?_
      exact ⟨rfl, rfl, hk⟩
    · rw [hk.2.2.2.2.2.2.2.2] at h2; exact absurd (by decide) h2
set_option maxRecDepth 100000 in
set_option maxHeartbeats 1000000 in
theorem work_z1 (d L : Nat) (mi : xmi) (ml : xml) {dn c : Nat} {s : RS} {a : xmi} (x pl : Int32) (hge : x.toNatClampNeg ≤ dn) (hd : dn < 2 ^ 31) (hk : WK 28 29 mi s false c a) : xB (d + 4) mX2_work L (fun rr a b => b = ml ∧ rr = some (.int (nI (dn))) ∧ WK 28 29 mi s (false) c a) (15, [(0, .ref 18), (1, .ref 27), (2, .ref 29), (3, .int x), (4, .int pl), (5, .int (nI dn))], [], XM L a ml) := by
  refine xB.go 2 (18, [(0, .ref 18), (1, .ref 27), (2, .ref 29), (3, .int x), (4, .int pl), (5, .int (nI dn))], [.int x, .int (nI dn)], XM L a ml) rfl ?_
  refine xB.bp (x ≤ (nI dn)) (44, [(0, .ref 18), (1, .ref 27), (2, .ref 29), (3, .int x), (4, .int pl), (5, .int (nI dn))], [], XM L a ml) (21, [(0, .ref 18), (1, .ref 27), (2, .ref 29), (3, .int x), (4, .int pl), (5, .int (nI dn))], [], XM L a ml) rfl (fun h1 => ?_) (fun h1 => ?_)
  · refine xB.go 1 (46, [(0, .ref 18), (1, .ref 27), (2, .ref 29), (3, .int x), (4, .int pl), (5, .int (nI dn))], [.int (nI dn)], XM L a ml) rfl ?_
    refine xB.rt (some (.int (nI dn))) a ml rfl ?_
    exact ⟨rfl, rfl, hk⟩
  · exact absurd ((lt_cl hd).mp (i_nle.mp h1)) (by omega)
set_option maxRecDepth 100000 in
set_option maxHeartbeats 1000000 in
theorem work_15_1 (d L : Nat) (mi : xmi) (ml : xml) {n : Nat} {K T : Nat → Nat} (hP : PRG mi n K T) (hN : NUM mi n K T) (hw : WF n K T) (x : Int32) (hx : x.toNatClampNeg ≤ 10000) : ∀ (f dn i h : Nat) (s : RS) (a : xmi), dn + f = x.toNatClampNeg → Rh n K T i h → WK 28 29 mi s false dn a → a 18 2 = nI h → xB (d + 4) mX2_work L (fun rr a b => b = ml ∧ rr = some (.int (nI (dn + (runA K T (mi 3) f i h s).1))) ∧ WK 28 29 mi (runA K T (mi 3) f i h s).2.1 ((runA K T (mi 3) f i h s).2.2) 10000 a) (15, [(0, .ref 18), (1, .ref 27), (2, .ref 29), (3, .int x), (4, .int (nI i)), (5, .int (nI dn))], [], XM L a ml) := by
  intro f
  induction f with
  | zero =>
    intro dn i h s a hdn hr hk hh
    have hin := (hw.1 i h hr).1
    have hge : x.toNatClampNeg ≤ dn := by omega
    refine xR.po (work_z1 d L mi ml x (nI i) hge (by omega) (hk.le (show dn ≤ 10000 by omega))) (fun r M q => q)
  | succ f ih =>
    intro dn i h s a hdn hr hk hh
    have hin := (hw.1 i h hr).1
    have hk7 := hk.2.2.2.2.2.2.1
    have hPa : PRG a n K T := hP.frame (hk.1 1 (by decide) (by decide) (by decide) (by decide) (by decide) (by decide)) (hk.1 2 (by decide) (by decide) (by decide) (by decide) (by decide) (by decide)) (hk.1 3 (by decide) (by decide) (by decide) (by decide) (by decide) (by decide)) (hk.1 1002 (by decide) (by decide) (by decide) (by decide) (by decide) (by decide)) (hk.1 1003 (by decide) (by decide) (by decide) (by decide) (by decide) (by decide))
    have hNa : NUM a n K T := hN.frame (hk.1 3 (by decide) (by decide) (by decide) (by decide) (by decide) (by decide))
    refine xB.go 2 (18, [(0, .ref 18), (1, .ref 27), (2, .ref 29), (3, .int x), (4, .int (nI i)), (5, .int (nI dn))], [.int x, .int (nI dn)], XM L a ml) rfl ?_
    refine xB.bp (x ≤ (nI dn)) (44, [(0, .ref 18), (1, .ref 27), (2, .ref 29), (3, .int x), (4, .int (nI i)), (5, .int (nI dn))], [], XM L a ml) (21, [(0, .ref 18), (1, .ref 27), (2, .ref 29), (3, .int x), (4, .int (nI i)), (5, .int (nI dn))], [], XM L a ml) rfl (fun h1 => ?_) (fun h1 => ?_)
    · refine xB.go 1 (46, [(0, .ref 18), (1, .ref 27), (2, .ref 29), (3, .int x), (4, .int (nI i)), (5, .int (nI dn))], [.int (nI dn)], XM L a ml) rfl ?_
      refine xB.rt (some (.int (nI dn))) a ml rfl ?_
      have hge : ¬ dn < x.toNatClampNeg := fun z => absurd ((lt_cl (by omega)).mpr z) (i_nlt.mpr h1)
      exfalso; omega
    · refine xB.go 1 (22, [(0, .ref 18), (1, .ref 27), (2, .ref 29), (3, .int x), (4, .int (nI i)), (5, .int (nI dn))], [.ref 29], XM L a ml) rfl ?_
      refine xB.c1 29 [.ref 29] [] (c_isHalted29 _ L _ _ (by rw [hk.2.2.2.2.2.2.2.2]; rfl)) rfl ?_
      refine xB.bp (¬ (a 29 3) = 0) (44, [(0, .ref 18), (1, .ref 27), (2, .ref 29), (3, .int x), (4, .int (nI i)), (5, .int (nI dn))], [], XM L a ml) (28, [(0, .ref 18), (1, .ref 27), (2, .ref 29), (3, .int x), (4, .int (nI i)), (5, .int (nI dn))], [], XM L a ml) rfl (fun h2 => ?_) (fun h2 => ?_)
      · refine xB.go 1 (46, [(0, .ref 18), (1, .ref 27), (2, .ref 29), (3, .int x), (4, .int (nI i)), (5, .int (nI dn))], [.int (nI dn)], XM L a ml) rfl ?_
        refine xB.rt (some (.int (nI dn))) a ml rfl ?_
        exact absurd hk.2.2.2.2.2.2.2.2 h2
      · refine xB.go 4 (33, [(0, .ref 18), (1, .ref 27), (2, .ref 29), (3, .int x), (4, .int (nI i)), (5, .int (nI dn))], [.ref 29, .ref 27, .int (nI i), .ref 18], XM L a ml) rfl ?_
        refine xB.ca 17 [.ref 18, .int (nI i), .ref 27, .ref 29] [] (c_doAt27 _ L _ _ hPa hNa hin hh hr.le16 (hw.1 i h hr).2.1 (hw.1 i h hr).2.2 hk.2.2.2.2.2.1 (by omega) hk.2.2.2.2.2.2.2.2) rfl ?_
        intro r1 a1 b1 hq
        obtain ⟨v1, rfl, hb1, hD⟩ := hq
        rw [hb1]
        show xB _ _ L _ (36, [(0, .ref 18), (1, .ref 27), (2, .ref 29), (3, .int x), (4, .int (nI i)), (5, .int (nI dn))], [.int v1], XM L a1 ml)
        refine xB.go 3 (15, [(0, .ref 18), (1, .ref 27), (2, .ref 29), (3, .int x), (4, .int v1), (5, .int ((nI dn) + 1))], [], XM L a1 ml) rfl ?_
        have hlt : dn < x.toNatClampNeg := (lt_cl (by omega)).mp (i_nle.mp h1)
        obtain ⟨k1, k2, k3, k4, k5, k6, k7, k8, k9⟩ := hk
        obtain ⟨p, m, c, o, cn⟩ := s
        obtain ⟨d1, d2, d3, d4, d5, d6, d7, d8, d9, d10⟩ := hD
        rw [k2, k3, k4, k5, k1 3 (by decide) (by decide) (by decide) (by decide) (by decide) (by decide)] at d3 d4 d5 d6 d7
        rw [k2, k3, k4, k5] at d1
        have hcn := stA_cn (K i) (mi 3 i) h (p, m, c, o, cn)
        have k7 : cn ≤ dn := k7
        have hcn : (stA (K i) (mi 3 i) h (p, m, c, o, cn)).2.2.2.2 ≤ cn + 1 := hcn
        have hfr : ∀ x, x ≠ 18 → x ≠ 19 → x ≠ 28 → x ≠ 29 → x ≠ 29 + 1 → x ≠ 29 + 2 → a1 x = mi x := fun x h1 h2 h3 h4 h5 h6 => by rw [d2 x h1 h2 h3 h4 h5 h6, k1 x h1 h2 h3 h4 h5 h6]
        rw [nI_1]
        by_cases h9 : K i = 9
        · have e : runA K T (mi 3) (f + 1) i h (p, m, c, o, cn) = (1, (p, m, c, o, cn), true) := if_pos h9
          have es : stA (K i) (mi 3 i) h (p, m, c, o, cn) = (p, m, c, o, cn) := by rw [h9]; rfl
          rw [es] at d3 d4 d5 d6 d7
          rw [if_pos h9] at d9
          rw [e]
          exact work_h1 d L mi ml x v1 ⟨hfr, d3, d4, d5, d6, d7, by show cn ≤ 10000; omega, by rw [d8]; exact k8, d9⟩
        · have e : runA K T (mi 3) (f + 1) i h (p, m, c, o, cn) = ((runA K T (mi 3) f (nxA (K i) (T i) i h (p, m, c, o, cn)) (h - tk (K i) + pt (K i)) (stA (K i) (mi 3 i) h (p, m, c, o, cn))).1 + 1, (runA K T (mi 3) f (nxA (K i) (T i) i h (p, m, c, o, cn)) (h - tk (K i) + pt (K i)) (stA (K i) (mi 3 i) h (p, m, c, o, cn))).2) := if_neg h9
          rw [e, d1, if_neg h9]
          rw [if_neg h9] at d9
          show xB (d + 4) mX2_work L (fun rr a b => b = ml ∧ rr = some (.int (nI (dn + ((runA K T (mi 3) f _ _ _).1 + 1)))) ∧ _) _
          rw [show ∀ z, dn + (z + 1) = dn + 1 + z from fun z => by omega]
          exact ih (dn + 1) _ _ _ a1 (by omega) (hr.next hin (hw.1 i h hr).2.1 (hw.1 i h hr).2.2 (nxA_Fo h9)) ⟨hfr, d3, d4, d5, d6, d7, by omega, by rw [d8]; exact k8, d9⟩ d10
set_option maxRecDepth 100000 in
set_option maxHeartbeats 1000000 in
theorem c_work1 (d L : Nat) (mi : xmi) (ml : xml) {n : Nat} {K T : Nat → Nat} (hP : PRG mi n K T) (hN : NUM mi n K T) (hw : WF n K T) (x : Int32) (hx : x.toNatClampNeg ≤ 10000) : xF (d + 5) 16 [.ref 18, .ref 27, .ref 29, .int x] L mi ml (fun rr a b => b = ml ∧ rr = some (.int (nI ((runA K T (mi 3) x.toNatClampNeg 0 0 (mi 19, mi 28, mi 30, mi 31, 0)).1))) ∧ WK 28 29 mi (runA K T (mi 3) x.toNatClampNeg 0 0 (mi 19, mi 28, mi 30, mi 31, 0)).2.1 ((runA K T (mi 3) x.toNatClampNeg 0 0 (mi 19, mi 28, mi 30, mi 31, 0)).2.2) 10000 a) := by
  refine xF.mk mX2_work rfl rfl ?_
  refine xB.go 1 (1, [(0, .ref 18), (1, .ref 27), (2, .ref 29), (3, .int x)], [.ref 29], XM L mi ml) rfl ?_
  refine xB.c0 34 [.ref 29] [] (c_begin29 _ L mi ml  ) rfl ?_
  refine xB.go 7 (15, [(0, .ref 18), (1, .ref 27), (2, .ref 29), (3, .int x), (4, .int 0), (5, .int 0)], [], XM L (xU (xU (xU (xU mi 29 2 1) 29 3 0) 29 4 0) 18 2 0) ml) rfl ?_
  have hx := work_15_1 d L mi ml hP hN hw x hx (x.toNatClampNeg) 0 0 0 (mi 19, mi 28, mi 30, mi 31, 0) (xU (xU (xU (xU mi 29 2 1) 29 3 0) 29 4 0) 18 2 0) (by omega) Rh.zero ⟨fun y h1 h2 h3 h4 h5 h6 => by simp only [xU_ne h1, xU_ne h4], rfl, rfl, rfl, rfl, rfl, Nat.le_refl _, rfl, rfl⟩ rfl
  rw [Nat.zero_add] at hx
  exact hx
