/-! the reference: leaves and small methods -/
theorem ix_j {x : Int32} {m : Nat} (hm : m < 2 ^ 31) (h : 0 ≤ x ∧ x < nI m) : ∃ j, j < m ∧ x = nI j := by
  rcases pk_ix x hm with z | z | z
  · exact absurd z (i_nlt.mpr h.1)
  · exact absurd h.2 (i_nlt.mpr z)
  · exact z
theorem nI_addX (a b : Nat) : nI a + nI b = nI (a + b) := by
  unfold nI
  exact (Int32.ofNat_add a b).symm
theorem ixk {x : Int32} {m N : Nat} (c : Nat) (h : 0 ≤ x ∧ x < nI m) (hN : c + m ≤ N) (hN2 : N < 2 ^ 31) : xin (nI c + x) N = true := by
  obtain ⟨j, hj, rfl⟩ := ix_j (by omega) h
  rw [nI_addX]; exact xin_of (by omega) hN2 rfl
theorem ixc {x : Int32} {m : Nat} (c : Nat) (h : 0 ≤ x ∧ x < nI m) (hN : c + m < 2 ^ 31) : (nI c + x).toNatClampNeg = c + x.toNatClampNeg := by
  obtain ⟨j, hj, rfl⟩ := ix_j (by omega) h
  rw [nI_addX, nI_clamp (by omega), nI_clamp (by omega)]
set_option maxRecDepth 100000 in
theorem c_in (d L : Nat) (mi : xmi) (ml : xml) (x n : Int32)  : xFv (d + 1) 92 [.int x, .int n] L mi ml (.int (xb (0 ≤ x ∧ x < n))) mi ml := by
  refine xF.mk mX9_in rfl rfl ?_
  refine xB.go 1 (1, [(0, .int x), (1, .int n)], [.int x], XM L mi ml) rfl ?_
  refine xB.bp (x < 0) (13, [(0, .int x), (1, .int n)], [], XM L mi ml) (4, [(0, .int x), (1, .int n)], [], XM L mi ml) rfl (fun h1 => ?_) (fun h1 => ?_)
  · refine xB.go 1 (14, [(0, .int x), (1, .int n)], [.int 0], XM L mi ml) rfl ?_
    refine xB.rt (some (.int 0)) mi ml rfl ?_
    have hP : ¬ (0 ≤ x ∧ x < n) := by rw [Int32.le_iff_toInt_le, Int32.lt_iff_toInt_lt] at *; simp only [Int32.lt_iff_toInt_lt, Int32.le_iff_toInt_le, Int32.toInt_zero] at *; omega
    exact ⟨by rw [xb_f hP], rfl, rfl⟩
  · refine xB.go 2 (6, [(0, .int x), (1, .int n)], [.int n, .int x], XM L mi ml) rfl ?_
    refine xB.bp (n ≤ x) (13, [(0, .int x), (1, .int n)], [], XM L mi ml) (9, [(0, .int x), (1, .int n)], [], XM L mi ml) rfl (fun h2 => ?_) (fun h2 => ?_)
    · refine xB.go 1 (14, [(0, .int x), (1, .int n)], [.int 0], XM L mi ml) rfl ?_
      refine xB.rt (some (.int 0)) mi ml rfl ?_
      have hP : ¬ (0 ≤ x ∧ x < n) := by rw [Int32.le_iff_toInt_le, Int32.lt_iff_toInt_lt] at *; simp only [Int32.lt_iff_toInt_lt, Int32.le_iff_toInt_le, Int32.toInt_zero] at *; omega
      exact ⟨by rw [xb_f hP], rfl, rfl⟩
    · refine xB.go 2 (14, [(0, .int x), (1, .int n)], [.int 1], XM L mi ml) rfl ?_
      refine xB.rt (some (.int 1)) mi ml rfl ?_
      have hP : (0 ≤ x ∧ x < n) := by rw [Int32.le_iff_toInt_le, Int32.lt_iff_toInt_lt] at *; simp only [Int32.lt_iff_toInt_lt, Int32.le_iff_toInt_le, Int32.toInt_zero] at *; omega
      exact ⟨by rw [xb_t hP], rfl, rfl⟩
theorem c_in0 (d L : Nat) (mi : xmi) (ml : xml) {x n : Int32} (h : ¬ (0 ≤ x ∧ x < n)) : xFv (d + 1) 92 [.int x, .int n] L mi ml (.int 0) mi ml := by have g := c_in d L mi ml x n; rwa [xb_f h] at g
theorem c_in1 (d L : Nat) (mi : xmi) (ml : xml) {x n : Int32} (h : 0 ≤ x ∧ x < n) : xFv (d + 1) 92 [.int x, .int n] L mi ml (.int 1) mi ml := by have g := c_in d L mi ml x n; rwa [xb_t h] at g
theorem ins_in {k : Nat} {y m : Int32} (hk : k < 10) (h0 : nmx k ≠ 0) (hm : m = nI (nmx k)) : (xb (0 ≤ y ∧ y < m) = 1 ∧ insOK (nI k) y) ∨ (xb (0 ≤ y ∧ y < m) = 0 ∧ ¬ insOK (nI k) y) := by
  subst hm
  by_cases h : 0 ≤ y ∧ y < nI (nmx k)
  · exact Or.inl ⟨xb_t h, k, hk, rfl, Or.inr h⟩
  · refine Or.inr ⟨xb_f h, ?_⟩
    rintro ⟨k', hk', e, g⟩
    obtain rfl : k = k' := (nI_eq (by omega) (by omega)).mp e
    exact g.elim h0 h
set_option maxRecDepth 100000 in
set_option maxHeartbeats 1000000 in
theorem c_canHave (d L : Nat) (mi : xmi) (ml : xml) (x y : Int32) : xF (d + 2) 93 [.int x, .int y] L mi ml (fun rr a b => ∃ v, rr = some (.int v) ∧ a = mi ∧ b = ml ∧ ((v = 1 ∧ insOK x y) ∨ (v = 0 ∧ ¬ insOK x y))) := by
  refine xF.mk mX9_canHave rfl rfl ?_
  refine xB.go 1 (1, [(0, .int x), (1, .int y)], [.int x], XM L mi ml) rfl ?_
  refine xB.bp (x = 0) (10, [(0, .int x), (1, .int y)], [], XM L mi ml) (4, [(0, .int x), (1, .int y)], [], XM L mi ml) rfl (fun h1 => ?_) (fun h1 => ?_)
  · refine xB.go 1 (11, [(0, .int x), (1, .int y)], [.int 1], XM L mi ml) rfl ?_
    refine xB.rt (some (.int 1)) mi ml rfl ?_
    obtain rfl := h1
    exact ⟨_, rfl, rfl, rfl, Or.inl ⟨rfl, 0, by decide, rfl, Or.inl rfl⟩⟩
  · refine xB.go 2 (7, [(0, .int x), (1, .int y)], [.int 9, .int x], XM L mi ml) rfl ?_
    refine xB.bp (¬ x = 9) (12, [(0, .int x), (1, .int y)], [], XM L mi ml) (10, [(0, .int x), (1, .int y)], [], XM L mi ml) rfl (fun h2 => ?_) (fun h2 => ?_)
    · refine xB.go 2 (14, [(0, .int x), (1, .int y)], [.int 1, .int x], XM L mi ml) rfl ?_
      refine xB.bp (x = 1) (22, [(0, .int x), (1, .int y)], [], XM L mi ml) (17, [(0, .int x), (1, .int y)], [], XM L mi ml) rfl (fun h3 => ?_) (fun h3 => ?_)
      · refine xB.go 2 (25, [(0, .int x), (1, .int y)], [.int 8, .int y], XM L mi ml) rfl ?_
        refine xB.c1 92 [.int y, .int 8] [] (c_in _ L mi ml y 8 ) rfl ?_
        refine xB.rz (xb (0 ≤ y ∧ y < 8)) mi ml rfl xz_xb ?_
        obtain rfl := h3
        exact ⟨_, rfl, rfl, rfl, ins_in (k := 1) (by decide) (by decide) rfl⟩
      · refine xB.go 2 (19, [(0, .int x), (1, .int y)], [.int 2, .int x], XM L mi ml) rfl ?_
        refine xB.bp (¬ x = 2) (29, [(0, .int x), (1, .int y)], [], XM L mi ml) (22, [(0, .int x), (1, .int y)], [], XM L mi ml) rfl (fun h4 => ?_) (fun h4 => ?_)
        · refine xB.go 2 (31, [(0, .int x), (1, .int y)], [.int 3, .int x], XM L mi ml) rfl ?_
          refine xB.bp (¬ x = 3) (41, [(0, .int x), (1, .int y)], [], XM L mi ml) (34, [(0, .int x), (1, .int y)], [], XM L mi ml) rfl (fun h5 => ?_) (fun h5 => ?_)
          · refine xB.go 2 (43, [(0, .int x), (1, .int y)], [.int 4, .int x], XM L mi ml) rfl ?_
            refine xB.bp (x = 4) (51, [(0, .int x), (1, .int y)], [], XM L mi ml) (46, [(0, .int x), (1, .int y)], [], XM L mi ml) rfl (fun h6 => ?_) (fun h6 => ?_)
            · refine xB.go 2 (54, [(0, .int x), (1, .int y)], [.int 64, .int y], XM L mi ml) rfl ?_
              refine xB.c1 92 [.int y, .int 64] [] (c_in _ L mi ml y 64 ) rfl ?_
              refine xB.rz (xb (0 ≤ y ∧ y < 64)) mi ml rfl xz_xb ?_
              obtain rfl := h6
              exact ⟨_, rfl, rfl, rfl, ins_in (k := 4) (by decide) (by decide) rfl⟩
            · refine xB.go 2 (48, [(0, .int x), (1, .int y)], [.int 5, .int x], XM L mi ml) rfl ?_
              refine xB.bp (¬ x = 5) (58, [(0, .int x), (1, .int y)], [], XM L mi ml) (51, [(0, .int x), (1, .int y)], [], XM L mi ml) rfl (fun h7 => ?_) (fun h7 => ?_)
              · refine xB.go 2 (61, [(0, .int x), (1, .int y)], [.int 6, .int x], XM L mi ml) rfl ?_
                refine xB.bp (x = 6) (70, [(0, .int x), (1, .int y)], [], XM L mi ml) (64, [(0, .int x), (1, .int y)], [], XM L mi ml) rfl (fun h8 => ?_) (fun h8 => ?_)
                · refine xB.go 2 (72, [(0, .int x), (1, .int y)], [.int 2, .int y], XM L mi ml) rfl ?_
                  refine xB.c1 92 [.int y, .int 2] [] (c_in _ L mi ml y 2 ) rfl ?_
                  refine xB.rz (xb (0 ≤ y ∧ y < 2)) mi ml rfl xz_xb ?_
                  obtain rfl := h8
                  exact ⟨_, rfl, rfl, rfl, ins_in (k := 6) (by decide) (by decide) rfl⟩
                · refine xB.go 2 (67, [(0, .int x), (1, .int y)], [.int 7, .int x], XM L mi ml) rfl ?_
                  refine xB.bp (¬ x = 7) (76, [(0, .int x), (1, .int y)], [], XM L mi ml) (70, [(0, .int x), (1, .int y)], [], XM L mi ml) rfl (fun h9 => ?_) (fun h9 => ?_)
                  · refine xB.go 2 (79, [(0, .int x), (1, .int y)], [.int 8, .int x], XM L mi ml) rfl ?_
                    refine xB.bp (¬ x = 8) (94, [(0, .int x), (1, .int y)], [], XM L mi ml) (82, [(0, .int x), (1, .int y)], [], XM L mi ml) rfl (fun h10 => ?_) (fun h10 => ?_)
                    · refine xB.go 1 (95, [(0, .int x), (1, .int y)], [.int 0], XM L mi ml) rfl ?_
                      refine xB.rt (some (.int 0)) mi ml rfl ?_
                      refine ⟨_, rfl, rfl, rfl, Or.inr ⟨rfl, ?_⟩⟩
                      rintro ⟨k, hk, e, -⟩
                      rcases (show k = 0 ∨ k = 1 ∨ k = 2 ∨ k = 3 ∨ k = 4 ∨ k = 5 ∨ k = 6 ∨ k = 7 ∨ k = 8 ∨ k = 9 by omega) with rfl | rfl | rfl | rfl | rfl | rfl | rfl | rfl | rfl | rfl
                      · exact h1 e
                      · exact h3 e
                      · exact h4 e
                      · exact h5 e
                      · exact h6 e
                      · exact h7 e
                      · exact h8 e
                      · exact h9 e
                      · exact h10 e
                      · exact h2 e
                    · refine xB.go 2 (84, [(0, .int x), (1, .int y)], [.int 4, .int y], XM L mi ml) rfl ?_
                      refine xB.c1 92 [.int y, .int 4] [] (c_in _ L mi ml y 4 ) rfl ?_
                      refine xB.bz (0 ≤ y ∧ y < 4) (94, [(0, .int x), (1, .int y)], [], XM L mi ml) (90, [(0, .int x), (1, .int y)], [], XM L mi ml) rfl (fun h11 => ?_) (fun h11 => ?_)
                      · refine xB.go 1 (95, [(0, .int x), (1, .int y)], [.int 0], XM L mi ml) rfl ?_
                        refine xB.rt (some (.int 0)) mi ml rfl ?_
                        obtain rfl := (Classical.not_not.mp h10)
                        refine ⟨_, rfl, rfl, rfl, Or.inr ⟨rfl, ?_⟩⟩
                        rcases ins_in (k := 8) (y := y) (by decide) (by decide) rfl with z | z
                        · rw [show nI (nmx 8) = 4 from rfl, xb_f h11] at z; exact absurd z.1 (by decide)
                        · exact z.2
                      · refine xB.go 2 (95, [(0, .int x), (1, .int y)], [.int 1], XM L mi ml) rfl ?_
                        refine xB.rt (some (.int 1)) mi ml rfl ?_
                        obtain rfl := (Classical.not_not.mp h10)
                        exact ⟨_, rfl, rfl, rfl, Or.inl ⟨rfl, 8, by decide, rfl, Or.inr h11⟩⟩
                  · refine xB.go 2 (72, [(0, .int x), (1, .int y)], [.int 2, .int y], XM L mi ml) rfl ?_
                    refine xB.c1 92 [.int y, .int 2] [] (c_in _ L mi ml y 2 ) rfl ?_
                    refine xB.rz (xb (0 ≤ y ∧ y < 2)) mi ml rfl xz_xb ?_
                    obtain rfl := (Classical.not_not.mp h9)
                    exact ⟨_, rfl, rfl, rfl, ins_in (k := 7) (by decide) (by decide) rfl⟩
              · refine xB.go 2 (54, [(0, .int x), (1, .int y)], [.int 64, .int y], XM L mi ml) rfl ?_
                refine xB.c1 92 [.int y, .int 64] [] (c_in _ L mi ml y 64 ) rfl ?_
                refine xB.rz (xb (0 ≤ y ∧ y < 64)) mi ml rfl xz_xb ?_
                obtain rfl := (Classical.not_not.mp h7)
                exact ⟨_, rfl, rfl, rfl, ins_in (k := 5) (by decide) (by decide) rfl⟩
          · refine xB.go 2 (37, [(0, .int x), (1, .int y)], [.int 7, .int y], XM L mi ml) rfl ?_
            refine xB.c1 92 [.int y, .int 7] [] (c_in _ L mi ml y 7 ) rfl ?_
            refine xB.rz (xb (0 ≤ y ∧ y < 7)) mi ml rfl xz_xb ?_
            obtain rfl := (Classical.not_not.mp h5)
            exact ⟨_, rfl, rfl, rfl, ins_in (k := 3) (by decide) (by decide) rfl⟩
        · refine xB.go 2 (25, [(0, .int x), (1, .int y)], [.int 8, .int y], XM L mi ml) rfl ?_
          refine xB.c1 92 [.int y, .int 8] [] (c_in _ L mi ml y 8 ) rfl ?_
          refine xB.rz (xb (0 ≤ y ∧ y < 8)) mi ml rfl xz_xb ?_
          obtain rfl := (Classical.not_not.mp h4)
          exact ⟨_, rfl, rfl, rfl, ins_in (k := 2) (by decide) (by decide) rfl⟩
    · refine xB.go 1 (11, [(0, .int x), (1, .int y)], [.int 1], XM L mi ml) rfl ?_
      refine xB.rt (some (.int 1)) mi ml rfl ?_
      obtain rfl := (Classical.not_not.mp h2)
      exact ⟨_, rfl, rfl, rfl, Or.inl ⟨rfl, 9, by decide, rfl, Or.inl rfl⟩⟩
set_option maxRecDepth 100000 in
set_option maxHeartbeats 1000000 in
theorem c_minstruction (d L : Nat) (mi : xmi) (ml : xml) {n : Nat} {K T : Nat → Nat} (hP : PRM mi n K T) (x y : Int32) : xF (d + 3) 94 [.ref 32, .int x, .int y] L mi ml (fun rr a b => ∃ v, rr = some (.int v) ∧ b = ml ∧ ((n < 64 ∧ insOK x y ∧ v = nI n ∧ a = xU (xU (xU (xU (xU mi 33 n x) 34 n y) 32 2 (nI (n + 1))) 32 5 0) 32 10 0) ∨ (¬ (n < 64 ∧ insOK x y) ∧ v = -1 ∧ a = mi))) := by
  refine xF.mk mX9_instruction rfl rfl ?_
  refine xB.go 2 (2, [(0, .ref 32), (1, .int x), (2, .int y)], [.int y, .int x], XM L mi ml) rfl ?_
  refine xB.ca 93 [.int x, .int y] [] (c_canHave _ L _ _ x y) rfl ?_
  intro r1 a1 b1 hq
  obtain ⟨v1, rfl, ha1, hb1, hv⟩ := hq
  rw [ha1, hb1]
  show xB _ _ L _ (5, [(0, .ref 32), (1, .int x), (2, .int y)], [.int v1], XM L mi ml)
  refine xB.bp (v1 = 0) (17, [(0, .ref 32), (1, .int x), (2, .int y)], [], XM L mi ml) (8, [(0, .ref 32), (1, .int x), (2, .int y)], [], XM L mi ml) rfl (fun h1 => ?_) (fun h1 => ?_)
  · refine xB.go 1 (18, [(0, .ref 32), (1, .int x), (2, .int y)], [.int (-1)], XM L mi ml) rfl ?_
    refine xB.rt (some (.int (-1))) mi ml rfl ?_
    refine ⟨_, rfl, rfl, Or.inr ⟨fun z => ?_, rfl, rfl⟩⟩
    rcases hv with w | w
    · rw [h1] at w; exact absurd w.1 (by decide)
    · exact w.2 z.2
  · refine xB.go 3 (14, [(0, .ref 32), (1, .int x), (2, .int y)], [.int 64, .int (mi 32 2)], XM L mi ml) rfl ?_
    refine xB.bp (¬ (mi 32 2) = 64) (19, [(0, .ref 32), (1, .int x), (2, .int y)], [], XM L mi ml) (17, [(0, .ref 32), (1, .int x), (2, .int y)], [], XM L mi ml) rfl (fun h2 => ?_) (fun h2 => ?_)
    · refine xB.go 5 (28, [(0, .ref 32), (1, .int x), (2, .int y)], [.int x, .int (mi 32 2), .ref 33], XM L mi ml) rfl ?_
      refine xB.ck (xin (mi 32 2) 64) (29, [(0, .ref 32), (1, .int x), (2, .int y)], [], XM L (xU mi 33 (mi 32 2).toNatClampNeg x) ml) rfl (xin_of (j := n) (by rcases Nat.lt_or_ge n 64 with z | z; exact z; exact absurd (by rw [hP.1, show n = 64 by have := hP.2.1; omega]; rfl) h2) (by decide) hP.1) ?_
      refine xB.go 5 (38, [(0, .ref 32), (1, .int x), (2, .int y)], [.int y, .int (mi 32 2), .ref 34], XM L (xU mi 33 (mi 32 2).toNatClampNeg x) ml) rfl ?_
      refine xB.ck (xin (mi 32 2) 64) (39, [(0, .ref 32), (1, .int x), (2, .int y)], [], XM L (xU (xU mi 33 (mi 32 2).toNatClampNeg x) 34 (mi 32 2).toNatClampNeg y) ml) rfl (xin_of (j := n) (by rcases Nat.lt_or_ge n 64 with z | z; exact z; exact absurd (by rw [hP.1, show n = 64 by have := hP.2.1; omega]; rfl) h2) (by decide) hP.1) ?_
      refine xB.go 16 (65, [(0, .ref 32), (1, .int x), (2, .int y)], [.int (((mi 32 2) + 1) - 1)], XM L (xU (xU (xU (xU (xU mi 33 (mi 32 2).toNatClampNeg x) 34 (mi 32 2).toNatClampNeg y) 32 2 ((mi 32 2) + 1)) 32 5 0) 32 10 0) ml) rfl ?_
      refine xB.rt (some (.int (((mi 32 2) + 1) - 1))) (xU (xU (xU (xU (xU mi 33 (mi 32 2).toNatClampNeg x) 34 (mi 32 2).toNatClampNeg y) 32 2 ((mi 32 2) + 1)) 32 5 0) 32 10 0) ml rfl ?_
      have hn64 := hP.2.1
      have hn : n < 64 := by
        rcases Nat.lt_or_ge n 64 with z | z
        · exact z
        · exact absurd (by rw [hP.1, show n = 64 by omega]; rfl) h2
      refine ⟨_, rfl, rfl, Or.inl ⟨hn, ?_, ?_, ?_⟩⟩
      · rcases hv with w | w
        · exact w.2
        · exact absurd w.1 h1
      · rw [hP.1, nI_1, show (1 : Int32) = nI 1 from rfl, nI_subeq (by omega)]; rfl
      · rw [hP.1, nI_clamp (by omega), nI_1]
    · refine xB.go 1 (18, [(0, .ref 32), (1, .int x), (2, .int y)], [.int (-1)], XM L mi ml) rfl ?_
      refine xB.rt (some (.int (-1))) mi ml rfl ?_
      refine ⟨_, rfl, rfl, Or.inr ⟨fun z => ?_, rfl, rfl⟩⟩
      have e := Classical.not_not.mp h2
      rw [hP.1] at e
      have := (nI_eq (by have := hP.2.1; omega) (by decide)).mp (e.trans (show (64 : Int32) = nI 64 from rfl))
      omega
set_option maxRecDepth 100000 in
theorem c_mclear (d L : Nat) (mi : xmi) (ml : xml)   : xFn (d + 1) 95 [.ref 32] L mi ml (xU (xU (xU mi 32 2 0) 32 5 0) 32 10 0) ml := by
  refine xF.mk mX9_clear rfl rfl ?_
  refine xB.go 9 (15, [(0, .ref 32)], [], XM L (xU (xU (xU mi 32 2 0) 32 5 0) 32 10 0) ml) rfl ?_
  refine xB.rt none (xU (xU (xU mi 32 2 0) 32 5 0) 32 10 0) ml rfl ?_
  exact ⟨rfl, rfl, rfl⟩
set_option maxRecDepth 100000 in
theorem c_mlevel0 (d L : Nat) (mi : xmi) (ml : xml) (x y : Int32)  : xFv (d + 2) 96 [.ref 32, .int 0, .int x, .int y] L mi ml (.int (xb ((0 ≤ x ∧ x < 8) ∧ (0 ≤ y ∧ y < 4)))) (if (0 ≤ x ∧ x < 8) ∧ (0 ≤ y ∧ y < 4) then xU (xU mi 35 (x.toNatClampNeg) y) 32 10 0 else mi) ml := by
  refine xF.mk mX9_level rfl rfl ?_
  refine xB.go 2 (2, [(0, .ref 32), (1, .int 0), (2, .int x), (3, .int y)], [.int 3, .int 0], XM L mi ml) rfl ?_
  refine xB.c1 92 [.int 0, .int 3] [] (c_in1 _ L _ _ (by decide)) rfl ?_
  refine xB.go 3 (10, [(0, .ref 32), (1, .int 0), (2, .int x), (3, .int y)], [.int 4, .int y], XM L mi ml) rfl ?_
  refine xB.c1 92 [.int y, .int 4] [] (c_in _ L mi ml y 4 ) rfl ?_
  refine xB.bz (0 ≤ y ∧ y < 4) (42, [(0, .ref 32), (1, .int 0), (2, .int x), (3, .int y)], [], XM L mi ml) (16, [(0, .ref 32), (1, .int 0), (2, .int x), (3, .int y)], [], XM L mi ml) rfl (fun h1 => ?_) (fun h1 => ?_)
  · refine xB.go 1 (43, [(0, .ref 32), (1, .int 0), (2, .int x), (3, .int y)], [.int 0], XM L mi ml) rfl ?_
    refine xB.rt (some (.int 0)) mi ml rfl ?_
    have hg : ¬ ((0 ≤ x ∧ x < 8) ∧ (0 ≤ y ∧ y < 4)) := fun z => h1 z.2
    exact ⟨by rw [xb_f hg], by rw [if_neg hg], rfl⟩
  · refine xB.go 5 (36, [(0, .ref 32), (1, .int 0), (2, .int x), (3, .int y)], [.int 8, .int x], XM L mi ml) rfl ?_
    refine xB.c1 92 [.int x, .int 8] [] (c_in _ L mi ml x 8 ) rfl ?_
    refine xB.bn (0 ≤ x ∧ x < 8) (44, [(0, .ref 32), (1, .int 0), (2, .int x), (3, .int y)], [], XM L mi ml) (42, [(0, .ref 32), (1, .int 0), (2, .int x), (3, .int y)], [], XM L mi ml) rfl (fun h2 => ?_) (fun h2 => ?_)
    · refine xB.go 7 (73, [(0, .ref 32), (1, .int 0), (2, .int x), (3, .int y)], [.int y, .int x, .ref 35], XM L mi ml) rfl ?_
      refine xB.ck (xin x 14) (74, [(0, .ref 32), (1, .int 0), (2, .int x), (3, .int y)], [], XM L (xU mi 35 x.toNatClampNeg y) ml) rfl (xin_of (Nat.lt_of_lt_of_le (Classical.choose_spec (ix_j (m := 8) (by decide) h2)).1 (by decide)) (by decide) (Classical.choose_spec (ix_j (m := 8) (by decide) h2)).2) ?_
      refine xB.go 4 (80, [(0, .ref 32), (1, .int 0), (2, .int x), (3, .int y)], [.int 1], XM L (xU (xU mi 35 x.toNatClampNeg y) 32 10 0) ml) rfl ?_
      refine xB.rt (some (.int 1)) (xU (xU mi 35 x.toNatClampNeg y) 32 10 0) ml rfl ?_
      have hg : (0 ≤ x ∧ x < 8) ∧ (0 ≤ y ∧ y < 4) := ⟨h2, h1⟩
      exact ⟨by rw [xb_t hg], by rw [if_pos hg], rfl⟩
    · refine xB.go 1 (43, [(0, .ref 32), (1, .int 0), (2, .int x), (3, .int y)], [.int 0], XM L mi ml) rfl ?_
      refine xB.rt (some (.int 0)) mi ml rfl ?_
      have hg : ¬ ((0 ≤ x ∧ x < 8) ∧ (0 ≤ y ∧ y < 4)) := fun z => h2 z.1
      exact ⟨by rw [xb_f hg], by rw [if_neg hg], rfl⟩
set_option maxRecDepth 100000 in
theorem c_mlevel1 (d L : Nat) (mi : xmi) (ml : xml) (x y : Int32)  : xFv (d + 2) 96 [.ref 32, .int 1, .int x, .int y] L mi ml (.int (xb ((0 ≤ x ∧ x < 2) ∧ (0 ≤ y ∧ y < 4)))) (if (0 ≤ x ∧ x < 2) ∧ (0 ≤ y ∧ y < 4) then xU (xU mi 35 (8 + x.toNatClampNeg) y) 32 10 0 else mi) ml := by
  refine xF.mk mX9_level rfl rfl ?_
  refine xB.go 2 (2, [(0, .ref 32), (1, .int 1), (2, .int x), (3, .int y)], [.int 3, .int 1], XM L mi ml) rfl ?_
  refine xB.c1 92 [.int 1, .int 3] [] (c_in1 _ L _ _ (by decide)) rfl ?_
  refine xB.go 3 (10, [(0, .ref 32), (1, .int 1), (2, .int x), (3, .int y)], [.int 4, .int y], XM L mi ml) rfl ?_
  refine xB.c1 92 [.int y, .int 4] [] (c_in _ L mi ml y 4 ) rfl ?_
  refine xB.bz (0 ≤ y ∧ y < 4) (42, [(0, .ref 32), (1, .int 1), (2, .int x), (3, .int y)], [], XM L mi ml) (16, [(0, .ref 32), (1, .int 1), (2, .int x), (3, .int y)], [], XM L mi ml) rfl (fun h1 => ?_) (fun h1 => ?_)
  · refine xB.go 1 (43, [(0, .ref 32), (1, .int 1), (2, .int x), (3, .int y)], [.int 0], XM L mi ml) rfl ?_
    refine xB.rt (some (.int 0)) mi ml rfl ?_
    have hg : ¬ ((0 ≤ x ∧ x < 2) ∧ (0 ≤ y ∧ y < 4)) := fun z => h1 z.2
    exact ⟨by rw [xb_f hg], by rw [if_neg hg], rfl⟩
  · refine xB.go 8 (36, [(0, .ref 32), (1, .int 1), (2, .int x), (3, .int y)], [.int 2, .int x], XM L mi ml) rfl ?_
    refine xB.c1 92 [.int x, .int 2] [] (c_in _ L mi ml x 2 ) rfl ?_
    refine xB.bn (0 ≤ x ∧ x < 2) (44, [(0, .ref 32), (1, .int 1), (2, .int x), (3, .int y)], [], XM L mi ml) (42, [(0, .ref 32), (1, .int 1), (2, .int x), (3, .int y)], [], XM L mi ml) rfl (fun h2 => ?_) (fun h2 => ?_)
    · refine xB.go 12 (73, [(0, .ref 32), (1, .int 1), (2, .int x), (3, .int y)], [.int y, .int (8 + x), .ref 35], XM L mi ml) rfl ?_
      refine xB.ck (xin (8 + x) 14) (74, [(0, .ref 32), (1, .int 1), (2, .int x), (3, .int y)], [], XM L (xU mi 35 (8 + x).toNatClampNeg y) ml) rfl (ixk 8 (m := 2) h2 (by decide) (by decide)) ?_
      refine xB.go 4 (80, [(0, .ref 32), (1, .int 1), (2, .int x), (3, .int y)], [.int 1], XM L (xU (xU mi 35 (8 + x).toNatClampNeg y) 32 10 0) ml) rfl ?_
      refine xB.rt (some (.int 1)) (xU (xU mi 35 (8 + x).toNatClampNeg y) 32 10 0) ml rfl ?_
      have hg : (0 ≤ x ∧ x < 2) ∧ (0 ≤ y ∧ y < 4) := ⟨h2, h1⟩
      exact ⟨by rw [xb_t hg], by rw [if_pos hg]; rw [show (8 : Int32) = nI 8 from rfl, ixc 8 (m := 2) hg.1 (by decide)], rfl⟩
    · refine xB.go 1 (43, [(0, .ref 32), (1, .int 1), (2, .int x), (3, .int y)], [.int 0], XM L mi ml) rfl ?_
      refine xB.rt (some (.int 0)) mi ml rfl ?_
      have hg : ¬ ((0 ≤ x ∧ x < 2) ∧ (0 ≤ y ∧ y < 4)) := fun z => h2 z.1
      exact ⟨by rw [xb_f hg], by rw [if_neg hg], rfl⟩
set_option maxRecDepth 100000 in
theorem c_mlevel2 (d L : Nat) (mi : xmi) (ml : xml) (x y : Int32)  : xFv (d + 2) 96 [.ref 32, .int 2, .int x, .int y] L mi ml (.int (xb ((0 ≤ x ∧ x < 4) ∧ (0 ≤ y ∧ y < 4)))) (if (0 ≤ x ∧ x < 4) ∧ (0 ≤ y ∧ y < 4) then xU (xU mi 35 (10 + x.toNatClampNeg) y) 32 10 0 else mi) ml := by
  refine xF.mk mX9_level rfl rfl ?_
  refine xB.go 2 (2, [(0, .ref 32), (1, .int 2), (2, .int x), (3, .int y)], [.int 3, .int 2], XM L mi ml) rfl ?_
  refine xB.c1 92 [.int 2, .int 3] [] (c_in1 _ L _ _ (by decide)) rfl ?_
  refine xB.go 3 (10, [(0, .ref 32), (1, .int 2), (2, .int x), (3, .int y)], [.int 4, .int y], XM L mi ml) rfl ?_
  refine xB.c1 92 [.int y, .int 4] [] (c_in _ L mi ml y 4 ) rfl ?_
  refine xB.bz (0 ≤ y ∧ y < 4) (42, [(0, .ref 32), (1, .int 2), (2, .int x), (3, .int y)], [], XM L mi ml) (16, [(0, .ref 32), (1, .int 2), (2, .int x), (3, .int y)], [], XM L mi ml) rfl (fun h1 => ?_) (fun h1 => ?_)
  · refine xB.go 1 (43, [(0, .ref 32), (1, .int 2), (2, .int x), (3, .int y)], [.int 0], XM L mi ml) rfl ?_
    refine xB.rt (some (.int 0)) mi ml rfl ?_
    have hg : ¬ ((0 ≤ x ∧ x < 4) ∧ (0 ≤ y ∧ y < 4)) := fun z => h1 z.2
    exact ⟨by rw [xb_f hg], by rw [if_neg hg], rfl⟩
  · refine xB.go 7 (36, [(0, .ref 32), (1, .int 2), (2, .int x), (3, .int y)], [.int 4, .int x], XM L mi ml) rfl ?_
    refine xB.c1 92 [.int x, .int 4] [] (c_in _ L mi ml x 4 ) rfl ?_
    refine xB.bn (0 ≤ x ∧ x < 4) (44, [(0, .ref 32), (1, .int 2), (2, .int x), (3, .int y)], [], XM L mi ml) (42, [(0, .ref 32), (1, .int 2), (2, .int x), (3, .int y)], [], XM L mi ml) rfl (fun h2 => ?_) (fun h2 => ?_)
    · refine xB.go 11 (73, [(0, .ref 32), (1, .int 2), (2, .int x), (3, .int y)], [.int y, .int (10 + x), .ref 35], XM L mi ml) rfl ?_
      refine xB.ck (xin (10 + x) 14) (74, [(0, .ref 32), (1, .int 2), (2, .int x), (3, .int y)], [], XM L (xU mi 35 (10 + x).toNatClampNeg y) ml) rfl (ixk 10 (m := 4) h2 (by decide) (by decide)) ?_
      refine xB.go 4 (80, [(0, .ref 32), (1, .int 2), (2, .int x), (3, .int y)], [.int 1], XM L (xU (xU mi 35 (10 + x).toNatClampNeg y) 32 10 0) ml) rfl ?_
      refine xB.rt (some (.int 1)) (xU (xU mi 35 (10 + x).toNatClampNeg y) 32 10 0) ml rfl ?_
      have hg : (0 ≤ x ∧ x < 4) ∧ (0 ≤ y ∧ y < 4) := ⟨h2, h1⟩
      exact ⟨by rw [xb_t hg], by rw [if_pos hg]; rw [show (10 : Int32) = nI 10 from rfl, ixc 10 (m := 4) hg.1 (by decide)], rfl⟩
    · refine xB.go 1 (43, [(0, .ref 32), (1, .int 2), (2, .int x), (3, .int y)], [.int 0], XM L mi ml) rfl ?_
      refine xB.rt (some (.int 0)) mi ml rfl ?_
      have hg : ¬ ((0 ≤ x ∧ x < 4) ∧ (0 ≤ y ∧ y < 4)) := fun z => h2 z.1
      exact ⟨by rw [xb_f hg], by rw [if_neg hg], rfl⟩
set_option maxRecDepth 100000 in
set_option maxHeartbeats 1000000 in
theorem c_mlevelN (d L : Nat) (mi : xmi) (ml : xml) {w : Int32} (g0 : ¬ w = 0) (g1 : ¬ w = 1) (g2 : ¬ w = 2) (x y : Int32) : xFv (d + 2) 96 [.ref 32, .int w, .int x, .int y] L mi ml (.int 0) mi ml := by
  have hwn : ¬ (0 ≤ w ∧ w < 3) := fun z => by
    obtain ⟨j, hj, rfl⟩ := ix_j (m := 3) (by decide) z
    rcases (show j = 0 ∨ j = 1 ∨ j = 2 by omega) with rfl | rfl | rfl
    · exact g0 rfl
    · exact g1 rfl
    · exact g2 rfl
  refine xF.mk mX9_level rfl rfl ?_
  refine xB.go 2 (2, [(0, .ref 32), (1, .int w), (2, .int x), (3, .int y)], [.int 3, .int w], XM L mi ml) rfl ?_
  refine xB.c1 92 [.int w, .int 3] [] (c_in0 _ L _ _ hwn) rfl ?_
  refine xB.go 2 (43, [(0, .ref 32), (1, .int w), (2, .int x), (3, .int y)], [.int 0], XM L mi ml) rfl ?_
  refine xB.rt (some (.int 0)) mi ml rfl ?_
  exact ⟨rfl, rfl, rfl⟩
set_option maxRecDepth 100000 in
theorem c_mlet0 (d L : Nat) (mi : xmi) (ml : xml) (x y : Int32)  : xFv (d + 2) 121 [.ref 32, .int 0, .int x, .int y] L mi ml (.int (xb (0 ≤ x ∧ x < 8))) (if 0 ≤ x ∧ x < 8 then xU mi 36 (0 + x.toNatClampNeg) y else mi) ml := by
  refine xF.mk mX9_let rfl rfl ?_
  refine xB.go 2 (2, [(0, .ref 32), (1, .int 0), (2, .int x), (3, .int y)], [.int 2, .int 0], XM L mi ml) rfl ?_
  refine xB.c1 92 [.int 0, .int 2] [] (c_in1 _ L _ _ (by decide)) rfl ?_
  refine xB.go 3 (11, [(0, .ref 32), (1, .int 0), (2, .int x), (3, .int y)], [.int 8, .int x], XM L mi ml) rfl ?_
  refine xB.c1 92 [.int x, .int 8] [] (c_in _ L mi ml x 8 ) rfl ?_
  refine xB.bn (0 ≤ x ∧ x < 8) (19, [(0, .ref 32), (1, .int 0), (2, .int x), (3, .int y)], [], XM L mi ml) (17, [(0, .ref 32), (1, .int 0), (2, .int x), (3, .int y)], [], XM L mi ml) rfl (fun h1 => ?_) (fun h1 => ?_)
  · refine xB.go 8 (30, [(0, .ref 32), (1, .int 0), (2, .int x), (3, .int y)], [.int y, .int (0 + x), .ref 36], XM L mi ml) rfl ?_
    refine xB.ck (xin (0 + x) 48) (31, [(0, .ref 32), (1, .int 0), (2, .int x), (3, .int y)], [], XM L (xU mi 36 (0 + x).toNatClampNeg y) ml) rfl (ixk 0 (m := 8) h1 (by decide) (by decide)) ?_
    refine xB.go 1 (32, [(0, .ref 32), (1, .int 0), (2, .int x), (3, .int y)], [.int 1], XM L (xU mi 36 (0 + x).toNatClampNeg y) ml) rfl ?_
    refine xB.rt (some (.int 1)) (xU mi 36 (0 + x).toNatClampNeg y) ml rfl ?_
    exact ⟨by rw [xb_t h1], by rw [if_pos h1, show (0 : Int32) = nI 0 from rfl, ixc 0 (m := 8) h1 (by decide)], rfl⟩
  · refine xB.go 1 (18, [(0, .ref 32), (1, .int 0), (2, .int x), (3, .int y)], [.int 0], XM L mi ml) rfl ?_
    refine xB.rt (some (.int 0)) mi ml rfl ?_
    exact ⟨by rw [xb_f h1], by rw [if_neg h1], rfl⟩
theorem mlay_i0 {x y : Int32} (hx : 0 ≤ x ∧ x < 2) (hy : 0 ≤ y ∧ y < 8) : 8 + 8 * x + y = nI (0 + (8 + 8 * x.toNatClampNeg + ix7 y)) ∧ 0 + (8 + 8 * x.toNatClampNeg + ix7 y) < 48 := by
  obtain ⟨t, ht, rfl⟩ := ix_j (m := 2) (by decide) hx
  obtain ⟨j, hj, rfl⟩ := ix_j (m := 8) (by decide) hy
  have key : ∀ t, t < 2 → ∀ j, j < 8 → 8 + 8 * nI t + nI j = nI (0 + (8 + 8 * t + ix7 (nI j))) ∧ 0 + (8 + 8 * t + ix7 (nI j)) < 48 := by decide +kernel
  rw [nI_clamp (show t < 2 ^ 31 by omega)]
  exact key t ht j hj
set_option maxRecDepth 100000 in
theorem c_mlay0 (d L : Nat) (mi : xmi) (ml : xml) (x y v : Int32)  : xFv (d + 2) 122 [.ref 32, .int 0, .int x, .int y, .int v] L mi ml (.int (xb ((0 ≤ x ∧ x < 2) ∧ (0 ≤ y ∧ y < 8)))) (if (0 ≤ x ∧ x < 2) ∧ (0 ≤ y ∧ y < 8) then xU mi 36 (0 + (8 + 8 * x.toNatClampNeg + ix7 y)) v else mi) ml := by
  refine xF.mk mX9_lay rfl rfl ?_
  refine xB.go 2 (2, [(0, .ref 32), (1, .int 0), (2, .int x), (3, .int y), (4, .int v)], [.int 2, .int 0], XM L mi ml) rfl ?_
  refine xB.c1 92 [.int 0, .int 2] [] (c_in1 _ L _ _ (by decide)) rfl ?_
  refine xB.go 3 (10, [(0, .ref 32), (1, .int 0), (2, .int x), (3, .int y), (4, .int v)], [.int 2, .int x], XM L mi ml) rfl ?_
  refine xB.c1 92 [.int x, .int 2] [] (c_in _ L mi ml x 2 ) rfl ?_
  refine xB.bz (0 ≤ x ∧ x < 2) (25, [(0, .ref 32), (1, .int 0), (2, .int x), (3, .int y), (4, .int v)], [], XM L mi ml) (16, [(0, .ref 32), (1, .int 0), (2, .int x), (3, .int y), (4, .int v)], [], XM L mi ml) rfl (fun h1 => ?_) (fun h1 => ?_)
  · refine xB.go 1 (26, [(0, .ref 32), (1, .int 0), (2, .int x), (3, .int y), (4, .int v)], [.int 0], XM L mi ml) rfl ?_
    refine xB.rt (some (.int 0)) mi ml rfl ?_
    have hg : ¬ ((0 ≤ x ∧ x < 2) ∧ (0 ≤ y ∧ y < 8)) := fun z => h1 z.1
    exact ⟨by rw [xb_f hg], by rw [if_neg hg], rfl⟩
  · refine xB.go 2 (19, [(0, .ref 32), (1, .int 0), (2, .int x), (3, .int y), (4, .int v)], [.int 8, .int y], XM L mi ml) rfl ?_
    refine xB.c1 92 [.int y, .int 8] [] (c_in _ L mi ml y 8 ) rfl ?_
    refine xB.bn (0 ≤ y ∧ y < 8) (27, [(0, .ref 32), (1, .int 0), (2, .int x), (3, .int y), (4, .int v)], [], XM L mi ml) (25, [(0, .ref 32), (1, .int 0), (2, .int x), (3, .int y), (4, .int v)], [], XM L mi ml) rfl (fun h2 => ?_) (fun h2 => ?_)
    · refine xB.go 14 (47, [(0, .ref 32), (1, .int 0), (2, .int x), (3, .int y), (4, .int v)], [.int v, .int ((8 + (8 * x)) + y), .ref 36], XM L mi ml) rfl ?_
      refine xB.ck (xin ((8 + (8 * x)) + y) 48) (48, [(0, .ref 32), (1, .int 0), (2, .int x), (3, .int y), (4, .int v)], [], XM L (xU mi 36 ((8 + (8 * x)) + y).toNatClampNeg v) ml) rfl (xin_of (mlay_i0 h1 h2).2 (by decide) (mlay_i0 h1 h2).1) ?_
      refine xB.go 1 (49, [(0, .ref 32), (1, .int 0), (2, .int x), (3, .int y), (4, .int v)], [.int 1], XM L (xU mi 36 ((8 + (8 * x)) + y).toNatClampNeg v) ml) rfl ?_
      refine xB.rt (some (.int 1)) (xU mi 36 ((8 + (8 * x)) + y).toNatClampNeg v) ml rfl ?_
      have hg : (0 ≤ x ∧ x < 2) ∧ (0 ≤ y ∧ y < 8) := ⟨h1, h2⟩
      exact ⟨by rw [xb_t hg], by rw [if_pos hg, (mlay_i0 hg.1 hg.2).1, nI_clamp (by have := (mlay_i0 hg.1 hg.2).2; omega)], rfl⟩
    · refine xB.go 1 (26, [(0, .ref 32), (1, .int 0), (2, .int x), (3, .int y), (4, .int v)], [.int 0], XM L mi ml) rfl ?_
      refine xB.rt (some (.int 0)) mi ml rfl ?_
      have hg : ¬ ((0 ≤ x ∧ x < 2) ∧ (0 ≤ y ∧ y < 8)) := fun z => h2 z.2
      exact ⟨by rw [xb_f hg], by rw [if_neg hg], rfl⟩
set_option maxRecDepth 100000 in
theorem c_mmemory0 (d L : Nat) (mi : xmi) (ml : xml) (x : Int32)  : xFv (d + 2) 133 [.ref 32, .int 0, .int x] L mi ml (.int (if 0 ≤ x ∧ x < 24 then mi 36 (0 + x.toNatClampNeg) else 0)) mi ml := by
  refine xF.mk mX9_memory rfl rfl ?_
  refine xB.go 2 (2, [(0, .ref 32), (1, .int 0), (2, .int x)], [.int 2, .int 0], XM L mi ml) rfl ?_
  refine xB.c1 92 [.int 0, .int 2] [] (c_in1 _ L _ _ (by decide)) rfl ?_
  refine xB.go 3 (11, [(0, .ref 32), (1, .int 0), (2, .int x)], [.int 24, .int x], XM L mi ml) rfl ?_
  refine xB.c1 92 [.int x, .int 24] [] (c_in _ L mi ml x 24 ) rfl ?_
  refine xB.bz (0 ≤ x ∧ x < 24) (31, [(0, .ref 32), (1, .int 0), (2, .int x)], [], XM L mi ml) (17, [(0, .ref 32), (1, .int 0), (2, .int x)], [], XM L mi ml) rfl (fun h1 => ?_) (fun h1 => ?_)
  · refine xB.go 1 (32, [(0, .ref 32), (1, .int 0), (2, .int x)], [.int 0], XM L mi ml) rfl ?_
    refine xB.rt (some (.int 0)) mi ml rfl ?_
    exact ⟨by rw [if_neg h1], rfl, rfl⟩
  · refine xB.go 7 (27, [(0, .ref 32), (1, .int 0), (2, .int x)], [.int (0 + x), .ref 36], XM L mi ml) rfl ?_
    refine xB.ck (xin (0 + x) 48) (28, [(0, .ref 32), (1, .int 0), (2, .int x)], [.int (mi 36 (0 + x).toNatClampNeg)], XM L mi ml) rfl (ixk 0 (m := 24) h1 (by decide) (by decide)) ?_
    refine xB.go 1 (32, [(0, .ref 32), (1, .int 0), (2, .int x)], [.int (mi 36 (0 + x).toNatClampNeg)], XM L mi ml) rfl ?_
    refine xB.rt (some (.int (mi 36 (0 + x).toNatClampNeg))) mi ml rfl ?_
    exact ⟨by rw [if_pos h1, show (0 : Int32) = nI 0 from rfl, ixc 0 (m := 24) h1 (by decide)], rfl, rfl⟩
set_option maxRecDepth 100000 in
theorem c_mran0 (d L : Nat) (mi : xmi) (ml : xml) (y : Int32) (hb3 : mi 44 0 = 0 ∨ mi 44 0 = 1) : xFv (d + 2) 128 [.ref 32, .int 0, .int y] L mi ml (.int (if mi 43 0 = 0 then -1 else if y = 0 then mi 44 0 else if y = 1 then mi 45 0 else -1)) mi ml := by
  refine xF.mk mX9_ran rfl rfl ?_
  refine xB.go 2 (2, [(0, .ref 32), (1, .int 0), (2, .int y)], [.int 2, .int 0], XM L mi ml) rfl ?_
  refine xB.c1 92 [.int 0, .int 2] [] (c_in1 _ L _ _ (by decide)) rfl ?_
  refine xB.go 5 (14, [(0, .ref 32), (1, .int 0), (2, .int y)], [.int (mi 43 0)], XM L mi ml) rfl ?_
  refine xB.bp ((mi 43 0) = 0) (25, [(0, .ref 32), (1, .int 0), (2, .int y)], [], XM L mi ml) (17, [(0, .ref 32), (1, .int 0), (2, .int y)], [], XM L mi ml) rfl (fun h1 => ?_) (fun h1 => ?_)
  · refine xB.go 1 (26, [(0, .ref 32), (1, .int 0), (2, .int y)], [.int (-1)], XM L mi ml) rfl ?_
    refine xB.rt (some (.int (-1))) mi ml rfl ?_
    refine ⟨?_, rfl, rfl⟩
    rw [if_pos h1]
  · refine xB.go 2 (19, [(0, .ref 32), (1, .int 0), (2, .int y)], [.int 2, .int y], XM L mi ml) rfl ?_
    refine xB.c1 92 [.int y, .int 2] [] (c_in _ L mi ml y 2 ) rfl ?_
    refine xB.bn (0 ≤ y ∧ y < 2) (27, [(0, .ref 32), (1, .int 0), (2, .int y)], [], XM L mi ml) (25, [(0, .ref 32), (1, .int 0), (2, .int y)], [], XM L mi ml) rfl (fun h2 => ?_) (fun h2 => ?_)
    · refine xB.go 2 (29, [(0, .ref 32), (1, .int 0), (2, .int y)], [.int 1, .int y], XM L mi ml) rfl ?_
      refine xB.bp (¬ y = 1) (41, [(0, .ref 32), (1, .int 0), (2, .int y)], [], XM L mi ml) (32, [(0, .ref 32), (1, .int 0), (2, .int y)], [], XM L mi ml) rfl (fun h3 => ?_) (fun h3 => ?_)
      · refine xB.go 4 (47, [(0, .ref 32), (1, .int 0), (2, .int y)], [.int (mi 44 0)], XM L mi ml) rfl ?_
        refine xB.bp ((mi 44 0) = 0) (54, [(0, .ref 32), (1, .int 0), (2, .int y)], [], XM L mi ml) (50, [(0, .ref 32), (1, .int 0), (2, .int y)], [], XM L mi ml) rfl (fun h4 => ?_) (fun h4 => ?_)
        · refine xB.go 1 (55, [(0, .ref 32), (1, .int 0), (2, .int y)], [.int 0], XM L mi ml) rfl ?_
          refine xB.rt (some (.int 0)) mi ml rfl ?_
          refine ⟨?_, rfl, rfl⟩
          rw [if_neg h1]
          have hy : y = 0 := by
            obtain ⟨j, hj, rfl⟩ := ix_j (m := 2) (by decide) h2
            rcases (show j = 0 ∨ j = 1 by omega) with rfl | rfl
            · rfl
            · exact absurd rfl h3
          rw [if_pos hy]
          rw [h4]
        · refine xB.go 2 (55, [(0, .ref 32), (1, .int 0), (2, .int y)], [.int 1], XM L mi ml) rfl ?_
          refine xB.rt (some (.int 1)) mi ml rfl ?_
          refine ⟨?_, rfl, rfl⟩
          rw [if_neg h1]
          have hy : y = 0 := by
            obtain ⟨j, hj, rfl⟩ := ix_j (m := 2) (by decide) h2
            rcases (show j = 0 ∨ j = 1 by omega) with rfl | rfl
            · rfl
            · exact absurd rfl h3
          rw [if_pos hy]
          rw [hb3.resolve_left h4]
      · refine xB.go 5 (55, [(0, .ref 32), (1, .int 0), (2, .int y)], [.int (mi 45 0)], XM L mi ml) rfl ?_
        refine xB.rt (some (.int (mi 45 0))) mi ml rfl ?_
        refine ⟨?_, rfl, rfl⟩
        rw [if_neg h1]
        obtain rfl := Classical.not_not.mp h3
        rw [if_neg (by decide), if_pos rfl]
    · refine xB.go 1 (26, [(0, .ref 32), (1, .int 0), (2, .int y)], [.int (-1)], XM L mi ml) rfl ?_
      refine xB.rt (some (.int (-1))) mi ml rfl ?_
      refine ⟨?_, rfl, rfl⟩
      rw [if_neg h1]
      rw [if_neg (fun z => h2 (by rw [z]; decide)), if_neg (fun z => h2 (by rw [z]; decide))]
set_option maxRecDepth 100000 in
theorem c_mout0 (d L : Nat) (mi : xmi) (ml : xml) (x y : Int32)  : xFv (d + 2) 129 [.ref 32, .int 0, .int x, .int y] L mi ml (.int (if (0 ≤ x ∧ x < 64) ∧ ¬ mi 45 0 ≤ x ∧ (0 ≤ y ∧ y < 2) then (if y = 0 then mi 46 (0 + x.toNatClampNeg) else mi 47 (0 + x.toNatClampNeg)) else 0)) mi ml := by
  refine xF.mk mX9_out rfl rfl ?_
  refine xB.go 2 (2, [(0, .ref 32), (1, .int 0), (2, .int x), (3, .int y)], [.int 2, .int 0], XM L mi ml) rfl ?_
  refine xB.c1 92 [.int 0, .int 2] [] (c_in1 _ L _ _ (by decide)) rfl ?_
  refine xB.go 3 (11, [(0, .ref 32), (1, .int 0), (2, .int x), (3, .int y)], [.int 64, .int x], XM L mi ml) rfl ?_
  refine xB.c1 92 [.int x, .int 64] [] (c_in _ L mi ml x 64 ) rfl ?_
  refine xB.bz (0 ≤ x ∧ x < 64) (35, [(0, .ref 32), (1, .int 0), (2, .int x), (3, .int y)], [], XM L mi ml) (17, [(0, .ref 32), (1, .int 0), (2, .int x), (3, .int y)], [], XM L mi ml) rfl (fun h1 => ?_) (fun h1 => ?_)
  · refine xB.go 1 (36, [(0, .ref 32), (1, .int 0), (2, .int x), (3, .int y)], [.int 0], XM L mi ml) rfl ?_
    refine xB.rt (some (.int 0)) mi ml rfl ?_
    have hg : ¬ ((0 ≤ x ∧ x < 64) ∧ ¬ mi 45 0 ≤ x ∧ (0 ≤ y ∧ y < 2)) := fun z => h1 z.1
    exact ⟨by rw [if_neg hg], rfl, rfl⟩
  · refine xB.go 5 (24, [(0, .ref 32), (1, .int 0), (2, .int x), (3, .int y)], [.int (mi 45 0), .int x], XM L mi ml) rfl ?_
    refine xB.bp ((mi 45 0) ≤ x) (35, [(0, .ref 32), (1, .int 0), (2, .int x), (3, .int y)], [], XM L mi ml) (27, [(0, .ref 32), (1, .int 0), (2, .int x), (3, .int y)], [], XM L mi ml) rfl (fun h2 => ?_) (fun h2 => ?_)
    · refine xB.go 1 (36, [(0, .ref 32), (1, .int 0), (2, .int x), (3, .int y)], [.int 0], XM L mi ml) rfl ?_
      refine xB.rt (some (.int 0)) mi ml rfl ?_
      have hg : ¬ ((0 ≤ x ∧ x < 64) ∧ ¬ mi 45 0 ≤ x ∧ (0 ≤ y ∧ y < 2)) := fun z => z.2.1 h2
      exact ⟨by rw [if_neg hg], rfl, rfl⟩
    · refine xB.go 2 (29, [(0, .ref 32), (1, .int 0), (2, .int x), (3, .int y)], [.int 2, .int y], XM L mi ml) rfl ?_
      refine xB.c1 92 [.int y, .int 2] [] (c_in _ L mi ml y 2 ) rfl ?_
      refine xB.bn (0 ≤ y ∧ y < 2) (37, [(0, .ref 32), (1, .int 0), (2, .int x), (3, .int y)], [], XM L mi ml) (35, [(0, .ref 32), (1, .int 0), (2, .int x), (3, .int y)], [], XM L mi ml) rfl (fun h3 => ?_) (fun h3 => ?_)
      · refine xB.go 1 (38, [(0, .ref 32), (1, .int 0), (2, .int x), (3, .int y)], [.int y], XM L mi ml) rfl ?_
        refine xB.bp (¬ y = 0) (55, [(0, .ref 32), (1, .int 0), (2, .int x), (3, .int y)], [], XM L mi ml) (41, [(0, .ref 32), (1, .int 0), (2, .int x), (3, .int y)], [], XM L mi ml) rfl (fun h4 => ?_) (fun h4 => ?_)
        · refine xB.go 7 (65, [(0, .ref 32), (1, .int 0), (2, .int x), (3, .int y)], [.int (0 + x), .ref 47], XM L mi ml) rfl ?_
          refine xB.ck (xin (0 + x) 128) (66, [(0, .ref 32), (1, .int 0), (2, .int x), (3, .int y)], [.int (mi 47 (0 + x).toNatClampNeg)], XM L mi ml) rfl (ixk 0 (m := 64) h1 (by decide) (by decide)) ?_
          refine xB.rt (some (.int (mi 47 (0 + x).toNatClampNeg))) mi ml rfl ?_
          have hg : (0 ≤ x ∧ x < 64) ∧ ¬ mi 45 0 ≤ x ∧ (0 ≤ y ∧ y < 2) := ⟨h1, h2, h3⟩
          exact ⟨by rw [if_pos hg, if_neg h4, show (0 : Int32) = nI 0 from rfl, ixc 0 (m := 64) hg.1 (by decide)], rfl, rfl⟩
        · refine xB.go 7 (51, [(0, .ref 32), (1, .int 0), (2, .int x), (3, .int y)], [.int (0 + x), .ref 46], XM L mi ml) rfl ?_
          refine xB.ck (xin (0 + x) 128) (52, [(0, .ref 32), (1, .int 0), (2, .int x), (3, .int y)], [.int (mi 46 (0 + x).toNatClampNeg)], XM L mi ml) rfl (ixk 0 (m := 64) h1 (by decide) (by decide)) ?_
          refine xB.go 1 (66, [(0, .ref 32), (1, .int 0), (2, .int x), (3, .int y)], [.int (mi 46 (0 + x).toNatClampNeg)], XM L mi ml) rfl ?_
          refine xB.rt (some (.int (mi 46 (0 + x).toNatClampNeg))) mi ml rfl ?_
          have hg : (0 ≤ x ∧ x < 64) ∧ ¬ mi 45 0 ≤ x ∧ (0 ≤ y ∧ y < 2) := ⟨h1, h2, h3⟩
          exact ⟨by rw [if_pos hg, if_pos (Classical.not_not.mp h4), show (0 : Int32) = nI 0 from rfl, ixc 0 (m := 64) hg.1 (by decide)], rfl, rfl⟩
      · refine xB.go 1 (36, [(0, .ref 32), (1, .int 0), (2, .int x), (3, .int y)], [.int 0], XM L mi ml) rfl ?_
        refine xB.rt (some (.int 0)) mi ml rfl ?_
        have hg : ¬ ((0 ≤ x ∧ x < 64) ∧ ¬ mi 45 0 ≤ x ∧ (0 ≤ y ∧ y < 2)) := fun z => h3 z.2.2
        exact ⟨by rw [if_neg hg], rfl, rfl⟩
set_option maxRecDepth 100000 in
theorem c_mlet1 (d L : Nat) (mi : xmi) (ml : xml) (x y : Int32)  : xFv (d + 2) 121 [.ref 32, .int 1, .int x, .int y] L mi ml (.int (xb (0 ≤ x ∧ x < 8))) (if 0 ≤ x ∧ x < 8 then xU mi 36 (24 + x.toNatClampNeg) y else mi) ml := by
  refine xF.mk mX9_let rfl rfl ?_
  refine xB.go 2 (2, [(0, .ref 32), (1, .int 1), (2, .int x), (3, .int y)], [.int 2, .int 1], XM L mi ml) rfl ?_
  refine xB.c1 92 [.int 1, .int 2] [] (c_in1 _ L _ _ (by decide)) rfl ?_
  refine xB.go 3 (11, [(0, .ref 32), (1, .int 1), (2, .int x), (3, .int y)], [.int 8, .int x], XM L mi ml) rfl ?_
  refine xB.c1 92 [.int x, .int 8] [] (c_in _ L mi ml x 8 ) rfl ?_
  refine xB.bn (0 ≤ x ∧ x < 8) (19, [(0, .ref 32), (1, .int 1), (2, .int x), (3, .int y)], [], XM L mi ml) (17, [(0, .ref 32), (1, .int 1), (2, .int x), (3, .int y)], [], XM L mi ml) rfl (fun h1 => ?_) (fun h1 => ?_)
  · refine xB.go 8 (30, [(0, .ref 32), (1, .int 1), (2, .int x), (3, .int y)], [.int y, .int (24 + x), .ref 36], XM L mi ml) rfl ?_
    refine xB.ck (xin (24 + x) 48) (31, [(0, .ref 32), (1, .int 1), (2, .int x), (3, .int y)], [], XM L (xU mi 36 (24 + x).toNatClampNeg y) ml) rfl (ixk 24 (m := 8) h1 (by decide) (by decide)) ?_
    refine xB.go 1 (32, [(0, .ref 32), (1, .int 1), (2, .int x), (3, .int y)], [.int 1], XM L (xU mi 36 (24 + x).toNatClampNeg y) ml) rfl ?_
    refine xB.rt (some (.int 1)) (xU mi 36 (24 + x).toNatClampNeg y) ml rfl ?_
    exact ⟨by rw [xb_t h1], by rw [if_pos h1, show (24 : Int32) = nI 24 from rfl, ixc 24 (m := 8) h1 (by decide)], rfl⟩
  · refine xB.go 1 (18, [(0, .ref 32), (1, .int 1), (2, .int x), (3, .int y)], [.int 0], XM L mi ml) rfl ?_
    refine xB.rt (some (.int 0)) mi ml rfl ?_
    exact ⟨by rw [xb_f h1], by rw [if_neg h1], rfl⟩
theorem mlay_i1 {x y : Int32} (hx : 0 ≤ x ∧ x < 2) (hy : 0 ≤ y ∧ y < 8) : 32 + 8 * x + y = nI (24 + (8 + 8 * x.toNatClampNeg + ix7 y)) ∧ 24 + (8 + 8 * x.toNatClampNeg + ix7 y) < 48 := by
  obtain ⟨t, ht, rfl⟩ := ix_j (m := 2) (by decide) hx
  obtain ⟨j, hj, rfl⟩ := ix_j (m := 8) (by decide) hy
  have key : ∀ t, t < 2 → ∀ j, j < 8 → 32 + 8 * nI t + nI j = nI (24 + (8 + 8 * t + ix7 (nI j))) ∧ 24 + (8 + 8 * t + ix7 (nI j)) < 48 := by decide +kernel
  rw [nI_clamp (show t < 2 ^ 31 by omega)]
  exact key t ht j hj
set_option maxRecDepth 100000 in
theorem c_mlay1 (d L : Nat) (mi : xmi) (ml : xml) (x y v : Int32)  : xFv (d + 2) 122 [.ref 32, .int 1, .int x, .int y, .int v] L mi ml (.int (xb ((0 ≤ x ∧ x < 2) ∧ (0 ≤ y ∧ y < 8)))) (if (0 ≤ x ∧ x < 2) ∧ (0 ≤ y ∧ y < 8) then xU mi 36 (24 + (8 + 8 * x.toNatClampNeg + ix7 y)) v else mi) ml := by
  refine xF.mk mX9_lay rfl rfl ?_
  refine xB.go 2 (2, [(0, .ref 32), (1, .int 1), (2, .int x), (3, .int y), (4, .int v)], [.int 2, .int 1], XM L mi ml) rfl ?_
  refine xB.c1 92 [.int 1, .int 2] [] (c_in1 _ L _ _ (by decide)) rfl ?_
  refine xB.go 3 (10, [(0, .ref 32), (1, .int 1), (2, .int x), (3, .int y), (4, .int v)], [.int 2, .int x], XM L mi ml) rfl ?_
  refine xB.c1 92 [.int x, .int 2] [] (c_in _ L mi ml x 2 ) rfl ?_
  refine xB.bz (0 ≤ x ∧ x < 2) (25, [(0, .ref 32), (1, .int 1), (2, .int x), (3, .int y), (4, .int v)], [], XM L mi ml) (16, [(0, .ref 32), (1, .int 1), (2, .int x), (3, .int y), (4, .int v)], [], XM L mi ml) rfl (fun h1 => ?_) (fun h1 => ?_)
  · refine xB.go 1 (26, [(0, .ref 32), (1, .int 1), (2, .int x), (3, .int y), (4, .int v)], [.int 0], XM L mi ml) rfl ?_
    refine xB.rt (some (.int 0)) mi ml rfl ?_
    have hg : ¬ ((0 ≤ x ∧ x < 2) ∧ (0 ≤ y ∧ y < 8)) := fun z => h1 z.1
    exact ⟨by rw [xb_f hg], by rw [if_neg hg], rfl⟩
  · refine xB.go 2 (19, [(0, .ref 32), (1, .int 1), (2, .int x), (3, .int y), (4, .int v)], [.int 8, .int y], XM L mi ml) rfl ?_
    refine xB.c1 92 [.int y, .int 8] [] (c_in _ L mi ml y 8 ) rfl ?_
    refine xB.bn (0 ≤ y ∧ y < 8) (27, [(0, .ref 32), (1, .int 1), (2, .int x), (3, .int y), (4, .int v)], [], XM L mi ml) (25, [(0, .ref 32), (1, .int 1), (2, .int x), (3, .int y), (4, .int v)], [], XM L mi ml) rfl (fun h2 => ?_) (fun h2 => ?_)
    · refine xB.go 14 (47, [(0, .ref 32), (1, .int 1), (2, .int x), (3, .int y), (4, .int v)], [.int v, .int ((32 + (8 * x)) + y), .ref 36], XM L mi ml) rfl ?_
      refine xB.ck (xin ((32 + (8 * x)) + y) 48) (48, [(0, .ref 32), (1, .int 1), (2, .int x), (3, .int y), (4, .int v)], [], XM L (xU mi 36 ((32 + (8 * x)) + y).toNatClampNeg v) ml) rfl (xin_of (mlay_i1 h1 h2).2 (by decide) (mlay_i1 h1 h2).1) ?_
      refine xB.go 1 (49, [(0, .ref 32), (1, .int 1), (2, .int x), (3, .int y), (4, .int v)], [.int 1], XM L (xU mi 36 ((32 + (8 * x)) + y).toNatClampNeg v) ml) rfl ?_
      refine xB.rt (some (.int 1)) (xU mi 36 ((32 + (8 * x)) + y).toNatClampNeg v) ml rfl ?_
      have hg : (0 ≤ x ∧ x < 2) ∧ (0 ≤ y ∧ y < 8) := ⟨h1, h2⟩
      exact ⟨by rw [xb_t hg], by rw [if_pos hg, (mlay_i1 hg.1 hg.2).1, nI_clamp (by have := (mlay_i1 hg.1 hg.2).2; omega)], rfl⟩
    · refine xB.go 1 (26, [(0, .ref 32), (1, .int 1), (2, .int x), (3, .int y), (4, .int v)], [.int 0], XM L mi ml) rfl ?_
      refine xB.rt (some (.int 0)) mi ml rfl ?_
      have hg : ¬ ((0 ≤ x ∧ x < 2) ∧ (0 ≤ y ∧ y < 8)) := fun z => h2 z.2
      exact ⟨by rw [xb_f hg], by rw [if_neg hg], rfl⟩
set_option maxRecDepth 100000 in
theorem c_mmemory1 (d L : Nat) (mi : xmi) (ml : xml) (x : Int32)  : xFv (d + 2) 133 [.ref 32, .int 1, .int x] L mi ml (.int (if 0 ≤ x ∧ x < 24 then mi 36 (24 + x.toNatClampNeg) else 0)) mi ml := by
  refine xF.mk mX9_memory rfl rfl ?_
  refine xB.go 2 (2, [(0, .ref 32), (1, .int 1), (2, .int x)], [.int 2, .int 1], XM L mi ml) rfl ?_
  refine xB.c1 92 [.int 1, .int 2] [] (c_in1 _ L _ _ (by decide)) rfl ?_
  refine xB.go 3 (11, [(0, .ref 32), (1, .int 1), (2, .int x)], [.int 24, .int x], XM L mi ml) rfl ?_
  refine xB.c1 92 [.int x, .int 24] [] (c_in _ L mi ml x 24 ) rfl ?_
  refine xB.bz (0 ≤ x ∧ x < 24) (31, [(0, .ref 32), (1, .int 1), (2, .int x)], [], XM L mi ml) (17, [(0, .ref 32), (1, .int 1), (2, .int x)], [], XM L mi ml) rfl (fun h1 => ?_) (fun h1 => ?_)
  · refine xB.go 1 (32, [(0, .ref 32), (1, .int 1), (2, .int x)], [.int 0], XM L mi ml) rfl ?_
    refine xB.rt (some (.int 0)) mi ml rfl ?_
    exact ⟨by rw [if_neg h1], rfl, rfl⟩
  · refine xB.go 7 (27, [(0, .ref 32), (1, .int 1), (2, .int x)], [.int (24 + x), .ref 36], XM L mi ml) rfl ?_
    refine xB.ck (xin (24 + x) 48) (28, [(0, .ref 32), (1, .int 1), (2, .int x)], [.int (mi 36 (24 + x).toNatClampNeg)], XM L mi ml) rfl (ixk 24 (m := 24) h1 (by decide) (by decide)) ?_
    refine xB.go 1 (32, [(0, .ref 32), (1, .int 1), (2, .int x)], [.int (mi 36 (24 + x).toNatClampNeg)], XM L mi ml) rfl ?_
    refine xB.rt (some (.int (mi 36 (24 + x).toNatClampNeg))) mi ml rfl ?_
    exact ⟨by rw [if_pos h1, show (24 : Int32) = nI 24 from rfl, ixc 24 (m := 24) h1 (by decide)], rfl, rfl⟩
set_option maxRecDepth 100000 in
theorem c_mran1 (d L : Nat) (mi : xmi) (ml : xml) (y : Int32) (hb3 : mi 44 1 = 0 ∨ mi 44 1 = 1) : xFv (d + 2) 128 [.ref 32, .int 1, .int y] L mi ml (.int (if mi 43 1 = 0 then -1 else if y = 0 then mi 44 1 else if y = 1 then mi 45 1 else -1)) mi ml := by
  refine xF.mk mX9_ran rfl rfl ?_
  refine xB.go 2 (2, [(0, .ref 32), (1, .int 1), (2, .int y)], [.int 2, .int 1], XM L mi ml) rfl ?_
  refine xB.c1 92 [.int 1, .int 2] [] (c_in1 _ L _ _ (by decide)) rfl ?_
  refine xB.go 5 (14, [(0, .ref 32), (1, .int 1), (2, .int y)], [.int (mi 43 1)], XM L mi ml) rfl ?_
  refine xB.bp ((mi 43 1) = 0) (25, [(0, .ref 32), (1, .int 1), (2, .int y)], [], XM L mi ml) (17, [(0, .ref 32), (1, .int 1), (2, .int y)], [], XM L mi ml) rfl (fun h1 => ?_) (fun h1 => ?_)
  · refine xB.go 1 (26, [(0, .ref 32), (1, .int 1), (2, .int y)], [.int (-1)], XM L mi ml) rfl ?_
    refine xB.rt (some (.int (-1))) mi ml rfl ?_
    refine ⟨?_, rfl, rfl⟩
    rw [if_pos h1]
  · refine xB.go 2 (19, [(0, .ref 32), (1, .int 1), (2, .int y)], [.int 2, .int y], XM L mi ml) rfl ?_
    refine xB.c1 92 [.int y, .int 2] [] (c_in _ L mi ml y 2 ) rfl ?_
    refine xB.bn (0 ≤ y ∧ y < 2) (27, [(0, .ref 32), (1, .int 1), (2, .int y)], [], XM L mi ml) (25, [(0, .ref 32), (1, .int 1), (2, .int y)], [], XM L mi ml) rfl (fun h2 => ?_) (fun h2 => ?_)
    · refine xB.go 2 (29, [(0, .ref 32), (1, .int 1), (2, .int y)], [.int 1, .int y], XM L mi ml) rfl ?_
      refine xB.bp (¬ y = 1) (41, [(0, .ref 32), (1, .int 1), (2, .int y)], [], XM L mi ml) (32, [(0, .ref 32), (1, .int 1), (2, .int y)], [], XM L mi ml) rfl (fun h3 => ?_) (fun h3 => ?_)
      · refine xB.go 4 (47, [(0, .ref 32), (1, .int 1), (2, .int y)], [.int (mi 44 1)], XM L mi ml) rfl ?_
        refine xB.bp ((mi 44 1) = 0) (54, [(0, .ref 32), (1, .int 1), (2, .int y)], [], XM L mi ml) (50, [(0, .ref 32), (1, .int 1), (2, .int y)], [], XM L mi ml) rfl (fun h4 => ?_) (fun h4 => ?_)
        · refine xB.go 1 (55, [(0, .ref 32), (1, .int 1), (2, .int y)], [.int 0], XM L mi ml) rfl ?_
          refine xB.rt (some (.int 0)) mi ml rfl ?_
          refine ⟨?_, rfl, rfl⟩
          rw [if_neg h1]
          have hy : y = 0 := by
            obtain ⟨j, hj, rfl⟩ := ix_j (m := 2) (by decide) h2
            rcases (show j = 0 ∨ j = 1 by omega) with rfl | rfl
            · rfl
            · exact absurd rfl h3
          rw [if_pos hy]
          rw [h4]
        · refine xB.go 2 (55, [(0, .ref 32), (1, .int 1), (2, .int y)], [.int 1], XM L mi ml) rfl ?_
          refine xB.rt (some (.int 1)) mi ml rfl ?_
          refine ⟨?_, rfl, rfl⟩
          rw [if_neg h1]
          have hy : y = 0 := by
            obtain ⟨j, hj, rfl⟩ := ix_j (m := 2) (by decide) h2
            rcases (show j = 0 ∨ j = 1 by omega) with rfl | rfl
            · rfl
            · exact absurd rfl h3
          rw [if_pos hy]
          rw [hb3.resolve_left h4]
      · refine xB.go 5 (55, [(0, .ref 32), (1, .int 1), (2, .int y)], [.int (mi 45 1)], XM L mi ml) rfl ?_
        refine xB.rt (some (.int (mi 45 1))) mi ml rfl ?_
        refine ⟨?_, rfl, rfl⟩
        rw [if_neg h1]
        obtain rfl := Classical.not_not.mp h3
        rw [if_neg (by decide), if_pos rfl]
    · refine xB.go 1 (26, [(0, .ref 32), (1, .int 1), (2, .int y)], [.int (-1)], XM L mi ml) rfl ?_
      refine xB.rt (some (.int (-1))) mi ml rfl ?_
      refine ⟨?_, rfl, rfl⟩
      rw [if_neg h1]
      rw [if_neg (fun z => h2 (by rw [z]; decide)), if_neg (fun z => h2 (by rw [z]; decide))]
set_option maxRecDepth 100000 in
theorem c_mout1 (d L : Nat) (mi : xmi) (ml : xml) (x y : Int32)  : xFv (d + 2) 129 [.ref 32, .int 1, .int x, .int y] L mi ml (.int (if (0 ≤ x ∧ x < 64) ∧ ¬ mi 45 1 ≤ x ∧ (0 ≤ y ∧ y < 2) then (if y = 0 then mi 46 (64 + x.toNatClampNeg) else mi 47 (64 + x.toNatClampNeg)) else 0)) mi ml := by
  refine xF.mk mX9_out rfl rfl ?_
  refine xB.go 2 (2, [(0, .ref 32), (1, .int 1), (2, .int x), (3, .int y)], [.int 2, .int 1], XM L mi ml) rfl ?_
  refine xB.c1 92 [.int 1, .int 2] [] (c_in1 _ L _ _ (by decide)) rfl ?_
  refine xB.go 3 (11, [(0, .ref 32), (1, .int 1), (2, .int x), (3, .int y)], [.int 64, .int x], XM L mi ml) rfl ?_
  refine xB.c1 92 [.int x, .int 64] [] (c_in _ L mi ml x 64 ) rfl ?_
  refine xB.bz (0 ≤ x ∧ x < 64) (35, [(0, .ref 32), (1, .int 1), (2, .int x), (3, .int y)], [], XM L mi ml) (17, [(0, .ref 32), (1, .int 1), (2, .int x), (3, .int y)], [], XM L mi ml) rfl (fun h1 => ?_) (fun h1 => ?_)
  · refine xB.go 1 (36, [(0, .ref 32), (1, .int 1), (2, .int x), (3, .int y)], [.int 0], XM L mi ml) rfl ?_
    refine xB.rt (some (.int 0)) mi ml rfl ?_
    have hg : ¬ ((0 ≤ x ∧ x < 64) ∧ ¬ mi 45 1 ≤ x ∧ (0 ≤ y ∧ y < 2)) := fun z => h1 z.1
    exact ⟨by rw [if_neg hg], rfl, rfl⟩
  · refine xB.go 5 (24, [(0, .ref 32), (1, .int 1), (2, .int x), (3, .int y)], [.int (mi 45 1), .int x], XM L mi ml) rfl ?_
    refine xB.bp ((mi 45 1) ≤ x) (35, [(0, .ref 32), (1, .int 1), (2, .int x), (3, .int y)], [], XM L mi ml) (27, [(0, .ref 32), (1, .int 1), (2, .int x), (3, .int y)], [], XM L mi ml) rfl (fun h2 => ?_) (fun h2 => ?_)
    · refine xB.go 1 (36, [(0, .ref 32), (1, .int 1), (2, .int x), (3, .int y)], [.int 0], XM L mi ml) rfl ?_
      refine xB.rt (some (.int 0)) mi ml rfl ?_
      have hg : ¬ ((0 ≤ x ∧ x < 64) ∧ ¬ mi 45 1 ≤ x ∧ (0 ≤ y ∧ y < 2)) := fun z => z.2.1 h2
      exact ⟨by rw [if_neg hg], rfl, rfl⟩
    · refine xB.go 2 (29, [(0, .ref 32), (1, .int 1), (2, .int x), (3, .int y)], [.int 2, .int y], XM L mi ml) rfl ?_
      refine xB.c1 92 [.int y, .int 2] [] (c_in _ L mi ml y 2 ) rfl ?_
      refine xB.bn (0 ≤ y ∧ y < 2) (37, [(0, .ref 32), (1, .int 1), (2, .int x), (3, .int y)], [], XM L mi ml) (35, [(0, .ref 32), (1, .int 1), (2, .int x), (3, .int y)], [], XM L mi ml) rfl (fun h3 => ?_) (fun h3 => ?_)
      · refine xB.go 1 (38, [(0, .ref 32), (1, .int 1), (2, .int x), (3, .int y)], [.int y], XM L mi ml) rfl ?_
        refine xB.bp (¬ y = 0) (55, [(0, .ref 32), (1, .int 1), (2, .int x), (3, .int y)], [], XM L mi ml) (41, [(0, .ref 32), (1, .int 1), (2, .int x), (3, .int y)], [], XM L mi ml) rfl (fun h4 => ?_) (fun h4 => ?_)
        · refine xB.go 7 (65, [(0, .ref 32), (1, .int 1), (2, .int x), (3, .int y)], [.int (64 + x), .ref 47], XM L mi ml) rfl ?_
          refine xB.ck (xin (64 + x) 128) (66, [(0, .ref 32), (1, .int 1), (2, .int x), (3, .int y)], [.int (mi 47 (64 + x).toNatClampNeg)], XM L mi ml) rfl (ixk 64 (m := 64) h1 (by decide) (by decide)) ?_
          refine xB.rt (some (.int (mi 47 (64 + x).toNatClampNeg))) mi ml rfl ?_
          have hg : (0 ≤ x ∧ x < 64) ∧ ¬ mi 45 1 ≤ x ∧ (0 ≤ y ∧ y < 2) := ⟨h1, h2, h3⟩
          exact ⟨by rw [if_pos hg, if_neg h4, show (64 : Int32) = nI 64 from rfl, ixc 64 (m := 64) hg.1 (by decide)], rfl, rfl⟩
        · refine xB.go 7 (51, [(0, .ref 32), (1, .int 1), (2, .int x), (3, .int y)], [.int (64 + x), .ref 46], XM L mi ml) rfl ?_
          refine xB.ck (xin (64 + x) 128) (52, [(0, .ref 32), (1, .int 1), (2, .int x), (3, .int y)], [.int (mi 46 (64 + x).toNatClampNeg)], XM L mi ml) rfl (ixk 64 (m := 64) h1 (by decide) (by decide)) ?_
          refine xB.go 1 (66, [(0, .ref 32), (1, .int 1), (2, .int x), (3, .int y)], [.int (mi 46 (64 + x).toNatClampNeg)], XM L mi ml) rfl ?_
          refine xB.rt (some (.int (mi 46 (64 + x).toNatClampNeg))) mi ml rfl ?_
          have hg : (0 ≤ x ∧ x < 64) ∧ ¬ mi 45 1 ≤ x ∧ (0 ≤ y ∧ y < 2) := ⟨h1, h2, h3⟩
          exact ⟨by rw [if_pos hg, if_pos (Classical.not_not.mp h4), show (64 : Int32) = nI 64 from rfl, ixc 64 (m := 64) hg.1 (by decide)], rfl, rfl⟩
      · refine xB.go 1 (36, [(0, .ref 32), (1, .int 1), (2, .int x), (3, .int y)], [.int 0], XM L mi ml) rfl ?_
        refine xB.rt (some (.int 0)) mi ml rfl ?_
        have hg : ¬ ((0 ≤ x ∧ x < 64) ∧ ¬ mi 45 1 ≤ x ∧ (0 ≤ y ∧ y < 2)) := fun z => h3 z.2.2
        exact ⟨by rw [if_neg hg], rfl, rfl⟩
set_option maxRecDepth 100000 in
set_option maxHeartbeats 1000000 in
theorem c_mletN (d L : Nat) (mi : xmi) (ml : xml) {m : Int32} (hm : ¬ (0 ≤ m ∧ m < 2)) (x0 x1 : Int32) : xFv (d + 2) 121 [.ref 32, .int m, .int x0, .int x1] L mi ml (.int 0) mi ml := by
  refine xF.mk mX9_let rfl rfl ?_
  refine xB.go 2 (2, [(0, .ref 32), (1, .int m), (2, .int x0), (3, .int x1)], [.int 2, .int m], XM L mi ml) rfl ?_
  refine xB.c1 92 [.int m, .int 2] [] (c_in0 _ L _ _ hm) rfl ?_
  refine xB.go 2 (18, [(0, .ref 32), (1, .int m), (2, .int x0), (3, .int x1)], [.int 0], XM L mi ml) rfl ?_
  refine xB.rt (some (.int 0)) mi ml rfl ?_
  exact ⟨rfl, rfl, rfl⟩
set_option maxRecDepth 100000 in
set_option maxHeartbeats 1000000 in
theorem c_mlayN (d L : Nat) (mi : xmi) (ml : xml) {m : Int32} (hm : ¬ (0 ≤ m ∧ m < 2)) (x0 x1 x2 : Int32) : xFv (d + 2) 122 [.ref 32, .int m, .int x0, .int x1, .int x2] L mi ml (.int 0) mi ml := by
  refine xF.mk mX9_lay rfl rfl ?_
  refine xB.go 2 (2, [(0, .ref 32), (1, .int m), (2, .int x0), (3, .int x1), (4, .int x2)], [.int 2, .int m], XM L mi ml) rfl ?_
  refine xB.c1 92 [.int m, .int 2] [] (c_in0 _ L _ _ hm) rfl ?_
  refine xB.go 2 (26, [(0, .ref 32), (1, .int m), (2, .int x0), (3, .int x1), (4, .int x2)], [.int 0], XM L mi ml) rfl ?_
  refine xB.rt (some (.int 0)) mi ml rfl ?_
  exact ⟨rfl, rfl, rfl⟩
set_option maxRecDepth 100000 in
set_option maxHeartbeats 1000000 in
theorem c_mranN (d L : Nat) (mi : xmi) (ml : xml) {m : Int32} (hm : ¬ (0 ≤ m ∧ m < 2)) (x0 : Int32) : xFv (d + 2) 128 [.ref 32, .int m, .int x0] L mi ml (.int (-1)) mi ml := by
  refine xF.mk mX9_ran rfl rfl ?_
  refine xB.go 2 (2, [(0, .ref 32), (1, .int m), (2, .int x0)], [.int 2, .int m], XM L mi ml) rfl ?_
  refine xB.c1 92 [.int m, .int 2] [] (c_in0 _ L _ _ hm) rfl ?_
  refine xB.go 2 (26, [(0, .ref 32), (1, .int m), (2, .int x0)], [.int (-1)], XM L mi ml) rfl ?_
  refine xB.rt (some (.int (-1))) mi ml rfl ?_
  exact ⟨rfl, rfl, rfl⟩
set_option maxRecDepth 100000 in
set_option maxHeartbeats 1000000 in
theorem c_moutN (d L : Nat) (mi : xmi) (ml : xml) {m : Int32} (hm : ¬ (0 ≤ m ∧ m < 2)) (x0 x1 : Int32) : xFv (d + 2) 129 [.ref 32, .int m, .int x0, .int x1] L mi ml (.int 0) mi ml := by
  refine xF.mk mX9_out rfl rfl ?_
  refine xB.go 2 (2, [(0, .ref 32), (1, .int m), (2, .int x0), (3, .int x1)], [.int 2, .int m], XM L mi ml) rfl ?_
  refine xB.c1 92 [.int m, .int 2] [] (c_in0 _ L _ _ hm) rfl ?_
  refine xB.go 2 (36, [(0, .ref 32), (1, .int m), (2, .int x0), (3, .int x1)], [.int 0], XM L mi ml) rfl ?_
  refine xB.rt (some (.int 0)) mi ml rfl ?_
  exact ⟨rfl, rfl, rfl⟩
set_option maxRecDepth 100000 in
set_option maxHeartbeats 1000000 in
theorem c_mmemoryN (d L : Nat) (mi : xmi) (ml : xml) {m : Int32} (hm : ¬ (0 ≤ m ∧ m < 2)) (x0 : Int32) : xFv (d + 2) 133 [.ref 32, .int m, .int x0] L mi ml (.int 0) mi ml := by
  refine xF.mk mX9_memory rfl rfl ?_
  refine xB.go 2 (2, [(0, .ref 32), (1, .int m), (2, .int x0)], [.int 2, .int m], XM L mi ml) rfl ?_
  refine xB.c1 92 [.int m, .int 2] [] (c_in0 _ L _ _ hm) rfl ?_
  refine xB.go 2 (32, [(0, .ref 32), (1, .int m), (2, .int x0)], [.int 0], XM L mi ml) rfl ?_
  refine xB.rt (some (.int 0)) mi ml rfl ?_
  exact ⟨rfl, rfl, rfl⟩
set_option maxRecDepth 100000 in
theorem c_mdone (d L : Nat) (mi : xmi) (ml : xml) (z x y : Int32)  : xFv (d + 1) 123 [.int z, .int x, .int y] L mi ml (.int (dnA z x y)) mi ml := by
  refine xF.mk mX9_done rfl rfl ?_
  refine xB.go 1 (1, [(0, .int z), (1, .int x), (2, .int y)], [.int z], XM L mi ml) rfl ?_
  by_cases h1 : z = 0
  · refine xB.tp h1 ?_
    refine xB.go 1 (40, [(0, .int z), (1, .int x), (2, .int y)], [], XM L mi ml) rfl ?_
    refine xB.go 3 (43, [(0, .int z), (1, .int x), (2, .int y)], [.int (x + y)], XM L mi ml) rfl ?_
    refine xB.rt (some (.int (x + y))) mi ml rfl ?_
    refine ⟨?_, rfl, rfl⟩
    subst h1
    unfold dnA
    rw [if_pos rfl]
  by_cases h2 : z = 1
  · refine xB.tp h2 ?_
    refine xB.go 1 (44, [(0, .int z), (1, .int x), (2, .int y)], [], XM L mi ml) rfl ?_
    refine xB.go 3 (47, [(0, .int z), (1, .int x), (2, .int y)], [.int (x - y)], XM L mi ml) rfl ?_
    refine xB.rt (some (.int (x - y))) mi ml rfl ?_
    refine ⟨?_, rfl, rfl⟩
    subst h2
    unfold dnA
    rw [if_neg (by decide), if_pos rfl]
  by_cases h3 : z = 2
  · refine xB.tp h3 ?_
    refine xB.go 1 (48, [(0, .int z), (1, .int x), (2, .int y)], [], XM L mi ml) rfl ?_
    refine xB.go 3 (51, [(0, .int z), (1, .int x), (2, .int y)], [.int (x * y)], XM L mi ml) rfl ?_
    refine xB.rt (some (.int (x * y))) mi ml rfl ?_
    refine ⟨?_, rfl, rfl⟩
    subst h3
    unfold dnA
    rw [if_neg (by decide), if_neg (by decide), if_pos rfl]
  by_cases h4 : z = 3
  · refine xB.tp h4 ?_
    refine xB.go 1 (52, [(0, .int z), (1, .int x), (2, .int y)], [], XM L mi ml) rfl ?_
    refine xB.go 2 (54, [(0, .int z), (1, .int x), (2, .int y)], [.int y, .int x], XM L mi ml) rfl ?_
    refine xB.bp (y ≤ x) (61, [(0, .int z), (1, .int x), (2, .int y)], [], XM L mi ml) (57, [(0, .int z), (1, .int x), (2, .int y)], [], XM L mi ml) rfl (fun h5 => ?_) (fun h5 => ?_)
    · refine xB.go 1 (62, [(0, .int z), (1, .int x), (2, .int y)], [.int 0], XM L mi ml) rfl ?_
      refine xB.rt (some (.int 0)) mi ml rfl ?_
      refine ⟨?_, rfl, rfl⟩
      subst h4
      unfold dnA
      rw [if_neg (by decide), if_neg (by decide), if_neg (by decide), if_pos rfl, if_neg (i_nlt.mpr h5)]
    · refine xB.go 2 (62, [(0, .int z), (1, .int x), (2, .int y)], [.int 1], XM L mi ml) rfl ?_
      refine xB.rt (some (.int 1)) mi ml rfl ?_
      refine ⟨?_, rfl, rfl⟩
      subst h4
      unfold dnA
      rw [if_neg (by decide), if_neg (by decide), if_neg (by decide), if_pos rfl, if_pos (i_nle.mp h5)]
  by_cases h6 : z = 4
  · refine xB.tp h6 ?_
    refine xB.go 1 (63, [(0, .int z), (1, .int x), (2, .int y)], [], XM L mi ml) rfl ?_
    refine xB.go 2 (65, [(0, .int z), (1, .int x), (2, .int y)], [.int y, .int x], XM L mi ml) rfl ?_
    refine xB.bp (¬ x = y) (72, [(0, .int z), (1, .int x), (2, .int y)], [], XM L mi ml) (68, [(0, .int z), (1, .int x), (2, .int y)], [], XM L mi ml) rfl (fun h7 => ?_) (fun h7 => ?_)
    · refine xB.go 1 (73, [(0, .int z), (1, .int x), (2, .int y)], [.int 0], XM L mi ml) rfl ?_
      refine xB.rt (some (.int 0)) mi ml rfl ?_
      refine ⟨?_, rfl, rfl⟩
      subst h6
      unfold dnA
      rw [if_neg (by decide), if_neg (by decide), if_neg (by decide), if_neg (by decide), if_pos rfl, if_neg h7]
    · refine xB.go 2 (73, [(0, .int z), (1, .int x), (2, .int y)], [.int 1], XM L mi ml) rfl ?_
      refine xB.rt (some (.int 1)) mi ml rfl ?_
      refine ⟨?_, rfl, rfl⟩
      subst h6
      unfold dnA
      rw [if_neg (by decide), if_neg (by decide), if_neg (by decide), if_neg (by decide), if_pos rfl, if_pos (Classical.not_not.mp h7)]
  by_cases h8 : z = 5
  · refine xB.tp h8 ?_
    refine xB.go 1 (74, [(0, .int z), (1, .int x), (2, .int y)], [], XM L mi ml) rfl ?_
    refine xB.go 3 (77, [(0, .int z), (1, .int x), (2, .int y)], [.int (x &&& y)], XM L mi ml) rfl ?_
    refine xB.rt (some (.int (x &&& y))) mi ml rfl ?_
    refine ⟨?_, rfl, rfl⟩
    subst h8
    unfold dnA
    rw [if_neg (by decide), if_neg (by decide), if_neg (by decide), if_neg (by decide), if_neg (by decide), if_pos rfl]
  refine xB.st (78, [(0, .int z), (1, .int x), (2, .int y)], [], XM L mi ml) (xsw_d (mt := mX9_done) rfl (xsw_ne 6 (by decide) (fun k hk => by rcases (show k = 0 ∨ k = 1 ∨ k = 2 ∨ k = 3 ∨ k = 4 ∨ k = 5 by omega) with rfl | rfl | rfl | rfl | rfl | rfl; exact h1; exact h2; exact h3; exact h4; exact h6; exact h8)) rfl) ?_
  refine xB.go 3 (81, [(0, .int z), (1, .int x), (2, .int y)], [.int (x ||| y)], XM L mi ml) rfl ?_
  refine xB.rt (some (.int (x ||| y))) mi ml rfl ?_
  refine ⟨?_, rfl, rfl⟩
  unfold dnA
  rw [if_neg h1, if_neg h2, if_neg h3, if_neg h4, if_neg h6, if_neg h8]
