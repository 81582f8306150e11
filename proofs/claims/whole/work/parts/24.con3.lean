/-! levels, memories, outcomes, the machine's pile -/
theorem xckn {x : Int32} {k : Nat} (n : Int32) (hn : n = nI k) (hk : k < 2 ^ 31) (h : 0 ≤ x ∧ x < n) : xin x k = true := xin_iff hk (i_nlt.mpr h.1) (by rw [← hn]; exact h.2)
def sl_lv (mi : xmi) (a : Nat) (n : Int32) (x : Int32) : Int32 := if 0 ≤ x ∧ x < n then mi a x.toNatClampNeg else 0
theorem xck64 {x c : Int32} (h : 0 ≤ x ∧ x < if c ≤ 64 then c else 64) : xin x 64 = true := by
  refine xin_iff (by decide) (i_nlt.mpr h.1) ?_
  have h2 := h.2
  by_cases z : c ≤ 64
  · rw [if_pos z] at h2; rw [Int32.lt_iff_toInt_lt] at h2 ⊢; rw [Int32.le_iff_toInt_le] at z; exact Int.lt_of_lt_of_le h2 z
  · rw [if_neg z] at h2; exact h2
theorem xck64n {c : Int32} {n : Nat} (hc : c = nI n) (hn : n < 2 ^ 31) (h : ¬ 64 ≤ c) : xin c 64 = true := by
  subst hc
  refine xin_of (j := n) ?_ (by decide) rfl
  rcases Nat.lt_or_ge n 64 with z | z
  · exact z
  · exact absurd (nI_le z hn) h
set_option maxRecDepth 100000 in
theorem c_ofVariable (d L : Nat) (mi : xmi) (ml : xml) (x : Int32)  : xFv (d + 2) 11 [.ref 4, .int x] L mi ml (.int (sl_lv mi 5 8 x)) mi ml := by
  refine xF.mk mX1_ofVariable rfl rfl ?_
  refine xB.go 2 (3, [(0, .ref 4), (1, .int x)], [.int 8, .int x], XM L mi ml) rfl ?_
  refine xB.c1 86 [.int x, .int 8] [] (c_isBetween _ L mi ml x 8 ) rfl ?_
  refine xB.bz (0 ≤ x ∧ x < 8) (18, [(0, .ref 4), (1, .int x)], [], XM L mi ml) (9, [(0, .ref 4), (1, .int x)], [], XM L mi ml) rfl (fun h1 => ?_) (fun h1 => ?_)
  · refine xB.go 1 (19, [(0, .ref 4), (1, .int x)], [.int 0], XM L mi ml) rfl ?_
    refine xB.rt (some (.int 0)) mi ml rfl ?_
    exact ⟨by unfold sl_lv; rw [if_neg h1], rfl, rfl⟩
  · refine xB.go 3 (14, [(0, .ref 4), (1, .int x)], [.int x, .ref 5], XM L mi ml) rfl ?_
    refine xB.ck (xin x 8) (15, [(0, .ref 4), (1, .int x)], [.int (mi 5 x.toNatClampNeg)], XM L mi ml) rfl (xckn 8 rfl (by decide) h1) ?_
    refine xB.go 1 (19, [(0, .ref 4), (1, .int x)], [.int (mi 5 x.toNatClampNeg)], XM L mi ml) rfl ?_
    refine xB.rt (some (.int (mi 5 x.toNatClampNeg))) mi ml rfl ?_
    exact ⟨by unfold sl_lv; rw [if_pos h1], rfl, rfl⟩
set_option maxRecDepth 100000 in
theorem c_ofArray (d L : Nat) (mi : xmi) (ml : xml) (x : Int32)  : xFv (d + 2) 12 [.ref 4, .int x] L mi ml (.int (sl_lv mi 6 2 x)) mi ml := by
  refine xF.mk mX1_ofArray rfl rfl ?_
  refine xB.go 2 (2, [(0, .ref 4), (1, .int x)], [.int 2, .int x], XM L mi ml) rfl ?_
  refine xB.c1 86 [.int x, .int 2] [] (c_isBetween _ L mi ml x 2 ) rfl ?_
  refine xB.bz (0 ≤ x ∧ x < 2) (17, [(0, .ref 4), (1, .int x)], [], XM L mi ml) (8, [(0, .ref 4), (1, .int x)], [], XM L mi ml) rfl (fun h1 => ?_) (fun h1 => ?_)
  · refine xB.go 1 (18, [(0, .ref 4), (1, .int x)], [.int 0], XM L mi ml) rfl ?_
    refine xB.rt (some (.int 0)) mi ml rfl ?_
    exact ⟨by unfold sl_lv; rw [if_neg h1], rfl, rfl⟩
  · refine xB.go 3 (13, [(0, .ref 4), (1, .int x)], [.int x, .ref 6], XM L mi ml) rfl ?_
    refine xB.ck (xin x 2) (14, [(0, .ref 4), (1, .int x)], [.int (mi 6 x.toNatClampNeg)], XM L mi ml) rfl (xckn 2 rfl (by decide) h1) ?_
    refine xB.go 1 (18, [(0, .ref 4), (1, .int x)], [.int (mi 6 x.toNatClampNeg)], XM L mi ml) rfl ?_
    refine xB.rt (some (.int (mi 6 x.toNatClampNeg))) mi ml rfl ?_
    exact ⟨by unfold sl_lv; rw [if_pos h1], rfl, rfl⟩
set_option maxRecDepth 100000 in
theorem c_ofChannel (d L : Nat) (mi : xmi) (ml : xml) (x : Int32)  : xFv (d + 2) 13 [.ref 4, .int x] L mi ml (.int (sl_lv mi 7 4 x)) mi ml := by
  refine xF.mk mX1_ofChannel rfl rfl ?_
  refine xB.go 2 (2, [(0, .ref 4), (1, .int x)], [.int 4, .int x], XM L mi ml) rfl ?_
  refine xB.c1 86 [.int x, .int 4] [] (c_isBetween _ L mi ml x 4 ) rfl ?_
  refine xB.bz (0 ≤ x ∧ x < 4) (17, [(0, .ref 4), (1, .int x)], [], XM L mi ml) (8, [(0, .ref 4), (1, .int x)], [], XM L mi ml) rfl (fun h1 => ?_) (fun h1 => ?_)
  · refine xB.go 1 (18, [(0, .ref 4), (1, .int x)], [.int 0], XM L mi ml) rfl ?_
    refine xB.rt (some (.int 0)) mi ml rfl ?_
    exact ⟨by unfold sl_lv; rw [if_neg h1], rfl, rfl⟩
  · refine xB.go 3 (13, [(0, .ref 4), (1, .int x)], [.int x, .ref 7], XM L mi ml) rfl ?_
    refine xB.ck (xin x 4) (14, [(0, .ref 4), (1, .int x)], [.int (mi 7 x.toNatClampNeg)], XM L mi ml) rfl (xckn 4 rfl (by decide) h1) ?_
    refine xB.go 1 (18, [(0, .ref 4), (1, .int x)], [.int (mi 7 x.toNatClampNeg)], XM L mi ml) rfl ?_
    refine xB.rt (some (.int (mi 7 x.toNatClampNeg))) mi ml rfl ?_
    exact ⟨by unfold sl_lv; rw [if_pos h1], rfl, rfl⟩
set_option maxRecDepth 100000 in
theorem c_setIn5 (d L : Nat) (mi : xmi) (ml : xml) (x y : Int32)  : xFv (d + 2) 14 [.ref 5, .int x, .int y] L mi ml (.int (xb ((0 ≤ x ∧ x < 8) ∧ (0 ≤ y ∧ y < 4)))) (if (0 ≤ x ∧ x < 8) ∧ (0 ≤ y ∧ y < 4) then xU mi 5 x.toNatClampNeg y else mi) ml := by
  refine xF.mk mX1_setIn rfl rfl ?_
  refine xB.go 3 (3, [(0, .ref 5), (1, .int x), (2, .int y)], [.int 8, .int x], XM L mi ml) rfl ?_
  refine xB.c1 86 [.int x, .int 8] [] (c_isBetween _ L mi ml x 8 ) rfl ?_
  refine xB.bz (0 ≤ x ∧ x < 8) (17, [(0, .ref 5), (1, .int x), (2, .int y)], [], XM L mi ml) (9, [(0, .ref 5), (1, .int x), (2, .int y)], [], XM L mi ml) rfl (fun h1 => ?_) (fun h1 => ?_)
  · refine xB.go 1 (18, [(0, .ref 5), (1, .int x), (2, .int y)], [.int 0], XM L mi ml) rfl ?_
    refine xB.rt (some (.int 0)) mi ml rfl ?_
    have hP : ¬ ((0 ≤ x ∧ x < 8) ∧ (0 ≤ y ∧ y < 4)) := by first | (rintro ⟨z, -⟩; exact absurd z h1) | (rintro ⟨-, z⟩; exact absurd z h2)
    exact ⟨by rw [xb_f hP], by rw [if_neg hP], rfl⟩
  · refine xB.go 2 (11, [(0, .ref 5), (1, .int x), (2, .int y)], [.int 4, .int y], XM L mi ml) rfl ?_
    refine xB.c1 86 [.int y, .int 4] [] (c_isBetween _ L mi ml y 4 ) rfl ?_
    refine xB.bn (0 ≤ y ∧ y < 4) (19, [(0, .ref 5), (1, .int x), (2, .int y)], [], XM L mi ml) (17, [(0, .ref 5), (1, .int x), (2, .int y)], [], XM L mi ml) rfl (fun h2 => ?_) (fun h2 => ?_)
    · refine xB.go 3 (22, [(0, .ref 5), (1, .int x), (2, .int y)], [.int y, .int x, .ref 5], XM L mi ml) rfl ?_
      refine xB.ck (xin x 8) (23, [(0, .ref 5), (1, .int x), (2, .int y)], [], XM L (xU mi 5 x.toNatClampNeg y) ml) rfl (xckn 8 rfl (by decide) h1) ?_
      refine xB.go 1 (24, [(0, .ref 5), (1, .int x), (2, .int y)], [.int 1], XM L (xU mi 5 x.toNatClampNeg y) ml) rfl ?_
      refine xB.rt (some (.int 1)) (xU mi 5 x.toNatClampNeg y) ml rfl ?_
      have hP : (0 ≤ x ∧ x < 8) ∧ (0 ≤ y ∧ y < 4) := by simp_all
      exact ⟨by rw [xb_t hP], by rw [if_pos hP], rfl⟩
    · refine xB.go 1 (18, [(0, .ref 5), (1, .int x), (2, .int y)], [.int 0], XM L mi ml) rfl ?_
      refine xB.rt (some (.int 0)) mi ml rfl ?_
      have hP : ¬ ((0 ≤ x ∧ x < 8) ∧ (0 ≤ y ∧ y < 4)) := by first | (rintro ⟨z, -⟩; exact absurd z h1) | (rintro ⟨-, z⟩; exact absurd z h2)
      exact ⟨by rw [xb_f hP], by rw [if_neg hP], rfl⟩
set_option maxRecDepth 100000 in
theorem c_setIn6 (d L : Nat) (mi : xmi) (ml : xml) (x y : Int32)  : xFv (d + 2) 14 [.ref 6, .int x, .int y] L mi ml (.int (xb ((0 ≤ x ∧ x < 2) ∧ (0 ≤ y ∧ y < 4)))) (if (0 ≤ x ∧ x < 2) ∧ (0 ≤ y ∧ y < 4) then xU mi 6 x.toNatClampNeg y else mi) ml := by
  refine xF.mk mX1_setIn rfl rfl ?_
  refine xB.go 3 (3, [(0, .ref 6), (1, .int x), (2, .int y)], [.int 2, .int x], XM L mi ml) rfl ?_
  refine xB.c1 86 [.int x, .int 2] [] (c_isBetween _ L mi ml x 2 ) rfl ?_
  refine xB.bz (0 ≤ x ∧ x < 2) (17, [(0, .ref 6), (1, .int x), (2, .int y)], [], XM L mi ml) (9, [(0, .ref 6), (1, .int x), (2, .int y)], [], XM L mi ml) rfl (fun h1 => ?_) (fun h1 => ?_)
  · refine xB.go 1 (18, [(0, .ref 6), (1, .int x), (2, .int y)], [.int 0], XM L mi ml) rfl ?_
    refine xB.rt (some (.int 0)) mi ml rfl ?_
    have hP : ¬ ((0 ≤ x ∧ x < 2) ∧ (0 ≤ y ∧ y < 4)) := by first | (rintro ⟨z, -⟩; exact absurd z h1) | (rintro ⟨-, z⟩; exact absurd z h2)
    exact ⟨by rw [xb_f hP], by rw [if_neg hP], rfl⟩
  · refine xB.go 2 (11, [(0, .ref 6), (1, .int x), (2, .int y)], [.int 4, .int y], XM L mi ml) rfl ?_
    refine xB.c1 86 [.int y, .int 4] [] (c_isBetween _ L mi ml y 4 ) rfl ?_
    refine xB.bn (0 ≤ y ∧ y < 4) (19, [(0, .ref 6), (1, .int x), (2, .int y)], [], XM L mi ml) (17, [(0, .ref 6), (1, .int x), (2, .int y)], [], XM L mi ml) rfl (fun h2 => ?_) (fun h2 => ?_)
    · refine xB.go 3 (22, [(0, .ref 6), (1, .int x), (2, .int y)], [.int y, .int x, .ref 6], XM L mi ml) rfl ?_
      refine xB.ck (xin x 2) (23, [(0, .ref 6), (1, .int x), (2, .int y)], [], XM L (xU mi 6 x.toNatClampNeg y) ml) rfl (xckn 2 rfl (by decide) h1) ?_
      refine xB.go 1 (24, [(0, .ref 6), (1, .int x), (2, .int y)], [.int 1], XM L (xU mi 6 x.toNatClampNeg y) ml) rfl ?_
      refine xB.rt (some (.int 1)) (xU mi 6 x.toNatClampNeg y) ml rfl ?_
      have hP : (0 ≤ x ∧ x < 2) ∧ (0 ≤ y ∧ y < 4) := by simp_all
      exact ⟨by rw [xb_t hP], by rw [if_pos hP], rfl⟩
    · refine xB.go 1 (18, [(0, .ref 6), (1, .int x), (2, .int y)], [.int 0], XM L mi ml) rfl ?_
      refine xB.rt (some (.int 0)) mi ml rfl ?_
      have hP : ¬ ((0 ≤ x ∧ x < 2) ∧ (0 ≤ y ∧ y < 4)) := by first | (rintro ⟨z, -⟩; exact absurd z h1) | (rintro ⟨-, z⟩; exact absurd z h2)
      exact ⟨by rw [xb_f hP], by rw [if_neg hP], rfl⟩
set_option maxRecDepth 100000 in
theorem c_setIn7 (d L : Nat) (mi : xmi) (ml : xml) (x y : Int32)  : xFv (d + 2) 14 [.ref 7, .int x, .int y] L mi ml (.int (xb ((0 ≤ x ∧ x < 4) ∧ (0 ≤ y ∧ y < 4)))) (if (0 ≤ x ∧ x < 4) ∧ (0 ≤ y ∧ y < 4) then xU mi 7 x.toNatClampNeg y else mi) ml := by
  refine xF.mk mX1_setIn rfl rfl ?_
  refine xB.go 3 (3, [(0, .ref 7), (1, .int x), (2, .int y)], [.int 4, .int x], XM L mi ml) rfl ?_
  refine xB.c1 86 [.int x, .int 4] [] (c_isBetween _ L mi ml x 4 ) rfl ?_
  refine xB.bz (0 ≤ x ∧ x < 4) (17, [(0, .ref 7), (1, .int x), (2, .int y)], [], XM L mi ml) (9, [(0, .ref 7), (1, .int x), (2, .int y)], [], XM L mi ml) rfl (fun h1 => ?_) (fun h1 => ?_)
  · refine xB.go 1 (18, [(0, .ref 7), (1, .int x), (2, .int y)], [.int 0], XM L mi ml) rfl ?_
    refine xB.rt (some (.int 0)) mi ml rfl ?_
    have hP : ¬ ((0 ≤ x ∧ x < 4) ∧ (0 ≤ y ∧ y < 4)) := by first | (rintro ⟨z, -⟩; exact absurd z h1) | (rintro ⟨-, z⟩; exact absurd z h2)
    exact ⟨by rw [xb_f hP], by rw [if_neg hP], rfl⟩
  · refine xB.go 2 (11, [(0, .ref 7), (1, .int x), (2, .int y)], [.int 4, .int y], XM L mi ml) rfl ?_
    refine xB.c1 86 [.int y, .int 4] [] (c_isBetween _ L mi ml y 4 ) rfl ?_
    refine xB.bn (0 ≤ y ∧ y < 4) (19, [(0, .ref 7), (1, .int x), (2, .int y)], [], XM L mi ml) (17, [(0, .ref 7), (1, .int x), (2, .int y)], [], XM L mi ml) rfl (fun h2 => ?_) (fun h2 => ?_)
    · refine xB.go 3 (22, [(0, .ref 7), (1, .int x), (2, .int y)], [.int y, .int x, .ref 7], XM L mi ml) rfl ?_
      refine xB.ck (xin x 4) (23, [(0, .ref 7), (1, .int x), (2, .int y)], [], XM L (xU mi 7 x.toNatClampNeg y) ml) rfl (xckn 4 rfl (by decide) h1) ?_
      refine xB.go 1 (24, [(0, .ref 7), (1, .int x), (2, .int y)], [.int 1], XM L (xU mi 7 x.toNatClampNeg y) ml) rfl ?_
      refine xB.rt (some (.int 1)) (xU mi 7 x.toNatClampNeg y) ml rfl ?_
      have hP : (0 ≤ x ∧ x < 4) ∧ (0 ≤ y ∧ y < 4) := by simp_all
      exact ⟨by rw [xb_t hP], by rw [if_pos hP], rfl⟩
    · refine xB.go 1 (18, [(0, .ref 7), (1, .int x), (2, .int y)], [.int 0], XM L mi ml) rfl ?_
      refine xB.rt (some (.int 0)) mi ml rfl ?_
      have hP : ¬ ((0 ≤ x ∧ x < 4) ∧ (0 ≤ y ∧ y < 4)) := by first | (rintro ⟨z, -⟩; exact absurd z h1) | (rintro ⟨-, z⟩; exact absurd z h2)
      exact ⟨by rw [xb_f hP], by rw [if_neg hP], rfl⟩
def sl_setP (w x y : Int32) : Prop := if w = 0 then (0 ≤ x ∧ x < 8) ∧ (0 ≤ y ∧ y < 4) else if w = 1 then (0 ≤ x ∧ x < 2) ∧ (0 ≤ y ∧ y < 4) else if w = 2 then (0 ≤ x ∧ x < 4) ∧ (0 ≤ y ∧ y < 4) else False
theorem sl_set0 {x y : Int32} : sl_setP 0 x y ↔ (0 ≤ x ∧ x < 8) ∧ (0 ≤ y ∧ y < 4) := by unfold sl_setP; rw [if_pos rfl]
theorem sl_set1 {x y : Int32} : sl_setP 1 x y ↔ (0 ≤ x ∧ x < 2) ∧ (0 ≤ y ∧ y < 4) := by unfold sl_setP; rw [if_neg (by decide), if_pos rfl]
theorem sl_set2 {x y : Int32} : sl_setP 2 x y ↔ (0 ≤ x ∧ x < 4) ∧ (0 ≤ y ∧ y < 4) := by unfold sl_setP; rw [if_neg (by decide), if_neg (by decide), if_pos rfl]
theorem sl_set3 {w x y : Int32} (h0 : ¬ w = 0) (h1 : ¬ w = 1) (h2 : ¬ w = 2) : ¬ sl_setP w x y := by unfold sl_setP; rw [if_neg h0, if_neg h1, if_neg h2]; exact fun h => h
set_option maxRecDepth 100000 in
theorem c_lset0 (d L : Nat) (mi : xmi) (ml : xml) (x y : Int32)  : xFv (d + 3) 10 [.ref 4, .int 0, .int x, .int y] L mi ml (.int (xb ((0 ≤ x ∧ x < 8) ∧ (0 ≤ y ∧ y < 4)))) (if (0 ≤ x ∧ x < 8) ∧ (0 ≤ y ∧ y < 4) then xU mi 5 x.toNatClampNeg y else mi) ml := by
  refine xF.mk mX1_set rfl rfl ?_
  refine xB.go 6 (34, [(0, .ref 4), (1, .int 0), (2, .int x), (3, .int y)], [.int y, .int x, .ref 5], XM L mi ml) rfl ?_
  refine xB.c1 14 [.ref 5, .int x, .int y] [] (c_setIn5 _ L mi ml x y ) rfl ?_
  refine xB.rz (xb ((0 ≤ x ∧ x < 8) ∧ (0 ≤ y ∧ y < 4))) (if (0 ≤ x ∧ x < 8) ∧ (0 ≤ y ∧ y < 4) then xU mi 5 x.toNatClampNeg y else mi) ml rfl xz_xb ?_
  exact ⟨rfl, rfl, rfl⟩
set_option maxRecDepth 100000 in
theorem c_lset1 (d L : Nat) (mi : xmi) (ml : xml) (x y : Int32)  : xFv (d + 3) 10 [.ref 4, .int 1, .int x, .int y] L mi ml (.int (xb ((0 ≤ x ∧ x < 2) ∧ (0 ≤ y ∧ y < 4)))) (if (0 ≤ x ∧ x < 2) ∧ (0 ≤ y ∧ y < 4) then xU mi 6 x.toNatClampNeg y else mi) ml := by
  refine xF.mk mX1_set rfl rfl ?_
  refine xB.go 6 (44, [(0, .ref 4), (1, .int 1), (2, .int x), (3, .int y)], [.int y, .int x, .ref 6], XM L mi ml) rfl ?_
  refine xB.c1 14 [.ref 6, .int x, .int y] [] (c_setIn6 _ L mi ml x y ) rfl ?_
  refine xB.rz (xb ((0 ≤ x ∧ x < 2) ∧ (0 ≤ y ∧ y < 4))) (if (0 ≤ x ∧ x < 2) ∧ (0 ≤ y ∧ y < 4) then xU mi 6 x.toNatClampNeg y else mi) ml rfl xz_xb ?_
  exact ⟨rfl, rfl, rfl⟩
set_option maxRecDepth 100000 in
theorem c_lset2 (d L : Nat) (mi : xmi) (ml : xml) (x y : Int32)  : xFv (d + 3) 10 [.ref 4, .int 2, .int x, .int y] L mi ml (.int (xb ((0 ≤ x ∧ x < 4) ∧ (0 ≤ y ∧ y < 4)))) (if (0 ≤ x ∧ x < 4) ∧ (0 ≤ y ∧ y < 4) then xU mi 7 x.toNatClampNeg y else mi) ml := by
  refine xF.mk mX1_set rfl rfl ?_
  refine xB.go 6 (54, [(0, .ref 4), (1, .int 2), (2, .int x), (3, .int y)], [.int y, .int x, .ref 7], XM L mi ml) rfl ?_
  refine xB.c1 14 [.ref 7, .int x, .int y] [] (c_setIn7 _ L mi ml x y ) rfl ?_
  refine xB.rz (xb ((0 ≤ x ∧ x < 4) ∧ (0 ≤ y ∧ y < 4))) (if (0 ≤ x ∧ x < 4) ∧ (0 ≤ y ∧ y < 4) then xU mi 7 x.toNatClampNeg y else mi) ml rfl xz_xb ?_
  exact ⟨rfl, rfl, rfl⟩
set_option maxRecDepth 100000 in
theorem c_mget22 (d L : Nat) (mi : xmi) (ml : xml) (x : Int32)  : xFv (d + 2) 25 [.ref 22, .int x] L mi ml (.int (sl_lv mi 23 24 x)) mi ml := by
  refine xF.mk mX3_get rfl rfl ?_
  refine xB.go 2 (3, [(0, .ref 22), (1, .int x)], [.int 24, .int x], XM L mi ml) rfl ?_
  refine xB.c1 86 [.int x, .int 24] [] (c_isBetween _ L mi ml x 24 ) rfl ?_
  refine xB.bz (0 ≤ x ∧ x < 24) (18, [(0, .ref 22), (1, .int x)], [], XM L mi ml) (9, [(0, .ref 22), (1, .int x)], [], XM L mi ml) rfl (fun h1 => ?_) (fun h1 => ?_)
  · refine xB.go 1 (19, [(0, .ref 22), (1, .int x)], [.int 0], XM L mi ml) rfl ?_
    refine xB.rt (some (.int 0)) mi ml rfl ?_
    exact ⟨by unfold sl_lv; rw [if_neg h1], rfl, rfl⟩
  · refine xB.go 3 (14, [(0, .ref 22), (1, .int x)], [.int x, .ref 23], XM L mi ml) rfl ?_
    refine xB.ck (xin x 24) (15, [(0, .ref 22), (1, .int x)], [.int (mi 23 x.toNatClampNeg)], XM L mi ml) rfl (xckn 24 rfl (by decide) h1) ?_
    refine xB.go 1 (19, [(0, .ref 22), (1, .int x)], [.int (mi 23 x.toNatClampNeg)], XM L mi ml) rfl ?_
    refine xB.rt (some (.int (mi 23 x.toNatClampNeg))) mi ml rfl ?_
    exact ⟨by unfold sl_lv; rw [if_pos h1], rfl, rfl⟩
set_option maxRecDepth 100000 in
theorem c_mset22 (d L : Nat) (mi : xmi) (ml : xml) (x y : Int32)  : xFn (d + 2) 26 [.ref 22, .int x, .int y] L mi ml (if 0 ≤ x ∧ x < 24 then xU mi 23 x.toNatClampNeg y else mi) ml := by
  refine xF.mk mX3_set rfl rfl ?_
  refine xB.go 2 (3, [(0, .ref 22), (1, .int x), (2, .int y)], [.int 24, .int x], XM L mi ml) rfl ?_
  refine xB.c1 86 [.int x, .int 24] [] (c_isBetween _ L mi ml x 24 ) rfl ?_
  refine xB.bz (0 ≤ x ∧ x < 24) (16, [(0, .ref 22), (1, .int x), (2, .int y)], [], XM L mi ml) (9, [(0, .ref 22), (1, .int x), (2, .int y)], [], XM L mi ml) rfl (fun h1 => ?_) (fun h1 => ?_)
  · refine xB.rt none mi ml rfl ?_
    exact ⟨rfl, by rw [if_neg h1], rfl⟩
  · refine xB.go 4 (15, [(0, .ref 22), (1, .int x), (2, .int y)], [.int y, .int x, .ref 23], XM L mi ml) rfl ?_
    refine xB.ck (xin x 24) (16, [(0, .ref 22), (1, .int x), (2, .int y)], [], XM L (xU mi 23 x.toNatClampNeg y) ml) rfl (xckn 24 rfl (by decide) h1) ?_
    refine xB.rt none (xU mi 23 x.toNatClampNeg y) ml rfl ?_
    exact ⟨rfl, by rw [if_pos h1], rfl⟩
set_option maxRecDepth 100000 in
theorem c_mget27 (d L : Nat) (mi : xmi) (ml : xml) (x : Int32)  : xFv (d + 2) 25 [.ref 27, .int x] L mi ml (.int (sl_lv mi 28 24 x)) mi ml := by
  refine xF.mk mX3_get rfl rfl ?_
  refine xB.go 2 (3, [(0, .ref 27), (1, .int x)], [.int 24, .int x], XM L mi ml) rfl ?_
  refine xB.c1 86 [.int x, .int 24] [] (c_isBetween _ L mi ml x 24 ) rfl ?_
  refine xB.bz (0 ≤ x ∧ x < 24) (18, [(0, .ref 27), (1, .int x)], [], XM L mi ml) (9, [(0, .ref 27), (1, .int x)], [], XM L mi ml) rfl (fun h1 => ?_) (fun h1 => ?_)
  · refine xB.go 1 (19, [(0, .ref 27), (1, .int x)], [.int 0], XM L mi ml) rfl ?_
    refine xB.rt (some (.int 0)) mi ml rfl ?_
    exact ⟨by unfold sl_lv; rw [if_neg h1], rfl, rfl⟩
  · refine xB.go 3 (14, [(0, .ref 27), (1, .int x)], [.int x, .ref 28], XM L mi ml) rfl ?_
    refine xB.ck (xin x 24) (15, [(0, .ref 27), (1, .int x)], [.int (mi 28 x.toNatClampNeg)], XM L mi ml) rfl (xckn 24 rfl (by decide) h1) ?_
    refine xB.go 1 (19, [(0, .ref 27), (1, .int x)], [.int (mi 28 x.toNatClampNeg)], XM L mi ml) rfl ?_
    refine xB.rt (some (.int (mi 28 x.toNatClampNeg))) mi ml rfl ?_
    exact ⟨by unfold sl_lv; rw [if_pos h1], rfl, rfl⟩
set_option maxRecDepth 100000 in
theorem c_mset27 (d L : Nat) (mi : xmi) (ml : xml) (x y : Int32)  : xFn (d + 2) 26 [.ref 27, .int x, .int y] L mi ml (if 0 ≤ x ∧ x < 24 then xU mi 28 x.toNatClampNeg y else mi) ml := by
  refine xF.mk mX3_set rfl rfl ?_
  refine xB.go 2 (3, [(0, .ref 27), (1, .int x), (2, .int y)], [.int 24, .int x], XM L mi ml) rfl ?_
  refine xB.c1 86 [.int x, .int 24] [] (c_isBetween _ L mi ml x 24 ) rfl ?_
  refine xB.bz (0 ≤ x ∧ x < 24) (16, [(0, .ref 27), (1, .int x), (2, .int y)], [], XM L mi ml) (9, [(0, .ref 27), (1, .int x), (2, .int y)], [], XM L mi ml) rfl (fun h1 => ?_) (fun h1 => ?_)
  · refine xB.rt none mi ml rfl ?_
    exact ⟨rfl, by rw [if_neg h1], rfl⟩
  · refine xB.go 4 (15, [(0, .ref 27), (1, .int x), (2, .int y)], [.int y, .int x, .ref 28], XM L mi ml) rfl ?_
    refine xB.ck (xin x 24) (16, [(0, .ref 27), (1, .int x), (2, .int y)], [], XM L (xU mi 28 x.toNatClampNeg y) ml) rfl (xckn 24 rfl (by decide) h1) ?_
    refine xB.rt none (xU mi 28 x.toNatClampNeg y) ml rfl ?_
    exact ⟨rfl, by rw [if_pos h1], rfl⟩
set_option maxRecDepth 100000 in
theorem c_isThere24 (d L : Nat) (mi : xmi) (ml : xml)  (hz24 : xz (mi 24 2) = true) : xFv (d + 1) 28 [.ref 24] L mi ml (.int (mi 24 2)) mi ml := by
  refine xF.mk mX4_isThere rfl rfl ?_
  refine xB.go 2 (4, [(0, .ref 24)], [.int (mi 24 2)], XM L mi ml) rfl ?_
  refine xB.rz (mi 24 2) mi ml rfl hz24 ?_
  exact ⟨rfl, rfl, rfl⟩
set_option maxRecDepth 100000 in
theorem c_isHalted24 (d L : Nat) (mi : xmi) (ml : xml)  (hh24 : xz (mi 24 3) = true) : xFv (d + 1) 29 [.ref 24] L mi ml (.int (mi 24 3)) mi ml := by
  refine xF.mk mX4_isHalted rfl rfl ?_
  refine xB.go 2 (4, [(0, .ref 24)], [.int (mi 24 3)], XM L mi ml) rfl ?_
  refine xB.rz (mi 24 3) mi ml rfl hh24 ?_
  exact ⟨rfl, rfl, rfl⟩
set_option maxRecDepth 100000 in
theorem c_count24 (d L : Nat) (mi : xmi) (ml : xml)   : xFv (d + 1) 30 [.ref 24] L mi ml (.int (mi 24 4)) mi ml := by
  refine xF.mk mX4_count rfl rfl ?_
  refine xB.go 2 (4, [(0, .ref 24)], [.int (mi 24 4)], XM L mi ml) rfl ?_
  refine xB.rt (some (.int (mi 24 4))) mi ml rfl ?_
  exact ⟨rfl, rfl, rfl⟩
set_option maxRecDepth 100000 in
theorem c_kept24 (d L : Nat) (mi : xmi) (ml : xml)   : xFv (d + 2) 31 [.ref 24] L mi ml (.int (if mi 24 4 ≤ 64 then mi 24 4 else 64)) mi ml := by
  refine xF.mk mX4_kept rfl rfl ?_
  refine xB.go 3 (6, [(0, .ref 24)], [.int 64, .int (mi 24 4)], XM L mi ml) rfl ?_
  refine xB.c1 136 [.int (mi 24 4), .int 64] [] (c_min _ L mi ml (mi 24 4) 64 ) rfl ?_
  refine xB.rt (some (.int (if (mi 24 4) ≤ 64 then (mi 24 4) else 64))) mi ml rfl ?_
  exact ⟨rfl, rfl, rfl⟩
set_option maxRecDepth 100000 in
theorem c_channelAt24 (d L : Nat) (mi : xmi) (ml : xml) (x : Int32)  : xFv (d + 3) 32 [.ref 24, .int x] L mi ml (.int (sl_lv mi 25 (if mi 24 4 ≤ 64 then mi 24 4 else 64) x)) mi ml := by
  refine xF.mk mX4_channelAt rfl rfl ?_
  refine xB.go 2 (2, [(0, .ref 24), (1, .int x)], [.ref 24, .int x], XM L mi ml) rfl ?_
  refine xB.c1 31 [.ref 24] [.int x] (c_kept24 _ L mi ml  ) rfl ?_
  refine xB.c1 86 [.int x, .int (if mi 24 4 ≤ 64 then mi 24 4 else 64)] [] (c_isBetween _ L mi ml x (if mi 24 4 ≤ 64 then mi 24 4 else 64) ) rfl ?_
  refine xB.bz (0 ≤ x ∧ x < (if mi 24 4 ≤ 64 then mi 24 4 else 64)) (20, [(0, .ref 24), (1, .int x)], [], XM L mi ml) (11, [(0, .ref 24), (1, .int x)], [], XM L mi ml) rfl (fun h1 => ?_) (fun h1 => ?_)
  · refine xB.go 1 (21, [(0, .ref 24), (1, .int x)], [.int 0], XM L mi ml) rfl ?_
    refine xB.rt (some (.int 0)) mi ml rfl ?_
    exact ⟨by unfold sl_lv; rw [if_neg h1], rfl, rfl⟩
  · refine xB.go 3 (16, [(0, .ref 24), (1, .int x)], [.int x, .ref 25], XM L mi ml) rfl ?_
    refine xB.ck (xin x 64) (17, [(0, .ref 24), (1, .int x)], [.int (mi 25 x.toNatClampNeg)], XM L mi ml) rfl (xck64 h1) ?_
    refine xB.go 1 (21, [(0, .ref 24), (1, .int x)], [.int (mi 25 x.toNatClampNeg)], XM L mi ml) rfl ?_
    refine xB.rt (some (.int (mi 25 x.toNatClampNeg))) mi ml rfl ?_
    exact ⟨by unfold sl_lv; rw [if_pos h1], rfl, rfl⟩
set_option maxRecDepth 100000 in
theorem c_intAt24 (d L : Nat) (mi : xmi) (ml : xml) (x : Int32)  : xFv (d + 3) 33 [.ref 24, .int x] L mi ml (.int (sl_lv mi 26 (if mi 24 4 ≤ 64 then mi 24 4 else 64) x)) mi ml := by
  refine xF.mk mX4_intAt rfl rfl ?_
  refine xB.go 2 (2, [(0, .ref 24), (1, .int x)], [.ref 24, .int x], XM L mi ml) rfl ?_
  refine xB.c1 31 [.ref 24] [.int x] (c_kept24 _ L mi ml  ) rfl ?_
  refine xB.c1 86 [.int x, .int (if mi 24 4 ≤ 64 then mi 24 4 else 64)] [] (c_isBetween _ L mi ml x (if mi 24 4 ≤ 64 then mi 24 4 else 64) ) rfl ?_
  refine xB.bz (0 ≤ x ∧ x < (if mi 24 4 ≤ 64 then mi 24 4 else 64)) (20, [(0, .ref 24), (1, .int x)], [], XM L mi ml) (11, [(0, .ref 24), (1, .int x)], [], XM L mi ml) rfl (fun h1 => ?_) (fun h1 => ?_)
  · refine xB.go 1 (21, [(0, .ref 24), (1, .int x)], [.int 0], XM L mi ml) rfl ?_
    refine xB.rt (some (.int 0)) mi ml rfl ?_
    exact ⟨by unfold sl_lv; rw [if_neg h1], rfl, rfl⟩
  · refine xB.go 3 (16, [(0, .ref 24), (1, .int x)], [.int x, .ref 26], XM L mi ml) rfl ?_
    refine xB.ck (xin x 64) (17, [(0, .ref 24), (1, .int x)], [.int (mi 26 x.toNatClampNeg)], XM L mi ml) rfl (xck64 h1) ?_
    refine xB.go 1 (21, [(0, .ref 24), (1, .int x)], [.int (mi 26 x.toNatClampNeg)], XM L mi ml) rfl ?_
    refine xB.rt (some (.int (mi 26 x.toNatClampNeg))) mi ml rfl ?_
    exact ⟨by unfold sl_lv; rw [if_pos h1], rfl, rfl⟩
set_option maxRecDepth 100000 in
theorem c_begin24 (d L : Nat) (mi : xmi) (ml : xml)   : xFn (d + 1) 34 [.ref 24] L mi ml (xU (xU (xU mi 24 2 1) 24 3 0) 24 4 0) ml := by
  refine xF.mk mX4_begin rfl rfl ?_
  refine xB.go 9 (15, [(0, .ref 24)], [], XM L (xU (xU (xU mi 24 2 1) 24 3 0) 24 4 0) ml) rfl ?_
  refine xB.rt none (xU (xU (xU mi 24 2 1) 24 3 0) 24 4 0) ml rfl ?_
  exact ⟨rfl, rfl, rfl⟩
set_option maxRecDepth 100000 in
theorem c_halt24 (d L : Nat) (mi : xmi) (ml : xml)   : xFn (d + 1) 35 [.ref 24] L mi ml (xU mi 24 3 1) ml := by
  refine xF.mk mX4_halt rfl rfl ?_
  refine xB.go 3 (5, [(0, .ref 24)], [], XM L (xU mi 24 3 1) ml) rfl ?_
  refine xB.rt none (xU mi 24 3 1) ml rfl ?_
  exact ⟨rfl, rfl, rfl⟩
set_option maxRecDepth 100000 in
theorem c_oadd24 (d L : Nat) (mi : xmi) (ml : xml) {n : Nat} (x y : Int32) (hc24 : mi 24 4 = nI n) (hc224 : n < 2 ^ 31) : xFn (d + 1) 36 [.ref 24, .int x, .int y] L mi ml (if ¬ 64 ≤ mi 24 4 then xU (xU (xU mi 25 (mi 24 4).toNatClampNeg x) 26 (mi 24 4).toNatClampNeg y) 24 4 (mi 24 4 + 1) else xU mi 24 4 (mi 24 4 + 1)) ml := by
  refine xF.mk mX4_add rfl rfl ?_
  refine xB.go 3 (6, [(0, .ref 24), (1, .int x), (2, .int y)], [.int 64, .int (mi 24 4)], XM L mi ml) rfl ?_
  refine xB.bp (64 ≤ (mi 24 4)) (29, [(0, .ref 24), (1, .int x), (2, .int y)], [], XM L mi ml) (9, [(0, .ref 24), (1, .int x), (2, .int y)], [], XM L mi ml) rfl (fun h1 => ?_) (fun h1 => ?_)
  · refine xB.go 6 (39, [(0, .ref 24), (1, .int x), (2, .int y)], [], XM L (xU mi 24 4 ((mi 24 4) + 1)) ml) rfl ?_
    refine xB.rt none (xU mi 24 4 ((mi 24 4) + 1)) ml rfl ?_
    exact ⟨rfl, by rw [if_neg (Classical.not_not.mpr h1)], rfl⟩
  · refine xB.go 5 (18, [(0, .ref 24), (1, .int x), (2, .int y)], [.int x, .int (mi 24 4), .ref 25], XM L mi ml) rfl ?_
    refine xB.ck (xin (mi 24 4) 64) (19, [(0, .ref 24), (1, .int x), (2, .int y)], [], XM L (xU mi 25 (mi 24 4).toNatClampNeg x) ml) rfl (xck64n hc24 hc224 h1) ?_
    refine xB.go 5 (28, [(0, .ref 24), (1, .int x), (2, .int y)], [.int y, .int (mi 24 4), .ref 26], XM L (xU mi 25 (mi 24 4).toNatClampNeg x) ml) rfl ?_
    refine xB.ck (xin (mi 24 4) 64) (29, [(0, .ref 24), (1, .int x), (2, .int y)], [], XM L (xU (xU mi 25 (mi 24 4).toNatClampNeg x) 26 (mi 24 4).toNatClampNeg y) ml) rfl (xck64n hc24 hc224 h1) ?_
    refine xB.go 6 (39, [(0, .ref 24), (1, .int x), (2, .int y)], [], XM L (xU (xU (xU mi 25 (mi 24 4).toNatClampNeg x) 26 (mi 24 4).toNatClampNeg y) 24 4 ((mi 24 4) + 1)) ml) rfl ?_
    refine xB.rt none (xU (xU (xU mi 25 (mi 24 4).toNatClampNeg x) 26 (mi 24 4).toNatClampNeg y) 24 4 ((mi 24 4) + 1)) ml rfl ?_
    exact ⟨rfl, by rw [if_pos h1], rfl⟩
set_option maxRecDepth 100000 in
theorem c_isThere29 (d L : Nat) (mi : xmi) (ml : xml)  (hz29 : xz (mi 29 2) = true) : xFv (d + 1) 28 [.ref 29] L mi ml (.int (mi 29 2)) mi ml := by
  refine xF.mk mX4_isThere rfl rfl ?_
  refine xB.go 2 (4, [(0, .ref 29)], [.int (mi 29 2)], XM L mi ml) rfl ?_
  refine xB.rz (mi 29 2) mi ml rfl hz29 ?_
  exact ⟨rfl, rfl, rfl⟩
set_option maxRecDepth 100000 in
theorem c_isHalted29 (d L : Nat) (mi : xmi) (ml : xml)  (hh29 : xz (mi 29 3) = true) : xFv (d + 1) 29 [.ref 29] L mi ml (.int (mi 29 3)) mi ml := by
  refine xF.mk mX4_isHalted rfl rfl ?_
  refine xB.go 2 (4, [(0, .ref 29)], [.int (mi 29 3)], XM L mi ml) rfl ?_
  refine xB.rz (mi 29 3) mi ml rfl hh29 ?_
  exact ⟨rfl, rfl, rfl⟩
set_option maxRecDepth 100000 in
theorem c_count29 (d L : Nat) (mi : xmi) (ml : xml)   : xFv (d + 1) 30 [.ref 29] L mi ml (.int (mi 29 4)) mi ml := by
  refine xF.mk mX4_count rfl rfl ?_
  refine xB.go 2 (4, [(0, .ref 29)], [.int (mi 29 4)], XM L mi ml) rfl ?_
  refine xB.rt (some (.int (mi 29 4))) mi ml rfl ?_
  exact ⟨rfl, rfl, rfl⟩
set_option maxRecDepth 100000 in
theorem c_kept29 (d L : Nat) (mi : xmi) (ml : xml)   : xFv (d + 2) 31 [.ref 29] L mi ml (.int (if mi 29 4 ≤ 64 then mi 29 4 else 64)) mi ml := by
  refine xF.mk mX4_kept rfl rfl ?_
  refine xB.go 3 (6, [(0, .ref 29)], [.int 64, .int (mi 29 4)], XM L mi ml) rfl ?_
  refine xB.c1 136 [.int (mi 29 4), .int 64] [] (c_min _ L mi ml (mi 29 4) 64 ) rfl ?_
  refine xB.rt (some (.int (if (mi 29 4) ≤ 64 then (mi 29 4) else 64))) mi ml rfl ?_
  exact ⟨rfl, rfl, rfl⟩
set_option maxRecDepth 100000 in
theorem c_channelAt29 (d L : Nat) (mi : xmi) (ml : xml) (x : Int32)  : xFv (d + 3) 32 [.ref 29, .int x] L mi ml (.int (sl_lv mi 30 (if mi 29 4 ≤ 64 then mi 29 4 else 64) x)) mi ml := by
  refine xF.mk mX4_channelAt rfl rfl ?_
  refine xB.go 2 (2, [(0, .ref 29), (1, .int x)], [.ref 29, .int x], XM L mi ml) rfl ?_
  refine xB.c1 31 [.ref 29] [.int x] (c_kept29 _ L mi ml  ) rfl ?_
  refine xB.c1 86 [.int x, .int (if mi 29 4 ≤ 64 then mi 29 4 else 64)] [] (c_isBetween _ L mi ml x (if mi 29 4 ≤ 64 then mi 29 4 else 64) ) rfl ?_
  refine xB.bz (0 ≤ x ∧ x < (if mi 29 4 ≤ 64 then mi 29 4 else 64)) (20, [(0, .ref 29), (1, .int x)], [], XM L mi ml) (11, [(0, .ref 29), (1, .int x)], [], XM L mi ml) rfl (fun h1 => ?_) (fun h1 => ?_)
  · refine xB.go 1 (21, [(0, .ref 29), (1, .int x)], [.int 0], XM L mi ml) rfl ?_
    refine xB.rt (some (.int 0)) mi ml rfl ?_
    exact ⟨by unfold sl_lv; rw [if_neg h1], rfl, rfl⟩
  · refine xB.go 3 (16, [(0, .ref 29), (1, .int x)], [.int x, .ref 30], XM L mi ml) rfl ?_
    refine xB.ck (xin x 64) (17, [(0, .ref 29), (1, .int x)], [.int (mi 30 x.toNatClampNeg)], XM L mi ml) rfl (xck64 h1) ?_
    refine xB.go 1 (21, [(0, .ref 29), (1, .int x)], [.int (mi 30 x.toNatClampNeg)], XM L mi ml) rfl ?_
    refine xB.rt (some (.int (mi 30 x.toNatClampNeg))) mi ml rfl ?_
    exact ⟨by unfold sl_lv; rw [if_pos h1], rfl, rfl⟩
set_option maxRecDepth 100000 in
theorem c_intAt29 (d L : Nat) (mi : xmi) (ml : xml) (x : Int32)  : xFv (d + 3) 33 [.ref 29, .int x] L mi ml (.int (sl_lv mi 31 (if mi 29 4 ≤ 64 then mi 29 4 else 64) x)) mi ml := by
  refine xF.mk mX4_intAt rfl rfl ?_
  refine xB.go 2 (2, [(0, .ref 29), (1, .int x)], [.ref 29, .int x], XM L mi ml) rfl ?_
  refine xB.c1 31 [.ref 29] [.int x] (c_kept29 _ L mi ml  ) rfl ?_
  refine xB.c1 86 [.int x, .int (if mi 29 4 ≤ 64 then mi 29 4 else 64)] [] (c_isBetween _ L mi ml x (if mi 29 4 ≤ 64 then mi 29 4 else 64) ) rfl ?_
  refine xB.bz (0 ≤ x ∧ x < (if mi 29 4 ≤ 64 then mi 29 4 else 64)) (20, [(0, .ref 29), (1, .int x)], [], XM L mi ml) (11, [(0, .ref 29), (1, .int x)], [], XM L mi ml) rfl (fun h1 => ?_) (fun h1 => ?_)
  · refine xB.go 1 (21, [(0, .ref 29), (1, .int x)], [.int 0], XM L mi ml) rfl ?_
    refine xB.rt (some (.int 0)) mi ml rfl ?_
    exact ⟨by unfold sl_lv; rw [if_neg h1], rfl, rfl⟩
  · refine xB.go 3 (16, [(0, .ref 29), (1, .int x)], [.int x, .ref 31], XM L mi ml) rfl ?_
    refine xB.ck (xin x 64) (17, [(0, .ref 29), (1, .int x)], [.int (mi 31 x.toNatClampNeg)], XM L mi ml) rfl (xck64 h1) ?_
    refine xB.go 1 (21, [(0, .ref 29), (1, .int x)], [.int (mi 31 x.toNatClampNeg)], XM L mi ml) rfl ?_
    refine xB.rt (some (.int (mi 31 x.toNatClampNeg))) mi ml rfl ?_
    exact ⟨by unfold sl_lv; rw [if_pos h1], rfl, rfl⟩
set_option maxRecDepth 100000 in
theorem c_begin29 (d L : Nat) (mi : xmi) (ml : xml)   : xFn (d + 1) 34 [.ref 29] L mi ml (xU (xU (xU mi 29 2 1) 29 3 0) 29 4 0) ml := by
  refine xF.mk mX4_begin rfl rfl ?_
  refine xB.go 9 (15, [(0, .ref 29)], [], XM L (xU (xU (xU mi 29 2 1) 29 3 0) 29 4 0) ml) rfl ?_
  refine xB.rt none (xU (xU (xU mi 29 2 1) 29 3 0) 29 4 0) ml rfl ?_
  exact ⟨rfl, rfl, rfl⟩
set_option maxRecDepth 100000 in
theorem c_halt29 (d L : Nat) (mi : xmi) (ml : xml)   : xFn (d + 1) 35 [.ref 29] L mi ml (xU mi 29 3 1) ml := by
  refine xF.mk mX4_halt rfl rfl ?_
  refine xB.go 3 (5, [(0, .ref 29)], [], XM L (xU mi 29 3 1) ml) rfl ?_
  refine xB.rt none (xU mi 29 3 1) ml rfl ?_
  exact ⟨rfl, rfl, rfl⟩
set_option maxRecDepth 100000 in
theorem c_oadd29 (d L : Nat) (mi : xmi) (ml : xml) {n : Nat} (x y : Int32) (hc29 : mi 29 4 = nI n) (hc229 : n < 2 ^ 31) : xFn (d + 1) 36 [.ref 29, .int x, .int y] L mi ml (if ¬ 64 ≤ mi 29 4 then xU (xU (xU mi 30 (mi 29 4).toNatClampNeg x) 31 (mi 29 4).toNatClampNeg y) 29 4 (mi 29 4 + 1) else xU mi 29 4 (mi 29 4 + 1)) ml := by
  refine xF.mk mX4_add rfl rfl ?_
  refine xB.go 3 (6, [(0, .ref 29), (1, .int x), (2, .int y)], [.int 64, .int (mi 29 4)], XM L mi ml) rfl ?_
  refine xB.bp (64 ≤ (mi 29 4)) (29, [(0, .ref 29), (1, .int x), (2, .int y)], [], XM L mi ml) (9, [(0, .ref 29), (1, .int x), (2, .int y)], [], XM L mi ml) rfl (fun h1 => ?_) (fun h1 => ?_)
  · refine xB.go 6 (39, [(0, .ref 29), (1, .int x), (2, .int y)], [], XM L (xU mi 29 4 ((mi 29 4) + 1)) ml) rfl ?_
    refine xB.rt none (xU mi 29 4 ((mi 29 4) + 1)) ml rfl ?_
    exact ⟨rfl, by rw [if_neg (Classical.not_not.mpr h1)], rfl⟩
  · refine xB.go 5 (18, [(0, .ref 29), (1, .int x), (2, .int y)], [.int x, .int (mi 29 4), .ref 30], XM L mi ml) rfl ?_
    refine xB.ck (xin (mi 29 4) 64) (19, [(0, .ref 29), (1, .int x), (2, .int y)], [], XM L (xU mi 30 (mi 29 4).toNatClampNeg x) ml) rfl (xck64n hc29 hc229 h1) ?_
    refine xB.go 5 (28, [(0, .ref 29), (1, .int x), (2, .int y)], [.int y, .int (mi 29 4), .ref 31], XM L (xU mi 30 (mi 29 4).toNatClampNeg x) ml) rfl ?_
    refine xB.ck (xin (mi 29 4) 64) (29, [(0, .ref 29), (1, .int x), (2, .int y)], [], XM L (xU (xU mi 30 (mi 29 4).toNatClampNeg x) 31 (mi 29 4).toNatClampNeg y) ml) rfl (xck64n hc29 hc229 h1) ?_
    refine xB.go 6 (39, [(0, .ref 29), (1, .int x), (2, .int y)], [], XM L (xU (xU (xU mi 30 (mi 29 4).toNatClampNeg x) 31 (mi 29 4).toNatClampNeg y) 29 4 ((mi 29 4) + 1)) ml) rfl ?_
    refine xB.rt none (xU (xU (xU mi 30 (mi 29 4).toNatClampNeg x) 31 (mi 29 4).toNatClampNeg y) 29 4 ((mi 29 4) + 1)) ml rfl ?_
    exact ⟨rfl, by rw [if_pos h1], rfl⟩
