/-! the program: cells 1, 2, 3 -/
def sl_kind (mi : xmi) (p : Int32) : Int32 := if 0 ≤ p ∧ p < mi 1 2 then mi 2 p.toNatClampNeg else 9
def sl_num (mi : xmi) (p : Int32) : Int32 := if 0 ≤ p ∧ p < mi 1 2 then mi 3 p.toNatClampNeg else 0
def sl_pf (mi : xmi) (p : Int32) : Int32 := if sl_kind mi p = 9 then -1 else if sl_kind mi p = 4 then sl_num mi p else p + 1
def sl_of (mi : xmi) (p : Int32) : Int32 := if sl_kind mi p = 5 then sl_num mi p else -1
theorem xck {s p : Int32} {n : Nat} (hs : s = nI n) (hn : n ≤ 64) (h : 0 ≤ p ∧ p < s) : xin p 64 = true := by
  subst hs
  rcases pk_ix p (n := n) (by omega) with z | z | ⟨j, h2, h3⟩
  · exact absurd z (i_nlt.mpr h.1)
  · exact absurd h.2 (i_nlt.mpr z)
  · exact xin_of (by omega) (by decide) h3
theorem xck2 {s : Int32} {n : Nat} (hs : s = nI n) (h : ¬ 64 ≤ s) (hn : n ≤ 64) : xin s 64 = true := by
  subst hs
  refine xin_of (j := n) ?_ (by decide) rfl
  rcases Nat.lt_or_ge n 64 with z | z
  · exact z
  · exact absurd (nI_le z (by omega)) h
theorem xck10 {p : Int32} (h : 0 ≤ p ∧ p < 10) : xin p 10 = true := xin_iff (by decide) (i_nlt.mpr h.1) h.2
set_option maxRecDepth 100000 in
theorem c_size (d L : Nat) (mi : xmi) (ml : xml)   : xFv (d + 1) 40 [.ref 1] L mi ml (.int (mi 1 2)) mi ml := by
  refine xF.mk mX5_size rfl rfl ?_
  refine xB.go 2 (4, [(0, .ref 1)], [.int (mi 1 2)], XM L mi ml) rfl ?_
  refine xB.rt (some (.int (mi 1 2))) mi ml rfl ?_
  exact ⟨rfl, rfl, rfl⟩
set_option maxRecDepth 100000 in
theorem c_has (d L : Nat) (mi : xmi) (ml : xml) (x : Int32)  : xFv (d + 1) 41 [.ref 1, .int x] L mi ml (.int (xb (0 ≤ x ∧ x < mi 1 2))) mi ml := by
  refine xF.mk mX5_has rfl rfl ?_
  refine xB.go 1 (1, [(0, .ref 1), (1, .int x)], [.int x], XM L mi ml) rfl ?_
  refine xB.bp (x < 0) (16, [(0, .ref 1), (1, .int x)], [], XM L mi ml) (4, [(0, .ref 1), (1, .int x)], [], XM L mi ml) rfl (fun h1 => ?_) (fun h1 => ?_)
  · refine xB.go 1 (17, [(0, .ref 1), (1, .int x)], [.int 0], XM L mi ml) rfl ?_
    refine xB.rt (some (.int 0)) mi ml rfl ?_
    have hP : ¬ (0 ≤ x ∧ x < mi 1 2) := by simp only [Int32.lt_iff_toInt_lt, Int32.le_iff_toInt_le, Int32.toInt_zero] at *; omega
    exact ⟨by rw [xb_f hP], rfl, rfl⟩
  · refine xB.go 3 (9, [(0, .ref 1), (1, .int x)], [.int (mi 1 2), .int x], XM L mi ml) rfl ?_
    refine xB.bp ((mi 1 2) ≤ x) (16, [(0, .ref 1), (1, .int x)], [], XM L mi ml) (12, [(0, .ref 1), (1, .int x)], [], XM L mi ml) rfl (fun h2 => ?_) (fun h2 => ?_)
    · refine xB.go 1 (17, [(0, .ref 1), (1, .int x)], [.int 0], XM L mi ml) rfl ?_
      refine xB.rt (some (.int 0)) mi ml rfl ?_
      have hP : ¬ (0 ≤ x ∧ x < mi 1 2) := by simp only [Int32.lt_iff_toInt_lt, Int32.le_iff_toInt_le, Int32.toInt_zero] at *; omega
      exact ⟨by rw [xb_f hP], rfl, rfl⟩
    · refine xB.go 2 (17, [(0, .ref 1), (1, .int x)], [.int 1], XM L mi ml) rfl ?_
      refine xB.rt (some (.int 1)) mi ml rfl ?_
      have hP : (0 ≤ x ∧ x < mi 1 2) := by simp only [Int32.lt_iff_toInt_lt, Int32.le_iff_toInt_le, Int32.toInt_zero] at *; omega
      exact ⟨by rw [xb_t hP], rfl, rfl⟩
set_option maxRecDepth 100000 in
theorem c_kindAt (d L : Nat) (mi : xmi) (ml : xml) {n : Nat} (x : Int32) (hs : mi 1 2 = nI n) (hn : n ≤ 64) : xFv (d + 2) 42 [.ref 1, .int x] L mi ml (.int (sl_kind mi x)) mi ml := by
  refine xF.mk mX5_kindAt rfl rfl ?_
  refine xB.go 2 (2, [(0, .ref 1), (1, .int x)], [.int x, .ref 1], XM L mi ml) rfl ?_
  refine xB.c1 41 [.ref 1, .int x] [] (c_has _ L mi ml x ) rfl ?_
  refine xB.bz (0 ≤ x ∧ x < mi 1 2) (17, [(0, .ref 1), (1, .int x)], [], XM L mi ml) (8, [(0, .ref 1), (1, .int x)], [], XM L mi ml) rfl (fun h1 => ?_) (fun h1 => ?_)
  · refine xB.go 1 (19, [(0, .ref 1), (1, .int x)], [.int 9], XM L mi ml) rfl ?_
    refine xB.rt (some (.int 9)) mi ml rfl ?_
    exact ⟨by unfold sl_kind; rw [if_neg h1], rfl, rfl⟩
  · refine xB.go 3 (13, [(0, .ref 1), (1, .int x)], [.int x, .ref 2], XM L mi ml) rfl ?_
    refine xB.ck (xin x 64) (14, [(0, .ref 1), (1, .int x)], [.int (mi 2 x.toNatClampNeg)], XM L mi ml) rfl (xck hs hn h1) ?_
    refine xB.go 1 (19, [(0, .ref 1), (1, .int x)], [.int (mi 2 x.toNatClampNeg)], XM L mi ml) rfl ?_
    refine xB.rt (some (.int (mi 2 x.toNatClampNeg))) mi ml rfl ?_
    exact ⟨by unfold sl_kind; rw [if_pos h1], rfl, rfl⟩
set_option maxRecDepth 100000 in
theorem c_numberAt (d L : Nat) (mi : xmi) (ml : xml) {n : Nat} (x : Int32) (hs : mi 1 2 = nI n) (hn : n ≤ 64) : xFv (d + 2) 43 [.ref 1, .int x] L mi ml (.int (sl_num mi x)) mi ml := by
  refine xF.mk mX5_numberAt rfl rfl ?_
  refine xB.go 2 (2, [(0, .ref 1), (1, .int x)], [.int x, .ref 1], XM L mi ml) rfl ?_
  refine xB.c1 41 [.ref 1, .int x] [] (c_has _ L mi ml x ) rfl ?_
  refine xB.bz (0 ≤ x ∧ x < mi 1 2) (17, [(0, .ref 1), (1, .int x)], [], XM L mi ml) (8, [(0, .ref 1), (1, .int x)], [], XM L mi ml) rfl (fun h1 => ?_) (fun h1 => ?_)
  · refine xB.go 1 (18, [(0, .ref 1), (1, .int x)], [.int 0], XM L mi ml) rfl ?_
    refine xB.rt (some (.int 0)) mi ml rfl ?_
    exact ⟨by unfold sl_num; rw [if_neg h1], rfl, rfl⟩
  · refine xB.go 3 (13, [(0, .ref 1), (1, .int x)], [.int x, .ref 3], XM L mi ml) rfl ?_
    refine xB.ck (xin x 64) (14, [(0, .ref 1), (1, .int x)], [.int (mi 3 x.toNatClampNeg)], XM L mi ml) rfl (xck hs hn h1) ?_
    refine xB.go 1 (18, [(0, .ref 1), (1, .int x)], [.int (mi 3 x.toNatClampNeg)], XM L mi ml) rfl ?_
    refine xB.rt (some (.int (mi 3 x.toNatClampNeg))) mi ml rfl ?_
    exact ⟨by unfold sl_num; rw [if_pos h1], rfl, rfl⟩
set_option maxRecDepth 100000 in
theorem c_plainFollower (d L : Nat) (mi : xmi) (ml : xml) {n : Nat} (x : Int32) (hs : mi 1 2 = nI n) (hn : n ≤ 64) : xFv (d + 3) 46 [.ref 1, .int x] L mi ml (.int (sl_pf mi x)) mi ml := by
  refine xF.mk mX5_plainFollower rfl rfl ?_
  refine xB.go 2 (2, [(0, .ref 1), (1, .int x)], [.int x, .ref 1], XM L mi ml) rfl ?_
  refine xB.c1 42 [.ref 1, .int x] [] (c_kindAt _ L mi ml x hs hn) rfl ?_
  by_cases h1 : (sl_kind mi x) = 4
  · refine xB.tp h1 ?_
    refine xB.go 1 (34, [(0, .ref 1), (1, .int x)], [], XM L mi ml) rfl ?_
    refine xB.go 2 (36, [(0, .ref 1), (1, .int x)], [.int x, .ref 1], XM L mi ml) rfl ?_
    refine xB.c1 43 [.ref 1, .int x] [] (c_numberAt _ L mi ml x hs hn) rfl ?_
    refine xB.rt (some (.int (sl_num mi x))) mi ml rfl ?_
    exact ⟨by unfold sl_pf; simp [h1], rfl, rfl⟩
  by_cases h2 : (sl_kind mi x) = 9
  · refine xB.tp h2 ?_
    refine xB.go 1 (32, [(0, .ref 1), (1, .int x)], [], XM L mi ml) rfl ?_
    refine xB.go 1 (33, [(0, .ref 1), (1, .int x)], [.int (-1)], XM L mi ml) rfl ?_
    refine xB.rt (some (.int (-1))) mi ml rfl ?_
    exact ⟨by unfold sl_pf; simp [h1, h2], rfl, rfl⟩
  refine xB.st (40, [(0, .ref 1), (1, .int x)], [], XM L mi ml) (xls_d (mt := mX5_plainFollower) rfl rfl (xlk_2 (xne_toInt (k := 4) (by decide) h1) (xne_toInt (k := 9) (by decide) h2)) rfl) ?_
  refine xB.go 3 (43, [(0, .ref 1), (1, .int x)], [.int (x + 1)], XM L mi ml) rfl ?_
  refine xB.rt (some (.int (x + 1))) mi ml rfl ?_
  exact ⟨by unfold sl_pf; simp [h1, h2], rfl, rfl⟩
set_option maxRecDepth 100000 in
theorem c_otherFollower (d L : Nat) (mi : xmi) (ml : xml) {n : Nat} (x : Int32) (hs : mi 1 2 = nI n) (hn : n ≤ 64) : xFv (d + 3) 47 [.ref 1, .int x] L mi ml (.int (sl_of mi x)) mi ml := by
  refine xF.mk mX5_otherFollower rfl rfl ?_
  refine xB.go 2 (2, [(0, .ref 1), (1, .int x)], [.int x, .ref 1], XM L mi ml) rfl ?_
  refine xB.c1 42 [.ref 1, .int x] [] (c_kindAt _ L mi ml x hs hn) rfl ?_
  refine xB.go 1 (6, [(0, .ref 1), (1, .int x)], [.int 5, .int (sl_kind mi x)], XM L mi ml) rfl ?_
  refine xB.bp (¬ (sl_kind mi x) = 5) (17, [(0, .ref 1), (1, .int x)], [], XM L mi ml) (9, [(0, .ref 1), (1, .int x)], [], XM L mi ml) rfl (fun h1 => ?_) (fun h1 => ?_)
  · refine xB.go 1 (18, [(0, .ref 1), (1, .int x)], [.int (-1)], XM L mi ml) rfl ?_
    refine xB.rt (some (.int (-1))) mi ml rfl ?_
    exact ⟨by unfold sl_of; simp [h1], rfl, rfl⟩
  · refine xB.go 2 (11, [(0, .ref 1), (1, .int x)], [.int x, .ref 1], XM L mi ml) rfl ?_
    refine xB.c1 43 [.ref 1, .int x] [] (c_numberAt _ L mi ml x hs hn) rfl ?_
    refine xB.go 1 (18, [(0, .ref 1), (1, .int x)], [.int (sl_num mi x)], XM L mi ml) rfl ?_
    refine xB.rt (some (.int (sl_num mi x))) mi ml rfl ?_
    exact ⟨by unfold sl_of; simp [h1], rfl, rfl⟩
set_option maxRecDepth 100000 in
theorem c_canBe (d L : Nat) (mi : xmi) (ml : xml) (x y : Int32)  : xFv (d + 2) 48 [.int x, .int y] L mi ml (.int (xb ((0 ≤ x ∧ x < 10) ∧ (mi 1001 x.toNatClampNeg = 0 ∨ (0 ≤ y ∧ y < mi 1001 x.toNatClampNeg))))) mi ml := by
  refine xF.mk mX5_canBe rfl rfl ?_
  refine xB.go 2 (3, [(0, .int x), (1, .int y)], [.int 10, .int x], XM L mi ml) rfl ?_
  refine xB.c1 86 [.int x, .int 10] [] (c_isBetween _ L mi ml x 10 ) rfl ?_
  refine xB.bn (0 ≤ x ∧ x < 10) (11, [(0, .int x), (1, .int y)], [], XM L mi ml) (9, [(0, .int x), (1, .int y)], [], XM L mi ml) rfl (fun h1 => ?_) (fun h1 => ?_)
  · refine xB.go 2 (15, [(0, .int x), (1, .int y)], [.int x, .ref 1001], XM L mi ml) rfl ?_
    refine xB.ck (xin x 10) (16, [(0, .int x), (1, .int y)], [.int (mi 1001 x.toNatClampNeg)], XM L mi ml) rfl (xck10 h1) ?_
    refine xB.bp ((mi 1001 x.toNatClampNeg) = 0) (31, [(0, .int x), (1, .int y)], [], XM L mi ml) (19, [(0, .int x), (1, .int y)], [], XM L mi ml) rfl (fun h2 => ?_) (fun h2 => ?_)
    · refine xB.go 2 (36, [(0, .int x), (1, .int y)], [.int 1], XM L mi ml) rfl ?_
      refine xB.rt (some (.int 1)) mi ml rfl ?_
      have hP : ((0 ≤ x ∧ x < 10) ∧ (mi 1001 x.toNatClampNeg = 0 ∨ (0 ≤ y ∧ y < mi 1001 x.toNatClampNeg))) := by first | (rintro ⟨z, -⟩; exact absurd z h1) | simp_all
      exact ⟨by rw [xb_t hP], rfl, rfl⟩
    · refine xB.go 3 (24, [(0, .int x), (1, .int y)], [.int x, .ref 1001, .int y], XM L mi ml) rfl ?_
      refine xB.ck (xin x 10) (25, [(0, .int x), (1, .int y)], [.int (mi 1001 x.toNatClampNeg), .int y], XM L mi ml) rfl (xck10 h1) ?_
      refine xB.c1 86 [.int y, .int (mi 1001 x.toNatClampNeg)] [] (c_isBetween _ L mi ml y (mi 1001 x.toNatClampNeg) ) rfl ?_
      refine xB.bz (0 ≤ y ∧ y < (mi 1001 x.toNatClampNeg)) (35, [(0, .int x), (1, .int y)], [], XM L mi ml) (31, [(0, .int x), (1, .int y)], [], XM L mi ml) rfl (fun h3 => ?_) (fun h3 => ?_)
      · refine xB.go 1 (36, [(0, .int x), (1, .int y)], [.int 0], XM L mi ml) rfl ?_
        refine xB.rt (some (.int 0)) mi ml rfl ?_
        have hP : ¬ ((0 ≤ x ∧ x < 10) ∧ (mi 1001 x.toNatClampNeg = 0 ∨ (0 ≤ y ∧ y < mi 1001 x.toNatClampNeg))) := by first | (rintro ⟨z, -⟩; exact absurd z h1) | simp_all
        exact ⟨by rw [xb_f hP], rfl, rfl⟩
      · refine xB.go 2 (36, [(0, .int x), (1, .int y)], [.int 1], XM L mi ml) rfl ?_
        refine xB.rt (some (.int 1)) mi ml rfl ?_
        have hP : ((0 ≤ x ∧ x < 10) ∧ (mi 1001 x.toNatClampNeg = 0 ∨ (0 ≤ y ∧ y < mi 1001 x.toNatClampNeg))) := by first | (rintro ⟨z, -⟩; exact absurd z h1) | simp_all
        exact ⟨by rw [xb_t hP], rfl, rfl⟩
  · refine xB.go 1 (10, [(0, .int x), (1, .int y)], [.int 0], XM L mi ml) rfl ?_
    refine xB.rt (some (.int 0)) mi ml rfl ?_
    have hP : ¬ ((0 ≤ x ∧ x < 10) ∧ (mi 1001 x.toNatClampNeg = 0 ∨ (0 ≤ y ∧ y < mi 1001 x.toNatClampNeg))) := by first | (rintro ⟨z, -⟩; exact absurd z h1) | simp_all
    exact ⟨by rw [xb_f hP], rfl, rfl⟩
set_option maxRecDepth 100000 in
theorem c_add (d L : Nat) (mi : xmi) (ml : xml) {n : Nat} (x y : Int32) (hs : mi 1 2 = nI n) (hn : n ≤ 64) : xFv (d + 3) 44 [.ref 1, .int x, .int y] L mi ml (.int (if (¬ 64 ≤ mi 1 2) ∧ ((0 ≤ x ∧ x < 10) ∧ (mi 1001 x.toNatClampNeg = 0 ∨ (0 ≤ y ∧ y < mi 1001 x.toNatClampNeg))) then mi 1 2 + 1 - 1 else -1)) (if (¬ 64 ≤ mi 1 2) ∧ ((0 ≤ x ∧ x < 10) ∧ (mi 1001 x.toNatClampNeg = 0 ∨ (0 ≤ y ∧ y < mi 1001 x.toNatClampNeg))) then xU (xU (xU mi 2 (mi 1 2).toNatClampNeg x) 3 (mi 1 2).toNatClampNeg y) 1 2 (mi 1 2 + 1) else mi) ml := by
  refine xF.mk mX5_add rfl rfl ?_
  refine xB.go 3 (6, [(0, .ref 1), (1, .int x), (2, .int y)], [.int 64, .int (mi 1 2)], XM L mi ml) rfl ?_
  refine xB.bp (64 ≤ (mi 1 2)) (17, [(0, .ref 1), (1, .int x), (2, .int y)], [], XM L mi ml) (9, [(0, .ref 1), (1, .int x), (2, .int y)], [], XM L mi ml) rfl (fun h1 => ?_) (fun h1 => ?_)
  · refine xB.go 1 (18, [(0, .ref 1), (1, .int x), (2, .int y)], [.int (-1)], XM L mi ml) rfl ?_
    refine xB.rt (some (.int (-1))) mi ml rfl ?_
    exact ⟨by rw [if_neg (by simp_all)], by rw [if_neg (by simp_all)], rfl⟩
  · refine xB.go 2 (11, [(0, .ref 1), (1, .int x), (2, .int y)], [.int y, .int x], XM L mi ml) rfl ?_
    refine xB.c1 48 [.int x, .int y] [] (c_canBe _ L mi ml x y ) rfl ?_
    refine xB.bn ((0 ≤ x ∧ x < 10) ∧ (mi 1001 x.toNatClampNeg = 0 ∨ (0 ≤ y ∧ y < mi 1001 x.toNatClampNeg))) (19, [(0, .ref 1), (1, .int x), (2, .int y)], [], XM L mi ml) (17, [(0, .ref 1), (1, .int x), (2, .int y)], [], XM L mi ml) rfl (fun h2 => ?_) (fun h2 => ?_)
    · refine xB.go 5 (28, [(0, .ref 1), (1, .int x), (2, .int y)], [.int x, .int (mi 1 2), .ref 2], XM L mi ml) rfl ?_
      refine xB.ck (xin (mi 1 2) 64) (29, [(0, .ref 1), (1, .int x), (2, .int y)], [], XM L (xU mi 2 (mi 1 2).toNatClampNeg x) ml) rfl (xck2 hs h1 hn) ?_
      refine xB.go 5 (38, [(0, .ref 1), (1, .int x), (2, .int y)], [.int y, .int (mi 1 2), .ref 3], XM L (xU mi 2 (mi 1 2).toNatClampNeg x) ml) rfl ?_
      refine xB.ck (xin (mi 1 2) 64) (39, [(0, .ref 1), (1, .int x), (2, .int y)], [], XM L (xU (xU mi 2 (mi 1 2).toNatClampNeg x) 3 (mi 1 2).toNatClampNeg y) ml) rfl (xck2 hs h1 hn) ?_
      refine xB.go 10 (55, [(0, .ref 1), (1, .int x), (2, .int y)], [.int (((mi 1 2) + 1) - 1)], XM L (xU (xU (xU mi 2 (mi 1 2).toNatClampNeg x) 3 (mi 1 2).toNatClampNeg y) 1 2 ((mi 1 2) + 1)) ml) rfl ?_
      refine xB.rt (some (.int (((mi 1 2) + 1) - 1))) (xU (xU (xU mi 2 (mi 1 2).toNatClampNeg x) 3 (mi 1 2).toNatClampNeg y) 1 2 ((mi 1 2) + 1)) ml rfl ?_
      have hP : (¬ 64 ≤ mi 1 2) ∧ ((0 ≤ x ∧ x < 10) ∧ (mi 1001 x.toNatClampNeg = 0 ∨ (0 ≤ y ∧ y < mi 1001 x.toNatClampNeg))) := by simp_all
      exact ⟨by rw [if_pos hP], by rw [if_pos hP], rfl⟩
    · refine xB.go 1 (18, [(0, .ref 1), (1, .int x), (2, .int y)], [.int (-1)], XM L mi ml) rfl ?_
      refine xB.rt (some (.int (-1))) mi ml rfl ?_
      exact ⟨by rw [if_neg (by simp_all)], by rw [if_neg (by simp_all)], rfl⟩
set_option maxRecDepth 100000 in
theorem c_removeAll (d L : Nat) (mi : xmi) (ml : xml)   : xFn (d + 1) 45 [.ref 1] L mi ml (xU mi 1 2 0) ml := by
  refine xF.mk mX5_removeAll rfl rfl ?_
  refine xB.go 3 (5, [(0, .ref 1)], [], XM L (xU mi 1 2 0) ml) rfl ?_
  refine xB.rt none (xU mi 1 2 0) ml rfl ?_
  exact ⟨rfl, rfl, rfl⟩
