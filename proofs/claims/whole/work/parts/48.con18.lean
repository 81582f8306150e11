/-! the class's machine: leaves -/
theorem i_msb (x : Int32) : x < 0 ↔ x.toBitVec.msb = true := by
  rw [Int32.lt_iff_toInt_lt, BitVec.msb_eq_toInt, decide_eq_true_iff, Int32.toInt_zero]; exact Iff.rfl
theorem fm_sign (x : Int32) : x ^^^ 8 < 0 ↔ x < 0 := by
  rw [i_msb, i_msb]
  show (x.toBitVec ^^^ (8 : Int32).toBitVec).msb = true ↔ _
  rw [BitVec.msb_xor, show (8 : Int32).toBitVec.msb = false from by decide +kernel, Bool.xor_false]
theorem and7_nat (x : Int32) : (x &&& 7).toBitVec.toNat = x.toBitVec.toNat % 8 := by
  show (x.toBitVec &&& (7 : Int32).toBitVec).toNat = _
  rw [BitVec.toNat_and, show (7 : Int32).toBitVec.toNat = 2 ^ 3 - 1 from by decide +kernel, Nat.and_two_pow_sub_one_eq_mod]
theorem toInt_cases (x : Int32) : (x.toInt = (x.toBitVec.toNat : Int) ∧ x.toBitVec.toNat < 2147483648) ∨ (x.toInt = (x.toBitVec.toNat : Int) - 4294967296 ∧ 2147483648 ≤ x.toBitVec.toNat) := by
  show (x.toBitVec.toInt = _ ∧ _) ∨ (x.toBitVec.toInt = _ ∧ _)
  rw [BitVec.toInt_eq_toNat_cond]
  have := x.toBitVec.isLt
  split <;> omega
theorem and7_int (x : Int32) : (x &&& 7).toInt = x.toInt % 8 := by
  have h := and7_nat x
  rcases toInt_cases (x &&& 7) with ⟨a, -⟩ | ⟨-, b⟩
  · rw [a, h]
    rcases toInt_cases x with ⟨c, -⟩ | ⟨c, -⟩ <;> rw [c] <;> omega
  · rw [h] at b; omega
def ix7 (x : Int32) : Nat := (x &&& 7).toNatClampNeg
theorem and7_ix (x : Int32) : x &&& 7 = nI (ix7 x) ∧ ix7 x < 8 := by
  have h := and7_int x
  have h2 : (x &&& 7).toInt = (ix7 x : Int) := by
    unfold ix7 Int32.toNatClampNeg
    rw [Int.toNat_of_nonneg (by rw [h]; omega)]
  have h3 : ix7 x < 8 := by omega
  exact ⟨Int32.toInt_inj.mp (by rw [h2, nI_toInt (by omega)]), h3⟩
theorem tdm (v : Int) : (0 ≤ v ∧ v.tdiv 8 = v / 8 ∧ v.tmod 8 = v % 8) ∨ (v < 0 ∧ v.tdiv 8 = -((-v) / 8) ∧ v.tmod 8 = -((-v) % 8)) := by
  rcases Int.lt_or_le v 0 with h | h
  · right
    have e : v = -(-v) := by omega
    refine ⟨h, ?_, ?_⟩
    · conv => lhs; rw [e]
      rw [Int.neg_tdiv, Int.tdiv_eq_ediv_of_nonneg (by omega)]
    · conv => lhs; rw [e]
      rw [Int.neg_tmod, Int.tmod_eq_emod_of_nonneg (by omega)]
  · exact Or.inl ⟨h, Int.tdiv_eq_ediv_of_nonneg h, Int.tmod_eq_emod_of_nonneg h⟩
theorem rem8_int (x : Int32) : (x - x / 8 * 8).toInt = x.toInt.tmod 8 := by
  have e8 : (8 : Int32).toInt = 8 := by decide +kernel
  have hk := tdm x.toInt
  rcases toInt_cases x with h | h <;> have hx := x.toBitVec.isLt
  all_goals
    have hd : (x / 8).toInt = x.toInt.tdiv 8 := by
      rw [Int32.toInt_div, e8]
      refine Int.bmod_eq_of_le ?_ ?_ <;> omega
    have hm : (x / 8 * 8).toInt = x.toInt.tdiv 8 * 8 := by
      rw [Int32.toInt_mul, hd, e8]
      refine Int.bmod_eq_of_le ?_ ?_ <;> omega
    rw [Int32.toInt_sub, hm, Int.tmod_def, Int.mul_comm 8]
    refine Int.bmod_eq_of_le ?_ ?_ <;> omega
theorem fm_1 {x : Int32} (h : 0 ≤ x ^^^ 8) : x - x / 8 * 8 = x &&& 7 := by
  have h := i_nlt.mpr h
  rw [fm_sign, Int32.lt_iff_toInt_lt, Int32.toInt_zero] at h
  refine Int32.toInt_inj.mp ?_
  rw [rem8_int, and7_int, Int.tmod_eq_emod_of_nonneg (by omega)]
theorem fm_2 {x : Int32} (h : x - x / 8 * 8 = 0) : x - x / 8 * 8 = x &&& 7 := by
  have h2 := congrArg Int32.toInt h
  rw [rem8_int, Int32.toInt_zero] at h2
  refine Int32.toInt_inj.mp ?_
  have hk := tdm x.toInt
  rw [rem8_int, and7_int]; omega
theorem fm_3 {x : Int32} (h : ¬ 0 ≤ x ^^^ 8) (h2 : ¬ x - x / 8 * 8 = 0) : x - x / 8 * 8 + 8 = x &&& 7 := by
  rw [i_nle, fm_sign, Int32.lt_iff_toInt_lt, Int32.toInt_zero] at h
  have h3 : (x - x / 8 * 8).toInt ≠ 0 := fun z => h2 (Int32.toInt_inj.mp (by rw [z, Int32.toInt_zero]))
  rw [rem8_int] at h3
  have hk := tdm x.toInt
  refine Int32.toInt_inj.mp ?_
  rw [Int32.toInt_add, rem8_int, and7_int, show (8 : Int32).toInt = 8 from by decide +kernel]
  rw [Int.bmod_eq_of_le (by omega) (by omega)]; omega
set_option maxRecDepth 100000 in
theorem c_floorMod8 (d L : Nat) (mi : xmi) (ml : xml) (x : Int32)  : xFv (d + 1) 135 [.int x, .int 8] L mi ml (.int (x &&& 7)) mi ml := by
  refine xF.mk mJ9_floorMod_7cf53 rfl rfl ?_
  refine xB.go 7 (7, [(0, .int x), (1, .int 8), (2, .int (x - x / 8 * 8))], [.int (x ^^^ 8)], XM L mi ml) rfl ?_
  refine xB.bp (0 ≤ (x ^^^ 8)) (18, [(0, .int x), (1, .int 8), (2, .int (x - x / 8 * 8))], [], XM L mi ml) (10, [(0, .int x), (1, .int 8), (2, .int (x - x / 8 * 8))], [], XM L mi ml) rfl (fun h1 => ?_) (fun h1 => ?_)
  · refine xB.go 1 (19, [(0, .int x), (1, .int 8), (2, .int (x - x / 8 * 8))], [.int (x - x / 8 * 8)], XM L mi ml) rfl ?_
    refine xB.rt (some (.int (x - x / 8 * 8))) mi ml rfl ?_
    exact ⟨by rw [fm_1 h1], rfl, rfl⟩
  · refine xB.go 1 (11, [(0, .int x), (1, .int 8), (2, .int (x - x / 8 * 8))], [.int (x - x / 8 * 8)], XM L mi ml) rfl ?_
    refine xB.bp ((x - x / 8 * 8) = 0) (18, [(0, .int x), (1, .int 8), (2, .int (x - x / 8 * 8))], [], XM L mi ml) (14, [(0, .int x), (1, .int 8), (2, .int (x - x / 8 * 8))], [], XM L mi ml) rfl (fun h2 => ?_) (fun h2 => ?_)
    · refine xB.go 1 (19, [(0, .int x), (1, .int 8), (2, .int (x - x / 8 * 8))], [.int (x - x / 8 * 8)], XM L mi ml) rfl ?_
      refine xB.rt (some (.int (x - x / 8 * 8))) mi ml rfl ?_
      exact ⟨by rw [fm_2 h2], rfl, rfl⟩
    · refine xB.go 3 (17, [(0, .int x), (1, .int 8), (2, .int (x - x / 8 * 8))], [.int ((x - x / 8 * 8) + 8)], XM L mi ml) rfl ?_
      refine xB.rt (some (.int ((x - x / 8 * 8) + 8))) mi ml rfl ?_
      exact ⟨by rw [fm_3 h1 h2], rfl, rfl⟩
set_option maxRecDepth 100000 in
theorem c_cellOf (d L : Nat) (mi : xmi) (ml : xml) (x y : Int32)  : xFv (d + 2) 24 [.int x, .int y] L mi ml (.int (8 + x * 8 + (y &&& 7))) mi ml := by
  refine xF.mk mX3_cellOf rfl rfl ?_
  refine xB.go 7 (10, [(0, .int x), (1, .int y)], [.int 8, .int y, .int (8 + (x * 8))], XM L mi ml) rfl ?_
  refine xB.c1 135 [.int y, .int 8] [.int (8 + (x * 8))] (c_floorMod8 _ L mi ml y ) rfl ?_
  refine xB.go 1 (14, [(0, .int x), (1, .int y)], [.int ((8 + (x * 8)) + (y &&& 7))], XM L mi ml) rfl ?_
  refine xB.rt (some (.int ((8 + (x * 8)) + (y &&& 7)))) mi ml rfl ?_
  exact ⟨rfl, rfl, rfl⟩
theorem cell_ix {t : Nat} {y : Int32} (ht : t < 2) : 8 + nI t * 8 + (y &&& 7) = nI (8 + 8 * t + ix7 y) := by
  rw [(and7_ix y).1]
  have := (and7_ix y).2
  generalize ix7 y = k at this ⊢
  have key : ∀ t, t < 2 → ∀ k, k < 8 → 8 + nI t * 8 + nI k = nI (8 + 8 * t + k) := by decide +kernel
  exact key t ht k this
def dnA (z a b : Int32) : Int32 := if z = 0 then a + b else if z = 1 then a - b else if z = 2 then a * b else if z = 3 then (if a < b then 1 else 0) else if z = 4 then (if a = b then 1 else 0) else if z = 5 then a &&& b else a ||| b
set_option maxRecDepth 100000 in
theorem c_resultOf (d L : Nat) (mi : xmi) (ml : xml) (z x y : Int32)  : xFv (d + 1) 20 [.int z, .int x, .int y] L mi ml (.int (dnA z x y)) mi ml := by
  refine xF.mk mX2_resultOf rfl rfl ?_
  refine xB.go 1 (1, [(0, .int z), (1, .int x), (2, .int y)], [.int z], XM L mi ml) rfl ?_
  by_cases h1 : z = 0
  · refine xB.tp h1 ?_
    refine xB.go 1 (40, [(0, .int z), (1, .int x), (2, .int y)], [], XM L mi ml) rfl ?_
    refine xB.go 3 (43, [(0, .int z), (1, .int x), (2, .int y)], [.int (x + y)], XM L mi ml) rfl ?_
    refine xB.rt (some (.int (x + y))) mi ml rfl ?_
    refine ⟨?_, rfl, rfl⟩
    subst h1
    unfold dnA
    rw [if_pos rfl]
  by_cases h2 : z = 1
  · refine xB.tp h2 ?_
    refine xB.go 1 (44, [(0, .int z), (1, .int x), (2, .int y)], [], XM L mi ml) rfl ?_
    refine xB.go 3 (47, [(0, .int z), (1, .int x), (2, .int y)], [.int (x - y)], XM L mi ml) rfl ?_
    refine xB.rt (some (.int (x - y))) mi ml rfl ?_
    refine ⟨?_, rfl, rfl⟩
    subst h2
    unfold dnA
    rw [if_neg (by decide), if_pos rfl]
  by_cases h3 : z = 2
  · refine xB.tp h3 ?_
    refine xB.go 1 (48, [(0, .int z), (1, .int x), (2, .int y)], [], XM L mi ml) rfl ?_
    refine xB.go 3 (51, [(0, .int z), (1, .int x), (2, .int y)], [.int (x * y)], XM L mi ml) rfl ?_
    refine xB.rt (some (.int (x * y))) mi ml rfl ?_
    refine ⟨?_, rfl, rfl⟩
    subst h3
    unfold dnA
    rw [if_neg (by decide), if_neg (by decide), if_pos rfl]
  by_cases h4 : z = 3
  · refine xB.tp h4 ?_
    refine xB.go 1 (52, [(0, .int z), (1, .int x), (2, .int y)], [], XM L mi ml) rfl ?_
    refine xB.go 2 (54, [(0, .int z), (1, .int x), (2, .int y)], [.int y, .int x], XM L mi ml) rfl ?_
    refine xB.bp (y ≤ x) (61, [(0, .int z), (1, .int x), (2, .int y)], [], XM L mi ml) (57, [(0, .int z), (1, .int x), (2, .int y)], [], XM L mi ml) rfl (fun h5 => ?_) (fun h5 => ?_)
    · refine xB.go 1 (62, [(0, .int z), (1, .int x), (2, .int y)], [.int 0], XM L mi ml) rfl ?_
      refine xB.rt (some (.int 0)) mi ml rfl ?_
      refine ⟨?_, rfl, rfl⟩
      subst h4
      unfold dnA
      rw [if_neg (by decide), if_neg (by decide), if_neg (by decide), if_pos rfl, if_neg (i_nlt.mpr h5)]
    · refine xB.go 2 (62, [(0, .int z), (1, .int x), (2, .int y)], [.int 1], XM L mi ml) rfl ?_
      refine xB.rt (some (.int 1)) mi ml rfl ?_
      refine ⟨?_, rfl, rfl⟩
      subst h4
      unfold dnA
      rw [if_neg (by decide), if_neg (by decide), if_neg (by decide), if_pos rfl, if_pos (i_nle.mp h5)]
  by_cases h6 : z = 4
  · refine xB.tp h6 ?_
    refine xB.go 1 (63, [(0, .int z), (1, .int x), (2, .int y)], [], XM L mi ml) rfl ?_
    refine xB.go 2 (65, [(0, .int z), (1, .int x), (2, .int y)], [.int y, .int x], XM L mi ml) rfl ?_
    refine xB.bp (¬ x = y) (72, [(0, .int z), (1, .int x), (2, .int y)], [], XM L mi ml) (68, [(0, .int z), (1, .int x), (2, .int y)], [], XM L mi ml) rfl (fun h7 => ?_) (fun h7 => ?_)
    · refine xB.go 1 (73, [(0, .int z), (1, .int x), (2, .int y)], [.int 0], XM L mi ml) rfl ?_
      refine xB.rt (some (.int 0)) mi ml rfl ?_
      refine ⟨?_, rfl, rfl⟩
      subst h6
      unfold dnA
      rw [if_neg (by decide), if_neg (by decide), if_neg (by decide), if_neg (by decide), if_pos rfl, if_neg h7]
    · refine xB.go 2 (73, [(0, .int z), (1, .int x), (2, .int y)], [.int 1], XM L mi ml) rfl ?_
      refine xB.rt (some (.int 1)) mi ml rfl ?_
      refine ⟨?_, rfl, rfl⟩
      subst h6
      unfold dnA
      rw [if_neg (by decide), if_neg (by decide), if_neg (by decide), if_neg (by decide), if_pos rfl, if_pos (Classical.not_not.mp h7)]
  by_cases h8 : z = 5
  · refine xB.tp h8 ?_
    refine xB.go 1 (74, [(0, .int z), (1, .int x), (2, .int y)], [], XM L mi ml) rfl ?_
    refine xB.go 3 (77, [(0, .int z), (1, .int x), (2, .int y)], [.int (x &&& y)], XM L mi ml) rfl ?_
    refine xB.rt (some (.int (x &&& y))) mi ml rfl ?_
    refine ⟨?_, rfl, rfl⟩
    subst h8
    unfold dnA
    rw [if_neg (by decide), if_neg (by decide), if_neg (by decide), if_neg (by decide), if_neg (by decide), if_pos rfl]
  refine xB.st (78, [(0, .int z), (1, .int x), (2, .int y)], [], XM L mi ml) (xsw_d (mt := mX2_resultOf) rfl (xsw_ne 6 (by decide) (fun k hk => by rcases (show k = 0 ∨ k = 1 ∨ k = 2 ∨ k = 3 ∨ k = 4 ∨ k = 5 by omega) with rfl | rfl | rfl | rfl | rfl | rfl; exact h1; exact h2; exact h3; exact h4; exact h6; exact h8)) rfl) ?_
  refine xB.go 3 (81, [(0, .int z), (1, .int x), (2, .int y)], [.int (x ||| y)], XM L mi ml) rfl ?_
  refine xB.rt (some (.int (x ||| y))) mi ml rfl ?_
  refine ⟨?_, rfl, rfl⟩
  unfold dnA
  rw [if_neg h1, if_neg h2, if_neg h3, if_neg h4, if_neg h6, if_neg h8]
set_option maxRecDepth 100000 in
theorem c_put (d L : Nat) (mi : xmi) (ml : xml) {h : Nat} (v : Int32) (hh : mi 18 2 = nI h) (h16 : h < 16) : xFn (d + 1) 21 [.ref 18, .int v] L mi ml (xU (xU mi 19 h v) 18 2 (nI (h + 1))) ml := by
  refine xF.mk mX2_put rfl rfl ?_
  refine xB.go 3 (6, [(0, .ref 18), (1, .int v)], [.int 16, .int (mi 18 2)], XM L mi ml) rfl ?_
  refine xB.bp (16 ≤ (mi 18 2)) (29, [(0, .ref 18), (1, .int v)], [], XM L mi ml) (9, [(0, .ref 18), (1, .int v)], [], XM L mi ml) rfl (fun h1 => ?_) (fun h1 => ?_)
  · refine xB.rt none mi ml rfl ?_
    rw [hh] at h1; have hq : 16 ≤ h := (nI_leI (by decide) (by omega)).mp h1; omega
  · refine xB.go 5 (18, [(0, .ref 18), (1, .int v)], [.int v, .int (mi 18 2), .ref 19], XM L mi ml) rfl ?_
    refine xB.ck (xin (mi 18 2) 16) (19, [(0, .ref 18), (1, .int v)], [], XM L (xU mi 19 (mi 18 2).toNatClampNeg v) ml) rfl (xin_of h16 (by decide) hh) ?_
    refine xB.go 6 (29, [(0, .ref 18), (1, .int v)], [], XM L (xU (xU mi 19 (mi 18 2).toNatClampNeg v) 18 2 ((mi 18 2) + 1)) ml) rfl ?_
    refine xB.rt none (xU (xU mi 19 (mi 18 2).toNatClampNeg v) 18 2 ((mi 18 2) + 1)) ml rfl ?_
    exact ⟨rfl, by rw [hh, nI_1, nI_clamp (by omega)], rfl⟩
set_option maxRecDepth 100000 in
theorem c_take (d L : Nat) (mi : xmi) (ml : xml) {h : Nat} (hh : mi 18 2 = nI h) (h1x : 1 ≤ h) (h16 : h ≤ 16) : xFv (d + 1) 22 [.ref 18] L mi ml (.int (mi 19 (h - 1))) (xU mi 18 2 (nI (h - 1))) ml := by
  refine xF.mk mX2_take rfl rfl ?_
  refine xB.go 2 (4, [(0, .ref 18)], [.int (mi 18 2)], XM L mi ml) rfl ?_
  refine xB.bp (0 < (mi 18 2)) (9, [(0, .ref 18)], [], XM L mi ml) (7, [(0, .ref 18)], [], XM L mi ml) rfl (fun h1 => ?_) (fun h1 => ?_)
  · refine xB.go 10 (27, [(0, .ref 18)], [.int ((mi 18 2) - 1), .ref 19], XM L (xU mi 18 2 ((mi 18 2) - 1)) ml) rfl ?_
    refine xB.ck (xin ((mi 18 2) - 1) 16) (28, [(0, .ref 18)], [.int (mi 19 ((mi 18 2) - 1).toNatClampNeg)], XM L (xU mi 18 2 ((mi 18 2) - 1)) ml) rfl (xin_of (j := h - 1) (by omega) (by decide) (by rw [hh, show (1 : Int32) = nI 1 from rfl, nI_subeq h1x])) ?_
    refine xB.rt (some (.int (mi 19 ((mi 18 2) - 1).toNatClampNeg))) (xU mi 18 2 ((mi 18 2) - 1)) ml rfl ?_
    rw [hh, show (1 : Int32) = nI 1 from rfl, nI_subeq h1x]
    exact ⟨by rw [nI_clamp (by omega)], rfl, rfl⟩
  · refine xB.go 1 (8, [(0, .ref 18)], [.int 0], XM L mi ml) rfl ?_
    refine xB.rt (some (.int 0)) mi ml rfl ?_
    rw [hh] at h1; exact absurd ((nI_ltI (a := 0) (b := h) (by decide) (by omega)).mpr (by omega)) h1
