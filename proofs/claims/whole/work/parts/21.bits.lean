/-! sets of places as longs -/
def hb (x : Int64) (i : Nat) : Bool := x.toBitVec.getLsbD i
theorem hb_or (x y : Int64) (i : Nat) : hb (x ||| y) i = (hb x i || hb y i) := by unfold hb; rw [Int64.toBitVec_or, BitVec.getLsbD_or]
theorem hb_and (x y : Int64) (i : Nat) : hb (x &&& y) i = (hb x i && hb y i) := by unfold hb; rw [Int64.toBitVec_and, BitVec.getLsbD_and]
theorem hb_big {x : Int64} {i : Nat} (h : 64 ≤ i) : hb x i = false := by unfold hb; exact BitVec.getLsbD_of_ge _ _ h
theorem hb_m1 {i : Nat} (h : i < 64) : hb (-1) i = true := by
  unfold hb
  rw [show (-1 : Int64).toBitVec = BitVec.allOnes 64 by decide +kernel, BitVec.getLsbD_allOnes]
  simpa using h
theorem hb_not (x : Int64) {i : Nat} (h : i < 64) : hb (x ^^^ (-1)) i = !hb x i := by
  have := hb_m1 h
  unfold hb at this ⊢
  rw [Int64.toBitVec_xor, BitVec.getLsbD_xor, this, Bool.xor_true]
theorem hb_0 (i : Nat) : hb 0 i = false := by unfold hb; simp
theorem hb_ext {x y : Int64} (h : ∀ i, i < 64 → hb x i = hb y i) : x = y := by
  refine Int64.toBitVec_inj.mp (BitVec.eq_of_getLsbD_eq fun i hi => h i hi)
theorem hb_ne {x : Int64} (h : ¬ x = 0) : ∃ i, i < 64 ∧ hb x i = true := by
  refine Decidable.byContradiction fun hn => h (hb_ext fun i hi => ?_)
  rw [hb_0]
  cases hx : hb x i with
  | false => rfl
  | true => exact absurd ⟨i, hi, hx⟩ hn
theorem hb_eq0 {x : Int64} : x = 0 ↔ ∀ i, i < 64 → hb x i = false := ⟨fun h i _ => by rw [h, hb_0], fun h => hb_ext fun i hi => by rw [h i hi, hb_0]⟩
theorem xc63 : ∀ k, k < 64 → ((nI k).toInt64.toUInt64 &&& Int64.toUInt64 63).toNat = k := by decide +kernel
theorem ts_bit' {w : Int64} {s : UInt64} {j : Nat} (hj : j < 64) (hs : s.toNat = j) : ((w.toUInt64 >>> s).toInt64 &&& 1) = 0 ↔ w.toBitVec.getLsbD j = false := by
  have e : (w.toUInt64 >>> s).toInt64.toBitVec = w.toBitVec >>> j := by
    apply BitVec.eq_of_toNat_eq
    show (w.toUInt64 >>> s).toNat = _
    rw [UInt64.toNat_shiftRight, hs, Nat.mod_eq_of_lt hj, BitVec.toNat_ushiftRight]
    rfl
  rw [← Int64.toBitVec_inj, Int64.toBitVec_and, e]
  show w.toBitVec >>> j &&& 1#64 = 0#64 ↔ _
  constructor
  · intro h
    have t := congrArg (fun x => x.getLsbD 0) h
    simpa using t
  · intro h
    apply BitVec.eq_of_getLsbD_eq
    intro i hi
    cases i with
    | zero => simp [h]
    | succ i => simp
theorem hb_test {x : Int64} {k : Nat} (hk : k < 64) : ((x.toUInt64 >>> ((nI k).toInt64.toUInt64 &&& Int64.toUInt64 63)).toInt64 &&& 1) = 0 ↔ hb x k = false := ts_bit' hk (xc63 k hk)
/-- the set of one place, none if there is no such place -/
def xbit (p : Int32) : Int64 := if p < 0 then 0 else if 64 ≤ p then 0 else 1 <<< (p.toInt64 &&& 63)
theorem xbit_tp : ∀ k, k < 64 → (xbit (nI k)).toBitVec = BitVec.twoPow 64 k := by decide +kernel
theorem hb_bit {k : Nat} (hk : k < 64) (i : Nat) : hb (xbit (nI k)) i = decide (i = k) := by
  unfold hb
  rw [xbit_tp k hk, BitVec.getLsbD_twoPow]
  by_cases h : k = i
  · subst h; simp [hk]
  · have : ¬ i = k := fun z => h z.symm
    simp [h, this]
theorem xbit_out {p : Int32} (h : p < 0 ∨ 64 ≤ p) : xbit p = 0 := by
  unfold xbit
  rcases h with h | h
  · rw [if_pos h]
  · by_cases h2 : p < 0
    · rw [if_pos h2]
    · rw [if_neg h2, if_pos h]
/-- the lowest place of a set -/
def xlowN (x : Int64) : Nat → Nat → Nat
  | 0, i => i
  | f + 1, i => bif hb x i then i else xlowN x f (i + 1)
def xlow (x : Int64) : Nat := xlowN x 64 0
theorem xlowN_spec {x : Int64} : ∀ (f i : Nat), (∃ j, i ≤ j ∧ j < i + f ∧ hb x j = true) → hb x (xlowN x f i) = true ∧ i ≤ xlowN x f i ∧ xlowN x f i < i + f ∧ ∀ j, i ≤ j → j < xlowN x f i → hb x j = false := by
  intro f
  induction f with
  | zero => rintro i ⟨j, h1, h2, -⟩; omega
  | succ f ih =>
    rintro i ⟨j, h1, h2, h3⟩
    unfold xlowN
    cases hx : hb x i with
    | true => exact ⟨hx, Nat.le_refl _, by simp only [cond_true]; omega, fun j h4 h5 => by simp only [cond_true] at h5; omega⟩
    | false =>
      simp only [cond_false]
      have hj : i + 1 ≤ j := by
        rcases Nat.lt_or_ge i j with z | z
        · exact z
        · have : j = i := by omega
          subst this; rw [hx] at h3; cases h3
      obtain ⟨g1, g2, g3, g4⟩ := ih (i + 1) ⟨j, hj, by omega, h3⟩
      refine ⟨g1, by omega, by omega, fun k h4 h5 => ?_⟩
      rcases Nat.lt_or_ge i k with z | z
      · exact g4 k z h5
      · have : k = i := by omega
        subst this; exact hx
theorem xlow_spec {x : Int64} (h : ¬ x = 0) : xlow x < 64 ∧ hb x (xlow x) = true ∧ ∀ j, j < xlow x → hb x j = false := by
  obtain ⟨i, hi, hx⟩ := hb_ne h
  obtain ⟨g1, -, g3, g4⟩ := xlowN_spec 64 0 ⟨i, Nat.zero_le _, by omega, hx⟩
  exact ⟨by unfold xlow; omega, g1, fun j hj => g4 j (Nat.zero_le _) hj⟩
theorem xlow_and {x : Int64} (h : ¬ x = 0) : x &&& -x = xbit (nI (xlow x)) := by
  obtain ⟨h1, h2, h3⟩ := xlow_spec h
  refine hb_ext fun i hi => ?_
  rw [hb_bit h1, hb_and]
  have hn : hb (-x) i = (hb x i ^^ decide (∃ j, j < i ∧ hb x j = true)) := by
    unfold hb
    rw [Int64.toBitVec_neg, BitVec.getLsbD_neg]
    simp [hi]
  rw [hn]
  rcases Nat.lt_trichotomy i (xlow x) with z | z | z
  · rw [h3 i z]; simp; omega
  · subst z
    rw [h2]
    have : ¬ ∃ j, j < xlow x ∧ hb x j = true := fun ⟨j, g1, g2⟩ => by rw [h3 j g1] at g2; cases g2
    simp [this]
  · have : ∃ j, j < i ∧ hb x j = true := ⟨_, z, h2⟩
    simp [this]; omega
/-- Long.bitCount -/
def xbc1 (x : Int64) : Int64 := x - ((x.toUInt64 >>> ((Int32.toInt64 1).toUInt64 &&& Int64.toUInt64 63)).toInt64 &&& 6148914691236517205)
def xbc2 (x : Int64) : Int64 := (x &&& 3689348814741910323) + ((x.toUInt64 >>> ((Int32.toInt64 2).toUInt64 &&& Int64.toUInt64 63)).toInt64 &&& 3689348814741910323)
def xbc3 (x : Int64) : Int64 := (x + (x.toUInt64 >>> ((Int32.toInt64 4).toUInt64 &&& Int64.toUInt64 63)).toInt64) &&& 1085102592571150095
def xbc4 (k : Int32) (x : Int64) : Int64 := x + (x.toUInt64 >>> ((Int32.toInt64 k).toUInt64 &&& Int64.toUInt64 63)).toInt64
def xbc (x : Int64) : Int32 := (xbc4 32 (xbc4 16 (xbc4 8 (xbc3 (xbc2 (xbc1 x)))))).toInt32 &&& 127
theorem xbc_low : ∀ k, k < 64 → xbc (xbit (nI k) - 1) = nI k := by decide +kernel
theorem xbc_of {x : Int64} (h : ¬ x = 0) : xbc ((x &&& -x) - 1) = nI (xlow x) := by rw [xlow_and h, xbc_low _ (xlow_spec h).1]
/-! the truth of a range -/
theorem xin_of {x : Int32} {n : Nat} {j : Nat} (hj : j < n) (hn : n < 2 ^ 31) (h : x = nI j) : xin x n = true := by
  subst h
  have h0 := nI_pos (show j < 2 ^ 31 by omega)
  unfold xin
  rw [nI_clamp (by omega)]
  have : Nat.ble n j = false := by
    cases hb : Nat.ble n j with
    | false => rfl
    | true => have := Nat.le_of_ble_eq_true hb; omega
  rw [this]
  simp [h0]
theorem xin_iff {x : Int32} {n : Nat} (hn : n < 2 ^ 31) (h0 : ¬ x < 0) (h1 : x < nI n) : xin x n = true := by
  rcases pk_ix x hn with z | z | ⟨j, h2, h3⟩
  · exact absurd z h0
  · rw [Int32.le_iff_toInt_le] at z; rw [Int32.lt_iff_toInt_lt] at h1; omega
  · exact xin_of h2 hn h3
theorem i_nlt {x y : Int32} : ¬ x < y ↔ y ≤ x := by rw [Int32.lt_iff_toInt_lt, Int32.le_iff_toInt_le]; omega
theorem i_nle {x y : Int32} : ¬ x ≤ y ↔ y < x := by rw [Int32.lt_iff_toInt_lt, Int32.le_iff_toInt_le]; omega
