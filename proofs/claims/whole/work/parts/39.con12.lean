/-! Types: levels as two bits -/
def lv2 (p q : Bool) : Int32 := bif p then (bif q then 3 else 1) else (bif q then 2 else 0)
theorem lv2_or (p q p' q' : Bool) : lv2 p q ||| lv2 p' q' = lv2 (p || p') (q || q') := by cases p <;> cases q <;> cases p' <;> cases q' <;> decide +kernel
theorem lv2_bit : ∀ (p q : Bool) (i : Nat), i < 32 → (lv2 p q).toBitVec.getLsbD i = ((decide (i = 0) && p) || (decide (i = 1) && q)) := by decide +kernel
theorem lv2_inj {p q p' q' : Bool} (h : lv2 p q = lv2 p' q') : p = p' ∧ q = q' := by revert h; cases p <;> cases q <;> cases p' <;> cases q' <;> decide +kernel
theorem three_bit : ∀ i, i < 32 → (3 : Int32).toBitVec.getLsbD i = decide (i < 2) := by decide +kernel
theorem sh2 : ∀ k, k < 16 → ((2 * nI k).toInt64.toUInt64 &&& Int64.toUInt64 63).toNat = 2 * k := by decide +kernel
theorem lv_shift (x : Int64) {k : Nat} (hk : k < 16) : (Int64.toInt32 (x.toUInt64 >>> ((Int32.toInt64 (2 * nI k)).toUInt64 &&& Int64.toUInt64 63)).toInt64) &&& 3 = lv2 (hb x (2 * k)) (hb x (2 * k + 1)) := by
  have e : (x.toUInt64 >>> ((Int32.toInt64 (2 * nI k)).toUInt64 &&& Int64.toUInt64 63)).toInt64.toBitVec = x.toBitVec >>> (2 * k) := by
    apply BitVec.eq_of_toNat_eq
    show (x.toUInt64 >>> ((Int32.toInt64 (2 * nI k)).toUInt64 &&& Int64.toUInt64 63)).toNat = _
    rw [UInt64.toNat_shiftRight, sh2 k hk, Nat.mod_eq_of_lt (by omega), BitVec.toNat_ushiftRight]
    rfl
  refine Int32.toBitVec_inj.mp (BitVec.eq_of_getLsbD_eq fun i hi => ?_)
  rw [Int32.toBitVec_and, BitVec.getLsbD_and, lv2_bit _ _ i hi, three_bit i hi, Int64.toBitVec_toInt32, e, BitVec.getLsbD_signExtend, if_pos (show i < 64 by omega), BitVec.getLsbD_ushiftRight]
  unfold hb
  rcases (show i = 0 ∨ i = 1 ∨ 2 ≤ i by omega) with rfl | rfl | z
  · simp
  · simp
  · have h0 : ¬ i = 0 := by omega
    have h1 : ¬ i = 1 := by omega
    have h2 : ¬ i < 2 := by omega
    simp [h0, h1, h2]
def anyr (f : Nat → Bool) (lo : Nat) : Nat → Bool
  | 0 => false
  | c + 1 => anyr f lo c || f (lo + c)
theorem anyr_iff {f : Nat → Bool} {lo c : Nat} : anyr f lo c = true ↔ ∃ k, lo ≤ k ∧ k < lo + c ∧ f k = true := by
  induction c with
  | zero => exact ⟨(fun h => by cases h), fun ⟨k, h1, h2, _⟩ => by omega⟩
  | succ c ih =>
    unfold anyr
    rw [Bool.or_eq_true, ih]
    constructor
    · rintro (⟨k, h1, h2, h3⟩ | h)
      · exact ⟨k, h1, by omega, h3⟩
      · exact ⟨lo + c, by omega, by omega, h⟩
    · rintro ⟨k, h1, h2, h3⟩
      by_cases z : k = lo + c
      · subst z; exact Or.inr h3
      · exact Or.inl ⟨k, h1, by omega, h3⟩
/-- a bit of a pile's level; the surrounding's at place 16 -/
def tb (ml : xml) (b i k : Nat) : Bool := bif Nat.beq k 16 then hb (ml 16 (5 + b)) i else hb (ml 17 i) (2 * k + b)
def tkn (K : Nat → Nat) (ml : xml) (b i h : Nat) : Bool := anyr (fun k => hb (ml 17 i) (2 * k + b)) (h - tk (K i)) (tk (K i))
theorem c_heightN (d L : Nat) (mi : xmi) (ml : xml) {i h : Nat} (hi : i < 64) (hm : hb (ml 8 2) i = true) (hh : mi 9 i = nI h) : xFv (d + 2) 52 [.ref 8, .int (nI i)] L mi ml (.int (nI h)) mi ml := by
  have g := c_heightAt d L mi ml (nI i)
  rwa [if_pos ((hb_P hi).mpr hm), nI_clamp (by omega), hh] at g
set_option maxRecDepth 100000 in
set_option maxHeartbeats 1000000 in
theorem c_surroundingAt (d L : Nat) (mi : xmi) (ml : xml) {i : Nat} (hi64 : i < 64) : xFv (d + 2) 57 [.ref 16, .int (nI i)] L mi ml (.int (lv2 (hb (ml 16 5) i) (hb (ml 16 6) i))) mi ml := by
  refine xF.mk mX7_surroundingAt rfl rfl ?_
  refine xB.go 3 (5, [(0, .ref 16), (1, .int (nI i))], [.int (nI i), .long (ml 16 5)], XM L mi ml) rfl ?_
  refine xB.c1 89 [.long (ml 16 5), .int (nI i)] [] (c_holdsN _ L _ _ (ml 16 5) hi64) rfl ?_
  refine xB.bz (hb (ml 16 5) i = true) (15, [(0, .ref 16), (1, .int (nI i))], [], XM L mi ml) (11, [(0, .ref 16), (1, .int (nI i))], [], XM L mi ml) rfl (fun h1 => ?_) (fun h1 => ?_)
  · refine xB.go 4 (21, [(0, .ref 16), (1, .int (nI i))], [.int (nI i), .long (ml 16 6), .int 0], XM L mi ml) rfl ?_
    refine xB.c1 89 [.long (ml 16 6), .int (nI i)] [.int 0] (c_holdsN _ L _ _ (ml 16 6) hi64) rfl ?_
    refine xB.bz (hb (ml 16 6) i = true) (31, [(0, .ref 16), (1, .int (nI i))], [.int 0], XM L mi ml) (27, [(0, .ref 16), (1, .int (nI i))], [.int 0], XM L mi ml) rfl (fun h2 => ?_) (fun h2 => ?_)
    · refine xB.go 2 (33, [(0, .ref 16), (1, .int (nI i))], [.int 0], XM L mi ml) rfl ?_
      refine xB.rt (some (.int 0)) mi ml rfl ?_
      have e0 : hb (ml 16 5) i = false := by simpa using h1
      have e1 : hb (ml 16 6) i = false := by simpa using h2
      exact ⟨by rw [e0, e1]; rfl, rfl, rfl⟩
    · refine xB.go 3 (33, [(0, .ref 16), (1, .int (nI i))], [.int 2], XM L mi ml) rfl ?_
      refine xB.rt (some (.int 2)) mi ml rfl ?_
      have e0 : hb (ml 16 5) i = false := by simpa using h1
      have e1 : hb (ml 16 6) i = true := by simpa using h2
      exact ⟨by rw [e0, e1]; rfl, rfl, rfl⟩
  · refine xB.go 5 (21, [(0, .ref 16), (1, .int (nI i))], [.int (nI i), .long (ml 16 6), .int 1], XM L mi ml) rfl ?_
    refine xB.c1 89 [.long (ml 16 6), .int (nI i)] [.int 1] (c_holdsN _ L _ _ (ml 16 6) hi64) rfl ?_
    refine xB.bz (hb (ml 16 6) i = true) (31, [(0, .ref 16), (1, .int (nI i))], [.int 1], XM L mi ml) (27, [(0, .ref 16), (1, .int (nI i))], [.int 1], XM L mi ml) rfl (fun h3 => ?_) (fun h3 => ?_)
    · refine xB.go 2 (33, [(0, .ref 16), (1, .int (nI i))], [.int 1], XM L mi ml) rfl ?_
      refine xB.rt (some (.int 1)) mi ml rfl ?_
      have e0 : hb (ml 16 5) i = true := by simpa using h1
      have e1 : hb (ml 16 6) i = false := by simpa using h3
      exact ⟨by rw [e0, e1]; rfl, rfl, rfl⟩
    · refine xB.go 3 (33, [(0, .ref 16), (1, .int (nI i))], [.int 3], XM L mi ml) rfl ?_
      refine xB.rt (some (.int 3)) mi ml rfl ?_
      have e0 : hb (ml 16 5) i = true := by simpa using h1
      have e1 : hb (ml 16 6) i = true := by simpa using h3
      exact ⟨by rw [e0, e1]; rfl, rfl, rfl⟩
set_option maxRecDepth 100000 in
set_option maxHeartbeats 1000000 in
theorem c_levelOnPile (d L : Nat) (mi : xmi) (ml : xml) {n : Nat} {K T : Nat → Nat} (hP : PRG mi n K T) {i k : Nat} (hin : i < n) (hk : k < 16) : xFv (d + 2) 58 [.ref 16, .int (nI i), .int (nI k)] L mi ml (.int (lv2 (hb (ml 17 i) (2 * k)) (hb (ml 17 i) (2 * k + 1)))) mi ml := by
  refine xF.mk mX7_levelOnPile rfl rfl ?_
  refine xB.go 3 (5, [(0, .ref 16), (1, .int (nI i)), (2, .int (nI k))], [.int (nI i), .ref 1], XM L mi ml) rfl ?_
  refine xB.c1 41 [.ref 1, .int (nI i)] [] (c_has _ L mi ml (nI i) ) rfl ?_
  refine xB.bz (0 ≤ (nI i) ∧ (nI i) < mi 1 2) (20, [(0, .ref 16), (1, .int (nI i)), (2, .int (nI k))], [], XM L mi ml) (11, [(0, .ref 16), (1, .int (nI i)), (2, .int (nI k))], [], XM L mi ml) rfl (fun h1 => ?_) (fun h1 => ?_)
  · refine xB.go 1 (21, [(0, .ref 16), (1, .int (nI i)), (2, .int (nI k))], [.int 0], XM L mi ml) rfl ?_
    refine xB.rt (some (.int 0)) mi ml rfl ?_
    exact absurd ((hP.has (by have := hP.2.1; omega)).mpr hin) h1
  · refine xB.go 2 (14, [(0, .ref 16), (1, .int (nI i)), (2, .int (nI k))], [.int 16, .int (nI k)], XM L mi ml) rfl ?_
    refine xB.c1 86 [.int (nI k), .int 16] [] (c_isBetween _ L mi ml (nI k) 16 ) rfl ?_
    refine xB.bn (0 ≤ (nI k) ∧ (nI k) < 16) (22, [(0, .ref 16), (1, .int (nI i)), (2, .int (nI k))], [], XM L mi ml) (20, [(0, .ref 16), (1, .int (nI i)), (2, .int (nI k))], [], XM L mi ml) rfl (fun h2 => ?_) (fun h2 => ?_)
    · refine xB.go 3 (27, [(0, .ref 16), (1, .int (nI i)), (2, .int (nI k))], [.int (nI i), .ref 17], XM L mi ml) rfl ?_
      refine xB.ck (xin (nI i) 64) (28, [(0, .ref 16), (1, .int (nI i)), (2, .int (nI k))], [.long (ml 17 (nI i).toNatClampNeg)], XM L mi ml) rfl (xin_of (Nat.lt_of_lt_of_le hin hP.2.1) (by decide) rfl) ?_
      refine xB.go 7 (35, [(0, .ref 16), (1, .int (nI i)), (2, .int (nI k))], [.int ((Int64.toInt32 (Int64.toUInt64 (ml 17 (nI i).toNatClampNeg) >>> ((Int32.toInt64 (2 * (nI k))).toUInt64 &&& Int64.toUInt64 63)).toInt64) &&& 3)], XM L mi ml) rfl ?_
      refine xB.rt (some (.int ((Int64.toInt32 (Int64.toUInt64 (ml 17 (nI i).toNatClampNeg) >>> ((Int32.toInt64 (2 * (nI k))).toUInt64 &&& Int64.toUInt64 63)).toInt64) &&& 3))) mi ml rfl ?_
      exact ⟨by rw [nI_clamp (by have := hP.2.1; omega)]; exact congrArg (fun z => some (Value.int z)) (lv_shift _ hk), rfl, rfl⟩
    · refine xB.go 1 (21, [(0, .ref 16), (1, .int (nI i)), (2, .int (nI k))], [.int 0], XM L mi ml) rfl ?_
      refine xB.rt (some (.int 0)) mi ml rfl ?_
      exact absurd (show 0 ≤ nI k ∧ nI k < 16 from ⟨nI_pos' (by omega), nI_lt hk (by decide)⟩) h2
set_option maxRecDepth 100000 in
set_option maxHeartbeats 1000000 in
theorem takenAt_27 (d L : Nat) (mi : xmi) (ml : xml) {n : Nat} {K T : Nat → Nat} (hP : PRG mi n K T) {i h : Nat} (hin : i < n) (hmt : hb (ml 8 2) i = true) (hh : mi 9 i = nI h) (h16 : h ≤ 16) (htk : tk (K i) ≤ h) {lo : Nat} (hlo : lo = h - tk (K i)) : ∀ (f c : Nat), c ≤ tk (K i) → tk (K i) - c < f → xB (d + 2) mX7_takenAt L (fun rr x y => rr = some (.int (lv2 (tkn K ml 0 i h) (tkn K ml 1 i h))) ∧ x = mi ∧ y = ml) (27, [(0, .ref 16), (1, .int (nI i)), (2, .int (nI h)), (3, .int (lv2 (anyr (fun k => hb (ml 17 i) (2 * k + 0)) lo c) (anyr (fun k => hb (ml 17 i) (2 * k + 1)) lo c))), (4, .int (nI (lo + c)))], [], XM L mi ml) := by
  intro f
  induction f with
  | zero => intro c h1 h2; omega
  | succ f ih =>
    intro c hle hlt
    refine xB.go 2 (30, [(0, .ref 16), (1, .int (nI i)), (2, .int (nI h)), (3, .int (lv2 (anyr (fun k => hb (ml 17 i) (2 * k + 0)) lo c) (anyr (fun k => hb (ml 17 i) (2 * k + 1)) lo c))), (4, .int (nI (lo + c)))], [.int (nI h), .int (nI (lo + c))], XM L mi ml) rfl ?_
    refine xB.bp ((nI h) ≤ (nI (lo + c))) (49, [(0, .ref 16), (1, .int (nI i)), (2, .int (nI h)), (3, .int (lv2 (anyr (fun k => hb (ml 17 i) (2 * k + 0)) lo c) (anyr (fun k => hb (ml 17 i) (2 * k + 1)) lo c))), (4, .int (nI (lo + c)))], [], XM L mi ml) (33, [(0, .ref 16), (1, .int (nI i)), (2, .int (nI h)), (3, .int (lv2 (anyr (fun k => hb (ml 17 i) (2 * k + 0)) lo c) (anyr (fun k => hb (ml 17 i) (2 * k + 1)) lo c))), (4, .int (nI (lo + c)))], [], XM L mi ml) rfl (fun h1 => ?_) (fun h1 => ?_)
    · refine xB.go 1 (50, [(0, .ref 16), (1, .int (nI i)), (2, .int (nI h)), (3, .int (lv2 (anyr (fun k => hb (ml 17 i) (2 * k + 0)) lo c) (anyr (fun k => hb (ml 17 i) (2 * k + 1)) lo c))), (4, .int (nI (lo + c)))], [.int (lv2 (anyr (fun k => hb (ml 17 i) (2 * k + 0)) lo c) (anyr (fun k => hb (ml 17 i) (2 * k + 1)) lo c))], XM L mi ml) rfl ?_
      refine xB.rt (some (.int (lv2 (anyr (fun k => hb (ml 17 i) (2 * k + 0)) lo c) (anyr (fun k => hb (ml 17 i) (2 * k + 1)) lo c)))) mi ml rfl ?_
      have hge : h ≤ lo + c := (nI_leI (by omega) (by omega)).mp h1
      obtain rfl : c = tk (K i) := by omega
      subst hlo
      exact ⟨rfl, rfl, rfl⟩
    · have hlt2 : lo + c < h := Nat.lt_of_not_le (fun z => h1 (nI_le z (by omega)))
      have hk16 : lo + c < 16 := by omega
      refine xB.go 4 (38, [(0, .ref 16), (1, .int (nI i)), (2, .int (nI h)), (3, .int (lv2 (anyr (fun k => hb (ml 17 i) (2 * k + 0)) lo c) (anyr (fun k => hb (ml 17 i) (2 * k + 1)) lo c))), (4, .int (nI (lo + c)))], [.int (nI (lo + c)), .int (nI i), .ref 16, .int (lv2 (anyr (fun k => hb (ml 17 i) (2 * k + 0)) lo c) (anyr (fun k => hb (ml 17 i) (2 * k + 1)) lo c))], XM L mi ml) rfl ?_
      refine xB.c1 58 [.ref 16, .int (nI i), .int (nI (lo + c))] [.int (lv2 (anyr (fun k => hb (ml 17 i) (2 * k + 0)) lo c) (anyr (fun k => hb (ml 17 i) (2 * k + 1)) lo c))] (c_levelOnPile _ L _ _ hP hin hk16) rfl ?_
      refine xB.go 4 (27, [(0, .ref 16), (1, .int (nI i)), (2, .int (nI h)), (3, .int ((lv2 (anyr (fun k => hb (ml 17 i) (2 * k + 0)) lo c) (anyr (fun k => hb (ml 17 i) (2 * k + 1)) lo c)) ||| (lv2 (hb (ml 17 i) (2 * (lo + c))) (hb (ml 17 i) (2 * (lo + c) + 1))))), (4, .int ((nI (lo + c)) + 1))], [], XM L mi ml) rfl ?_
      have e1 := lv2_or (anyr (fun k => hb (ml 17 i) (2 * k + 0)) lo c) (anyr (fun k => hb (ml 17 i) (2 * k + 1)) lo c) (hb (ml 17 i) (2 * (lo + c))) (hb (ml 17 i) (2 * (lo + c) + 1))
      rw [nI_1, e1]
      exact ih (c + 1) (by omega) (by omega)
set_option maxRecDepth 100000 in
set_option maxHeartbeats 1000000 in
theorem c_takenAt (d L : Nat) (mi : xmi) (ml : xml) {n : Nat} {K T : Nat → Nat} (hP : PRG mi n K T) {i h : Nat} (hin : i < n) (hmt : hb (ml 8 2) i = true) (hh : mi 9 i = nI h) (h16 : h ≤ 16) (htk : tk (K i) ≤ h) : xFv (d + 3) 63 [.ref 16, .int (nI i)] L mi ml (.int (lv2 (tkn K ml 0 i h) (tkn K ml 1 i h))) mi ml := by
  have hk := (hP.2.2.1 i hin).2
  have hi64 : i < 64 := Nat.lt_of_lt_of_le hin hP.2.1
  refine xF.mk mX7_takenAt rfl rfl ?_
  refine xB.go 3 (5, [(0, .ref 16), (1, .int (nI i))], [.int (nI i), .ref 8], XM L mi ml) rfl ?_
  refine xB.c1 52 [.ref 8, .int (nI i)] [] (c_heightN _ L _ _ hi64 hmt hh) rfl ?_
  refine xB.go 8 (20, [(0, .ref 16), (1, .int (nI i)), (2, .int (nI h)), (3, .int 0)], [.int (nI i), .ref 1, .ref 1002, .int (nI h)], XM L mi ml) rfl ?_
  refine xB.c1 42 [.ref 1, .int (nI i)] [.ref 1002, .int (nI h)] (c_kindN _ L _ _ hP hin) rfl ?_
  refine xB.ck (xin (nI (K i)) 10) (24, [(0, .ref 16), (1, .int (nI i)), (2, .int (nI h)), (3, .int 0)], [.int (mi 1002 (nI (K i)).toNatClampNeg), .int (nI h)], XM L mi ml) rfl (xin_of hk (by decide) rfl) ?_
  refine xB.cg (24, [(0, .ref 16), (1, .int (nI i)), (2, .int (nI h)), (3, .int 0)], [.int (nI (tk (K i))), .int (nI h)], XM L mi ml) (by rw [nI_clamp (by omega), hP.2.2.2.2.1, (tk_le _ hk).2]) ?_
  refine xB.go 2 (27, [(0, .ref 16), (1, .int (nI i)), (2, .int (nI h)), (3, .int 0), (4, .int ((nI h) - (nI (tk (K i)))))], [], XM L mi ml) rfl ?_
  rw [nI_subeq htk]
  exact takenAt_27 d L mi ml hP hin hmt hh h16 htk (lo := h - tk (K i)) rfl (tk (K i) + 1) 0 (Nat.zero_le _) (by omega)
