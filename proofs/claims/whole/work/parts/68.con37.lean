/-! the reference: same -/
theorem o2i_neg {o : Option Nat} (hb : ∀ i, o = some i → i < 2 ^ 31) : o2i o < 0 ↔ o = none := by
  cases o with
  | none => exact ⟨fun _ => rfl, fun _ => neg1_lt⟩
  | some i => exact ⟨fun h => absurd h (nI_pos (hb i rfl)), fun h => by cases h⟩
set_option maxRecDepth 100000 in
set_option maxHeartbeats 1000000 in
theorem c_isLow (d L : Nat) (mi : xmi) (ml : xml) {t c : Nat} (ht : t < 128) (hc : c < 4) (hch : mi 46 t = nI c) (lev : Int32) : xFv (d + 1) 130 [.ref 32, .int (nI t), .int lev] L mi ml (.int (xb (mi 35 (10 + c) &&& (lev ^^^ (-1)) = 0))) mi ml := by
  refine xF.mk mX9_isLow rfl rfl ?_
  refine xB.go 6 (11, [(0, .ref 32), (1, .int (nI t)), (2, .int lev)], [.int (nI t), .ref 46, .int 10, .ref 35], XM L mi ml) rfl ?_
  refine xB.ck (xin (nI t) 128) (12, [(0, .ref 32), (1, .int (nI t)), (2, .int lev)], [.int (mi 46 (nI t).toNatClampNeg), .int 10, .ref 35], XM L mi ml) rfl (xin_of ht (by decide) rfl) ?_
  refine xB.cg (12, [(0, .ref 32), (1, .int (nI t)), (2, .int lev)], [.int (nI c), .int 10, .ref 35], XM L mi ml) (by rw [nI_clamp (by omega), hch]) ?_
  refine xB.go 1 (13, [(0, .ref 32), (1, .int (nI t)), (2, .int lev)], [.int (10 + (nI c)), .ref 35], XM L mi ml) rfl ?_
  refine xB.cg (13, [(0, .ref 32), (1, .int (nI t)), (2, .int lev)], [.int (nI (10 + c)), .ref 35], XM L mi ml) (by rw [show (10 : Int32) = nI 10 from rfl, nI_addX]) ?_
  refine xB.ck (xin (nI (10 + c)) 14) (14, [(0, .ref 32), (1, .int (nI t)), (2, .int lev)], [.int (mi 35 (nI (10 + c)).toNatClampNeg)], XM L mi ml) rfl (xin_of (j := 10 + c) (by omega) (by decide) rfl) ?_
  refine xB.cg (14, [(0, .ref 32), (1, .int (nI t)), (2, .int lev)], [.int (mi 35 (10 + c))], XM L mi ml) (by rw [nI_clamp (by omega)]) ?_
  refine xB.go 4 (18, [(0, .ref 32), (1, .int (nI t)), (2, .int lev)], [.int ((mi 35 (10 + c)) &&& (lev ^^^ (-1)))], XM L mi ml) rfl ?_
  refine xB.bp (¬ ((mi 35 (10 + c)) &&& (lev ^^^ (-1))) = 0) (25, [(0, .ref 32), (1, .int (nI t)), (2, .int lev)], [], XM L mi ml) (21, [(0, .ref 32), (1, .int (nI t)), (2, .int lev)], [], XM L mi ml) rfl (fun h1 => ?_) (fun h1 => ?_)
  · refine xB.go 1 (26, [(0, .ref 32), (1, .int (nI t)), (2, .int lev)], [.int 0], XM L mi ml) rfl ?_
    refine xB.rt (some (.int 0)) mi ml rfl ?_
    exact ⟨by rw [xb_f h1], rfl, rfl⟩
  · refine xB.go 2 (26, [(0, .ref 32), (1, .int (nI t)), (2, .int lev)], [.int 1], XM L mi ml) rfl ?_
    refine xB.rt (some (.int 1)) mi ml rfl ?_
    exact ⟨by rw [xb_t (Classical.not_not.mp h1)], rfl, rfl⟩
set_option maxRecDepth 100000 in
set_option maxHeartbeats 1000000 in
theorem low_3_0 (d L : Nat) (mi : xmi) (ml : xml) {k cn : Nat} (hcn : mi 45 0 = nI cn) (hcb : cn < 2 ^ 30) (hkk : k = min cn 64) (lev : Int32) (P : Nat → Bool) (hPv : ∀ i, i < k → ∃ c, c < 4 ∧ mi 46 (0 + i) = nI c ∧ (P i = true ↔ mi 35 (10 + c) &&& (lev ^^^ (-1)) = 0)) (x1 : Int32) : ∀ (f i : Nat), i < 2 ^ 31 - 1000 → k + 1 - i ≤ f → xB (d + 1) mX9_low L (fun rr a b => rr = some (.int (o2i (nsF P (k - i) i))) ∧ a = mi ∧ b = ml) (3, [(0, .ref 32), (1, .int 0), (2, .int x1), (3, .int lev), (4, .int (nI i))], [], XM L mi ml) := by
  have hk64 : k ≤ 64 := by omega
  intro f
  induction f with
  | zero =>
    intro i hi hf
    refine xB.go 5 (11, [(0, .ref 32), (1, .int 0), (2, .int x1), (3, .int lev), (4, .int (nI i))], [.int (mi 45 0), .int (nI i)], XM L mi ml) rfl ?_
    refine xB.cg (11, [(0, .ref 32), (1, .int 0), (2, .int x1), (3, .int lev), (4, .int (nI i))], [.int (nI cn), .int (nI i)], XM L mi ml) (by rw [hcn]) ?_
    refine xB.bp ((nI cn) ≤ (nI i)) (45, [(0, .ref 32), (1, .int 0), (2, .int x1), (3, .int lev), (4, .int (nI i))], [], XM L mi ml) (14, [(0, .ref 32), (1, .int 0), (2, .int x1), (3, .int lev), (4, .int (nI i))], [], XM L mi ml) rfl (fun h1 => ?_) (fun h1 => ?_)
    · refine xB.go 1 (46, [(0, .ref 32), (1, .int 0), (2, .int x1), (3, .int lev), (4, .int (nI i))], [.int (-1)], XM L mi ml) rfl ?_
      refine xB.rt (some (.int (-1))) mi ml rfl ?_
      have hge : cn ≤ i := (nI_leI (by omega) (by omega)).mp h1
      exact ⟨by rw [show k - i = 0 by omega]; rfl, rfl, rfl⟩
    · refine xB.go 2 (18, [(0, .ref 32), (1, .int 0), (2, .int x1), (3, .int lev), (4, .int (nI i))], [.int 64, .int (nI i)], XM L mi ml) rfl ?_
      refine xB.bp (64 ≤ (nI i)) (45, [(0, .ref 32), (1, .int 0), (2, .int x1), (3, .int lev), (4, .int (nI i))], [], XM L mi ml) (21, [(0, .ref 32), (1, .int 0), (2, .int x1), (3, .int lev), (4, .int (nI i))], [], XM L mi ml) rfl (fun h2 => ?_) (fun h2 => ?_)
      · refine xB.go 1 (46, [(0, .ref 32), (1, .int 0), (2, .int x1), (3, .int lev), (4, .int (nI i))], [.int (-1)], XM L mi ml) rfl ?_
        refine xB.rt (some (.int (-1))) mi ml rfl ?_
        have hge : 64 ≤ i := (nI_leI (by decide) (by omega)).mp h2
        exact ⟨by rw [show k - i = 0 by omega]; rfl, rfl, rfl⟩
      · have h1 : i < cn := (nI_ltI (by omega) (by omega)).mp (i_nle.mp h1)
        have h2 : i < 64 := (nI_ltI (by omega) (by decide)).mp (i_nle.mp h2)
        omega
  | succ f ih =>
    intro i hi hf
    refine xB.go 5 (11, [(0, .ref 32), (1, .int 0), (2, .int x1), (3, .int lev), (4, .int (nI i))], [.int (mi 45 0), .int (nI i)], XM L mi ml) rfl ?_
    refine xB.cg (11, [(0, .ref 32), (1, .int 0), (2, .int x1), (3, .int lev), (4, .int (nI i))], [.int (nI cn), .int (nI i)], XM L mi ml) (by rw [hcn]) ?_
    refine xB.bp ((nI cn) ≤ (nI i)) (45, [(0, .ref 32), (1, .int 0), (2, .int x1), (3, .int lev), (4, .int (nI i))], [], XM L mi ml) (14, [(0, .ref 32), (1, .int 0), (2, .int x1), (3, .int lev), (4, .int (nI i))], [], XM L mi ml) rfl (fun h1 => ?_) (fun h1 => ?_)
    · refine xB.go 1 (46, [(0, .ref 32), (1, .int 0), (2, .int x1), (3, .int lev), (4, .int (nI i))], [.int (-1)], XM L mi ml) rfl ?_
      refine xB.rt (some (.int (-1))) mi ml rfl ?_
      have hge : cn ≤ i := (nI_leI (by omega) (by omega)).mp h1
      exact ⟨by rw [show k - i = 0 by omega]; rfl, rfl, rfl⟩
    · refine xB.go 2 (18, [(0, .ref 32), (1, .int 0), (2, .int x1), (3, .int lev), (4, .int (nI i))], [.int 64, .int (nI i)], XM L mi ml) rfl ?_
      refine xB.bp (64 ≤ (nI i)) (45, [(0, .ref 32), (1, .int 0), (2, .int x1), (3, .int lev), (4, .int (nI i))], [], XM L mi ml) (21, [(0, .ref 32), (1, .int 0), (2, .int x1), (3, .int lev), (4, .int (nI i))], [], XM L mi ml) rfl (fun h2 => ?_) (fun h2 => ?_)
      · refine xB.go 1 (46, [(0, .ref 32), (1, .int 0), (2, .int x1), (3, .int lev), (4, .int (nI i))], [.int (-1)], XM L mi ml) rfl ?_
        refine xB.rt (some (.int (-1))) mi ml rfl ?_
        have hge : 64 ≤ i := (nI_leI (by decide) (by omega)).mp h2
        exact ⟨by rw [show k - i = 0 by omega]; rfl, rfl, rfl⟩
      · have hi1 : i < cn := (nI_ltI (by omega) (by omega)).mp (i_nle.mp h1)
        have hi2 : i < 64 := (nI_ltI (by omega) (by decide)).mp (i_nle.mp h2)
        have hik : i < k := by omega
        obtain ⟨c, hc4, hch, hpx⟩ := hPv i hik
        refine xB.go 6 (29, [(0, .ref 32), (1, .int 0), (2, .int x1), (3, .int lev), (4, .int (nI i))], [.int (0 + (nI i)), .ref 32], XM L mi ml) rfl ?_
        refine xB.cg (29, [(0, .ref 32), (1, .int 0), (2, .int x1), (3, .int lev), (4, .int (nI i))], [.int (nI (0 + i)), .ref 32], XM L mi ml) (by rw [show (0 : Int32) = nI 0 from rfl, nI_addX]) ?_
        refine xB.go 1 (30, [(0, .ref 32), (1, .int 0), (2, .int x1), (3, .int lev), (4, .int (nI i))], [.int lev, .int (nI (0 + i)), .ref 32], XM L mi ml) rfl ?_
        refine xB.c1 130 [.ref 32, .int (nI (0 + i)), .int lev] [] (c_isLow _ L _ _ (t := 0 + i) (by omega) hc4 hch lev) rfl ?_
        refine xB.bz (mi 35 (10 + c) &&& (lev ^^^ (-1)) = 0) (39, [(0, .ref 32), (1, .int 0), (2, .int x1), (3, .int lev), (4, .int (nI i))], [], XM L mi ml) (36, [(0, .ref 32), (1, .int 0), (2, .int x1), (3, .int lev), (4, .int (nI i))], [], XM L mi ml) rfl (fun h3 => ?_) (fun h3 => ?_)
        · refine xB.go 2 (3, [(0, .ref 32), (1, .int 0), (2, .int x1), (3, .int lev), (4, .int ((nI i) + 1))], [], XM L mi ml) rfl ?_
          have hpf : P i = false := by
            cases hp : P i with
            | false => rfl
            | true => exact absurd (hpx.mp hp) h3
          obtain ⟨f1, hf1⟩ : ∃ f1, k - i = f1 + 1 := ⟨k - i - 1, by omega⟩
          rw [nI_1]
          have hx := ih (i + 1) (by omega) (by omega)
          have e : nsF P (k - i) i = nsF P (k - (i + 1)) (i + 1) := by rw [hf1, show k - (i + 1) = f1 by omega]; show (bif P i then _ else _) = _; rw [hpf]; rfl
          rw [e]; exact hx
        · refine xB.go 1 (38, [(0, .ref 32), (1, .int 0), (2, .int x1), (3, .int lev), (4, .int (nI i))], [.int (nI i)], XM L mi ml) rfl ?_
          refine xB.rt (some (.int (nI i))) mi ml rfl ?_
          obtain ⟨f1, hf1⟩ : ∃ f1, k - i = f1 + 1 := ⟨k - i - 1, by omega⟩
          refine ⟨?_, rfl, rfl⟩
          rw [hf1]; unfold nsF; rw [hpx.mpr h3]; rfl
set_option maxRecDepth 100000 in
set_option maxHeartbeats 1000000 in
theorem c_low0 (d L : Nat) (mi : xmi) (ml : xml) {k cn : Nat} (hcn : mi 45 0 = nI cn) (hcb : cn < 2 ^ 30) (hkk : k = min cn 64) (lev : Int32) (P : Nat → Bool) (hPv : ∀ i, i < k → ∃ c, c < 4 ∧ mi 46 (0 + i) = nI c ∧ (P i = true ↔ mi 35 (10 + c) &&& (lev ^^^ (-1)) = 0)) {i : Nat} (hi : i ≤ 64) : xFv (d + 2) 131 [.ref 32, .int 0, .int (nI i), .int lev] L mi ml (.int (o2i (nsF P (k - i) i))) mi ml := by
  refine xF.mk mX9_low rfl rfl ?_
  refine xB.go 2 (3, [(0, .ref 32), (1, .int 0), (2, .int (nI i)), (3, .int lev), (4, .int (nI i))], [], XM L mi ml) rfl ?_
  exact low_3_0 d L mi ml hcn hcb hkk lev P hPv (nI i) (k + 1) i (by omega) (by omega)
set_option maxRecDepth 100000 in
set_option maxHeartbeats 1000000 in
theorem low_3_1 (d L : Nat) (mi : xmi) (ml : xml) {k cn : Nat} (hcn : mi 45 1 = nI cn) (hcb : cn < 2 ^ 30) (hkk : k = min cn 64) (lev : Int32) (P : Nat → Bool) (hPv : ∀ i, i < k → ∃ c, c < 4 ∧ mi 46 (64 + i) = nI c ∧ (P i = true ↔ mi 35 (10 + c) &&& (lev ^^^ (-1)) = 0)) (x1 : Int32) : ∀ (f i : Nat), i < 2 ^ 31 - 1000 → k + 1 - i ≤ f → xB (d + 1) mX9_low L (fun rr a b => rr = some (.int (o2i (nsF P (k - i) i))) ∧ a = mi ∧ b = ml) (3, [(0, .ref 32), (1, .int 1), (2, .int x1), (3, .int lev), (4, .int (nI i))], [], XM L mi ml) := by
  have hk64 : k ≤ 64 := by omega
  intro f
  induction f with
  | zero =>
    intro i hi hf
    refine xB.go 5 (11, [(0, .ref 32), (1, .int 1), (2, .int x1), (3, .int lev), (4, .int (nI i))], [.int (mi 45 1), .int (nI i)], XM L mi ml) rfl ?_
    refine xB.cg (11, [(0, .ref 32), (1, .int 1), (2, .int x1), (3, .int lev), (4, .int (nI i))], [.int (nI cn), .int (nI i)], XM L mi ml) (by rw [hcn]) ?_
    refine xB.bp ((nI cn) ≤ (nI i)) (45, [(0, .ref 32), (1, .int 1), (2, .int x1), (3, .int lev), (4, .int (nI i))], [], XM L mi ml) (14, [(0, .ref 32), (1, .int 1), (2, .int x1), (3, .int lev), (4, .int (nI i))], [], XM L mi ml) rfl (fun h1 => ?_) (fun h1 => ?_)
    · refine xB.go 1 (46, [(0, .ref 32), (1, .int 1), (2, .int x1), (3, .int lev), (4, .int (nI i))], [.int (-1)], XM L mi ml) rfl ?_
      refine xB.rt (some (.int (-1))) mi ml rfl ?_
      have hge : cn ≤ i := (nI_leI (by omega) (by omega)).mp h1
      exact ⟨by rw [show k - i = 0 by omega]; rfl, rfl, rfl⟩
    · refine xB.go 2 (18, [(0, .ref 32), (1, .int 1), (2, .int x1), (3, .int lev), (4, .int (nI i))], [.int 64, .int (nI i)], XM L mi ml) rfl ?_
      refine xB.bp (64 ≤ (nI i)) (45, [(0, .ref 32), (1, .int 1), (2, .int x1), (3, .int lev), (4, .int (nI i))], [], XM L mi ml) (21, [(0, .ref 32), (1, .int 1), (2, .int x1), (3, .int lev), (4, .int (nI i))], [], XM L mi ml) rfl (fun h2 => ?_) (fun h2 => ?_)
      · refine xB.go 1 (46, [(0, .ref 32), (1, .int 1), (2, .int x1), (3, .int lev), (4, .int (nI i))], [.int (-1)], XM L mi ml) rfl ?_
        refine xB.rt (some (.int (-1))) mi ml rfl ?_
        have hge : 64 ≤ i := (nI_leI (by decide) (by omega)).mp h2
        exact ⟨by rw [show k - i = 0 by omega]; rfl, rfl, rfl⟩
      · have h1 : i < cn := (nI_ltI (by omega) (by omega)).mp (i_nle.mp h1)
        have h2 : i < 64 := (nI_ltI (by omega) (by decide)).mp (i_nle.mp h2)
        omega
  | succ f ih =>
    intro i hi hf
    refine xB.go 5 (11, [(0, .ref 32), (1, .int 1), (2, .int x1), (3, .int lev), (4, .int (nI i))], [.int (mi 45 1), .int (nI i)], XM L mi ml) rfl ?_
    refine xB.cg (11, [(0, .ref 32), (1, .int 1), (2, .int x1), (3, .int lev), (4, .int (nI i))], [.int (nI cn), .int (nI i)], XM L mi ml) (by rw [hcn]) ?_
    refine xB.bp ((nI cn) ≤ (nI i)) (45, [(0, .ref 32), (1, .int 1), (2, .int x1), (3, .int lev), (4, .int (nI i))], [], XM L mi ml) (14, [(0, .ref 32), (1, .int 1), (2, .int x1), (3, .int lev), (4, .int (nI i))], [], XM L mi ml) rfl (fun h1 => ?_) (fun h1 => ?_)
    · refine xB.go 1 (46, [(0, .ref 32), (1, .int 1), (2, .int x1), (3, .int lev), (4, .int (nI i))], [.int (-1)], XM L mi ml) rfl ?_
      refine xB.rt (some (.int (-1))) mi ml rfl ?_
      have hge : cn ≤ i := (nI_leI (by omega) (by omega)).mp h1
      exact ⟨by rw [show k - i = 0 by omega]; rfl, rfl, rfl⟩
    · refine xB.go 2 (18, [(0, .ref 32), (1, .int 1), (2, .int x1), (3, .int lev), (4, .int (nI i))], [.int 64, .int (nI i)], XM L mi ml) rfl ?_
      refine xB.bp (64 ≤ (nI i)) (45, [(0, .ref 32), (1, .int 1), (2, .int x1), (3, .int lev), (4, .int (nI i))], [], XM L mi ml) (21, [(0, .ref 32), (1, .int 1), (2, .int x1), (3, .int lev), (4, .int (nI i))], [], XM L mi ml) rfl (fun h2 => ?_) (fun h2 => ?_)
      · refine xB.go 1 (46, [(0, .ref 32), (1, .int 1), (2, .int x1), (3, .int lev), (4, .int (nI i))], [.int (-1)], XM L mi ml) rfl ?_
        refine xB.rt (some (.int (-1))) mi ml rfl ?_
        have hge : 64 ≤ i := (nI_leI (by decide) (by omega)).mp h2
        exact ⟨by rw [show k - i = 0 by omega]; rfl, rfl, rfl⟩
      · have hi1 : i < cn := (nI_ltI (by omega) (by omega)).mp (i_nle.mp h1)
        have hi2 : i < 64 := (nI_ltI (by omega) (by decide)).mp (i_nle.mp h2)
        have hik : i < k := by omega
        obtain ⟨c, hc4, hch, hpx⟩ := hPv i hik
        refine xB.go 6 (29, [(0, .ref 32), (1, .int 1), (2, .int x1), (3, .int lev), (4, .int (nI i))], [.int (64 + (nI i)), .ref 32], XM L mi ml) rfl ?_
        refine xB.cg (29, [(0, .ref 32), (1, .int 1), (2, .int x1), (3, .int lev), (4, .int (nI i))], [.int (nI (64 + i)), .ref 32], XM L mi ml) (by rw [show (64 : Int32) = nI 64 from rfl, nI_addX]) ?_
        refine xB.go 1 (30, [(0, .ref 32), (1, .int 1), (2, .int x1), (3, .int lev), (4, .int (nI i))], [.int lev, .int (nI (64 + i)), .ref 32], XM L mi ml) rfl ?_
        refine xB.c1 130 [.ref 32, .int (nI (64 + i)), .int lev] [] (c_isLow _ L _ _ (t := 64 + i) (by omega) hc4 hch lev) rfl ?_
        refine xB.bz (mi 35 (10 + c) &&& (lev ^^^ (-1)) = 0) (39, [(0, .ref 32), (1, .int 1), (2, .int x1), (3, .int lev), (4, .int (nI i))], [], XM L mi ml) (36, [(0, .ref 32), (1, .int 1), (2, .int x1), (3, .int lev), (4, .int (nI i))], [], XM L mi ml) rfl (fun h3 => ?_) (fun h3 => ?_)
        · refine xB.go 2 (3, [(0, .ref 32), (1, .int 1), (2, .int x1), (3, .int lev), (4, .int ((nI i) + 1))], [], XM L mi ml) rfl ?_
          have hpf : P i = false := by
            cases hp : P i with
            | false => rfl
            | true => exact absurd (hpx.mp hp) h3
          obtain ⟨f1, hf1⟩ : ∃ f1, k - i = f1 + 1 := ⟨k - i - 1, by omega⟩
          rw [nI_1]
          have hx := ih (i + 1) (by omega) (by omega)
          have e : nsF P (k - i) i = nsF P (k - (i + 1)) (i + 1) := by rw [hf1, show k - (i + 1) = f1 by omega]; show (bif P i then _ else _) = _; rw [hpf]; rfl
          rw [e]; exact hx
        · refine xB.go 1 (38, [(0, .ref 32), (1, .int 1), (2, .int x1), (3, .int lev), (4, .int (nI i))], [.int (nI i)], XM L mi ml) rfl ?_
          refine xB.rt (some (.int (nI i))) mi ml rfl ?_
          obtain ⟨f1, hf1⟩ : ∃ f1, k - i = f1 + 1 := ⟨k - i - 1, by omega⟩
          refine ⟨?_, rfl, rfl⟩
          rw [hf1]; unfold nsF; rw [hpx.mpr h3]; rfl
set_option maxRecDepth 100000 in
set_option maxHeartbeats 1000000 in
theorem c_low1 (d L : Nat) (mi : xmi) (ml : xml) {k cn : Nat} (hcn : mi 45 1 = nI cn) (hcb : cn < 2 ^ 30) (hkk : k = min cn 64) (lev : Int32) (P : Nat → Bool) (hPv : ∀ i, i < k → ∃ c, c < 4 ∧ mi 46 (64 + i) = nI c ∧ (P i = true ↔ mi 35 (10 + c) &&& (lev ^^^ (-1)) = 0)) {i : Nat} (hi : i ≤ 64) : xFv (d + 2) 131 [.ref 32, .int 1, .int (nI i), .int lev] L mi ml (.int (o2i (nsF P (k - i) i))) mi ml := by
  refine xF.mk mX9_low rfl rfl ?_
  refine xB.go 2 (3, [(0, .ref 32), (1, .int 1), (2, .int (nI i)), (3, .int lev), (4, .int (nI i))], [], XM L mi ml) rfl ?_
  exact low_3_1 d L mi ml hcn hcb hkk lev P hPv (nI i) (k + 1) i (by omega) (by omega)
set_option maxRecDepth 100000 in
set_option maxHeartbeats 1000000 in
theorem ms_115 (d L : Nat) (mi : xmi) (ml : xml) {k0 k1 f : Nat} {P0 P1 : Nat → Bool} {E : Nat → Nat → Bool} {oi oj : Option Nat} (lev : Int32) (hb0 : ∀ i, oi = some i → i < 2 ^ 31) (hb1 : ∀ i, oj = some i → i < 2 ^ 31) (hex : oi = none ∨ oj = none) : xB (d + 2) mX9_same L (fun rr a b => rr = some (.int (xb (agA P0 P1 k0 k1 E f oi oj = true))) ∧ a = mi ∧ b = ml) (115, [(0, .ref 32), (1, .int lev), (2, .int (o2i oi)), (3, .int (o2i oj))], [], XM L mi ml) := by
  refine xB.go 2 (117, [(0, .ref 32), (1, .int lev), (2, .int (o2i oi)), (3, .int (o2i oj))], [.int (o2i oj), .int (o2i oi)], XM L mi ml) rfl ?_
  refine xB.bp (¬ (o2i oi) = (o2i oj)) (124, [(0, .ref 32), (1, .int lev), (2, .int (o2i oi)), (3, .int (o2i oj))], [], XM L mi ml) (120, [(0, .ref 32), (1, .int lev), (2, .int (o2i oi)), (3, .int (o2i oj))], [], XM L mi ml) rfl (fun h1 => ?_) (fun h1 => ?_)
  · refine xB.go 1 (125, [(0, .ref 32), (1, .int lev), (2, .int (o2i oi)), (3, .int (o2i oj))], [.int 0], XM L mi ml) rfl ?_
    refine xB.rt (some (.int 0)) mi ml rfl ?_
    cases oi with
    | none =>
      cases oj with
      | none => exact absurd rfl h1
      | some j => exact ⟨by rw [ag_ns, xb_f (by decide)], rfl, rfl⟩
    | some i =>
      obtain rfl : oj = none := hex.resolve_left (fun z => by cases z)
      exact ⟨by rw [ag_sn, xb_f (by decide)], rfl, rfl⟩
  · refine xB.go 2 (125, [(0, .ref 32), (1, .int lev), (2, .int (o2i oi)), (3, .int (o2i oj))], [.int 1], XM L mi ml) rfl ?_
    refine xB.rt (some (.int 1)) mi ml rfl ?_
    cases oi with
    | none =>
      cases oj with
      | none => exact ⟨by rw [xb_t ag_none], rfl, rfl⟩
      | some j => exact absurd (Classical.not_not.mp h1).symm (nI_neg1 (hb1 j rfl))
    | some i =>
      obtain rfl : oj = none := hex.resolve_left (fun z => by cases z)
      exact absurd (Classical.not_not.mp h1) (nI_neg1 (hb0 i rfl))
set_option maxRecDepth 100000 in
set_option maxHeartbeats 1000000 in
theorem ms_44 (d L : Nat) (mi : xmi) (ml : xml) {k0 k1 c0 c1 : Nat} (hcn0 : mi 45 0 = nI c0) (hcb0 : c0 < 2 ^ 30) (hkk0 : k0 = min c0 64) (hcn1 : mi 45 1 = nI c1) (hcb1 : c1 < 2 ^ 30) (hkk1 : k1 = min c1 64) (lev : Int32) (P0 P1 : Nat → Bool) (hP0 : ∀ i, i < k0 → ∃ c, c < 4 ∧ mi 46 (0 + i) = nI c ∧ (P0 i = true ↔ mi 35 (10 + c) &&& (lev ^^^ (-1)) = 0)) (hP1 : ∀ i, i < k1 → ∃ c, c < 4 ∧ mi 46 (64 + i) = nI c ∧ (P1 i = true ↔ mi 35 (10 + c) &&& (lev ^^^ (-1)) = 0)) (E : Nat → Nat → Bool) (hE : ∀ i j, i < k0 → j < k1 → (E i j = true ↔ mi 46 i = mi 46 (64 + j) ∧ mi 47 i = mi 47 (64 + j))) : ∀ (f s : Nat) (oi oj : Option Nat), s + f = 64 → (∀ i, oi = some i → s ≤ i ∧ i < k0) → (∀ j, oj = some j → s ≤ j ∧ j < k1) → xB (d + 2) mX9_same L (fun rr a b => rr = some (.int (xb (agA P0 P1 k0 k1 E f oi oj = true))) ∧ a = mi ∧ b = ml) (44, [(0, .ref 32), (1, .int lev), (2, .int (o2i oi)), (3, .int (o2i oj))], [], XM L mi ml) := by
  have hk0 : k0 ≤ 64 := by omega
  have hk1 : k1 ≤ 64 := by omega
  intro f
  induction f with
  | zero =>
    intro s oi oj hs bi bj
    refine xB.go 1 (45, [(0, .ref 32), (1, .int lev), (2, .int (o2i oi)), (3, .int (o2i oj))], [.int (o2i oi)], XM L mi ml) rfl ?_
    refine xB.bp ((o2i oi) < 0) (115, [(0, .ref 32), (1, .int lev), (2, .int (o2i oi)), (3, .int (o2i oj))], [], XM L mi ml) (48, [(0, .ref 32), (1, .int lev), (2, .int (o2i oi)), (3, .int (o2i oj))], [], XM L mi ml) rfl (fun h1 => ?_) (fun h1 => ?_)
    · refine xB.fo [(0, .ref 32), (1, .int lev), (2, .int (o2i oi)), (3, .int (o2i oj))] (by simp) ?_
      exact ms_115 d L mi ml lev (fun i h => by have := bi i h; omega) (fun j h => by have := bj j h; omega) (Or.inl ((o2i_neg (fun i h => by have := bi i h; omega)).mp h1))
    · refine xB.go 1 (49, [(0, .ref 32), (1, .int lev), (2, .int (o2i oi)), (3, .int (o2i oj))], [.int (o2i oj)], XM L mi ml) rfl ?_
      refine xB.bp ((o2i oj) < 0) (115, [(0, .ref 32), (1, .int lev), (2, .int (o2i oi)), (3, .int (o2i oj))], [], XM L mi ml) (52, [(0, .ref 32), (1, .int lev), (2, .int (o2i oi)), (3, .int (o2i oj))], [], XM L mi ml) rfl (fun h2 => ?_) (fun h2 => ?_)
      · refine xB.fo [(0, .ref 32), (1, .int lev), (2, .int (o2i oi)), (3, .int (o2i oj))] (by simp) ?_
        exact ms_115 d L mi ml lev (fun i h => by have := bi i h; omega) (fun j h => by have := bj j h; omega) (Or.inr ((o2i_neg (fun j h => by have := bj j h; omega)).mp h2))
      · exfalso
        cases oi with
        | none => exact h1 neg1_lt
        | some i => have := bi i rfl; omega
  | succ f ih =>
    intro s oi oj hs bi bj
    refine xB.go 1 (45, [(0, .ref 32), (1, .int lev), (2, .int (o2i oi)), (3, .int (o2i oj))], [.int (o2i oi)], XM L mi ml) rfl ?_
    refine xB.bp ((o2i oi) < 0) (115, [(0, .ref 32), (1, .int lev), (2, .int (o2i oi)), (3, .int (o2i oj))], [], XM L mi ml) (48, [(0, .ref 32), (1, .int lev), (2, .int (o2i oi)), (3, .int (o2i oj))], [], XM L mi ml) rfl (fun h1 => ?_) (fun h1 => ?_)
    · refine xB.fo [(0, .ref 32), (1, .int lev), (2, .int (o2i oi)), (3, .int (o2i oj))] (by simp) ?_
      exact ms_115 d L mi ml lev (fun i h => by have := bi i h; omega) (fun j h => by have := bj j h; omega) (Or.inl ((o2i_neg (fun i h => by have := bi i h; omega)).mp h1))
    · refine xB.go 1 (49, [(0, .ref 32), (1, .int lev), (2, .int (o2i oi)), (3, .int (o2i oj))], [.int (o2i oj)], XM L mi ml) rfl ?_
      refine xB.bp ((o2i oj) < 0) (115, [(0, .ref 32), (1, .int lev), (2, .int (o2i oi)), (3, .int (o2i oj))], [], XM L mi ml) (52, [(0, .ref 32), (1, .int lev), (2, .int (o2i oi)), (3, .int (o2i oj))], [], XM L mi ml) rfl (fun h2 => ?_) (fun h2 => ?_)
      · refine xB.fo [(0, .ref 32), (1, .int lev), (2, .int (o2i oi)), (3, .int (o2i oj))] (by simp) ?_
        exact ms_115 d L mi ml lev (fun i h => by have := bi i h; omega) (fun j h => by have := bj j h; omega) (Or.inr ((o2i_neg (fun j h => by have := bj j h; omega)).mp h2))
      · obtain ⟨i, hio⟩ : ∃ i, oi = some i := by cases oi with | none => exact absurd neg1_lt h1 | some i => exact ⟨i, rfl⟩
        obtain ⟨j, hjo⟩ : ∃ j, oj = some j := by cases oj with | none => exact absurd neg1_lt h2 | some i => exact ⟨i, rfl⟩
        have hi2 := bi i hio
        have hj2 := bj j hjo
        refine xB.cg (52, [(0, .ref 32), (1, .int lev), (2, .int (nI i)), (3, .int (o2i oj))], [], XM L mi ml) (by rw [hio]; rfl) ?_
        refine xB.cg (52, [(0, .ref 32), (1, .int lev), (2, .int (nI i)), (3, .int (nI j))], [], XM L mi ml) (by rw [hjo]; rfl) ?_
        refine xB.go 3 (56, [(0, .ref 32), (1, .int lev), (2, .int (nI i)), (3, .int (nI j))], [.int (64 + (nI j))], XM L mi ml) rfl ?_
        refine xB.cg (56, [(0, .ref 32), (1, .int lev), (2, .int (nI i)), (3, .int (nI j))], [.int (nI (64 + j))], XM L mi ml) (by rw [show (64 : Int32) = nI 64 from rfl, nI_addX]) ?_
        refine xB.go 4 (63, [(0, .ref 32), (1, .int lev), (2, .int (nI i)), (3, .int (nI j)), (4, .int (nI (64 + j)))], [.int (nI i), .ref 46], XM L mi ml) rfl ?_
        refine xB.ck (xin (nI i) 128) (64, [(0, .ref 32), (1, .int lev), (2, .int (nI i)), (3, .int (nI j)), (4, .int (nI (64 + j)))], [.int (mi 46 (nI i).toNatClampNeg)], XM L mi ml) rfl (xin_of (j := i) (by omega) (by decide) rfl) ?_
        refine xB.go 3 (70, [(0, .ref 32), (1, .int lev), (2, .int (nI i)), (3, .int (nI j)), (4, .int (nI (64 + j)))], [.int (nI (64 + j)), .ref 46, .int (mi 46 (nI i).toNatClampNeg)], XM L mi ml) rfl ?_
        refine xB.ck (xin (nI (64 + j)) 128) (71, [(0, .ref 32), (1, .int lev), (2, .int (nI i)), (3, .int (nI j)), (4, .int (nI (64 + j)))], [.int (mi 46 (nI (64 + j)).toNatClampNeg), .int (mi 46 (nI i).toNatClampNeg)], XM L mi ml) rfl (xin_of (j := 64 + j) (by omega) (by decide) rfl) ?_
        refine xB.cg (71, [(0, .ref 32), (1, .int lev), (2, .int (nI i)), (3, .int (nI j)), (4, .int (nI (64 + j)))], [.int (mi 46 (nI (64 + j)).toNatClampNeg), .int (mi 46 i)], XM L mi ml) (by rw [nI_clamp (n := i) (by omega)]) ?_
        refine xB.cg (71, [(0, .ref 32), (1, .int lev), (2, .int (nI i)), (3, .int (nI j)), (4, .int (nI (64 + j)))], [.int (mi 46 (64 + j)), .int (mi 46 i)], XM L mi ml) (by rw [nI_clamp (n := 64 + j) (by omega)]) ?_
        refine xB.bp (¬ (mi 46 i) = (mi 46 (64 + j))) (90, [(0, .ref 32), (1, .int lev), (2, .int (nI i)), (3, .int (nI j)), (4, .int (nI (64 + j)))], [], XM L mi ml) (74, [(0, .ref 32), (1, .int lev), (2, .int (nI i)), (3, .int (nI j)), (4, .int (nI (64 + j)))], [], XM L mi ml) rfl (fun h3 => ?_) (fun h3 => ?_)
        · refine xB.go 1 (91, [(0, .ref 32), (1, .int lev), (2, .int (nI i)), (3, .int (nI j)), (4, .int (nI (64 + j)))], [.int 0], XM L mi ml) rfl ?_
          refine xB.rt (some (.int 0)) mi ml rfl ?_
          have hEf : ¬ E i j = true := fun z => by
            have hz := (hE i j hi2.2 hj2.2).mp z
            exact h3 (hz.1)
          exact ⟨by rw [xb_f (by rw [show agA P0 P1 k0 k1 E (f + 1) oi oj = (E i j && agA P0 P1 k0 k1 E f (nsF P0 (k0 - (i + 1)) (i + 1)) (nsF P1 (k1 - (j + 1)) (j + 1))) by rw [hio, hjo]; rfl]; rw [Bool.and_eq_true]; exact fun z => hEf z.1)], rfl, rfl⟩
        · refine xB.go 3 (79, [(0, .ref 32), (1, .int lev), (2, .int (nI i)), (3, .int (nI j)), (4, .int (nI (64 + j)))], [.int (nI i), .ref 47], XM L mi ml) rfl ?_
          refine xB.ck (xin (nI i) 128) (80, [(0, .ref 32), (1, .int lev), (2, .int (nI i)), (3, .int (nI j)), (4, .int (nI (64 + j)))], [.int (mi 47 (nI i).toNatClampNeg)], XM L mi ml) rfl (xin_of (j := i) (by omega) (by decide) rfl) ?_
          refine xB.go 3 (86, [(0, .ref 32), (1, .int lev), (2, .int (nI i)), (3, .int (nI j)), (4, .int (nI (64 + j)))], [.int (nI (64 + j)), .ref 47, .int (mi 47 (nI i).toNatClampNeg)], XM L mi ml) rfl ?_
          refine xB.ck (xin (nI (64 + j)) 128) (87, [(0, .ref 32), (1, .int lev), (2, .int (nI i)), (3, .int (nI j)), (4, .int (nI (64 + j)))], [.int (mi 47 (nI (64 + j)).toNatClampNeg), .int (mi 47 (nI i).toNatClampNeg)], XM L mi ml) rfl (xin_of (j := 64 + j) (by omega) (by decide) rfl) ?_
          refine xB.cg (87, [(0, .ref 32), (1, .int lev), (2, .int (nI i)), (3, .int (nI j)), (4, .int (nI (64 + j)))], [.int (mi 47 (nI (64 + j)).toNatClampNeg), .int (mi 47 i)], XM L mi ml) (by rw [nI_clamp (n := i) (by omega)]) ?_
          refine xB.cg (87, [(0, .ref 32), (1, .int lev), (2, .int (nI i)), (3, .int (nI j)), (4, .int (nI (64 + j)))], [.int (mi 47 (64 + j)), .int (mi 47 i)], XM L mi ml) (by rw [nI_clamp (n := 64 + j) (by omega)]) ?_
          refine xB.bp ((mi 47 i) = (mi 47 (64 + j))) (92, [(0, .ref 32), (1, .int lev), (2, .int (nI i)), (3, .int (nI j)), (4, .int (nI (64 + j)))], [], XM L mi ml) (90, [(0, .ref 32), (1, .int lev), (2, .int (nI i)), (3, .int (nI j)), (4, .int (nI (64 + j)))], [], XM L mi ml) rfl (fun h4 => ?_) (fun h4 => ?_)
          · refine xB.go 6 (98, [(0, .ref 32), (1, .int lev), (2, .int (nI i)), (3, .int (nI j)), (4, .int (nI (64 + j)))], [.int lev, .int ((nI i) + 1), .int 0, .ref 32], XM L mi ml) rfl ?_
            refine xB.cg (98, [(0, .ref 32), (1, .int lev), (2, .int (nI i)), (3, .int (nI j)), (4, .int (nI (64 + j)))], [.int lev, .int (nI (i + 1)), .int 0, .ref 32], XM L mi ml) (by rw [nI_1]) ?_
            refine xB.c1 131 [.ref 32, .int 0, .int (nI (i + 1)), .int lev] [] (c_low0 _ L _ _ hcn0 hcb0 hkk0 lev P0 hP0 (i := (i + 1)) (by omega)) rfl ?_
            refine xB.go 7 (108, [(0, .ref 32), (1, .int lev), (2, .int (o2i (nsF P0 (k0 - (i + 1)) (i + 1)))), (3, .int (nI j)), (4, .int (nI (64 + j)))], [.int lev, .int ((nI j) + 1), .int 1, .ref 32], XM L mi ml) rfl ?_
            refine xB.cg (108, [(0, .ref 32), (1, .int lev), (2, .int (o2i (nsF P0 (k0 - (i + 1)) (i + 1)))), (3, .int (nI j)), (4, .int (nI (64 + j)))], [.int lev, .int (nI (j + 1)), .int 1, .ref 32], XM L mi ml) (by rw [nI_1]) ?_
            refine xB.c1 131 [.ref 32, .int 1, .int (nI (j + 1)), .int lev] [] (c_low1 _ L _ _ hcn1 hcb1 hkk1 lev P1 hP1 (i := (j + 1)) (by omega)) rfl ?_
            refine xB.go 2 (44, [(0, .ref 32), (1, .int lev), (2, .int (o2i (nsF P0 (k0 - (i + 1)) (i + 1)))), (3, .int (o2i (nsF P1 (k1 - (j + 1)) (j + 1)))), (4, .int (nI (64 + j)))], [], XM L mi ml) rfl ?_
            refine xB.fo [(0, .ref 32), (1, .int lev), (2, .int (o2i (nsF P0 (k0 - (i + 1)) (i + 1)))), (3, .int (o2i (nsF P1 (k1 - (j + 1)) (j + 1))))] (by simp) ?_
            have e : agA P0 P1 k0 k1 E (f + 1) oi oj = (E i j && agA P0 P1 k0 k1 E f (nsF P0 (k0 - (i + 1)) (i + 1)) (nsF P1 (k1 - (j + 1)) (j + 1))) := by rw [hio, hjo]; rfl
            have hEt : E i j = true := (hE i j hi2.2 hj2.2).mpr ⟨Classical.not_not.mp h3, h4⟩
            rw [e, hEt, Bool.true_and]
            exact ih (s + 1) _ _ (by omega) (fun i2 h => by have := nsF_some h; omega) (fun j2 h => by have := nsF_some h; omega)
          · refine xB.go 1 (91, [(0, .ref 32), (1, .int lev), (2, .int (nI i)), (3, .int (nI j)), (4, .int (nI (64 + j)))], [.int 0], XM L mi ml) rfl ?_
            refine xB.rt (some (.int 0)) mi ml rfl ?_
            have hEf : ¬ E i j = true := fun z => by
              have hz := (hE i j hi2.2 hj2.2).mp z
              exact h4 (hz.2)
            exact ⟨by rw [xb_f (by rw [show agA P0 P1 k0 k1 E (f + 1) oi oj = (E i j && agA P0 P1 k0 k1 E f (nsF P0 (k0 - (i + 1)) (i + 1)) (nsF P1 (k1 - (j + 1)) (j + 1))) by rw [hio, hjo]; rfl]; rw [Bool.and_eq_true]; exact fun z => hEf z.1)], rfl, rfl⟩
set_option maxRecDepth 100000 in
set_option maxHeartbeats 1000000 in
theorem c_msame (d L : Nat) (mi : xmi) (ml : xml) {k0 k1 c0 c1 : Nat} (hcn0 : mi 45 0 = nI c0) (hcb0 : c0 < 2 ^ 30) (hkk0 : k0 = min c0 64) (hcn1 : mi 45 1 = nI c1) (hcb1 : c1 < 2 ^ 30) (hkk1 : k1 = min c1 64) (lev : Int32) (P0 P1 : Nat → Bool) (hP0 : ∀ i, i < k0 → ∃ c, c < 4 ∧ mi 46 (0 + i) = nI c ∧ (P0 i = true ↔ mi 35 (10 + c) &&& (lev ^^^ (-1)) = 0)) (hP1 : ∀ i, i < k1 → ∃ c, c < 4 ∧ mi 46 (64 + i) = nI c ∧ (P1 i = true ↔ mi 35 (10 + c) &&& (lev ^^^ (-1)) = 0)) (E : Nat → Nat → Bool) (hE : ∀ i j, i < k0 → j < k1 → (E i j = true ↔ mi 46 i = mi 46 (64 + j) ∧ mi 47 i = mi 47 (64 + j))) : xFv (d + 3) 132 [.ref 32, .int lev] L mi ml (.int (if (0 ≤ lev ∧ lev < 4) ∧ ¬ mi 44 0 = 0 ∧ ¬ mi 44 1 = 0 then xb (agA P0 P1 k0 k1 E 64 (nsF P0 (k0 - 0) 0) (nsF P1 (k1 - 0) 0) = true) else -1)) mi ml := by
  refine xF.mk mX9_same rfl rfl ?_
  refine xB.go 2 (2, [(0, .ref 32), (1, .int lev)], [.int 4, .int lev], XM L mi ml) rfl ?_
  refine xB.c1 92 [.int lev, .int 4] [] (c_in _ L mi ml lev 4 ) rfl ?_
  refine xB.bz (0 ≤ lev ∧ lev < 4) (26, [(0, .ref 32), (1, .int lev)], [], XM L mi ml) (8, [(0, .ref 32), (1, .int lev)], [], XM L mi ml) rfl (fun h1 => ?_) (fun h1 => ?_)
  · refine xB.go 1 (27, [(0, .ref 32), (1, .int lev)], [.int (-1)], XM L mi ml) rfl ?_
    refine xB.rt (some (.int (-1))) mi ml rfl ?_
    have hg : ¬ ((0 ≤ lev ∧ lev < 4) ∧ ¬ mi 44 0 = 0 ∧ ¬ mi 44 1 = 0) := fun z => h1 z.1
    exact ⟨by rw [if_neg hg], rfl, rfl⟩
  · refine xB.go 4 (14, [(0, .ref 32), (1, .int lev)], [.int (mi 44 0)], XM L mi ml) rfl ?_
    refine xB.bp ((mi 44 0) = 0) (26, [(0, .ref 32), (1, .int lev)], [], XM L mi ml) (17, [(0, .ref 32), (1, .int lev)], [], XM L mi ml) rfl (fun h2 => ?_) (fun h2 => ?_)
    · refine xB.go 1 (27, [(0, .ref 32), (1, .int lev)], [.int (-1)], XM L mi ml) rfl ?_
      refine xB.rt (some (.int (-1))) mi ml rfl ?_
      have hg : ¬ ((0 ≤ lev ∧ lev < 4) ∧ ¬ mi 44 0 = 0 ∧ ¬ mi 44 1 = 0) := fun z => z.2.1 h2
      exact ⟨by rw [if_neg hg], rfl, rfl⟩
    · refine xB.go 4 (23, [(0, .ref 32), (1, .int lev)], [.int (mi 44 1)], XM L mi ml) rfl ?_
      refine xB.bp (¬ (mi 44 1) = 0) (28, [(0, .ref 32), (1, .int lev)], [], XM L mi ml) (26, [(0, .ref 32), (1, .int lev)], [], XM L mi ml) rfl (fun h3 => ?_) (fun h3 => ?_)
      · refine xB.go 4 (32, [(0, .ref 32), (1, .int lev)], [.int lev, .int 0, .int 0, .ref 32], XM L mi ml) rfl ?_
        refine xB.c1 131 [.ref 32, .int 0, .int 0, .int lev] [] (c_low0 _ L _ _ hcn0 hcb0 hkk0 lev P0 hP0 (i := 0) (by omega)) rfl ?_
        refine xB.go 5 (40, [(0, .ref 32), (1, .int lev), (2, .int (o2i (nsF P0 (k0 - 0) 0)))], [.int lev, .int 0, .int 1, .ref 32], XM L mi ml) rfl ?_
        refine xB.c1 131 [.ref 32, .int 1, .int 0, .int lev] [] (c_low1 _ L _ _ hcn1 hcb1 hkk1 lev P1 hP1 (i := 0) (by omega)) rfl ?_
        refine xB.go 1 (44, [(0, .ref 32), (1, .int lev), (2, .int (o2i (nsF P0 (k0 - 0) 0))), (3, .int (o2i (nsF P1 (k1 - 0) 0)))], [], XM L mi ml) rfl ?_
        have hg : (0 ≤ lev ∧ lev < 4) ∧ ¬ mi 44 0 = 0 ∧ ¬ mi 44 1 = 0 := ⟨h1, h2, h3⟩
        rw [if_pos hg]
        exact ms_44 d L mi ml hcn0 hcb0 hkk0 hcn1 hcb1 hkk1 lev P0 P1 hP0 hP1 E hE 64 0 _ _ rfl (fun i h => by have := nsF_some h; omega) (fun j h => by have := nsF_some h; omega)
      · refine xB.go 1 (27, [(0, .ref 32), (1, .int lev)], [.int (-1)], XM L mi ml) rfl ?_
        refine xB.rt (some (.int (-1))) mi ml rfl ?_
        have hg : ¬ ((0 ≤ lev ∧ lev < 4) ∧ ¬ mi 44 0 = 0 ∧ ¬ mi 44 1 = 0) := fun z => h3 z.2.2
        exact ⟨by rw [if_neg hg], rfl, rfl⟩
