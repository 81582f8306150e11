/-! what readers of a level see: the class's same -/
def nsF (P : Nat → Bool) : Nat → Nat → Option Nat
  | 0, _ => none
  | f + 1, i => bif P i then some i else nsF P f (i + 1)
def o2i (o : Option Nat) : Int32 := match o with
  | some i => nI i
  | none => -1
theorem nsF_some {P : Nat → Bool} : ∀ {f i j : Nat}, nsF P f i = some j → i ≤ j ∧ j < i + f := by
  intro f
  induction f with
  | zero => intro i j h; cases h
  | succ f ih =>
    intro i j h
    unfold nsF at h
    cases hp : P i with
    | true => rw [hp] at h; simp only [cond_true, Option.some.injEq] at h; omega
    | false => rw [hp] at h; simp only [cond_false] at h; have := ih h; omega
theorem o2i_ne {o : Option Nat} (h : ¬ o2i o = -1) : ∃ i, o = some i := by
  cases o with
  | none => exact absurd rfl h
  | some i => exact ⟨i, rfl⟩
theorem o2i_eq {o : Option Nat} (hb : ∀ i, o = some i → i < 2 ^ 31) (h : o2i o = -1) : o = none := by
  cases o with
  | none => rfl
  | some i => exact absurd h (nI_neg1 (hb i rfl))
def agA (P0 P1 : Nat → Bool) (k0 k1 : Nat) (E : Nat → Nat → Bool) : Nat → Option Nat → Option Nat → Bool
  | 0, oi, oj => oi.isNone && oj.isNone
  | f + 1, oi, oj => match oi with
    | none => oj.isNone
    | some i => match oj with
      | none => false
      | some j => E i j && agA P0 P1 k0 k1 E f (nsF P0 (k0 - (i + 1)) (i + 1)) (nsF P1 (k1 - (j + 1)) (j + 1))
set_option maxRecDepth 100000 in
set_option maxHeartbeats 1000000 in
theorem ns_3_0 (d L : Nat) (mi : xmi) (ml : xml) {k : Nat} (hkp : (if mi 24 4 ≤ 64 then mi 24 4 else 64) = nI k) (hk64 : k ≤ 64) (lev : Int32) (P : Nat → Bool) (hPv : ∀ i, i < k → (P i = true ↔ sl_lv mi 7 4 (mi 25 i) &&& (lev ^^^ (-1)) = 0)) (x1 : Int32) : ∀ (f i : Nat), i < 2 ^ 31 - 1000 → k + 1 - i ≤ f → xB (d + 3) mX4_nextSeen L (fun rr a b => rr = some (.int (o2i (nsF P (k - i) i))) ∧ a = mi ∧ b = ml) (3, [(0, .ref 24), (1, .int x1), (2, .int lev), (3, .ref 4), (4, .int (nI i))], [], XM L mi ml) := by
  intro f
  induction f with
  | zero =>
    intro i hi hf
    refine xB.go 2 (6, [(0, .ref 24), (1, .int x1), (2, .int lev), (3, .ref 4), (4, .int (nI i))], [.ref 24, .int (nI i)], XM L mi ml) rfl ?_
    refine xB.c1 31 [.ref 24] [.int (nI i)] (c_kept24 _ L mi ml  ) rfl ?_
    refine xB.cg (9, [(0, .ref 24), (1, .int x1), (2, .int lev), (3, .ref 4), (4, .int (nI i))], [.int (nI k), .int (nI i)], XM L mi ml) (by rw [hkp]) ?_
    refine xB.bp ((nI k) ≤ (nI i)) (38, [(0, .ref 24), (1, .int x1), (2, .int lev), (3, .ref 4), (4, .int (nI i))], [], XM L mi ml) (12, [(0, .ref 24), (1, .int x1), (2, .int lev), (3, .ref 4), (4, .int (nI i))], [], XM L mi ml) rfl (fun h1 => ?_) (fun h1 => ?_)
    · refine xB.go 1 (39, [(0, .ref 24), (1, .int x1), (2, .int lev), (3, .ref 4), (4, .int (nI i))], [.int (-1)], XM L mi ml) rfl ?_
      refine xB.rt (some (.int (-1))) mi ml rfl ?_
      have hge : k ≤ i := (nI_leI (by omega) (by omega)).mp h1
      exact ⟨by rw [show k - i = 0 by omega]; rfl, rfl, rfl⟩
    · have hin : i < k := (nI_ltI (by omega) (by omega)).mp (i_nle.mp h1)
      omega
  | succ f ih =>
    intro i hi hf
    refine xB.go 2 (6, [(0, .ref 24), (1, .int x1), (2, .int lev), (3, .ref 4), (4, .int (nI i))], [.ref 24, .int (nI i)], XM L mi ml) rfl ?_
    refine xB.c1 31 [.ref 24] [.int (nI i)] (c_kept24 _ L mi ml  ) rfl ?_
    refine xB.cg (9, [(0, .ref 24), (1, .int x1), (2, .int lev), (3, .ref 4), (4, .int (nI i))], [.int (nI k), .int (nI i)], XM L mi ml) (by rw [hkp]) ?_
    refine xB.bp ((nI k) ≤ (nI i)) (38, [(0, .ref 24), (1, .int x1), (2, .int lev), (3, .ref 4), (4, .int (nI i))], [], XM L mi ml) (12, [(0, .ref 24), (1, .int x1), (2, .int lev), (3, .ref 4), (4, .int (nI i))], [], XM L mi ml) rfl (fun h1 => ?_) (fun h1 => ?_)
    · refine xB.go 1 (39, [(0, .ref 24), (1, .int x1), (2, .int lev), (3, .ref 4), (4, .int (nI i))], [.int (-1)], XM L mi ml) rfl ?_
      refine xB.rt (some (.int (-1))) mi ml rfl ?_
      have hge : k ≤ i := (nI_leI (by omega) (by omega)).mp h1
      exact ⟨by rw [show k - i = 0 by omega]; rfl, rfl, rfl⟩
    · have hin : i < k := (nI_ltI (by omega) (by omega)).mp (i_nle.mp h1)
      refine xB.go 3 (16, [(0, .ref 24), (1, .int x1), (2, .int lev), (3, .ref 4), (4, .int (nI i))], [.int (nI i), .ref 24, .ref 4], XM L mi ml) rfl ?_
      refine xB.c1 32 [.ref 24, .int (nI i)] [.ref 4] (c_channelAt24 _ L mi ml (nI i) ) rfl ?_
      refine xB.cg (19, [(0, .ref 24), (1, .int x1), (2, .int lev), (3, .ref 4), (4, .int (nI i))], [.int (mi 25 i), .ref 4], XM L mi ml) (by rw [hkp, sl_lvN (by omega) hin]) ?_
      refine xB.c1 13 [.ref 4, .int (mi 25 i)] [] (c_ofChannel _ L mi ml (mi 25 i) ) rfl ?_
      refine xB.go 1 (23, [(0, .ref 24), (1, .int x1), (2, .int lev), (3, .ref 4), (4, .int (nI i))], [.int lev, .int (sl_lv mi 7 4 (mi 25 i))], XM L mi ml) rfl ?_
      refine xB.c1 87 [.int (sl_lv mi 7 4 (mi 25 i)), .int lev] [] (c_isBelow _ L mi ml (sl_lv mi 7 4 (mi 25 i)) lev ) rfl ?_
      refine xB.bz ((sl_lv mi 7 4 (mi 25 i)) &&& (lev ^^^ (-1)) = 0) (32, [(0, .ref 24), (1, .int x1), (2, .int lev), (3, .ref 4), (4, .int (nI i))], [], XM L mi ml) (29, [(0, .ref 24), (1, .int x1), (2, .int lev), (3, .ref 4), (4, .int (nI i))], [], XM L mi ml) rfl (fun h2 => ?_) (fun h2 => ?_)
      · refine xB.go 2 (3, [(0, .ref 24), (1, .int x1), (2, .int lev), (3, .ref 4), (4, .int ((nI i) + 1))], [], XM L mi ml) rfl ?_
        have hpf : P i = false := by
          cases hp : P i with
          | false => rfl
          | true => exact absurd ((hPv i hin).mp hp) h2
        obtain ⟨f1, hf1⟩ : ∃ f1, k - i = f1 + 1 := ⟨k - i - 1, by omega⟩
        rw [nI_1]
        have hx := ih (i + 1) (by omega) (by omega)
        have e : nsF P (k - i) i = nsF P (k - (i + 1)) (i + 1) := by rw [hf1, show k - (i + 1) = f1 by omega]; show (bif P i then _ else _) = _; rw [hpf]; rfl
        rw [e]; exact hx
      · refine xB.go 1 (31, [(0, .ref 24), (1, .int x1), (2, .int lev), (3, .ref 4), (4, .int (nI i))], [.int (nI i)], XM L mi ml) rfl ?_
        refine xB.rt (some (.int (nI i))) mi ml rfl ?_
        obtain ⟨f1, hf1⟩ : ∃ f1, k - i = f1 + 1 := ⟨k - i - 1, by omega⟩
        refine ⟨?_, rfl, rfl⟩
        rw [hf1]; unfold nsF; rw [(hPv i hin).mpr h2]; rfl
set_option maxRecDepth 100000 in
set_option maxHeartbeats 1000000 in
theorem c_nextSeen0 (d L : Nat) (mi : xmi) (ml : xml) {k : Nat} (hkp : (if mi 24 4 ≤ 64 then mi 24 4 else 64) = nI k) (hk64 : k ≤ 64) (lev : Int32) (P : Nat → Bool) (hPv : ∀ i, i < k → (P i = true ↔ sl_lv mi 7 4 (mi 25 i) &&& (lev ^^^ (-1)) = 0)) {i : Nat} (hi : i ≤ 64) : xFv (d + 4) 37 [.ref 24, .int (nI i), .int lev, .ref 4] L mi ml (.int (o2i (nsF P (k - i) i))) mi ml := by
  refine xF.mk mX4_nextSeen rfl rfl ?_
  refine xB.go 2 (3, [(0, .ref 24), (1, .int (nI i)), (2, .int lev), (3, .ref 4), (4, .int (nI i))], [], XM L mi ml) rfl ?_
  exact ns_3_0 d L mi ml hkp hk64 lev P hPv (nI i) (k + 1) i (by omega) (by omega)
set_option maxRecDepth 100000 in
set_option maxHeartbeats 1000000 in
theorem ns_3_1 (d L : Nat) (mi : xmi) (ml : xml) {k : Nat} (hkp : (if mi 29 4 ≤ 64 then mi 29 4 else 64) = nI k) (hk64 : k ≤ 64) (lev : Int32) (P : Nat → Bool) (hPv : ∀ i, i < k → (P i = true ↔ sl_lv mi 7 4 (mi 30 i) &&& (lev ^^^ (-1)) = 0)) (x1 : Int32) : ∀ (f i : Nat), i < 2 ^ 31 - 1000 → k + 1 - i ≤ f → xB (d + 3) mX4_nextSeen L (fun rr a b => rr = some (.int (o2i (nsF P (k - i) i))) ∧ a = mi ∧ b = ml) (3, [(0, .ref 29), (1, .int x1), (2, .int lev), (3, .ref 4), (4, .int (nI i))], [], XM L mi ml) := by
  intro f
  induction f with
  | zero =>
    intro i hi hf
    refine xB.go 2 (6, [(0, .ref 29), (1, .int x1), (2, .int lev), (3, .ref 4), (4, .int (nI i))], [.ref 29, .int (nI i)], XM L mi ml) rfl ?_
    refine xB.c1 31 [.ref 29] [.int (nI i)] (c_kept29 _ L mi ml  ) rfl ?_
    refine xB.cg (9, [(0, .ref 29), (1, .int x1), (2, .int lev), (3, .ref 4), (4, .int (nI i))], [.int (nI k), .int (nI i)], XM L mi ml) (by rw [hkp]) ?_
    refine xB.bp ((nI k) ≤ (nI i)) (38, [(0, .ref 29), (1, .int x1), (2, .int lev), (3, .ref 4), (4, .int (nI i))], [], XM L mi ml) (12, [(0, .ref 29), (1, .int x1), (2, .int lev), (3, .ref 4), (4, .int (nI i))], [], XM L mi ml) rfl (fun h1 => ?_) (fun h1 => ?_)
    · refine xB.go 1 (39, [(0, .ref 29), (1, .int x1), (2, .int lev), (3, .ref 4), (4, .int (nI i))], [.int (-1)], XM L mi ml) rfl ?_
      refine xB.rt (some (.int (-1))) mi ml rfl ?_
      have hge : k ≤ i := (nI_leI (by omega) (by omega)).mp h1
      exact ⟨by rw [show k - i = 0 by omega]; rfl, rfl, rfl⟩
    · have hin : i < k := (nI_ltI (by omega) (by omega)).mp (i_nle.mp h1)
      omega
  | succ f ih =>
    intro i hi hf
    refine xB.go 2 (6, [(0, .ref 29), (1, .int x1), (2, .int lev), (3, .ref 4), (4, .int (nI i))], [.ref 29, .int (nI i)], XM L mi ml) rfl ?_
    refine xB.c1 31 [.ref 29] [.int (nI i)] (c_kept29 _ L mi ml  ) rfl ?_
    refine xB.cg (9, [(0, .ref 29), (1, .int x1), (2, .int lev), (3, .ref 4), (4, .int (nI i))], [.int (nI k), .int (nI i)], XM L mi ml) (by rw [hkp]) ?_
    refine xB.bp ((nI k) ≤ (nI i)) (38, [(0, .ref 29), (1, .int x1), (2, .int lev), (3, .ref 4), (4, .int (nI i))], [], XM L mi ml) (12, [(0, .ref 29), (1, .int x1), (2, .int lev), (3, .ref 4), (4, .int (nI i))], [], XM L mi ml) rfl (fun h1 => ?_) (fun h1 => ?_)
    · refine xB.go 1 (39, [(0, .ref 29), (1, .int x1), (2, .int lev), (3, .ref 4), (4, .int (nI i))], [.int (-1)], XM L mi ml) rfl ?_
      refine xB.rt (some (.int (-1))) mi ml rfl ?_
      have hge : k ≤ i := (nI_leI (by omega) (by omega)).mp h1
      exact ⟨by rw [show k - i = 0 by omega]; rfl, rfl, rfl⟩
    · have hin : i < k := (nI_ltI (by omega) (by omega)).mp (i_nle.mp h1)
      refine xB.go 3 (16, [(0, .ref 29), (1, .int x1), (2, .int lev), (3, .ref 4), (4, .int (nI i))], [.int (nI i), .ref 29, .ref 4], XM L mi ml) rfl ?_
      refine xB.c1 32 [.ref 29, .int (nI i)] [.ref 4] (c_channelAt29 _ L mi ml (nI i) ) rfl ?_
      refine xB.cg (19, [(0, .ref 29), (1, .int x1), (2, .int lev), (3, .ref 4), (4, .int (nI i))], [.int (mi 30 i), .ref 4], XM L mi ml) (by rw [hkp, sl_lvN (by omega) hin]) ?_
      refine xB.c1 13 [.ref 4, .int (mi 30 i)] [] (c_ofChannel _ L mi ml (mi 30 i) ) rfl ?_
      refine xB.go 1 (23, [(0, .ref 29), (1, .int x1), (2, .int lev), (3, .ref 4), (4, .int (nI i))], [.int lev, .int (sl_lv mi 7 4 (mi 30 i))], XM L mi ml) rfl ?_
      refine xB.c1 87 [.int (sl_lv mi 7 4 (mi 30 i)), .int lev] [] (c_isBelow _ L mi ml (sl_lv mi 7 4 (mi 30 i)) lev ) rfl ?_
      refine xB.bz ((sl_lv mi 7 4 (mi 30 i)) &&& (lev ^^^ (-1)) = 0) (32, [(0, .ref 29), (1, .int x1), (2, .int lev), (3, .ref 4), (4, .int (nI i))], [], XM L mi ml) (29, [(0, .ref 29), (1, .int x1), (2, .int lev), (3, .ref 4), (4, .int (nI i))], [], XM L mi ml) rfl (fun h2 => ?_) (fun h2 => ?_)
      · refine xB.go 2 (3, [(0, .ref 29), (1, .int x1), (2, .int lev), (3, .ref 4), (4, .int ((nI i) + 1))], [], XM L mi ml) rfl ?_
        have hpf : P i = false := by
          cases hp : P i with
          | false => rfl
          | true => exact absurd ((hPv i hin).mp hp) h2
        obtain ⟨f1, hf1⟩ : ∃ f1, k - i = f1 + 1 := ⟨k - i - 1, by omega⟩
        rw [nI_1]
        have hx := ih (i + 1) (by omega) (by omega)
        have e : nsF P (k - i) i = nsF P (k - (i + 1)) (i + 1) := by rw [hf1, show k - (i + 1) = f1 by omega]; show (bif P i then _ else _) = _; rw [hpf]; rfl
        rw [e]; exact hx
      · refine xB.go 1 (31, [(0, .ref 29), (1, .int x1), (2, .int lev), (3, .ref 4), (4, .int (nI i))], [.int (nI i)], XM L mi ml) rfl ?_
        refine xB.rt (some (.int (nI i))) mi ml rfl ?_
        obtain ⟨f1, hf1⟩ : ∃ f1, k - i = f1 + 1 := ⟨k - i - 1, by omega⟩
        refine ⟨?_, rfl, rfl⟩
        rw [hf1]; unfold nsF; rw [(hPv i hin).mpr h2]; rfl
set_option maxRecDepth 100000 in
set_option maxHeartbeats 1000000 in
theorem c_nextSeen1 (d L : Nat) (mi : xmi) (ml : xml) {k : Nat} (hkp : (if mi 29 4 ≤ 64 then mi 29 4 else 64) = nI k) (hk64 : k ≤ 64) (lev : Int32) (P : Nat → Bool) (hPv : ∀ i, i < k → (P i = true ↔ sl_lv mi 7 4 (mi 30 i) &&& (lev ^^^ (-1)) = 0)) {i : Nat} (hi : i ≤ 64) : xFv (d + 4) 37 [.ref 29, .int (nI i), .int lev, .ref 4] L mi ml (.int (o2i (nsF P (k - i) i))) mi ml := by
  refine xF.mk mX4_nextSeen rfl rfl ?_
  refine xB.go 2 (3, [(0, .ref 29), (1, .int (nI i)), (2, .int lev), (3, .ref 4), (4, .int (nI i))], [], XM L mi ml) rfl ?_
  exact ns_3_1 d L mi ml hkp hk64 lev P hPv (nI i) (k + 1) i (by omega) (by omega)
set_option maxRecDepth 100000 in
set_option maxHeartbeats 1000000 in
theorem c_isAlike (d L : Nat) (mi : xmi) (ml : xml) {k0 k1 : Nat} (hkp0 : (if mi 24 4 ≤ 64 then mi 24 4 else 64) = nI k0) (hk0 : k0 ≤ 64) (hkp1 : (if mi 29 4 ≤ 64 then mi 29 4 else 64) = nI k1) (hk1 : k1 ≤ 64) {E : Nat → Nat → Bool} (hE : ∀ i j, i < k0 → j < k1 → (E i j = true ↔ mi 25 i = mi 30 j ∧ mi 26 i = mi 31 j)) {i j : Nat} (hi : i < k0) (hj : j < k1) : xFv (d + 4) 38 [.ref 24, .int (nI i), .ref 29, .int (nI j)] L mi ml (.int (xb (E i j = true))) mi ml := by
  refine xF.mk mX4_isAlike rfl rfl ?_
  refine xB.go 2 (2, [(0, .ref 24), (1, .int (nI i)), (2, .ref 29), (3, .int (nI j))], [.int (nI i), .ref 24], XM L mi ml) rfl ?_
  refine xB.c1 32 [.ref 24, .int (nI i)] [] (c_channelAt24 _ L mi ml (nI i) ) rfl ?_
  refine xB.go 2 (7, [(0, .ref 24), (1, .int (nI i)), (2, .ref 29), (3, .int (nI j))], [.int (nI j), .ref 29, .int (sl_lv mi 25 (if mi 24 4 ≤ 64 then mi 24 4 else 64) (nI i))], XM L mi ml) rfl ?_
  refine xB.c1 32 [.ref 29, .int (nI j)] [.int (sl_lv mi 25 (if mi 24 4 ≤ 64 then mi 24 4 else 64) (nI i))] (c_channelAt29 _ L mi ml (nI j) ) rfl ?_
  refine xB.cg (10, [(0, .ref 24), (1, .int (nI i)), (2, .ref 29), (3, .int (nI j))], [.int (sl_lv mi 30 (if mi 29 4 ≤ 64 then mi 29 4 else 64) (nI j)), .int (mi 25 i)], XM L mi ml) (by rw [hkp0, sl_lvN (by omega) hi]) ?_
  refine xB.cg (10, [(0, .ref 24), (1, .int (nI i)), (2, .ref 29), (3, .int (nI j))], [.int (mi 30 j), .int (mi 25 i)], XM L mi ml) (by rw [hkp1, sl_lvN (by omega) hj]) ?_
  refine xB.bp (¬ (mi 25 i) = (mi 30 j)) (30, [(0, .ref 24), (1, .int (nI i)), (2, .ref 29), (3, .int (nI j))], [], XM L mi ml) (13, [(0, .ref 24), (1, .int (nI i)), (2, .ref 29), (3, .int (nI j))], [], XM L mi ml) rfl (fun h1 => ?_) (fun h1 => ?_)
  · refine xB.go 1 (31, [(0, .ref 24), (1, .int (nI i)), (2, .ref 29), (3, .int (nI j))], [.int 0], XM L mi ml) rfl ?_
    refine xB.rt (some (.int 0)) mi ml rfl ?_
    exact ⟨by rw [xb_f (fun z => h1 ((hE i j hi hj).mp z).1)], rfl, rfl⟩
  · refine xB.go 2 (15, [(0, .ref 24), (1, .int (nI i)), (2, .ref 29), (3, .int (nI j))], [.int (nI i), .ref 24], XM L mi ml) rfl ?_
    refine xB.c1 33 [.ref 24, .int (nI i)] [] (c_intAt24 _ L mi ml (nI i) ) rfl ?_
    refine xB.go 2 (20, [(0, .ref 24), (1, .int (nI i)), (2, .ref 29), (3, .int (nI j))], [.int (nI j), .ref 29, .int (sl_lv mi 26 (if mi 24 4 ≤ 64 then mi 24 4 else 64) (nI i))], XM L mi ml) rfl ?_
    refine xB.c1 33 [.ref 29, .int (nI j)] [.int (sl_lv mi 26 (if mi 24 4 ≤ 64 then mi 24 4 else 64) (nI i))] (c_intAt29 _ L mi ml (nI j) ) rfl ?_
    refine xB.cg (23, [(0, .ref 24), (1, .int (nI i)), (2, .ref 29), (3, .int (nI j))], [.int (sl_lv mi 31 (if mi 29 4 ≤ 64 then mi 29 4 else 64) (nI j)), .int (mi 26 i)], XM L mi ml) (by rw [hkp0, sl_lvN (by omega) hi]) ?_
    refine xB.cg (23, [(0, .ref 24), (1, .int (nI i)), (2, .ref 29), (3, .int (nI j))], [.int (mi 31 j), .int (mi 26 i)], XM L mi ml) (by rw [hkp1, sl_lvN (by omega) hj]) ?_
    refine xB.bp (¬ (mi 26 i) = (mi 31 j)) (30, [(0, .ref 24), (1, .int (nI i)), (2, .ref 29), (3, .int (nI j))], [], XM L mi ml) (26, [(0, .ref 24), (1, .int (nI i)), (2, .ref 29), (3, .int (nI j))], [], XM L mi ml) rfl (fun h2 => ?_) (fun h2 => ?_)
    · refine xB.go 1 (31, [(0, .ref 24), (1, .int (nI i)), (2, .ref 29), (3, .int (nI j))], [.int 0], XM L mi ml) rfl ?_
      refine xB.rt (some (.int 0)) mi ml rfl ?_
      exact ⟨by rw [xb_f (fun z => h2 ((hE i j hi hj).mp z).2)], rfl, rfl⟩
    · refine xB.go 2 (31, [(0, .ref 24), (1, .int (nI i)), (2, .ref 29), (3, .int (nI j))], [.int 1], XM L mi ml) rfl ?_
      refine xB.rt (some (.int 1)) mi ml rfl ?_
      exact ⟨by rw [xb_t ((hE i j hi hj).mpr ⟨Classical.not_not.mp h1, Classical.not_not.mp h2⟩)], rfl, rfl⟩
theorem ag_none {P0 P1 : Nat → Bool} {k0 k1 : Nat} {E : Nat → Nat → Bool} {f : Nat} : agA P0 P1 k0 k1 E f none none = true := by cases f <;> rfl
theorem ag_ns {P0 P1 : Nat → Bool} {k0 k1 : Nat} {E : Nat → Nat → Bool} {f i : Nat} : agA P0 P1 k0 k1 E f none (some i) = false := by cases f <;> rfl
theorem ag_sn {P0 P1 : Nat → Bool} {k0 k1 : Nat} {E : Nat → Nat → Bool} {f i : Nat} : agA P0 P1 k0 k1 E f (some i) none = false := by cases f <;> rfl
set_option maxRecDepth 100000 in
set_option maxHeartbeats 1000000 in
theorem ra_116 (d L : Nat) (mi : xmi) (ml : xml) {k0 k1 f : Nat} {P0 P1 : Nat → Bool} {E : Nat → Nat → Bool} {oi oj : Option Nat} (lev x4 : Int32) (hb0 : ∀ i, oi = some i → i < 2 ^ 31) (hb1 : ∀ i, oj = some i → i < 2 ^ 31) (hex : oi = none ∨ oj = none) : xB (d + 4) mX8_rowsAgree L (fun rr a b => rr = some (.int (xb (agA P0 P1 k0 k1 E f oi oj = true))) ∧ a = mi ∧ b = ml) (116, [(0, .ref 0), (1, .int lev), (2, .int (o2i oi)), (3, .int (o2i oj)), (4, .int x4)], [], XM L mi ml) := by
  refine xB.go 2 (118, [(0, .ref 0), (1, .int lev), (2, .int (o2i oi)), (3, .int (o2i oj)), (4, .int x4)], [.int (-1), .int (o2i oi)], XM L mi ml) rfl ?_
  refine xB.bp (¬ (o2i oi) = (-1)) (130, [(0, .ref 0), (1, .int lev), (2, .int (o2i oi)), (3, .int (o2i oj)), (4, .int x4)], [], XM L mi ml) (121, [(0, .ref 0), (1, .int lev), (2, .int (o2i oi)), (3, .int (o2i oj)), (4, .int x4)], [], XM L mi ml) rfl (fun h1 => ?_) (fun h1 => ?_)
  · refine xB.go 1 (131, [(0, .ref 0), (1, .int lev), (2, .int (o2i oi)), (3, .int (o2i oj)), (4, .int x4)], [.int 0], XM L mi ml) rfl ?_
    refine xB.rt (some (.int 0)) mi ml rfl ?_
    obtain ⟨i, rfl⟩ := o2i_ne h1
    obtain rfl : oj = none := hex.resolve_left (fun z => by cases z)
    exact ⟨by rw [ag_sn, xb_f (by decide)], rfl, rfl⟩
  · refine xB.go 2 (123, [(0, .ref 0), (1, .int lev), (2, .int (o2i oi)), (3, .int (o2i oj)), (4, .int x4)], [.int (-1), .int (o2i oj)], XM L mi ml) rfl ?_
    refine xB.bp (¬ (o2i oj) = (-1)) (130, [(0, .ref 0), (1, .int lev), (2, .int (o2i oi)), (3, .int (o2i oj)), (4, .int x4)], [], XM L mi ml) (126, [(0, .ref 0), (1, .int lev), (2, .int (o2i oi)), (3, .int (o2i oj)), (4, .int x4)], [], XM L mi ml) rfl (fun h2 => ?_) (fun h2 => ?_)
    · refine xB.go 1 (131, [(0, .ref 0), (1, .int lev), (2, .int (o2i oi)), (3, .int (o2i oj)), (4, .int x4)], [.int 0], XM L mi ml) rfl ?_
      refine xB.rt (some (.int 0)) mi ml rfl ?_
      obtain rfl := o2i_eq hb0 (Classical.not_not.mp h1)
      obtain ⟨j, rfl⟩ := o2i_ne h2
      exact ⟨by rw [ag_ns, xb_f (by decide)], rfl, rfl⟩
    · refine xB.go 2 (131, [(0, .ref 0), (1, .int lev), (2, .int (o2i oi)), (3, .int (o2i oj)), (4, .int x4)], [.int 1], XM L mi ml) rfl ?_
      refine xB.rt (some (.int 1)) mi ml rfl ?_
      exact ⟨by rw [o2i_eq hb0 (Classical.not_not.mp h1), o2i_eq hb1 (Classical.not_not.mp h2), xb_t ag_none], rfl, rfl⟩
set_option maxRecDepth 100000 in
set_option maxHeartbeats 1000000 in
theorem ra_35 (d L : Nat) (mi : xmi) (ml : xml) {k0 k1 : Nat} (hkp0 : (if mi 24 4 ≤ 64 then mi 24 4 else 64) = nI k0) (hk0 : k0 ≤ 64) (hkp1 : (if mi 29 4 ≤ 64 then mi 29 4 else 64) = nI k1) (hk1 : k1 ≤ 64) (lev : Int32) (P0 P1 : Nat → Bool) (hP0 : ∀ i, i < k0 → (P0 i = true ↔ sl_lv mi 7 4 (mi 25 i) &&& (lev ^^^ (-1)) = 0)) (hP1 : ∀ i, i < k1 → (P1 i = true ↔ sl_lv mi 7 4 (mi 30 i) &&& (lev ^^^ (-1)) = 0)) (E : Nat → Nat → Bool) (hE : ∀ i j, i < k0 → j < k1 → (E i j = true ↔ mi 25 i = mi 30 j ∧ mi 26 i = mi 31 j)) : ∀ (f s : Nat) (oi oj : Option Nat), s + f = 64 → (∀ i, oi = some i → s ≤ i ∧ i < k0) → (∀ j, oj = some j → s ≤ j ∧ j < k1) → xB (d + 4) mX8_rowsAgree L (fun rr a b => rr = some (.int (xb (agA P0 P1 k0 k1 E f oi oj = true))) ∧ a = mi ∧ b = ml) (35, [(0, .ref 0), (1, .int lev), (2, .int (o2i oi)), (3, .int (o2i oj)), (4, .int (nI s))], [], XM L mi ml) := by
  intro f
  induction f with
  | zero =>
    intro s oi oj hs bi bj
    refine xB.go 2 (39, [(0, .ref 0), (1, .int lev), (2, .int (o2i oi)), (3, .int (o2i oj)), (4, .int (nI s))], [.int 64, .int (nI s)], XM L mi ml) rfl ?_
    refine xB.bp (64 ≤ (nI s)) (116, [(0, .ref 0), (1, .int lev), (2, .int (o2i oi)), (3, .int (o2i oj)), (4, .int (nI s))], [], XM L mi ml) (42, [(0, .ref 0), (1, .int lev), (2, .int (o2i oi)), (3, .int (o2i oj)), (4, .int (nI s))], [], XM L mi ml) rfl (fun h1 => ?_) (fun h1 => ?_)
    · refine ra_116 d L mi ml lev _ (fun i h => by have := bi i h; omega) (fun j h => by have := bj j h; omega) ?_
      cases oi with
      | none => exact Or.inl rfl
      | some i => have := bi i rfl; have hge : 64 ≤ s := (nI_leI (by decide) (by omega)).mp h1; omega
    · refine xB.go 2 (44, [(0, .ref 0), (1, .int lev), (2, .int (o2i oi)), (3, .int (o2i oj)), (4, .int (nI s))], [.int (-1), .int (o2i oi)], XM L mi ml) rfl ?_
      refine xB.bp ((o2i oi) = (-1)) (116, [(0, .ref 0), (1, .int lev), (2, .int (o2i oi)), (3, .int (o2i oj)), (4, .int (nI s))], [], XM L mi ml) (47, [(0, .ref 0), (1, .int lev), (2, .int (o2i oi)), (3, .int (o2i oj)), (4, .int (nI s))], [], XM L mi ml) rfl (fun h2 => ?_) (fun h2 => ?_)
      · exact ra_116 d L mi ml lev _ (fun i h => by have := bi i h; omega) (fun j h => by have := bj j h; omega) (Or.inl (o2i_eq (fun i h => by have := bi i h; omega) h2))
      · refine xB.go 2 (49, [(0, .ref 0), (1, .int lev), (2, .int (o2i oi)), (3, .int (o2i oj)), (4, .int (nI s))], [.int (-1), .int (o2i oj)], XM L mi ml) rfl ?_
        refine xB.bp ((o2i oj) = (-1)) (116, [(0, .ref 0), (1, .int lev), (2, .int (o2i oi)), (3, .int (o2i oj)), (4, .int (nI s))], [], XM L mi ml) (52, [(0, .ref 0), (1, .int lev), (2, .int (o2i oi)), (3, .int (o2i oj)), (4, .int (nI s))], [], XM L mi ml) rfl (fun h3 => ?_) (fun h3 => ?_)
        · exact ra_116 d L mi ml lev _ (fun i h => by have := bi i h; omega) (fun j h => by have := bj j h; omega) (Or.inr (o2i_eq (fun j h => by have := bj j h; omega) h3))
        · exfalso; have := bi _ (Classical.choose_spec (o2i_ne h2)); omega
  | succ f ih =>
    intro s oi oj hs bi bj
    refine xB.go 2 (39, [(0, .ref 0), (1, .int lev), (2, .int (o2i oi)), (3, .int (o2i oj)), (4, .int (nI s))], [.int 64, .int (nI s)], XM L mi ml) rfl ?_
    refine xB.bp (64 ≤ (nI s)) (116, [(0, .ref 0), (1, .int lev), (2, .int (o2i oi)), (3, .int (o2i oj)), (4, .int (nI s))], [], XM L mi ml) (42, [(0, .ref 0), (1, .int lev), (2, .int (o2i oi)), (3, .int (o2i oj)), (4, .int (nI s))], [], XM L mi ml) rfl (fun h1 => ?_) (fun h1 => ?_)
    · refine ra_116 d L mi ml lev _ (fun i h => by have := bi i h; omega) (fun j h => by have := bj j h; omega) ?_
      cases oi with
      | none => exact Or.inl rfl
      | some i => have := bi i rfl; have hge : 64 ≤ s := (nI_leI (by decide) (by omega)).mp h1; omega
    · refine xB.go 2 (44, [(0, .ref 0), (1, .int lev), (2, .int (o2i oi)), (3, .int (o2i oj)), (4, .int (nI s))], [.int (-1), .int (o2i oi)], XM L mi ml) rfl ?_
      refine xB.bp ((o2i oi) = (-1)) (116, [(0, .ref 0), (1, .int lev), (2, .int (o2i oi)), (3, .int (o2i oj)), (4, .int (nI s))], [], XM L mi ml) (47, [(0, .ref 0), (1, .int lev), (2, .int (o2i oi)), (3, .int (o2i oj)), (4, .int (nI s))], [], XM L mi ml) rfl (fun h2 => ?_) (fun h2 => ?_)
      · exact ra_116 d L mi ml lev _ (fun i h => by have := bi i h; omega) (fun j h => by have := bj j h; omega) (Or.inl (o2i_eq (fun i h => by have := bi i h; omega) h2))
      · refine xB.go 2 (49, [(0, .ref 0), (1, .int lev), (2, .int (o2i oi)), (3, .int (o2i oj)), (4, .int (nI s))], [.int (-1), .int (o2i oj)], XM L mi ml) rfl ?_
        refine xB.bp ((o2i oj) = (-1)) (116, [(0, .ref 0), (1, .int lev), (2, .int (o2i oi)), (3, .int (o2i oj)), (4, .int (nI s))], [], XM L mi ml) (52, [(0, .ref 0), (1, .int lev), (2, .int (o2i oi)), (3, .int (o2i oj)), (4, .int (nI s))], [], XM L mi ml) rfl (fun h3 => ?_) (fun h3 => ?_)
        · exact ra_116 d L mi ml lev _ (fun i h => by have := bi i h; omega) (fun j h => by have := bj j h; omega) (Or.inr (o2i_eq (fun j h => by have := bj j h; omega) h3))
        · obtain ⟨i, hio⟩ := o2i_ne h2
          obtain ⟨j, hjo⟩ := o2i_ne h3
          have hi2 := bi i hio
          have hj2 := bj j hjo
          refine xB.cg (52, [(0, .ref 0), (1, .int lev), (2, .int (nI i)), (3, .int (o2i oj)), (4, .int (nI s))], [], XM L mi ml) (by rw [hio]; rfl) ?_
          refine xB.cg (52, [(0, .ref 0), (1, .int lev), (2, .int (nI i)), (3, .int (nI j)), (4, .int (nI s))], [], XM L mi ml) (by rw [hjo]; rfl) ?_
          refine xB.go 10 (66, [(0, .ref 0), (1, .int lev), (2, .int (nI i)), (3, .int (nI j)), (4, .int (nI s))], [.int (nI j), .ref 29, .int (nI i), .ref 24], XM L mi ml) rfl ?_
          refine xB.c1 38 [.ref 24, .int (nI i), .ref 29, .int (nI j)] [] (c_isAlike _ L _ _ hkp0 hk0 hkp1 hk1 hE (bi i hio).2 (bj j hjo).2) rfl ?_
          refine xB.bn (E i j = true) (74, [(0, .ref 0), (1, .int lev), (2, .int (nI i)), (3, .int (nI j)), (4, .int (nI s))], [], XM L mi ml) (72, [(0, .ref 0), (1, .int lev), (2, .int (nI i)), (3, .int (nI j)), (4, .int (nI s))], [], XM L mi ml) rfl (fun h4 => ?_) (fun h4 => ?_)
          · refine xB.go 10 (88, [(0, .ref 0), (1, .int lev), (2, .int (nI i)), (3, .int (nI j)), (4, .int (nI s))], [.ref 4, .int lev, .int ((nI i) + 1), .ref 24], XM L mi ml) rfl ?_
            refine xB.cg (88, [(0, .ref 0), (1, .int lev), (2, .int (nI i)), (3, .int (nI j)), (4, .int (nI s))], [.ref 4, .int lev, .int (nI (i + 1)), .ref 24], XM L mi ml) (by rw [nI_1]) ?_
            refine xB.c1 37 [.ref 24, .int (nI (i + 1)), .int lev, .ref 4] [] (c_nextSeen0 _ L _ _ hkp0 hk0 lev P0 hP0 (i := (i + 1)) (by omega)) rfl ?_
            refine xB.go 11 (106, [(0, .ref 0), (1, .int lev), (2, .int (o2i (nsF P0 (k0 - (i + 1)) (i + 1)))), (3, .int (nI j)), (4, .int (nI s))], [.ref 4, .int lev, .int ((nI j) + 1), .ref 29], XM L mi ml) rfl ?_
            refine xB.cg (106, [(0, .ref 0), (1, .int lev), (2, .int (o2i (nsF P0 (k0 - (i + 1)) (i + 1)))), (3, .int (nI j)), (4, .int (nI s))], [.ref 4, .int lev, .int (nI (j + 1)), .ref 29], XM L mi ml) (by rw [nI_1]) ?_
            refine xB.c1 37 [.ref 29, .int (nI (j + 1)), .int lev, .ref 4] [] (c_nextSeen1 _ L _ _ hkp1 hk1 lev P1 hP1 (i := (j + 1)) (by omega)) rfl ?_
            refine xB.go 3 (35, [(0, .ref 0), (1, .int lev), (2, .int (o2i (nsF P0 (k0 - (i + 1)) (i + 1)))), (3, .int (o2i (nsF P1 (k1 - (j + 1)) (j + 1)))), (4, .int ((nI s) + 1))], [], XM L mi ml) rfl ?_
            have e : agA P0 P1 k0 k1 E (f + 1) oi oj = (E i j && agA P0 P1 k0 k1 E f (nsF P0 (k0 - (i + 1)) (i + 1)) (nsF P1 (k1 - (j + 1)) (j + 1))) := by rw [hio, hjo]; rfl
            rw [e, h4, Bool.true_and, nI_1]
            exact ih (s + 1) _ _ (by omega) (fun i2 h => by have := nsF_some h; have := bi i hio; omega) (fun j2 h => by have := nsF_some h; have := bj j hjo; omega)
          · refine xB.go 1 (73, [(0, .ref 0), (1, .int lev), (2, .int (nI i)), (3, .int (nI j)), (4, .int (nI s))], [.int 0], XM L mi ml) rfl ?_
            refine xB.rt (some (.int 0)) mi ml rfl ?_
            exact ⟨by rw [xb_f (by rw [show agA P0 P1 k0 k1 E (f + 1) oi oj = (E i j && agA P0 P1 k0 k1 E f (nsF P0 (k0 - (i + 1)) (i + 1)) (nsF P1 (k1 - (j + 1)) (j + 1))) by rw [hio, hjo]; rfl]; rw [Bool.and_eq_true]; exact fun z => h4 z.1)], rfl, rfl⟩
set_option maxRecDepth 100000 in
set_option maxHeartbeats 1000000 in
theorem c_rowsAgree (d L : Nat) (mi : xmi) (ml : xml) {k0 k1 : Nat} (hkp0 : (if mi 24 4 ≤ 64 then mi 24 4 else 64) = nI k0) (hk0 : k0 ≤ 64) (hkp1 : (if mi 29 4 ≤ 64 then mi 29 4 else 64) = nI k1) (hk1 : k1 ≤ 64) (lev : Int32) (P0 P1 : Nat → Bool) (hP0 : ∀ i, i < k0 → (P0 i = true ↔ sl_lv mi 7 4 (mi 25 i) &&& (lev ^^^ (-1)) = 0)) (hP1 : ∀ i, i < k1 → (P1 i = true ↔ sl_lv mi 7 4 (mi 30 i) &&& (lev ^^^ (-1)) = 0)) (E : Nat → Nat → Bool) (hE : ∀ i j, i < k0 → j < k1 → (E i j = true ↔ mi 25 i = mi 30 j ∧ mi 26 i = mi 31 j)) : xFv (d + 5) 84 [.ref 0, .int lev] L mi ml (.int (xb (agA P0 P1 k0 k1 E 64 (nsF P0 (k0 - 0) 0) (nsF P1 (k1 - 0) 0) = true))) mi ml := by
  refine xF.mk mX8_rowsAgree rfl rfl ?_
  refine xB.go 8 (12, [(0, .ref 0), (1, .int lev)], [.ref 4, .int lev, .int 0, .ref 24], XM L mi ml) rfl ?_
  refine xB.c1 37 [.ref 24, .int 0, .int lev, .ref 4] [] (c_nextSeen0 _ L _ _ hkp0 hk0 lev P0 hP0 (i := 0) (by omega)) rfl ?_
  refine xB.go 9 (28, [(0, .ref 0), (1, .int lev), (2, .int (o2i (nsF P0 (k0 - 0) 0)))], [.ref 4, .int lev, .int 0, .ref 29], XM L mi ml) rfl ?_
  refine xB.c1 37 [.ref 29, .int 0, .int lev, .ref 4] [] (c_nextSeen1 _ L _ _ hkp1 hk1 lev P1 hP1 (i := 0) (by omega)) rfl ?_
  refine xB.go 3 (35, [(0, .ref 0), (1, .int lev), (2, .int (o2i (nsF P0 (k0 - 0) 0))), (3, .int (o2i (nsF P1 (k1 - 0) 0))), (4, .int 0)], [], XM L mi ml) rfl ?_
  exact ra_35 d L mi ml hkp0 hk0 hkp1 hk1 lev P0 P1 hP0 hP1 E hE 64 0 _ _ rfl (fun i h => by have := nsF_some h; omega) (fun j h => by have := nsF_some h; omega)
set_option maxRecDepth 100000 in
set_option maxHeartbeats 1000000 in
theorem c_same (d L : Nat) (mi : xmi) (ml : xml) {k0 k1 : Nat} (hkp0 : (if mi 24 4 ≤ 64 then mi 24 4 else 64) = nI k0) (hk0 : k0 ≤ 64) (hkp1 : (if mi 29 4 ≤ 64 then mi 29 4 else 64) = nI k1) (hk1 : k1 ≤ 64) (lev : Int32) (P0 P1 : Nat → Bool) (hP0 : ∀ i, i < k0 → (P0 i = true ↔ sl_lv mi 7 4 (mi 25 i) &&& (lev ^^^ (-1)) = 0)) (hP1 : ∀ i, i < k1 → (P1 i = true ↔ sl_lv mi 7 4 (mi 30 i) &&& (lev ^^^ (-1)) = 0)) (E : Nat → Nat → Bool) (hE : ∀ i j, i < k0 → j < k1 → (E i j = true ↔ mi 25 i = mi 30 j ∧ mi 26 i = mi 31 j)) (hh24 : mi 24 3 = 0 ∨ mi 24 3 = 1) (hh29 : mi 29 3 = 0 ∨ mi 29 3 = 1) : xFv (d + 6) 80 [.ref 0, .int lev] L mi ml (.int (if (0 ≤ lev ∧ lev < 4) ∧ ¬ mi 24 3 = 0 ∧ ¬ mi 29 3 = 0 then xb (agA P0 P1 k0 k1 E 64 (nsF P0 (k0 - 0) 0) (nsF P1 (k1 - 0) 0) = true) else -1)) mi ml := by
  refine xF.mk mX8_same rfl rfl ?_
  refine xB.go 2 (2, [(0, .ref 0), (1, .int lev)], [.int 4, .int lev], XM L mi ml) rfl ?_
  refine xB.c1 86 [.int lev, .int 4] [] (c_isBetween _ L mi ml lev 4 ) rfl ?_
  refine xB.bz (0 ≤ lev ∧ lev < 4) (32, [(0, .ref 0), (1, .int lev)], [], XM L mi ml) (8, [(0, .ref 0), (1, .int lev)], [], XM L mi ml) rfl (fun h1 => ?_) (fun h1 => ?_)
  · refine xB.go 1 (33, [(0, .ref 0), (1, .int lev)], [.int (-1)], XM L mi ml) rfl ?_
    refine xB.rt (some (.int (-1))) mi ml rfl ?_
    have hg : ¬ ((0 ≤ lev ∧ lev < 4) ∧ ¬ mi 24 3 = 0 ∧ ¬ mi 29 3 = 0) := fun z => h1 z.1
    exact ⟨by rw [if_neg hg], rfl, rfl⟩
  · refine xB.go 4 (14, [(0, .ref 0), (1, .int lev)], [.ref 24], XM L mi ml) rfl ?_
    refine xB.c1 29 [.ref 24] [] (c_isHalted24 _ L _ _ (by rcases hh24 with z | z <;> rw [z] <;> rfl)) rfl ?_
    refine xB.bp ((mi 24 3) = 0) (32, [(0, .ref 0), (1, .int lev)], [], XM L mi ml) (20, [(0, .ref 0), (1, .int lev)], [], XM L mi ml) rfl (fun h2 => ?_) (fun h2 => ?_)
    · refine xB.go 1 (33, [(0, .ref 0), (1, .int lev)], [.int (-1)], XM L mi ml) rfl ?_
      refine xB.rt (some (.int (-1))) mi ml rfl ?_
      have hg : ¬ ((0 ≤ lev ∧ lev < 4) ∧ ¬ mi 24 3 = 0 ∧ ¬ mi 29 3 = 0) := fun z => z.2.1 h2
      exact ⟨by rw [if_neg hg], rfl, rfl⟩
    · refine xB.go 4 (26, [(0, .ref 0), (1, .int lev)], [.ref 29], XM L mi ml) rfl ?_
      refine xB.c1 29 [.ref 29] [] (c_isHalted29 _ L _ _ (by rcases hh29 with z | z <;> rw [z] <;> rfl)) rfl ?_
      refine xB.bp (¬ (mi 29 3) = 0) (34, [(0, .ref 0), (1, .int lev)], [], XM L mi ml) (32, [(0, .ref 0), (1, .int lev)], [], XM L mi ml) rfl (fun h3 => ?_) (fun h3 => ?_)
      · refine xB.go 2 (36, [(0, .ref 0), (1, .int lev)], [.int lev, .ref 0], XM L mi ml) rfl ?_
        refine xB.c1 84 [.ref 0, .int lev] [] (c_rowsAgree _ L _ _ hkp0 hk0 hkp1 hk1 lev P0 P1 hP0 hP1 E hE) rfl ?_
        refine xB.bz (agA P0 P1 k0 k1 E 64 (nsF P0 (k0 - 0) 0) (nsF P1 (k1 - 0) 0) = true) (46, [(0, .ref 0), (1, .int lev)], [], XM L mi ml) (42, [(0, .ref 0), (1, .int lev)], [], XM L mi ml) rfl (fun h4 => ?_) (fun h4 => ?_)
        · refine xB.go 1 (47, [(0, .ref 0), (1, .int lev)], [.int 0], XM L mi ml) rfl ?_
          refine xB.rt (some (.int 0)) mi ml rfl ?_
          have hg : (0 ≤ lev ∧ lev < 4) ∧ ¬ mi 24 3 = 0 ∧ ¬ mi 29 3 = 0 := ⟨h1, h2, h3⟩
          exact ⟨by rw [if_pos hg, xb_f h4], rfl, rfl⟩
        · refine xB.go 2 (47, [(0, .ref 0), (1, .int lev)], [.int 1], XM L mi ml) rfl ?_
          refine xB.rt (some (.int 1)) mi ml rfl ?_
          have hg : (0 ≤ lev ∧ lev < 4) ∧ ¬ mi 24 3 = 0 ∧ ¬ mi 29 3 = 0 := ⟨h1, h2, h3⟩
          exact ⟨by rw [if_pos hg, xb_t h4], rfl, rfl⟩
      · refine xB.go 1 (33, [(0, .ref 0), (1, .int lev)], [.int (-1)], XM L mi ml) rfl ?_
        refine xB.rt (some (.int (-1))) mi ml rfl ?_
        have hg : ¬ ((0 ≤ lev ∧ lev < 4) ∧ ¬ mi 24 3 = 0 ∧ ¬ mi 29 3 = 0) := fun z => h3 z.2.2
        exact ⟨by rw [if_neg hg], rfl, rfl⟩
