/-! the reference: its program, its walk -/
def nxm (n : Nat) (K T : Nat → Nat) (i : Nat) : Nat := if K i = 4 then T i else if K i = 9 then n else i + 1
def otm (n : Nat) (K T : Nat → Nat) (i : Nat) : Nat := if K i = 5 then T i else nxm n K T i
def PRM (mi : xmi) (n : Nat) (K T : Nat → Nat) : Prop := mi 32 2 = nI n ∧ n ≤ 64 ∧ (∀ i, i < n → mi 33 i = nI (K i) ∧ K i < 10) ∧ (∀ i, i < n → K i = 4 ∨ K i = 5 → mi 34 i = nI (T i) ∧ T i < 64)
theorem PRM.frame {mi a : xmi} {n : Nat} {K T : Nat → Nat} (hP : PRM mi n K T) (h1 : a 32 2 = mi 32 2) (h2 : a 33 = mi 33) (h3 : a 34 = mi 34) : PRM a n K T := by
  unfold PRM; rw [h1, h2, h3]; exact hP
theorem Fo_nxm {n : Nat} {K T : Nat → Nat} {i j : Nat} (h : Fo K T i j) : j = nxm n K T i ∨ j = otm n K T i := by
  obtain ⟨h9, h | ⟨h5, h⟩⟩ := h
  · left; unfold nxm; rw [if_neg h9]; exact h
  · right; unfold otm; rw [if_pos h5]; exact h
theorem nxm_Fo {n : Nat} {K T : Nat → Nat} {i : Nat} (h9 : K i ≠ 9) : Fo K T i (nxm n K T i) := ⟨h9, Or.inl (by unfold nxm; rw [if_neg h9])⟩
theorem otm_Fo {n : Nat} {K T : Nat → Nat} {i : Nat} (h9 : K i ≠ 9) : Fo K T i (otm n K T i) := by
  unfold otm
  by_cases h5 : K i = 5
  · rw [if_pos h5]; exact ⟨h9, Or.inr ⟨h5, rfl⟩⟩
  · rw [if_neg h5]; exact nxm_Fo h9
theorem PRM.nx_le {mi : xmi} {n : Nat} {K T : Nat → Nat} (hP : PRM mi n K T) {i : Nat} (hi : i < n) : nxm n K T i ≤ 64 ∧ otm n K T i ≤ 64 := by
  have h1 := hP.2.1
  have hx : nxm n K T i ≤ 64 := by
    unfold nxm
    by_cases h4 : K i = 4
    · rw [if_pos h4]; have := (hP.2.2.2 i hi (Or.inl h4)).2; omega
    · rw [if_neg h4]; by_cases h9 : K i = 9
      · rw [if_pos h9]; exact h1
      · rw [if_neg h9]; omega
  refine ⟨hx, ?_⟩
  unfold otm
  by_cases h5 : K i = 5
  · rw [if_pos h5]; have := (hP.2.2.2 i hi (Or.inr h5)).2; omega
  · rw [if_neg h5]; exact hx
set_option maxRecDepth 100000 in
set_option maxHeartbeats 1000000 in
theorem c_mtakes (d L : Nat) (mi : xmi) (ml : xml) {n : Nat} {K T : Nat → Nat} (hP : PRM mi n K T) {i : Nat} (hi : i < n) : xFv (d + 1) 97 [.ref 32, .int (nI i)] L mi ml (.int (nI (tk (K i)))) mi ml := by
  have hk := (hP.2.2.1 i hi).2
  have hi64 : i < 64 := Nat.lt_of_lt_of_le hi hP.2.1
  have hi31 : i < 2 ^ 31 := by omega
  refine xF.mk mX9_takes rfl rfl ?_
  refine xB.go 3 (5, [(0, .ref 32), (1, .int (nI i))], [.int (nI i), .ref 33], XM L mi ml) rfl ?_
  refine xB.ck (xin (nI i) 64) (6, [(0, .ref 32), (1, .int (nI i))], [.int (mi 33 (nI i).toNatClampNeg)], XM L mi ml) rfl (xin_of hi64 (by decide) rfl) ?_
  refine xB.cg (6, [(0, .ref 32), (1, .int (nI i))], [.int (nI (K i))], XM L mi ml) (by rw [nI_clamp hi31, (hP.2.2.1 i hi).1]) ?_
  refine xB.go 3 (9, [(0, .ref 32), (1, .int (nI i)), (2, .int (nI (K i)))], [.int 3, .int (nI (K i))], XM L mi ml) rfl ?_
  refine xB.bp ((nI (K i)) = 3) (18, [(0, .ref 32), (1, .int (nI i)), (2, .int (nI (K i)))], [], XM L mi ml) (12, [(0, .ref 32), (1, .int (nI i)), (2, .int (nI (K i)))], [], XM L mi ml) rfl (fun h1 => ?_) (fun h1 => ?_)
  · refine xB.go 2 (49, [(0, .ref 32), (1, .int (nI i)), (2, .int (nI (K i)))], [.int 2], XM L mi ml) rfl ?_
    refine xB.rt (some (.int 2)) mi ml rfl ?_
    have key : ∀ k, k < 10 → ((nI (k)) = 3) → (2 : Int32) = nI (tk (k)) := by decide +kernel
    exact ⟨congrArg (fun z => some (Value.int z)) (key _ hk h1), rfl, rfl⟩
  · refine xB.go 2 (15, [(0, .ref 32), (1, .int (nI i)), (2, .int (nI (K i)))], [.int 7, .int (nI (K i))], XM L mi ml) rfl ?_
    refine xB.bp (¬ (nI (K i)) = 7) (22, [(0, .ref 32), (1, .int (nI i)), (2, .int (nI (K i)))], [], XM L mi ml) (18, [(0, .ref 32), (1, .int (nI i)), (2, .int (nI (K i)))], [], XM L mi ml) rfl (fun h2 => ?_) (fun h2 => ?_)
    · refine xB.go 2 (24, [(0, .ref 32), (1, .int (nI i)), (2, .int (nI (K i)))], [.int 2, .int (nI (K i))], XM L mi ml) rfl ?_
      refine xB.bp ((nI (K i)) = 2) (44, [(0, .ref 32), (1, .int (nI i)), (2, .int (nI (K i)))], [], XM L mi ml) (27, [(0, .ref 32), (1, .int (nI i)), (2, .int (nI (K i)))], [], XM L mi ml) rfl (fun h3 => ?_) (fun h3 => ?_)
      · refine xB.go 2 (49, [(0, .ref 32), (1, .int (nI i)), (2, .int (nI (K i)))], [.int 1], XM L mi ml) rfl ?_
        refine xB.rt (some (.int 1)) mi ml rfl ?_
        have key : ∀ k, k < 10 → (¬ ((nI (k)) = 3)) ∧ (¬ (nI (k)) = 7) ∧ ((nI (k)) = 2) → (1 : Int32) = nI (tk (k)) := by decide +kernel
        exact ⟨congrArg (fun z => some (Value.int z)) (key _ hk ⟨h1, h2, h3⟩), rfl, rfl⟩
      · refine xB.go 2 (29, [(0, .ref 32), (1, .int (nI i)), (2, .int (nI (K i)))], [.int 5, .int (nI (K i))], XM L mi ml) rfl ?_
        refine xB.bp ((nI (K i)) = 5) (44, [(0, .ref 32), (1, .int (nI i)), (2, .int (nI (K i)))], [], XM L mi ml) (32, [(0, .ref 32), (1, .int (nI i)), (2, .int (nI (K i)))], [], XM L mi ml) rfl (fun h4 => ?_) (fun h4 => ?_)
        · refine xB.go 2 (49, [(0, .ref 32), (1, .int (nI i)), (2, .int (nI (K i)))], [.int 1], XM L mi ml) rfl ?_
          refine xB.rt (some (.int 1)) mi ml rfl ?_
          have key : ∀ k, k < 10 → (¬ ((nI (k)) = 3)) ∧ (¬ (nI (k)) = 7) ∧ (¬ ((nI (k)) = 2)) ∧ ((nI (k)) = 5) → (1 : Int32) = nI (tk (k)) := by decide +kernel
          exact ⟨congrArg (fun z => some (Value.int z)) (key _ hk ⟨h1, h2, h3, h4⟩), rfl, rfl⟩
        · refine xB.go 2 (35, [(0, .ref 32), (1, .int (nI i)), (2, .int (nI (K i)))], [.int 6, .int (nI (K i))], XM L mi ml) rfl ?_
          refine xB.bp ((nI (K i)) = 6) (44, [(0, .ref 32), (1, .int (nI i)), (2, .int (nI (K i)))], [], XM L mi ml) (38, [(0, .ref 32), (1, .int (nI i)), (2, .int (nI (K i)))], [], XM L mi ml) rfl (fun h5 => ?_) (fun h5 => ?_)
          · refine xB.go 2 (49, [(0, .ref 32), (1, .int (nI i)), (2, .int (nI (K i)))], [.int 1], XM L mi ml) rfl ?_
            refine xB.rt (some (.int 1)) mi ml rfl ?_
            have key : ∀ k, k < 10 → (¬ ((nI (k)) = 3)) ∧ (¬ (nI (k)) = 7) ∧ (¬ ((nI (k)) = 2)) ∧ (¬ ((nI (k)) = 5)) ∧ ((nI (k)) = 6) → (1 : Int32) = nI (tk (k)) := by decide +kernel
            exact ⟨congrArg (fun z => some (Value.int z)) (key _ hk ⟨h1, h2, h3, h4, h5⟩), rfl, rfl⟩
          · refine xB.go 2 (41, [(0, .ref 32), (1, .int (nI i)), (2, .int (nI (K i)))], [.int 8, .int (nI (K i))], XM L mi ml) rfl ?_
            refine xB.bp (¬ (nI (K i)) = 8) (48, [(0, .ref 32), (1, .int (nI i)), (2, .int (nI (K i)))], [], XM L mi ml) (44, [(0, .ref 32), (1, .int (nI i)), (2, .int (nI (K i)))], [], XM L mi ml) rfl (fun h6 => ?_) (fun h6 => ?_)
            · refine xB.go 1 (49, [(0, .ref 32), (1, .int (nI i)), (2, .int (nI (K i)))], [.int 0], XM L mi ml) rfl ?_
              refine xB.rt (some (.int 0)) mi ml rfl ?_
              have key : ∀ k, k < 10 → (¬ ((nI (k)) = 3)) ∧ (¬ (nI (k)) = 7) ∧ (¬ ((nI (k)) = 2)) ∧ (¬ ((nI (k)) = 5)) ∧ (¬ ((nI (k)) = 6)) ∧ (¬ (nI (k)) = 8) → (0 : Int32) = nI (tk (k)) := by decide +kernel
              exact ⟨congrArg (fun z => some (Value.int z)) (key _ hk ⟨h1, h2, h3, h4, h5, h6⟩), rfl, rfl⟩
            · refine xB.go 2 (49, [(0, .ref 32), (1, .int (nI i)), (2, .int (nI (K i)))], [.int 1], XM L mi ml) rfl ?_
              refine xB.rt (some (.int 1)) mi ml rfl ?_
              have key : ∀ k, k < 10 → (¬ ((nI (k)) = 3)) ∧ (¬ (nI (k)) = 7) ∧ (¬ ((nI (k)) = 2)) ∧ (¬ ((nI (k)) = 5)) ∧ (¬ ((nI (k)) = 6)) ∧ (¬ (¬ (nI (k)) = 8)) → (1 : Int32) = nI (tk (k)) := by decide +kernel
              exact ⟨congrArg (fun z => some (Value.int z)) (key _ hk ⟨h1, h2, h3, h4, h5, h6⟩), rfl, rfl⟩
    · refine xB.go 2 (49, [(0, .ref 32), (1, .int (nI i)), (2, .int (nI (K i)))], [.int 2], XM L mi ml) rfl ?_
      refine xB.rt (some (.int 2)) mi ml rfl ?_
      have key : ∀ k, k < 10 → (¬ ((nI (k)) = 3)) ∧ (¬ (¬ (nI (k)) = 7)) → (2 : Int32) = nI (tk (k)) := by decide +kernel
      exact ⟨congrArg (fun z => some (Value.int z)) (key _ hk ⟨h1, h2⟩), rfl, rfl⟩
set_option maxRecDepth 100000 in
set_option maxHeartbeats 1000000 in
theorem c_mgives (d L : Nat) (mi : xmi) (ml : xml) {n : Nat} {K T : Nat → Nat} (hP : PRM mi n K T) {i : Nat} (hi : i < n) : xFv (d + 1) 98 [.ref 32, .int (nI i)] L mi ml (.int (nI (pt (K i)))) mi ml := by
  have hk := (hP.2.2.1 i hi).2
  have hi64 : i < 64 := Nat.lt_of_lt_of_le hi hP.2.1
  have hi31 : i < 2 ^ 31 := by omega
  refine xF.mk mX9_gives rfl rfl ?_
  refine xB.go 3 (5, [(0, .ref 32), (1, .int (nI i))], [.int (nI i), .ref 33], XM L mi ml) rfl ?_
  refine xB.ck (xin (nI i) 64) (6, [(0, .ref 32), (1, .int (nI i))], [.int (mi 33 (nI i).toNatClampNeg)], XM L mi ml) rfl (xin_of hi64 (by decide) rfl) ?_
  refine xB.cg (6, [(0, .ref 32), (1, .int (nI i))], [.int (nI (K i))], XM L mi ml) (by rw [nI_clamp hi31, (hP.2.2.1 i hi).1]) ?_
  refine xB.go 2 (8, [(0, .ref 32), (1, .int (nI i)), (2, .int (nI (K i)))], [.int (nI (K i))], XM L mi ml) rfl ?_
  refine xB.bp ((nI (K i)) = 0) (27, [(0, .ref 32), (1, .int (nI i)), (2, .int (nI (K i)))], [], XM L mi ml) (11, [(0, .ref 32), (1, .int (nI i)), (2, .int (nI (K i)))], [], XM L mi ml) rfl (fun h1 => ?_) (fun h1 => ?_)
  · refine xB.go 2 (32, [(0, .ref 32), (1, .int (nI i)), (2, .int (nI (K i)))], [.int 1], XM L mi ml) rfl ?_
    refine xB.rt (some (.int 1)) mi ml rfl ?_
    have key : ∀ k, k < 10 → ((nI (k)) = 0) → (1 : Int32) = nI (pt (k)) := by decide +kernel
    exact ⟨congrArg (fun z => some (Value.int z)) (key _ hk h1), rfl, rfl⟩
  · refine xB.go 2 (13, [(0, .ref 32), (1, .int (nI i)), (2, .int (nI (K i)))], [.int 1, .int (nI (K i))], XM L mi ml) rfl ?_
    refine xB.bp ((nI (K i)) = 1) (27, [(0, .ref 32), (1, .int (nI i)), (2, .int (nI (K i)))], [], XM L mi ml) (16, [(0, .ref 32), (1, .int (nI i)), (2, .int (nI (K i)))], [], XM L mi ml) rfl (fun h2 => ?_) (fun h2 => ?_)
    · refine xB.go 2 (32, [(0, .ref 32), (1, .int (nI i)), (2, .int (nI (K i)))], [.int 1], XM L mi ml) rfl ?_
      refine xB.rt (some (.int 1)) mi ml rfl ?_
      have key : ∀ k, k < 10 → (¬ ((nI (k)) = 0)) ∧ ((nI (k)) = 1) → (1 : Int32) = nI (pt (k)) := by decide +kernel
      exact ⟨congrArg (fun z => some (Value.int z)) (key _ hk ⟨h1, h2⟩), rfl, rfl⟩
    · refine xB.go 2 (18, [(0, .ref 32), (1, .int (nI i)), (2, .int (nI (K i)))], [.int 3, .int (nI (K i))], XM L mi ml) rfl ?_
      refine xB.bp ((nI (K i)) = 3) (27, [(0, .ref 32), (1, .int (nI i)), (2, .int (nI (K i)))], [], XM L mi ml) (21, [(0, .ref 32), (1, .int (nI i)), (2, .int (nI (K i)))], [], XM L mi ml) rfl (fun h3 => ?_) (fun h3 => ?_)
      · refine xB.go 2 (32, [(0, .ref 32), (1, .int (nI i)), (2, .int (nI (K i)))], [.int 1], XM L mi ml) rfl ?_
        refine xB.rt (some (.int 1)) mi ml rfl ?_
        have key : ∀ k, k < 10 → (¬ ((nI (k)) = 0)) ∧ (¬ ((nI (k)) = 1)) ∧ ((nI (k)) = 3) → (1 : Int32) = nI (pt (k)) := by decide +kernel
        exact ⟨congrArg (fun z => some (Value.int z)) (key _ hk ⟨h1, h2, h3⟩), rfl, rfl⟩
      · refine xB.go 2 (24, [(0, .ref 32), (1, .int (nI i)), (2, .int (nI (K i)))], [.int 6, .int (nI (K i))], XM L mi ml) rfl ?_
        refine xB.bp (¬ (nI (K i)) = 6) (31, [(0, .ref 32), (1, .int (nI i)), (2, .int (nI (K i)))], [], XM L mi ml) (27, [(0, .ref 32), (1, .int (nI i)), (2, .int (nI (K i)))], [], XM L mi ml) rfl (fun h4 => ?_) (fun h4 => ?_)
        · refine xB.go 1 (32, [(0, .ref 32), (1, .int (nI i)), (2, .int (nI (K i)))], [.int 0], XM L mi ml) rfl ?_
          refine xB.rt (some (.int 0)) mi ml rfl ?_
          have key : ∀ k, k < 10 → (¬ ((nI (k)) = 0)) ∧ (¬ ((nI (k)) = 1)) ∧ (¬ ((nI (k)) = 3)) ∧ (¬ (nI (k)) = 6) → (0 : Int32) = nI (pt (k)) := by decide +kernel
          exact ⟨congrArg (fun z => some (Value.int z)) (key _ hk ⟨h1, h2, h3, h4⟩), rfl, rfl⟩
        · refine xB.go 2 (32, [(0, .ref 32), (1, .int (nI i)), (2, .int (nI (K i)))], [.int 1], XM L mi ml) rfl ?_
          refine xB.rt (some (.int 1)) mi ml rfl ?_
          have key : ∀ k, k < 10 → (¬ ((nI (k)) = 0)) ∧ (¬ ((nI (k)) = 1)) ∧ (¬ ((nI (k)) = 3)) ∧ (¬ (¬ (nI (k)) = 6)) → (1 : Int32) = nI (pt (k)) := by decide +kernel
          exact ⟨congrArg (fun z => some (Value.int z)) (key _ hk ⟨h1, h2, h3, h4⟩), rfl, rfl⟩
theorem k_eq {k c : Nat} (hk : k < 10) (hc : c < 10) (h : nI k = nI c) : k = c := (nI_eq (by omega) (by omega)).mp h
theorem k_ne {k c : Nat} (h : ¬ nI k = nI c) : k ≠ c := fun z => h (by rw [z])
set_option maxRecDepth 100000 in
set_option maxHeartbeats 1000000 in
theorem c_mnext (d L : Nat) (mi : xmi) (ml : xml) {n : Nat} {K T : Nat → Nat} (hP : PRM mi n K T) {i : Nat} (hi : i < n) : xFv (d + 1) 99 [.ref 32, .int (nI i)] L mi ml (.int (nI (nxm n K T i))) mi ml := by
  have hk := (hP.2.2.1 i hi).2
  have hi64 : i < 64 := Nat.lt_of_lt_of_le hi hP.2.1
  have hi31 : i < 2 ^ 31 := by omega
  refine xF.mk mX9_next rfl rfl ?_
  refine xB.go 3 (5, [(0, .ref 32), (1, .int (nI i))], [.int (nI i), .ref 33], XM L mi ml) rfl ?_
  refine xB.ck (xin (nI i) 64) (6, [(0, .ref 32), (1, .int (nI i))], [.int (mi 33 (nI i).toNatClampNeg)], XM L mi ml) rfl (xin_of hi64 (by decide) rfl) ?_
  refine xB.cg (6, [(0, .ref 32), (1, .int (nI i))], [.int (nI (K i))], XM L mi ml) (by rw [nI_clamp hi31, (hP.2.2.1 i hi).1]) ?_
  refine xB.go 1 (7, [(0, .ref 32), (1, .int (nI i))], [.int 4, .int (nI (K i))], XM L mi ml) rfl ?_
  refine xB.bp (¬ (nI (K i)) = 4) (19, [(0, .ref 32), (1, .int (nI i))], [], XM L mi ml) (10, [(0, .ref 32), (1, .int (nI i))], [], XM L mi ml) rfl (fun h1 => ?_) (fun h1 => ?_)
  · refine xB.go 3 (24, [(0, .ref 32), (1, .int (nI i))], [.int (nI i), .ref 33], XM L mi ml) rfl ?_
    refine xB.ck (xin (nI i) 64) (25, [(0, .ref 32), (1, .int (nI i))], [.int (mi 33 (nI i).toNatClampNeg)], XM L mi ml) rfl (xin_of hi64 (by decide) rfl) ?_
    refine xB.cg (25, [(0, .ref 32), (1, .int (nI i))], [.int (nI (K i))], XM L mi ml) (by rw [nI_clamp hi31, (hP.2.2.1 i hi).1]) ?_
    refine xB.go 1 (27, [(0, .ref 32), (1, .int (nI i))], [.int 9, .int (nI (K i))], XM L mi ml) rfl ?_
    refine xB.bp (¬ (nI (K i)) = 9) (37, [(0, .ref 32), (1, .int (nI i))], [], XM L mi ml) (30, [(0, .ref 32), (1, .int (nI i))], [], XM L mi ml) rfl (fun h2 => ?_) (fun h2 => ?_)
    · refine xB.go 3 (40, [(0, .ref 32), (1, .int (nI i))], [.int ((nI i) + 1)], XM L mi ml) rfl ?_
      refine xB.rt (some (.int ((nI i) + 1))) mi ml rfl ?_
      have g4 := k_ne (c := 4) h1
      have g9 := k_ne (c := 9) h2
      exact ⟨by rw [nI_1, nxm, if_neg g4, if_neg g9], rfl, rfl⟩
    · refine xB.go 3 (40, [(0, .ref 32), (1, .int (nI i))], [.int (mi 32 2)], XM L mi ml) rfl ?_
      refine xB.rt (some (.int (mi 32 2))) mi ml rfl ?_
      have g4 := k_ne (c := 4) h1
      have g := k_eq hk (c := 9) (by decide) (Classical.not_not.mp h2)
      exact ⟨by rw [hP.1, nxm, if_neg g4, if_pos g], rfl, rfl⟩
  · refine xB.go 3 (15, [(0, .ref 32), (1, .int (nI i))], [.int (nI i), .ref 34], XM L mi ml) rfl ?_
    refine xB.ck (xin (nI i) 64) (16, [(0, .ref 32), (1, .int (nI i))], [.int (mi 34 (nI i).toNatClampNeg)], XM L mi ml) rfl (xin_of hi64 (by decide) rfl) ?_
    refine xB.go 1 (40, [(0, .ref 32), (1, .int (nI i))], [.int (mi 34 (nI i).toNatClampNeg)], XM L mi ml) rfl ?_
    refine xB.rt (some (.int (mi 34 (nI i).toNatClampNeg))) mi ml rfl ?_
    have g := k_eq hk (c := 4) (by decide) (Classical.not_not.mp h1)
    exact ⟨by rw [nI_clamp hi31, (hP.2.2.2 i hi (Or.inl g)).1, nxm, if_pos g], rfl, rfl⟩
set_option maxRecDepth 100000 in
set_option maxHeartbeats 1000000 in
theorem c_mother (d L : Nat) (mi : xmi) (ml : xml) {n : Nat} {K T : Nat → Nat} (hP : PRM mi n K T) {i : Nat} (hi : i < n) : xFv (d + 2) 100 [.ref 32, .int (nI i)] L mi ml (.int (nI (otm n K T i))) mi ml := by
  have hk := (hP.2.2.1 i hi).2
  have hi64 : i < 64 := Nat.lt_of_lt_of_le hi hP.2.1
  have hi31 : i < 2 ^ 31 := by omega
  refine xF.mk mX9_other rfl rfl ?_
  refine xB.go 3 (5, [(0, .ref 32), (1, .int (nI i))], [.int (nI i), .ref 33], XM L mi ml) rfl ?_
  refine xB.ck (xin (nI i) 64) (6, [(0, .ref 32), (1, .int (nI i))], [.int (mi 33 (nI i).toNatClampNeg)], XM L mi ml) rfl (xin_of hi64 (by decide) rfl) ?_
  refine xB.cg (6, [(0, .ref 32), (1, .int (nI i))], [.int (nI (K i))], XM L mi ml) (by rw [nI_clamp hi31, (hP.2.2.1 i hi).1]) ?_
  refine xB.go 1 (7, [(0, .ref 32), (1, .int (nI i))], [.int 5, .int (nI (K i))], XM L mi ml) rfl ?_
  refine xB.bp (¬ (nI (K i)) = 5) (19, [(0, .ref 32), (1, .int (nI i))], [], XM L mi ml) (10, [(0, .ref 32), (1, .int (nI i))], [], XM L mi ml) rfl (fun h1 => ?_) (fun h1 => ?_)
  · refine xB.go 2 (21, [(0, .ref 32), (1, .int (nI i))], [.int (nI i), .ref 32], XM L mi ml) rfl ?_
    refine xB.c1 99 [.ref 32, .int (nI i)] [] (c_mnext _ L _ _ hP hi) rfl ?_
    refine xB.rt (some (.int (nI (nxm n K T i)))) mi ml rfl ?_
    have g := k_ne (c := 5) h1
    exact ⟨by rw [otm, if_neg g], rfl, rfl⟩
  · refine xB.go 3 (15, [(0, .ref 32), (1, .int (nI i))], [.int (nI i), .ref 34], XM L mi ml) rfl ?_
    refine xB.ck (xin (nI i) 64) (16, [(0, .ref 32), (1, .int (nI i))], [.int (mi 34 (nI i).toNatClampNeg)], XM L mi ml) rfl (xin_of hi64 (by decide) rfl) ?_
    refine xB.go 1 (24, [(0, .ref 32), (1, .int (nI i))], [.int (mi 34 (nI i).toNatClampNeg)], XM L mi ml) rfl ?_
    refine xB.rt (some (.int (mi 34 (nI i).toNatClampNeg))) mi ml rfl ?_
    have g := k_eq hk (c := 5) (by decide) (Classical.not_not.mp h1)
    exact ⟨by rw [nI_clamp hi31, (hP.2.2.2 i hi (Or.inr g)).1, otm, if_pos g], rfl, rfl⟩
