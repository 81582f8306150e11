/-! the reference: marks and walls -/
theorem nI_nltX {a b : Nat} (ha : a < 2 ^ 31) (hb : b < 2 ^ 31) (h : ¬ nI a < nI b) : b ≤ a := by
  rcases Nat.lt_or_ge a b with z | z
  · exact absurd ((nI_ltI ha hb).mpr z) h
  · exact z
set_option maxRecDepth 100000 in
set_option maxHeartbeats 1000000 in
theorem unmark_2 (d L : Nat) (mi : xmi) (ml : xml) : ∀ (f i : Nat), i ≤ 65 → 65 - i < f → xB d mX9_unmark L (fun rr a b => rr = none ∧ a = va_up mi 41 (sl_fill (mi 41) 0 65) ∧ b = ml) (2, [(0, .ref 32), (1, .int (nI i))], [], XM L (va_up mi 41 (sl_fill (mi 41) 0 i)) ml) := by
  intro f
  induction f with
  | zero => intro i h1 h2; omega
  | succ f ih =>
    intro i hle hlt
    refine xB.go 2 (5, [(0, .ref 32), (1, .int (nI i))], [.int 64, .int (nI i)], XM L (va_up mi 41 (sl_fill (mi 41) 0 i)) ml) rfl ?_
    refine xB.bp (64 < (nI i)) (21, [(0, .ref 32), (1, .int (nI i))], [], XM L (va_up mi 41 (sl_fill (mi 41) 0 i)) ml) (8, [(0, .ref 32), (1, .int (nI i))], [], XM L (va_up mi 41 (sl_fill (mi 41) 0 i)) ml) rfl (fun h1 => ?_) (fun h1 => ?_)
    · refine xB.rt none (va_up mi 41 (sl_fill (mi 41) 0 i)) ml rfl ?_
      have hge : 64 < i := (nI_ltI (a := 64) (by decide) (by omega)).mp h1
      obtain rfl : i = 65 := by omega
      exact ⟨rfl, rfl, rfl⟩
    · refine xB.go 4 (14, [(0, .ref 32), (1, .int (nI i))], [.int 0, .int (nI i), .ref 41], XM L (va_up mi 41 (sl_fill (mi 41) 0 i)) ml) rfl ?_
      refine xB.ck (xin (nI i) 65 && xz 0) (15, [(0, .ref 32), (1, .int (nI i))], [], XM L (xU (va_up mi 41 (sl_fill (mi 41) 0 i)) 41 (nI i).toNatClampNeg 0) ml) rfl (Bool.and_eq_true_iff.mpr ⟨(xin_of (j := i) (by have := nI_nltX (a := 64) (b := i) (by decide) (by omega) h1; omega) (by decide) rfl), rfl⟩) ?_
      refine xB.go 2 (2, [(0, .ref 32), (1, .int ((nI i) + 1))], [], XM L (xU (va_up mi 41 (sl_fill (mi 41) 0 i)) 41 (nI i).toNatClampNeg 0) ml) rfl ?_
      have hlt : i < 65 := by have := nI_nltX (a := 64) (b := i) (by decide) (by omega) h1; omega
      rw [nI_1, nI_clamp (by omega), sl_fill_s]
      exact ih (i + 1) (by omega) (by omega)
set_option maxRecDepth 100000 in
set_option maxHeartbeats 1000000 in
theorem c_unmark (d L : Nat) (mi : xmi) (ml : xml) : xFn (d + 1) 102 [.ref 32] L mi ml (va_up mi 41 (sl_fill (mi 41) 0 65)) ml := by
  refine xF.mk mX9_unmark rfl rfl ?_
  refine xB.go 2 (2, [(0, .ref 32), (1, .int 0)], [], XM L mi ml) rfl ?_
  have hx := unmark_2 d L mi ml 66 0 (by omega) (by omega)
  rw [sl_fill_0] at hx
  exact hx
set_option maxRecDepth 100000 in
set_option maxHeartbeats 1000000 in
theorem unwall_2 (d L : Nat) (mi : xmi) (ml : xml) : ∀ (f i : Nat), i ≤ 65 → 65 - i < f → xB d mX9_unwall L (fun rr a b => rr = none ∧ a = va_up mi 42 (sl_fill (mi 42) 0 65) ∧ b = ml) (2, [(0, .ref 32), (1, .int (nI i))], [], XM L (va_up mi 42 (sl_fill (mi 42) 0 i)) ml) := by
  intro f
  induction f with
  | zero => intro i h1 h2; omega
  | succ f ih =>
    intro i hle hlt
    refine xB.go 2 (5, [(0, .ref 32), (1, .int (nI i))], [.int 64, .int (nI i)], XM L (va_up mi 42 (sl_fill (mi 42) 0 i)) ml) rfl ?_
    refine xB.bp (64 < (nI i)) (21, [(0, .ref 32), (1, .int (nI i))], [], XM L (va_up mi 42 (sl_fill (mi 42) 0 i)) ml) (8, [(0, .ref 32), (1, .int (nI i))], [], XM L (va_up mi 42 (sl_fill (mi 42) 0 i)) ml) rfl (fun h1 => ?_) (fun h1 => ?_)
    · refine xB.rt none (va_up mi 42 (sl_fill (mi 42) 0 i)) ml rfl ?_
      have hge : 64 < i := (nI_ltI (a := 64) (by decide) (by omega)).mp h1
      obtain rfl : i = 65 := by omega
      exact ⟨rfl, rfl, rfl⟩
    · refine xB.go 4 (14, [(0, .ref 32), (1, .int (nI i))], [.int 0, .int (nI i), .ref 42], XM L (va_up mi 42 (sl_fill (mi 42) 0 i)) ml) rfl ?_
      refine xB.ck (xin (nI i) 65 && xz 0) (15, [(0, .ref 32), (1, .int (nI i))], [], XM L (xU (va_up mi 42 (sl_fill (mi 42) 0 i)) 42 (nI i).toNatClampNeg 0) ml) rfl (Bool.and_eq_true_iff.mpr ⟨(xin_of (j := i) (by have := nI_nltX (a := 64) (b := i) (by decide) (by omega) h1; omega) (by decide) rfl), rfl⟩) ?_
      refine xB.go 2 (2, [(0, .ref 32), (1, .int ((nI i) + 1))], [], XM L (xU (va_up mi 42 (sl_fill (mi 42) 0 i)) 42 (nI i).toNatClampNeg 0) ml) rfl ?_
      have hlt : i < 65 := by have := nI_nltX (a := 64) (b := i) (by decide) (by omega) h1; omega
      rw [nI_1, nI_clamp (by omega), sl_fill_s]
      exact ih (i + 1) (by omega) (by omega)
set_option maxRecDepth 100000 in
set_option maxHeartbeats 1000000 in
theorem c_unwall (d L : Nat) (mi : xmi) (ml : xml) : xFn (d + 1) 103 [.ref 32] L mi ml (va_up mi 42 (sl_fill (mi 42) 0 65)) ml := by
  refine xF.mk mX9_unwall rfl rfl ?_
  refine xB.go 2 (2, [(0, .ref 32), (1, .int 0)], [], XM L mi ml) rfl ?_
  have hx := unwall_2 d L mi ml 66 0 (by omega) (by omega)
  rw [sl_fill_0] at hx
  exact hx
def mk1 (a : xmi) (i : Nat) : Bool := decide (a 41 i = 1)
def spJ (n : Nat) (K T : Nat → Nat) (mi a : xmi) : Prop := (∀ x, x ≠ 41 → a x = mi x) ∧ (∀ i, i ≤ 64 → a 41 i = 0 ∨ a 41 i = 1) ∧ (∀ i, i ≤ 64 → a 41 i = 1 → RW n K T (fun i => i ≤ 64 ∧ mi 41 i = 1) (fun i => mi 42 i = 1) i) ∧ (∀ i, i ≤ 64 → mi 41 i = 1 → a 41 i = 1)
def spC (n : Nat) (K T : Nat → Nat) (a : xmi) (p : Nat) : Prop := a 41 p = 1 → ¬ a 42 p = 1 → a 41 (nxm n K T p) = 1 ∧ a 41 (otm n K T p) = 1
def spP (n : Nat) (K T : Nat → Nat) (mi a : xmi) : Prop := (∀ x, x ≠ 41 → a x = mi x) ∧ (∀ i, i ≤ 64 → a 41 i = 0 ∨ a 41 i = 1) ∧ ∀ i, i ≤ 64 → (a 41 i = 1 ↔ RW n K T (fun i => i ≤ 64 ∧ mi 41 i = 1) (fun i => mi 42 i = 1) i)
theorem spJ.set {n : Nat} {K T : Nat → Nat} {mi a : xmi} (h : spJ n K T mi a) {q : Nat} (hr : RW n K T (fun i => i ≤ 64 ∧ mi 41 i = 1) (fun i => mi 42 i = 1) q) : spJ n K T mi (xU a 41 q 1) := by
  obtain ⟨h1, h2, h3, h4⟩ := h
  refine ⟨fun x hx => by rw [xU_ne hx, h1 x hx], fun i hi => ?_, fun i hi hx => ?_, fun i hi hx => ?_⟩ <;> by_cases e : i = q
  · subst e; rw [xU_self]; exact Or.inr rfl
  · rw [xU_at, va_up_ne _ _ e]; exact h2 i hi
  · subst e; exact hr
  · rw [xU_at, va_up_ne _ _ e] at hx; exact h3 i hi hx
  · subst e; rw [xU_self]
  · rw [xU_at, va_up_ne _ _ e]; exact h4 i hi hx
theorem mk1_mono {a : xmi} {q : Nat} : ∀ j, j < 65 → mk1 a j = true → mk1 (xU a 41 q 1) j = true := fun j _ g => by
  unfold mk1 at g ⊢
  by_cases e : j = q
  · subst e; rw [xU_self]; rfl
  · rw [xU_at, va_up_ne _ _ e]; exact g
theorem mk1_lt {a : xmi} {q : Nat} (hq : q ≤ 64) (h : ¬ a 41 q = 1) : cnt (mk1 a) 65 + 1 ≤ cnt (mk1 (xU a 41 q 1)) 65 := cnt_lt (j := q) mk1_mono (by omega) (by unfold mk1; simp [h]) (by unfold mk1; rw [xU_self]; rfl)
theorem mk1_id {a : xmi} {q : Nat} (h : a 41 q = 1) : xU a 41 q 1 = a := by rw [← h, xU_id]
theorem spJ.end {n : Nat} {K T : Nat → Nat} {mi a : xmi} (hn : n ≤ 64) (h : spJ n K T mi a) (hle : ∀ i, i < n → nxm n K T i ≤ 64 ∧ otm n K T i ≤ 64) (hc : ∀ p, p < n → spC n K T a p) : spP n K T mi a := by
  obtain ⟨h1, h2, h3, h4⟩ := h
  refine ⟨h1, h2, fun i hi => ⟨h3 i hi, fun hr => ?_⟩⟩
  have := hr (fun i => i ≤ 64 ∧ a 41 i = 1) (fun i ⟨a, b⟩ => ⟨a, h4 i a b⟩) (fun i ⟨a1, b⟩ hi hq => by
    have e : a 42 i = mi 42 i := by rw [h1 42 (by decide)]
    have := hc i hi b (by rw [e]; exact hq)
    exact ⟨⟨(hle i hi).1, this.1⟩, (hle i hi).2, this.2⟩)
  exact this.2
theorem b01 {x : Int32} (h : x = 0 ∨ x = 1) : x = 0 ↔ ¬ x = 1 := by rcases h with z | z <;> subst z <;> decide
theorem PRM.sp {n : Nat} {K T : Nat → Nat} {mi a : xmi} (hP : PRM mi n K T) (h : ∀ x, x ≠ 41 → a x = mi x) : PRM a n K T := hP.frame (by rw [h 32 (by decide)]) (h 33 (by decide)) (h 34 (by decide))
set_option maxRecDepth 100000 in
set_option maxHeartbeats 1000000 in
theorem spread_18 (d L : Nat) (mi : xmi) (ml : xml) {n : Nat} {K T : Nat → Nat} (hP : PRM mi n K T) (hW : ∀ i, i ≤ 64 → mi 42 i = 0 ∨ mi 42 i = 1) (t : Int32) (r : Nat) (k : ∀ (m : Int32) (a : xmi), (m = 0 ∨ m = 1) → spJ n K T mi a → ((m = 1 ∧ r + 1 ≤ cnt (mk1 a) 65) ∨ (m = 0 ∧ r ≤ cnt (mk1 a) 65 ∧ ∀ p, p < n → spC n K T a p)) → xB (d + 2) mX9_spread L (fun rr a b => rr = none ∧ b = ml ∧ spP n K T mi a) (113, [(0, .ref 32), (1, .int m), (2, .int t)], [], XM L a ml)) : ∀ (f i : Nat), i ≤ n → n - i < f → ∀ (m : Int32) (a : xmi), (m = 0 ∨ m = 1) → spJ n K T mi a → ((m = 1 ∧ r + 1 ≤ cnt (mk1 a) 65) ∨ (m = 0 ∧ r ≤ cnt (mk1 a) 65 ∧ ∀ p, p < i → spC n K T a p)) → xB (d + 2) mX9_spread L (fun rr a b => rr = none ∧ b = ml ∧ spP n K T mi a) (18, [(0, .ref 32), (1, .int m), (2, .int t), (3, .int (nI i))], [], XM L a ml) := by
  have hn64 := hP.2.1
  intro f
  induction f with
  | zero => intro i h1 h2; omega
  | succ f ih =>
    intro i hle hlt m a hm hJ hI
    have hPa := hP.sp hJ.1
    refine xB.go 3 (23, [(0, .ref 32), (1, .int m), (2, .int t), (3, .int (nI i))], [.int (a 32 2), .int (nI i)], XM L a ml) rfl ?_
    refine xB.cg (23, [(0, .ref 32), (1, .int m), (2, .int t), (3, .int (nI i))], [.int (nI n), .int (nI i)], XM L a ml) (by rw [hPa.1]) ?_
    refine xB.bp ((nI n) ≤ (nI i)) (113, [(0, .ref 32), (1, .int m), (2, .int t), (3, .int (nI i))], [], XM L a ml) (26, [(0, .ref 32), (1, .int m), (2, .int t), (3, .int (nI i))], [], XM L a ml) rfl (fun h1 => ?_) (fun h1 => ?_)
    · have hge : n ≤ i := (nI_leI (by omega) (by omega)).mp h1
      obtain rfl : i = n := by omega
      refine xB.fo [(0, .ref 32), (1, .int m), (2, .int t)] (by simp) ?_
      exact k m a hm hJ hI
    · have hin : i < n := (nI_ltI (by omega) (by omega)).mp (i_nle.mp h1)
      have hnx := hP.nx_le hin
      refine xB.go 3 (31, [(0, .ref 32), (1, .int m), (2, .int t), (3, .int (nI i))], [.int (nI i), .ref 41], XM L a ml) rfl ?_
      refine xB.ck (xin (nI i) 65) (32, [(0, .ref 32), (1, .int m), (2, .int t), (3, .int (nI i))], [.int (a 41 (nI i).toNatClampNeg)], XM L a ml) rfl (xin_of (j := i) (by omega) (by decide) rfl) ?_
      refine xB.bp ((a 41 (nI i).toNatClampNeg) = 0) (107, [(0, .ref 32), (1, .int m), (2, .int t), (3, .int (nI i))], [], XM L a ml) (35, [(0, .ref 32), (1, .int m), (2, .int t), (3, .int (nI i))], [], XM L a ml) rfl (fun h2 => ?_) (fun h2 => ?_)
      · refine xB.go 2 (18, [(0, .ref 32), (1, .int m), (2, .int t), (3, .int ((nI i) + 1))], [], XM L a ml) rfl ?_
        refine xB.fo [(0, .ref 32), (1, .int m), (2, .int t), (3, .int (nI i + 1))] (by simp) ?_
        rw [nI_1]
        refine ih (i + 1) (by omega) (by omega) m a hm hJ (hI.imp id (fun ⟨z1, z2, z3⟩ => ⟨z1, z2, fun p hp => ?_⟩))
        by_cases e : p = i
        · subst e; intro w1 w2
          rw [nI_clamp (by omega), w1] at h2; exact absurd h2 (by decide)
        · exact z3 p (by omega)
      · refine xB.go 3 (40, [(0, .ref 32), (1, .int m), (2, .int t), (3, .int (nI i))], [.int (nI i), .ref 42], XM L a ml) rfl ?_
        refine xB.ck (xin (nI i) 65) (41, [(0, .ref 32), (1, .int m), (2, .int t), (3, .int (nI i))], [.int (a 42 (nI i).toNatClampNeg)], XM L a ml) rfl (xin_of (j := i) (by omega) (by decide) rfl) ?_
        refine xB.bp ((a 42 (nI i).toNatClampNeg) = 0) (47, [(0, .ref 32), (1, .int m), (2, .int t), (3, .int (nI i))], [], XM L a ml) (44, [(0, .ref 32), (1, .int m), (2, .int t), (3, .int (nI i))], [], XM L a ml) rfl (fun h3 => ?_) (fun h3 => ?_)
        · refine xB.go 2 (49, [(0, .ref 32), (1, .int m), (2, .int t), (3, .int (nI i))], [.int (nI i), .ref 32], XM L a ml) rfl ?_
          refine xB.c1 99 [.ref 32, .int (nI i)] [] (c_mnext _ L _ _ hPa hin) rfl ?_
          refine xB.go 3 (56, [(0, .ref 32), (1, .int m), (2, .int t), (3, .int (nI i)), (4, .int (nI (nxm n K T i)))], [.int (nI i), .ref 32], XM L a ml) rfl ?_
          refine xB.c1 100 [.ref 32, .int (nI i)] [] (c_mother _ L _ _ hPa hin) rfl ?_
          refine xB.go 2 (62, [(0, .ref 32), (1, .int m), (2, .int t), (3, .int (nI i)), (4, .int (nI (nxm n K T i))), (5, .int (nI (otm n K T i)))], [.int m], XM L a ml) rfl ?_
          refine xB.bp (¬ m = 0) (85, [(0, .ref 32), (1, .int m), (2, .int t), (3, .int (nI i)), (4, .int (nI (nxm n K T i))), (5, .int (nI (otm n K T i)))], [], XM L a ml) (65, [(0, .ref 32), (1, .int m), (2, .int t), (3, .int (nI i)), (4, .int (nI (nxm n K T i))), (5, .int (nI (otm n K T i)))], [], XM L a ml) rfl (fun h4 => ?_) (fun h4 => ?_)
          · refine xB.go 7 (98, [(0, .ref 32), (1, .int 1), (2, .int t), (3, .int (nI i)), (4, .int (nI (nxm n K T i))), (5, .int (nI (otm n K T i)))], [.int 1, .int (nI (nxm n K T i)), .ref 41], XM L a ml) rfl ?_
            refine xB.ck (xin (nI (nxm n K T i)) 65 && xz 1) (99, [(0, .ref 32), (1, .int 1), (2, .int t), (3, .int (nI i)), (4, .int (nI (nxm n K T i))), (5, .int (nI (otm n K T i)))], [], XM L (xU a 41 (nI (nxm n K T i)).toNatClampNeg 1) ml) rfl (Bool.and_eq_true_iff.mpr ⟨(xin_of (j := nxm n K T i) (by omega) (by decide) rfl), rfl⟩) ?_
            refine xB.go 4 (106, [(0, .ref 32), (1, .int 1), (2, .int t), (3, .int (nI i)), (4, .int (nI (nxm n K T i))), (5, .int (nI (otm n K T i)))], [.int 1, .int (nI (otm n K T i)), .ref 41], XM L (xU a 41 (nI (nxm n K T i)).toNatClampNeg 1) ml) rfl ?_
            refine xB.ck (xin (nI (otm n K T i)) 65 && xz 1) (107, [(0, .ref 32), (1, .int 1), (2, .int t), (3, .int (nI i)), (4, .int (nI (nxm n K T i))), (5, .int (nI (otm n K T i)))], [], XM L (xU (xU a 41 (nI (nxm n K T i)).toNatClampNeg 1) 41 (nI (otm n K T i)).toNatClampNeg 1) ml) rfl (Bool.and_eq_true_iff.mpr ⟨(xin_of (j := otm n K T i) (by omega) (by decide) rfl), rfl⟩) ?_
            refine xB.go 2 (18, [(0, .ref 32), (1, .int 1), (2, .int t), (3, .int ((nI i) + 1)), (4, .int (nI (nxm n K T i))), (5, .int (nI (otm n K T i)))], [], XM L (xU (xU a 41 (nI (nxm n K T i)).toNatClampNeg 1) 41 (nI (otm n K T i)).toNatClampNeg 1) ml) rfl ?_
            refine xB.fo [(0, .ref 32), (1, .int 1), (2, .int t), (3, .int (nI i + 1))] (by simp) ?_
            rw [nI_1, nI_clamp (by omega), nI_clamp (by omega)]
            rw [nI_clamp (by omega)] at h2 h3
            have hmk : a 41 i = 1 := (hJ.2.1 i (by omega)).resolve_left h2
            have hwl : ¬ mi 42 i = 1 := by rw [← hJ.1 42 (by decide)]; rw [h3]; decide
            have hrw := (hJ.2.2.1 i (by omega) hmk).nx hin hwl
            have hJ2 := (hJ.set hrw.1).set hrw.2
            have c1 := cnt_mono (mk1_mono (a := a) (q := nxm n K T i))
            have c2 := cnt_mono (mk1_mono (a := xU a 41 (nxm n K T i) 1) (q := otm n K T i))
            refine ih (i + 1) (by omega) (by omega) 1 _ (Or.inr rfl) hJ2 (Or.inl ⟨rfl, ?_⟩)
            rcases hI with z | z
            · exact Nat.le_trans z.2 (Nat.le_trans c1 c2)
            · exact absurd z.1 h4
          · refine xB.go 3 (71, [(0, .ref 32), (1, .int m), (2, .int t), (3, .int (nI i)), (4, .int (nI (nxm n K T i))), (5, .int (nI (otm n K T i)))], [.int (nI (nxm n K T i)), .ref 41], XM L a ml) rfl ?_
            refine xB.ck (xin (nI (nxm n K T i)) 65) (72, [(0, .ref 32), (1, .int m), (2, .int t), (3, .int (nI i)), (4, .int (nI (nxm n K T i))), (5, .int (nI (otm n K T i)))], [.int (a 41 (nI (nxm n K T i)).toNatClampNeg)], XM L a ml) rfl (xin_of (j := nxm n K T i) (by omega) (by decide) rfl) ?_
            refine xB.bp ((a 41 (nI (nxm n K T i)).toNatClampNeg) = 0) (85, [(0, .ref 32), (1, .int m), (2, .int t), (3, .int (nI i)), (4, .int (nI (nxm n K T i))), (5, .int (nI (otm n K T i)))], [], XM L a ml) (75, [(0, .ref 32), (1, .int m), (2, .int t), (3, .int (nI i)), (4, .int (nI (nxm n K T i))), (5, .int (nI (otm n K T i)))], [], XM L a ml) rfl (fun h5 => ?_) (fun h5 => ?_)
            · refine xB.go 7 (98, [(0, .ref 32), (1, .int 1), (2, .int t), (3, .int (nI i)), (4, .int (nI (nxm n K T i))), (5, .int (nI (otm n K T i)))], [.int 1, .int (nI (nxm n K T i)), .ref 41], XM L a ml) rfl ?_
              refine xB.ck (xin (nI (nxm n K T i)) 65 && xz 1) (99, [(0, .ref 32), (1, .int 1), (2, .int t), (3, .int (nI i)), (4, .int (nI (nxm n K T i))), (5, .int (nI (otm n K T i)))], [], XM L (xU a 41 (nI (nxm n K T i)).toNatClampNeg 1) ml) rfl (Bool.and_eq_true_iff.mpr ⟨(xin_of (j := nxm n K T i) (by omega) (by decide) rfl), rfl⟩) ?_
              refine xB.go 4 (106, [(0, .ref 32), (1, .int 1), (2, .int t), (3, .int (nI i)), (4, .int (nI (nxm n K T i))), (5, .int (nI (otm n K T i)))], [.int 1, .int (nI (otm n K T i)), .ref 41], XM L (xU a 41 (nI (nxm n K T i)).toNatClampNeg 1) ml) rfl ?_
              refine xB.ck (xin (nI (otm n K T i)) 65 && xz 1) (107, [(0, .ref 32), (1, .int 1), (2, .int t), (3, .int (nI i)), (4, .int (nI (nxm n K T i))), (5, .int (nI (otm n K T i)))], [], XM L (xU (xU a 41 (nI (nxm n K T i)).toNatClampNeg 1) 41 (nI (otm n K T i)).toNatClampNeg 1) ml) rfl (Bool.and_eq_true_iff.mpr ⟨(xin_of (j := otm n K T i) (by omega) (by decide) rfl), rfl⟩) ?_
              refine xB.go 2 (18, [(0, .ref 32), (1, .int 1), (2, .int t), (3, .int ((nI i) + 1)), (4, .int (nI (nxm n K T i))), (5, .int (nI (otm n K T i)))], [], XM L (xU (xU a 41 (nI (nxm n K T i)).toNatClampNeg 1) 41 (nI (otm n K T i)).toNatClampNeg 1) ml) rfl ?_
              refine xB.fo [(0, .ref 32), (1, .int 1), (2, .int t), (3, .int (nI i + 1))] (by simp) ?_
              rw [nI_1, nI_clamp (by omega), nI_clamp (by omega)]
              rw [nI_clamp (by omega)] at h2 h3
              have hmk : a 41 i = 1 := (hJ.2.1 i (by omega)).resolve_left h2
              have hwl : ¬ mi 42 i = 1 := by rw [← hJ.1 42 (by decide)]; rw [h3]; decide
              have hrw := (hJ.2.2.1 i (by omega) hmk).nx hin hwl
              have hJ2 := (hJ.set hrw.1).set hrw.2
              have c1 := cnt_mono (mk1_mono (a := a) (q := nxm n K T i))
              have c2 := cnt_mono (mk1_mono (a := xU a 41 (nxm n K T i) 1) (q := otm n K T i))
              refine ih (i + 1) (by omega) (by omega) 1 _ (Or.inr rfl) hJ2 (Or.inl ⟨rfl, ?_⟩)
              have hr : r ≤ cnt (mk1 a) 65 := by rcases hI with z | z <;> omega
              rw [nI_clamp (by omega)] at h5
              have c3 := mk1_lt (a := a) (by omega) (show ¬ a 41 (nxm n K T i) = 1 by rw [h5]; decide)
              omega
            · refine xB.go 3 (81, [(0, .ref 32), (1, .int m), (2, .int t), (3, .int (nI i)), (4, .int (nI (nxm n K T i))), (5, .int (nI (otm n K T i)))], [.int (nI (otm n K T i)), .ref 41], XM L a ml) rfl ?_
              refine xB.ck (xin (nI (otm n K T i)) 65) (82, [(0, .ref 32), (1, .int m), (2, .int t), (3, .int (nI i)), (4, .int (nI (nxm n K T i))), (5, .int (nI (otm n K T i)))], [.int (a 41 (nI (otm n K T i)).toNatClampNeg)], XM L a ml) rfl (xin_of (j := otm n K T i) (by omega) (by decide) rfl) ?_
              refine xB.bp (¬ (a 41 (nI (otm n K T i)).toNatClampNeg) = 0) (89, [(0, .ref 32), (1, .int m), (2, .int t), (3, .int (nI i)), (4, .int (nI (nxm n K T i))), (5, .int (nI (otm n K T i)))], [], XM L a ml) (85, [(0, .ref 32), (1, .int m), (2, .int t), (3, .int (nI i)), (4, .int (nI (nxm n K T i))), (5, .int (nI (otm n K T i)))], [], XM L a ml) rfl (fun h6 => ?_) (fun h6 => ?_)
              · refine xB.go 6 (98, [(0, .ref 32), (1, .int 0), (2, .int t), (3, .int (nI i)), (4, .int (nI (nxm n K T i))), (5, .int (nI (otm n K T i)))], [.int 1, .int (nI (nxm n K T i)), .ref 41], XM L a ml) rfl ?_
                refine xB.ck (xin (nI (nxm n K T i)) 65 && xz 1) (99, [(0, .ref 32), (1, .int 0), (2, .int t), (3, .int (nI i)), (4, .int (nI (nxm n K T i))), (5, .int (nI (otm n K T i)))], [], XM L (xU a 41 (nI (nxm n K T i)).toNatClampNeg 1) ml) rfl (Bool.and_eq_true_iff.mpr ⟨(xin_of (j := nxm n K T i) (by omega) (by decide) rfl), rfl⟩) ?_
                refine xB.go 4 (106, [(0, .ref 32), (1, .int 0), (2, .int t), (3, .int (nI i)), (4, .int (nI (nxm n K T i))), (5, .int (nI (otm n K T i)))], [.int 1, .int (nI (otm n K T i)), .ref 41], XM L (xU a 41 (nI (nxm n K T i)).toNatClampNeg 1) ml) rfl ?_
                refine xB.ck (xin (nI (otm n K T i)) 65 && xz 1) (107, [(0, .ref 32), (1, .int 0), (2, .int t), (3, .int (nI i)), (4, .int (nI (nxm n K T i))), (5, .int (nI (otm n K T i)))], [], XM L (xU (xU a 41 (nI (nxm n K T i)).toNatClampNeg 1) 41 (nI (otm n K T i)).toNatClampNeg 1) ml) rfl (Bool.and_eq_true_iff.mpr ⟨(xin_of (j := otm n K T i) (by omega) (by decide) rfl), rfl⟩) ?_
                refine xB.go 2 (18, [(0, .ref 32), (1, .int 0), (2, .int t), (3, .int ((nI i) + 1)), (4, .int (nI (nxm n K T i))), (5, .int (nI (otm n K T i)))], [], XM L (xU (xU a 41 (nI (nxm n K T i)).toNatClampNeg 1) 41 (nI (otm n K T i)).toNatClampNeg 1) ml) rfl ?_
                refine xB.fo [(0, .ref 32), (1, .int 0), (2, .int t), (3, .int (nI i + 1))] (by simp) ?_
                rw [nI_1, nI_clamp (by omega), nI_clamp (by omega)]
                rw [nI_clamp (by omega)] at h2 h3
                have hmk : a 41 i = 1 := (hJ.2.1 i (by omega)).resolve_left h2
                have hwl : ¬ mi 42 i = 1 := by rw [← hJ.1 42 (by decide)]; rw [h3]; decide
                have hrw := (hJ.2.2.1 i (by omega) hmk).nx hin hwl
                have hJ2 := (hJ.set hrw.1).set hrw.2
                have c1 := cnt_mono (mk1_mono (a := a) (q := nxm n K T i))
                have c2 := cnt_mono (mk1_mono (a := xU a 41 (nxm n K T i) 1) (q := otm n K T i))
                rw [nI_clamp (by omega)] at h5 h6
                have e1 : a 41 (nxm n K T i) = 1 := (hJ.2.1 _ (by omega)).resolve_left h5
                have e2 : a 41 (otm n K T i) = 1 := (hJ.2.1 _ (by omega)).resolve_left h6
                rw [mk1_id e1, mk1_id e2]
                refine ih (i + 1) (by omega) (by omega) 0 a (Or.inl rfl) hJ (Or.inr ⟨rfl, ?_, fun p hp => ?_⟩)
                · rcases hI with z | z <;> omega
                · by_cases e : p = i
                  · subst e; exact fun _ _ => ⟨e1, e2⟩
                  · rcases hI with z | z
                    · exact absurd (Classical.not_not.mp h4) (by rw [z.1]; decide)
                    · exact z.2.2 p (by omega)
              · refine xB.go 7 (98, [(0, .ref 32), (1, .int 1), (2, .int t), (3, .int (nI i)), (4, .int (nI (nxm n K T i))), (5, .int (nI (otm n K T i)))], [.int 1, .int (nI (nxm n K T i)), .ref 41], XM L a ml) rfl ?_
                refine xB.ck (xin (nI (nxm n K T i)) 65 && xz 1) (99, [(0, .ref 32), (1, .int 1), (2, .int t), (3, .int (nI i)), (4, .int (nI (nxm n K T i))), (5, .int (nI (otm n K T i)))], [], XM L (xU a 41 (nI (nxm n K T i)).toNatClampNeg 1) ml) rfl (Bool.and_eq_true_iff.mpr ⟨(xin_of (j := nxm n K T i) (by omega) (by decide) rfl), rfl⟩) ?_
                refine xB.go 4 (106, [(0, .ref 32), (1, .int 1), (2, .int t), (3, .int (nI i)), (4, .int (nI (nxm n K T i))), (5, .int (nI (otm n K T i)))], [.int 1, .int (nI (otm n K T i)), .ref 41], XM L (xU a 41 (nI (nxm n K T i)).toNatClampNeg 1) ml) rfl ?_
                refine xB.ck (xin (nI (otm n K T i)) 65 && xz 1) (107, [(0, .ref 32), (1, .int 1), (2, .int t), (3, .int (nI i)), (4, .int (nI (nxm n K T i))), (5, .int (nI (otm n K T i)))], [], XM L (xU (xU a 41 (nI (nxm n K T i)).toNatClampNeg 1) 41 (nI (otm n K T i)).toNatClampNeg 1) ml) rfl (Bool.and_eq_true_iff.mpr ⟨(xin_of (j := otm n K T i) (by omega) (by decide) rfl), rfl⟩) ?_
                refine xB.go 2 (18, [(0, .ref 32), (1, .int 1), (2, .int t), (3, .int ((nI i) + 1)), (4, .int (nI (nxm n K T i))), (5, .int (nI (otm n K T i)))], [], XM L (xU (xU a 41 (nI (nxm n K T i)).toNatClampNeg 1) 41 (nI (otm n K T i)).toNatClampNeg 1) ml) rfl ?_
                refine xB.fo [(0, .ref 32), (1, .int 1), (2, .int t), (3, .int (nI i + 1))] (by simp) ?_
                rw [nI_1, nI_clamp (by omega), nI_clamp (by omega)]
                rw [nI_clamp (by omega)] at h2 h3
                have hmk : a 41 i = 1 := (hJ.2.1 i (by omega)).resolve_left h2
                have hwl : ¬ mi 42 i = 1 := by rw [← hJ.1 42 (by decide)]; rw [h3]; decide
                have hrw := (hJ.2.2.1 i (by omega) hmk).nx hin hwl
                have hJ2 := (hJ.set hrw.1).set hrw.2
                have c1 := cnt_mono (mk1_mono (a := a) (q := nxm n K T i))
                have c2 := cnt_mono (mk1_mono (a := xU a 41 (nxm n K T i) 1) (q := otm n K T i))
                refine ih (i + 1) (by omega) (by omega) 1 _ (Or.inr rfl) hJ2 (Or.inl ⟨rfl, ?_⟩)
                have hr : r ≤ cnt (mk1 a) 65 := by rcases hI with z | z <;> omega
                rw [nI_clamp (by omega)] at h5 h6
                have e1 : a 41 (nxm n K T i) = 1 := (hJ.2.1 _ (by omega)).resolve_left h5
                rw [mk1_id e1] at c2 ⊢
                have c3 := mk1_lt (a := a) (by omega) (show ¬ a 41 (otm n K T i) = 1 by have := Classical.not_not.mp h6; rw [this]; decide)
                omega
        · refine xB.go 3 (18, [(0, .ref 32), (1, .int m), (2, .int t), (3, .int ((nI i) + 1))], [], XM L a ml) rfl ?_
          refine xB.fo [(0, .ref 32), (1, .int m), (2, .int t), (3, .int (nI i + 1))] (by simp) ?_
          rw [nI_1]
          refine ih (i + 1) (by omega) (by omega) m a hm hJ (hI.imp id (fun ⟨z1, z2, z3⟩ => ⟨z1, z2, fun p hp => ?_⟩))
          by_cases e : p = i
          · subst e; intro w1 w2
            rw [nI_clamp (by omega)] at h3
            have e2 : a 42 p = mi 42 p := by rw [hJ.1 42 (by decide)]
            rw [e2] at h3 w2; exact absurd ((b01 (hW p (by omega))).mpr w2) h3
          · exact z3 p (by omega)
set_option maxRecDepth 100000 in
set_option maxHeartbeats 1000000 in
theorem spread_4 (d L : Nat) (mi : xmi) (ml : xml) {n : Nat} {K T : Nat → Nat} (hP : PRM mi n K T) (hW : ∀ i, i ≤ 64 → mi 42 i = 0 ∨ mi 42 i = 1) : ∀ (f r : Nat), r ≤ 65 → 65 - r < f → ∀ (m : Int32) (a : xmi), spJ n K T mi a → ((m = 1 ∧ r ≤ cnt (mk1 a) 65) ∨ (m = 0 ∧ ∀ p, p < n → spC n K T a p)) → xB (d + 2) mX9_spread L (fun rr a b => rr = none ∧ b = ml ∧ spP n K T mi a) (4, [(0, .ref 32), (1, .int m), (2, .int (nI r))], [], XM L a ml) := by
  intro f
  induction f with
  | zero => intro r h1 h2; omega
  | succ f ih =>
    intro r hle hlt m a hJ hI
    refine xB.go 2 (7, [(0, .ref 32), (1, .int m), (2, .int (nI r))], [.int 64, .int (nI r)], XM L a ml) rfl ?_
    refine xB.bp (64 < (nI r)) (119, [(0, .ref 32), (1, .int m), (2, .int (nI r))], [], XM L a ml) (10, [(0, .ref 32), (1, .int m), (2, .int (nI r))], [], XM L a ml) rfl (fun h1 => ?_) (fun h1 => ?_)
    · refine xB.rt none a ml rfl ?_
      refine ⟨rfl, rfl, hJ.end hP.2.1 (fun i hi => hP.nx_le hi) ?_⟩
      rcases hI with z | z
      · have hge : 64 < r := (nI_ltI (a := 64) (by decide) (by omega)).mp h1
        have hfull := cnt_full (f := mk1 a) (m := 65) (by omega)
        intro p hp _ _
        have hnx := hP.nx_le hp
        have q1 := hfull (nxm n K T p) (by omega)
        have q2 := hfull (otm n K T p) (by omega)
        unfold mk1 at q1 q2
        exact ⟨of_decide_eq_true q1, of_decide_eq_true q2⟩
      · exact z.2
    · refine xB.go 1 (11, [(0, .ref 32), (1, .int m), (2, .int (nI r))], [.int m], XM L a ml) rfl ?_
      refine xB.bp (m = 0) (119, [(0, .ref 32), (1, .int m), (2, .int (nI r))], [], XM L a ml) (14, [(0, .ref 32), (1, .int m), (2, .int (nI r))], [], XM L a ml) rfl (fun h2 => ?_) (fun h2 => ?_)
      · refine xB.rt none a ml rfl ?_
        refine ⟨rfl, rfl, hJ.end hP.2.1 (fun i hi => hP.nx_le hi) ?_⟩
        rcases hI with z | z
        · rw [z.1] at h2; exact absurd h2 (by decide)
        · exact z.2
      · refine xB.go 4 (18, [(0, .ref 32), (1, .int 0), (2, .int (nI r)), (3, .int 0)], [], XM L a ml) rfl ?_
        have hlt2 : r ≤ 64 := by have := nI_nltX (a := 64) (b := r) (by decide) (by omega) h1; omega
        have hr : r ≤ cnt (mk1 a) 65 := by
          rcases hI with z | z
          · exact z.2
          · exact absurd z.1 h2
        refine spread_18 d L mi ml hP hW (nI r) r (fun m1 a1 hm1 hJ1 hI1 => ?_) (n + 1) 0 (Nat.zero_le _) (by omega) 0 a (Or.inl rfl) hJ (Or.inr ⟨rfl, hr, fun p hp => absurd hp (Nat.not_lt_zero _)⟩)
        refine xB.go 2 (4, [(0, .ref 32), (1, .int m1), (2, .int ((nI r) + 1))], [], XM L a1 ml) rfl ?_
        rw [nI_1]
        exact ih (r + 1) (by omega) (by omega) m1 a1 hJ1 (hI1.imp id (fun z => ⟨z.1, z.2.2⟩))
set_option maxRecDepth 100000 in
set_option maxHeartbeats 1000000 in
theorem c_spread (d L : Nat) (mi : xmi) (ml : xml) {n : Nat} {K T : Nat → Nat} (hP : PRM mi n K T) (hW : ∀ i, i ≤ 64 → mi 42 i = 0 ∨ mi 42 i = 1) (hM : ∀ i, i ≤ 64 → mi 41 i = 0 ∨ mi 41 i = 1) : xF (d + 3) 104 [.ref 32] L mi ml (fun rr a b => rr = none ∧ b = ml ∧ spP n K T mi a) := by
  refine xF.mk mX9_spread rfl rfl ?_
  refine xB.go 4 (4, [(0, .ref 32), (1, .int 1), (2, .int 0)], [], XM L mi ml) rfl ?_
  exact spread_4 d L mi ml hP hW 66 0 (Nat.zero_le _) (by omega) 1 mi ⟨fun _ _ => rfl, hM, fun i hi hx => RW.zero ⟨hi, hx⟩, fun _ _ h => h⟩ (Or.inl ⟨rfl, Nat.zero_le _⟩)
