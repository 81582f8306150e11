/-! the reference's walk -/
def wMet (a : xmi) (i : Nat) : Bool := !(decide (a 37 i = -1))
/-- heights are -1, or those with which a place is come to -/
def wJ (n : Nat) (K T : Nat → Nat) (mi a : xmi) : Prop := (∀ x, x ≠ 37 → a x = mi x) ∧ (∀ i, i < 64 → a 37 i = -1 ∨ (i < n ∧ ∃ h, h ≤ 16 ∧ a 37 i = nI h ∧ Rh n K T i h)) ∧ a 37 0 = nI 0 ∧ 0 < n
def wCl (n : Nat) (K T : Nat → Nat) (a : xmi) (k : Nat) : Prop := ∀ i h, i < k → h ≤ 16 → a 37 i = nI h → tk (K i) ≤ h ∧ h - tk (K i) + pt (K i) ≤ 16 ∧ ∀ j, Fo K T i j → j < n ∧ a 37 j = nI (h - tk (K i) + pt (K i))
/-- what is known behind walk, with answer v -/
def SHM (n : Nat) (K T : Nat → Nat) (v : Int32) (a : xmi) : Prop := (v = 1 ∧ WF n K T ∧ ∀ i, i < 64 → (∃ h, h ≤ 16 ∧ Rh n K T i h ∧ a 37 i = nI h) ∨ (a 37 i = -1 ∧ ¬ ∃ h, Rh n K T i h)) ∨ (v = 0 ∧ ¬ WF n K T)
def wQ (n : Nat) (K T : Nat → Nat) (mi : xmi) (ml : xml) : Option Value → xmi → xml → Prop := fun r x y => ∃ v, r = some (.int v) ∧ y = ml ∧ (∀ q, q ≠ 37 → x q = mi q) ∧ SHM n K T v x
theorem nI_neg1 {h : Nat} (hh : h < 2 ^ 31) : nI h ≠ -1 := fun z => by
  have := nI_toInt hh
  rw [z] at this
  have h2 : (-1 : Int32).toInt = -1 := by decide +kernel
  omega
theorem neg1_lt : (-1 : Int32) < 0 := by decide +kernel
theorem wJ.prm {n : Nat} {K T : Nat → Nat} {mi a : xmi} (h : wJ n K T mi a) (hP : PRM mi n K T) : PRM a n K T := hP.frame (by rw [h.1 32 (by decide)]) (h.1 33 (by decide)) (h.1 34 (by decide))
theorem wJ.cl {n : Nat} {K T : Nat → Nat} {mi a : xmi} (hn : n ≤ 64) (h : wJ n K T mi a) (hc : wCl n K T a n) : SHM n K T 1 a := by
  obtain ⟨-, h2, h3, h4⟩ := h
  have key := WF_of (n := n) (K := K) (T := T) (fun i h => i < n ∧ a 37 i = nI h ∧ h ≤ 16) ⟨h4, h3, by omega⟩
    (fun i h ⟨g1, g2, g3⟩ => ⟨g1, (hc i h g1 g3 g2).1, (hc i h g1 g3 g2).2.1⟩)
    (fun i h j ⟨g1, g2, g3⟩ hf => by
      obtain ⟨k1, k2, k3⟩ := hc i h g1 g3 g2
      obtain ⟨k4, k5⟩ := k3 j hf
      exact ⟨k4, k5, k2⟩)
    (fun i h h' g g' => nI_inj g.2.2 g'.2.2 (g.2.1.symm.trans g'.2.1))
  refine Or.inl ⟨rfl, key.1, fun i hi => ?_⟩
  rcases h2 i hi with g | ⟨g1, h, g2, g3, g4⟩
  · refine Or.inr ⟨g, fun ⟨h, hr⟩ => ?_⟩
    have := key.2 i h hr
    exact nI_neg1 (by omega) (this.2.1.symm.trans g)
  · exact Or.inl ⟨h, g2, g4, g3⟩
/-- a follower f is given height h -/
theorem wJ.put {n f h : Nat} {K T : Nat → Nat} {mi a : xmi} (hn : n ≤ 64) (hJ : wJ n K T mi a) (hf : f < n) (hr : Rh n K T f h) (h16 : h ≤ 16) (hv : a 37 f = -1 ∨ a 37 f = nI h) :
    wJ n K T mi (xU a 37 f (nI h)) ∧ xU a 37 f (nI h) 37 f = nI h ∧ (∀ j, a 37 j ≠ -1 → xU a 37 f (nI h) 37 j = a 37 j) ∧ cnt (wMet a) 64 ≤ cnt (wMet (xU a 37 f (nI h))) 64 ∧ (a 37 f = -1 → cnt (wMet a) 64 + 1 ≤ cnt (wMet (xU a 37 f (nI h))) 64) ∧ (a 37 f = nI h → xU a 37 f (nI h) 37 = a 37) := by
  obtain ⟨h1, h2, h3, h4⟩ := hJ
  have e : ∀ j, j ≠ f → xU a 37 f (nI h) 37 j = a 37 j := fun j hj => by rw [xU_at, va_up_ne _ _ hj]
  have ef : xU a 37 f (nI h) 37 f = nI h := by rw [xU_at, va_up_self]
  have hk : ∀ j, a 37 j ≠ -1 → xU a 37 f (nI h) 37 j = a 37 j := fun j hj => by
    by_cases z : j = f
    · subst z
      rw [ef]
      rcases hv with w | w
      · exact absurd w hj
      · exact w.symm
    · exact e j z
  have hmono : ∀ j, j < 64 → wMet a j = true → wMet (xU a 37 f (nI h)) j = true := fun j _ g => by
    unfold wMet at g ⊢
    have g : a 37 j ≠ -1 := by simpa using g
    rw [hk j g]; simpa using g
  refine ⟨⟨fun x hx => by rw [xU_ne hx]; exact h1 x hx, fun i hi => ?_, ?_, h4⟩, ef, hk, cnt_mono hmono, fun g => ?_, fun g => ?_⟩
  · by_cases z : i = f
    · subst z; exact Or.inr ⟨hf, h, h16, ef, hr⟩
    · rw [e i z]; exact h2 i hi
  · rw [hk 0 (by rw [h3]; exact nI_neg1 (by omega))]; exact h3
  · refine cnt_lt hmono (show f < 64 by omega) ?_ ?_
    · unfold wMet; simp [g]
    · unfold wMet; rw [ef]; simpa using nI_neg1 (show h < 2 ^ 31 by omega)
  · funext j
    by_cases z : j = f
    · subst z; rw [ef]; exact g.symm
    · exact e j z
set_option maxRecDepth 100000 in
set_option maxHeartbeats 1000000 in
theorem walk_f (d L : Nat) (mi : xmi) (ml : xml) {n : Nat} {K T : Nat → Nat} (hP : PRM mi n K T) {a : xmi} (hJ : wJ n K T mi a) {i f h : Nat} (hi : i < n) (hr : Rh n K T f h) (h16 : h ≤ 16) (hf : f ≤ 64) {m tt w : Int32} (hm : m = 0 ∨ m = 1) (k : ∀ m', f < n → (a 37 f = -1 ∨ a 37 f = nI h) → (m' = 1 ∧ (m = 1 ∨ a 37 f = -1)) ∨ (m' = 0 ∧ m = 0 ∧ a 37 f = nI h) → xB (d + 2) mX9_walk L (wQ n K T mi ml) (228, [(0, .ref 32), (1, .int m'), (2, .int tt), (3, .int (nI i)), (4, .int (nI h)), (5, .int w), (6, .int (nI f))], [], XM L (xU a 37 f (nI h)) ml)) : xB (d + 2) mX9_walk L (wQ n K T mi ml) (166, [(0, .ref 32), (1, .int m), (2, .int tt), (3, .int (nI i)), (4, .int (nI h)), (5, .int w), (6, .int (nI f))], [], XM L a ml) := by
  have hPa := hJ.prm hP
  have hn64 := hP.2.1
  have hf31 : f < 2 ^ 31 := by omega
  refine xB.go 3 (172, [(0, .ref 32), (1, .int m), (2, .int tt), (3, .int (nI i)), (4, .int (nI h)), (5, .int w), (6, .int (nI f))], [.int (a 32 2), .int (nI f)], XM L a ml) rfl ?_
  refine xB.cg (172, [(0, .ref 32), (1, .int m), (2, .int tt), (3, .int (nI i)), (4, .int (nI h)), (5, .int w), (6, .int (nI f))], [.int (nI n), .int (nI f)], XM L a ml) (by rw [hPa.1]) ?_
  refine xB.bp ((nI n) ≤ (nI f)) (197, [(0, .ref 32), (1, .int m), (2, .int tt), (3, .int (nI i)), (4, .int (nI h)), (5, .int w), (6, .int (nI f))], [], XM L a ml) (175, [(0, .ref 32), (1, .int m), (2, .int tt), (3, .int (nI i)), (4, .int (nI h)), (5, .int w), (6, .int (nI f))], [], XM L a ml) rfl (fun h1 => ?_) (fun h1 => ?_)
  · refine xB.go 1 (198, [(0, .ref 32), (1, .int m), (2, .int tt), (3, .int (nI i)), (4, .int (nI h)), (5, .int w), (6, .int (nI f))], [.int 0], XM L a ml) rfl ?_
    refine xB.rt (some (.int 0)) a ml rfl ?_
    exact ⟨0, rfl, rfl, hJ.1, Or.inr ⟨rfl, fun w => absurd (w.1 f h hr).1 (fun z => absurd (nI_ltI hf31 (by omega) |>.mpr z) (i_nlt.mpr h1))⟩⟩
  · refine xB.go 3 (181, [(0, .ref 32), (1, .int m), (2, .int tt), (3, .int (nI i)), (4, .int (nI h)), (5, .int w), (6, .int (nI f))], [.int (nI f), .ref 37], XM L a ml) rfl ?_
    refine xB.ck (xin (nI f) 64) (182, [(0, .ref 32), (1, .int m), (2, .int tt), (3, .int (nI i)), (4, .int (nI h)), (5, .int w), (6, .int (nI f))], [.int (a 37 (nI f).toNatClampNeg)], XM L a ml) rfl (xin_of (Nat.lt_of_lt_of_le ((nI_ltI hf31 (by have := hP.2.1; omega)).mp (i_nle.mp h1)) hP.2.1) (by decide) rfl) ?_
    refine xB.bp ((a 37 (nI f).toNatClampNeg) < 0) (199, [(0, .ref 32), (1, .int m), (2, .int tt), (3, .int (nI i)), (4, .int (nI h)), (5, .int w), (6, .int (nI f))], [], XM L a ml) (185, [(0, .ref 32), (1, .int m), (2, .int tt), (3, .int (nI i)), (4, .int (nI h)), (5, .int w), (6, .int (nI f))], [], XM L a ml) rfl (fun h2 => ?_) (fun h2 => ?_)
    · refine xB.go 1 (200, [(0, .ref 32), (1, .int m), (2, .int tt), (3, .int (nI i)), (4, .int (nI h)), (5, .int w), (6, .int (nI f))], [.int m], XM L a ml) rfl ?_
      refine xB.bp (¬ m = 0) (213, [(0, .ref 32), (1, .int m), (2, .int tt), (3, .int (nI i)), (4, .int (nI h)), (5, .int w), (6, .int (nI f))], [], XM L a ml) (203, [(0, .ref 32), (1, .int m), (2, .int tt), (3, .int (nI i)), (4, .int (nI h)), (5, .int w), (6, .int (nI f))], [], XM L a ml) rfl (fun h3 => ?_) (fun h3 => ?_)
      · refine xB.go 7 (227, [(0, .ref 32), (1, .int 1), (2, .int tt), (3, .int (nI i)), (4, .int (nI h)), (5, .int w), (6, .int (nI f))], [.int (nI h), .int (nI f), .ref 37], XM L a ml) rfl ?_
        refine xB.ck (xin (nI f) 64) (228, [(0, .ref 32), (1, .int 1), (2, .int tt), (3, .int (nI i)), (4, .int (nI h)), (5, .int w), (6, .int (nI f))], [], XM L (xU a 37 (nI f).toNatClampNeg (nI h)) ml) rfl (xin_of (Nat.lt_of_lt_of_le ((nI_ltI hf31 (by have := hP.2.1; omega)).mp (i_nle.mp h1)) hP.2.1) (by decide) rfl) ?_
        have hfn : f < n := (nI_ltI hf31 (by omega)).mp (i_nle.mp h1)
        rw [nI_clamp hf31] at h2 ⊢
        have hv : a 37 f = -1 ∨ a 37 f = nI h := by
          rcases hJ.2.1 f (by omega) with z | ⟨z1, hx2, z2, z3, z4⟩
          · exact Or.inl z
          · rw [z3] at h2; exact absurd h2 (nI_pos (by omega))
        refine k 1 hfn hv ?_
        refine Or.inl ⟨rfl, Or.inl ?_⟩
        rcases hm with z | z
        · exact absurd z h3
        · exact z
      · refine xB.go 3 (209, [(0, .ref 32), (1, .int m), (2, .int tt), (3, .int (nI i)), (4, .int (nI h)), (5, .int w), (6, .int (nI f))], [.int (nI f), .ref 37], XM L a ml) rfl ?_
        refine xB.ck (xin (nI f) 64) (210, [(0, .ref 32), (1, .int m), (2, .int tt), (3, .int (nI i)), (4, .int (nI h)), (5, .int w), (6, .int (nI f))], [.int (a 37 (nI f).toNatClampNeg)], XM L a ml) rfl (xin_of (Nat.lt_of_lt_of_le ((nI_ltI hf31 (by have := hP.2.1; omega)).mp (i_nle.mp h1)) hP.2.1) (by decide) rfl) ?_
        refine xB.bp (0 ≤ (a 37 (nI f).toNatClampNeg)) (217, [(0, .ref 32), (1, .int m), (2, .int tt), (3, .int (nI i)), (4, .int (nI h)), (5, .int w), (6, .int (nI f))], [], XM L a ml) (213, [(0, .ref 32), (1, .int m), (2, .int tt), (3, .int (nI i)), (4, .int (nI h)), (5, .int w), (6, .int (nI f))], [], XM L a ml) rfl (fun h4 => ?_) (fun h4 => ?_)
        · refine xB.go 6 (227, [(0, .ref 32), (1, .int 0), (2, .int tt), (3, .int (nI i)), (4, .int (nI h)), (5, .int w), (6, .int (nI f))], [.int (nI h), .int (nI f), .ref 37], XM L a ml) rfl ?_
          refine xB.ck (xin (nI f) 64) (228, [(0, .ref 32), (1, .int 0), (2, .int tt), (3, .int (nI i)), (4, .int (nI h)), (5, .int w), (6, .int (nI f))], [], XM L (xU a 37 (nI f).toNatClampNeg (nI h)) ml) rfl (xin_of (Nat.lt_of_lt_of_le ((nI_ltI hf31 (by have := hP.2.1; omega)).mp (i_nle.mp h1)) hP.2.1) (by decide) rfl) ?_
          have hfn : f < n := (nI_ltI hf31 (by omega)).mp (i_nle.mp h1)
          rw [nI_clamp hf31] at h2 ⊢
          have hv : a 37 f = -1 ∨ a 37 f = nI h := by
            rcases hJ.2.1 f (by omega) with z | ⟨z1, hx2, z2, z3, z4⟩
            · exact Or.inl z
            · rw [z3] at h2; exact absurd h2 (nI_pos (by omega))
          refine k 0 hfn hv ?_
          refine Or.inr ⟨rfl, Classical.not_not.mp h3, ?_⟩
          rw [nI_clamp hf31] at h4
          rcases hv with z | z
          · rw [z] at h4; exact absurd neg1_lt (i_nlt.mpr h4)
          · exact z
        · refine xB.go 7 (227, [(0, .ref 32), (1, .int 1), (2, .int tt), (3, .int (nI i)), (4, .int (nI h)), (5, .int w), (6, .int (nI f))], [.int (nI h), .int (nI f), .ref 37], XM L a ml) rfl ?_
          refine xB.ck (xin (nI f) 64) (228, [(0, .ref 32), (1, .int 1), (2, .int tt), (3, .int (nI i)), (4, .int (nI h)), (5, .int w), (6, .int (nI f))], [], XM L (xU a 37 (nI f).toNatClampNeg (nI h)) ml) rfl (xin_of (Nat.lt_of_lt_of_le ((nI_ltI hf31 (by have := hP.2.1; omega)).mp (i_nle.mp h1)) hP.2.1) (by decide) rfl) ?_
          have hfn : f < n := (nI_ltI hf31 (by omega)).mp (i_nle.mp h1)
          rw [nI_clamp hf31] at h2 ⊢
          have hv : a 37 f = -1 ∨ a 37 f = nI h := by
            rcases hJ.2.1 f (by omega) with z | ⟨z1, hx2, z2, z3, z4⟩
            · exact Or.inl z
            · rw [z3] at h2; exact absurd h2 (nI_pos (by omega))
          refine k 1 hfn hv ?_
          refine Or.inl ⟨rfl, Or.inr ?_⟩
          rw [nI_clamp hf31] at h4
          rcases hv with z | z
          · exact z
          · rw [z] at h4; exact absurd (nI_pos' (show h < 2 ^ 31 by omega)) h4
    · refine xB.go 3 (191, [(0, .ref 32), (1, .int m), (2, .int tt), (3, .int (nI i)), (4, .int (nI h)), (5, .int w), (6, .int (nI f))], [.int (nI f), .ref 37], XM L a ml) rfl ?_
      refine xB.ck (xin (nI f) 64) (192, [(0, .ref 32), (1, .int m), (2, .int tt), (3, .int (nI i)), (4, .int (nI h)), (5, .int w), (6, .int (nI f))], [.int (a 37 (nI f).toNatClampNeg)], XM L a ml) rfl (xin_of (Nat.lt_of_lt_of_le ((nI_ltI hf31 (by have := hP.2.1; omega)).mp (i_nle.mp h1)) hP.2.1) (by decide) rfl) ?_
      refine xB.go 1 (194, [(0, .ref 32), (1, .int m), (2, .int tt), (3, .int (nI i)), (4, .int (nI h)), (5, .int w), (6, .int (nI f))], [.int (nI h), .int (a 37 (nI f).toNatClampNeg)], XM L a ml) rfl ?_
      refine xB.bp ((a 37 (nI f).toNatClampNeg) = (nI h)) (199, [(0, .ref 32), (1, .int m), (2, .int tt), (3, .int (nI i)), (4, .int (nI h)), (5, .int w), (6, .int (nI f))], [], XM L a ml) (197, [(0, .ref 32), (1, .int m), (2, .int tt), (3, .int (nI i)), (4, .int (nI h)), (5, .int w), (6, .int (nI f))], [], XM L a ml) rfl (fun h5 => ?_) (fun h5 => ?_)
      · refine xB.go 1 (200, [(0, .ref 32), (1, .int m), (2, .int tt), (3, .int (nI i)), (4, .int (nI h)), (5, .int w), (6, .int (nI f))], [.int m], XM L a ml) rfl ?_
        refine xB.bp (¬ m = 0) (213, [(0, .ref 32), (1, .int m), (2, .int tt), (3, .int (nI i)), (4, .int (nI h)), (5, .int w), (6, .int (nI f))], [], XM L a ml) (203, [(0, .ref 32), (1, .int m), (2, .int tt), (3, .int (nI i)), (4, .int (nI h)), (5, .int w), (6, .int (nI f))], [], XM L a ml) rfl (fun h6 => ?_) (fun h6 => ?_)
        · refine xB.go 7 (227, [(0, .ref 32), (1, .int 1), (2, .int tt), (3, .int (nI i)), (4, .int (nI h)), (5, .int w), (6, .int (nI f))], [.int (nI h), .int (nI f), .ref 37], XM L a ml) rfl ?_
          refine xB.ck (xin (nI f) 64) (228, [(0, .ref 32), (1, .int 1), (2, .int tt), (3, .int (nI i)), (4, .int (nI h)), (5, .int w), (6, .int (nI f))], [], XM L (xU a 37 (nI f).toNatClampNeg (nI h)) ml) rfl (xin_of (Nat.lt_of_lt_of_le ((nI_ltI hf31 (by have := hP.2.1; omega)).mp (i_nle.mp h1)) hP.2.1) (by decide) rfl) ?_
          have hfn : f < n := (nI_ltI hf31 (by omega)).mp (i_nle.mp h1)
          rw [nI_clamp hf31] at h2 ⊢
          have hv : a 37 f = -1 ∨ a 37 f = nI h := by
            rw [nI_clamp hf31] at h5; exact Or.inr h5
          refine k 1 hfn hv ?_
          refine Or.inl ⟨rfl, Or.inl ?_⟩
          rcases hm with z | z
          · exact absurd z h6
          · exact z
        · refine xB.go 3 (209, [(0, .ref 32), (1, .int m), (2, .int tt), (3, .int (nI i)), (4, .int (nI h)), (5, .int w), (6, .int (nI f))], [.int (nI f), .ref 37], XM L a ml) rfl ?_
          refine xB.ck (xin (nI f) 64) (210, [(0, .ref 32), (1, .int m), (2, .int tt), (3, .int (nI i)), (4, .int (nI h)), (5, .int w), (6, .int (nI f))], [.int (a 37 (nI f).toNatClampNeg)], XM L a ml) rfl (xin_of (Nat.lt_of_lt_of_le ((nI_ltI hf31 (by have := hP.2.1; omega)).mp (i_nle.mp h1)) hP.2.1) (by decide) rfl) ?_
          refine xB.bp (0 ≤ (a 37 (nI f).toNatClampNeg)) (217, [(0, .ref 32), (1, .int m), (2, .int tt), (3, .int (nI i)), (4, .int (nI h)), (5, .int w), (6, .int (nI f))], [], XM L a ml) (213, [(0, .ref 32), (1, .int m), (2, .int tt), (3, .int (nI i)), (4, .int (nI h)), (5, .int w), (6, .int (nI f))], [], XM L a ml) rfl (fun h7 => ?_) (fun h7 => ?_)
          · refine xB.go 6 (227, [(0, .ref 32), (1, .int 0), (2, .int tt), (3, .int (nI i)), (4, .int (nI h)), (5, .int w), (6, .int (nI f))], [.int (nI h), .int (nI f), .ref 37], XM L a ml) rfl ?_
            refine xB.ck (xin (nI f) 64) (228, [(0, .ref 32), (1, .int 0), (2, .int tt), (3, .int (nI i)), (4, .int (nI h)), (5, .int w), (6, .int (nI f))], [], XM L (xU a 37 (nI f).toNatClampNeg (nI h)) ml) rfl (xin_of (Nat.lt_of_lt_of_le ((nI_ltI hf31 (by have := hP.2.1; omega)).mp (i_nle.mp h1)) hP.2.1) (by decide) rfl) ?_
            have hfn : f < n := (nI_ltI hf31 (by omega)).mp (i_nle.mp h1)
            rw [nI_clamp hf31] at h2 ⊢
            have hv : a 37 f = -1 ∨ a 37 f = nI h := by
              rw [nI_clamp hf31] at h5; exact Or.inr h5
            refine k 0 hfn hv ?_
            refine Or.inr ⟨rfl, Classical.not_not.mp h6, ?_⟩
            rw [nI_clamp hf31] at h7
            rcases hv with z | z
            · rw [z] at h7; exact absurd neg1_lt (i_nlt.mpr h7)
            · exact z
          · refine xB.go 7 (227, [(0, .ref 32), (1, .int 1), (2, .int tt), (3, .int (nI i)), (4, .int (nI h)), (5, .int w), (6, .int (nI f))], [.int (nI h), .int (nI f), .ref 37], XM L a ml) rfl ?_
            refine xB.ck (xin (nI f) 64) (228, [(0, .ref 32), (1, .int 1), (2, .int tt), (3, .int (nI i)), (4, .int (nI h)), (5, .int w), (6, .int (nI f))], [], XM L (xU a 37 (nI f).toNatClampNeg (nI h)) ml) rfl (xin_of (Nat.lt_of_lt_of_le ((nI_ltI hf31 (by have := hP.2.1; omega)).mp (i_nle.mp h1)) hP.2.1) (by decide) rfl) ?_
            have hfn : f < n := (nI_ltI hf31 (by omega)).mp (i_nle.mp h1)
            rw [nI_clamp hf31] at h2 ⊢
            have hv : a 37 f = -1 ∨ a 37 f = nI h := by
              rw [nI_clamp hf31] at h5; exact Or.inr h5
            refine k 1 hfn hv ?_
            refine Or.inl ⟨rfl, Or.inr ?_⟩
            rw [nI_clamp hf31] at h7
            rcases hv with z | z
            · exact z
            · rw [z] at h7; exact absurd (nI_pos' (show h < 2 ^ 31 by omega)) h7
      · refine xB.go 1 (198, [(0, .ref 32), (1, .int m), (2, .int tt), (3, .int (nI i)), (4, .int (nI h)), (5, .int w), (6, .int (nI f))], [.int 0], XM L a ml) rfl ?_
        refine xB.rt (some (.int 0)) a ml rfl ?_
        have hfn : f < n := (nI_ltI hf31 (by omega)).mp (i_nle.mp h1)
        refine ⟨0, rfl, rfl, hJ.1, Or.inr ⟨rfl, fun w => ?_⟩⟩
        rcases hJ.2.1 f (by omega) with z | ⟨z1, hx2, z2, z3, z4⟩
        · rw [nI_clamp hf31, z] at h2; exact absurd neg1_lt h2
        · rw [nI_clamp hf31, z3, w.2 f hx2 h z4 hr] at h5; exact absurd rfl h5
set_option maxRecDepth 100000 in
set_option maxHeartbeats 1000000 in
theorem walk_123 (d L : Nat) (mi : xmi) (ml : xml) {n : Nat} {K T : Nat → Nat} (hP : PRM mi n K T) {a : xmi} (hJ : wJ n K T mi a) {i h : Nat} (hi : i < n) (h16 : h ≤ 16) (hrr : ∀ j, Fo K T i j → Rh n K T j h) {m tt : Int32} (hm : m = 0 ∨ m = 1) (k : (∀ m', m' = 0 ∨ m' = 1 → ∀ a' : xmi, wJ n K T mi a' → (m' = 0 → m = 0 ∧ a' 37 = a 37 ∧ ∀ j, Fo K T i j → j < n ∧ a 37 j = nI h) → cnt (wMet a) 64 ≤ cnt (wMet a') 64 → (m' = 1 → m = 1 ∨ cnt (wMet a) 64 + 1 ≤ cnt (wMet a') 64) →  xB (d + 2) mX9_walk L (wQ n K T mi ml) (55, [(0, .ref 32), (1, .int m'), (2, .int tt), (3, .int (nI (i + 1)))], [], XM L a' ml))) : xB (d + 2) mX9_walk L (wQ n K T mi ml) (123, [(0, .ref 32), (1, .int m), (2, .int tt), (3, .int (nI i)), (4, .int (nI h))], [], XM L a ml) := by
  have hPa := hJ.prm hP
  have hn64 := hP.2.1
  have hk := (hP.2.2.1 i hi).2
  have hi31 : i < 2 ^ 31 := by omega
  refine xB.go 3 (128, [(0, .ref 32), (1, .int m), (2, .int tt), (3, .int (nI i)), (4, .int (nI h))], [.int (nI i), .ref 33], XM L a ml) rfl ?_
  refine xB.ck (xin (nI i) 64) (129, [(0, .ref 32), (1, .int m), (2, .int tt), (3, .int (nI i)), (4, .int (nI h))], [.int (a 33 (nI i).toNatClampNeg)], XM L a ml) rfl (xin_of (show i < 64 from Nat.lt_of_lt_of_le hi hP.2.1) (by decide) rfl) ?_
  refine xB.cg (129, [(0, .ref 32), (1, .int m), (2, .int tt), (3, .int (nI i)), (4, .int (nI h))], [.int (nI (K i))], XM L a ml) (by rw [nI_clamp hi31, (hPa.2.2.1 i hi).1]) ?_
  refine xB.go 1 (131, [(0, .ref 32), (1, .int m), (2, .int tt), (3, .int (nI i)), (4, .int (nI h))], [.int 9, .int (nI (K i))], XM L a ml) rfl ?_
  refine xB.bp (¬ (nI (K i)) = 9) (137, [(0, .ref 32), (1, .int m), (2, .int tt), (3, .int (nI i)), (4, .int (nI h))], [], XM L a ml) (134, [(0, .ref 32), (1, .int m), (2, .int tt), (3, .int (nI i)), (4, .int (nI h))], [], XM L a ml) rfl (fun h1 => ?_) (fun h1 => ?_)
  · refine xB.go 9 (153, [(0, .ref 32), (1, .int m), (2, .int tt), (3, .int (nI i)), (4, .int (nI h)), (5, .int 0)], [.int (nI i), .ref 32], XM L a ml) rfl ?_
    refine xB.c1 99 [.ref 32, .int (nI i)] [] (c_mnext _ L _ _ hPa hi) rfl ?_
    refine xB.go 2 (166, [(0, .ref 32), (1, .int m), (2, .int tt), (3, .int (nI i)), (4, .int (nI h)), (5, .int 0), (6, .int (nI (nxm n K T i)))], [], XM L a ml) rfl ?_
    have g9 := k_ne (c := 9) h1
    have hF1 := nxm_Fo (n := n) (T := T) g9
    have hF2 := otm_Fo (n := n) (T := T) g9
    refine walk_f d L mi ml hP hJ hi (hrr _ hF1) h16 (hP.nx_le hi).1 hm (fun m1 hf1 hv1 hm1 => ?_)
    obtain ⟨p1, p2, p3, p4, p5, p6⟩ := hJ.put hn64 hf1 (hrr _ hF1) h16 hv1
    generalize hbe : xU a 37 (nxm n K T i) (nI h) = b1 at p1 p2 p3 p4 p5 p6 ⊢
    have hPb := p1.prm hP
    refine xB.go 9 (161, [(0, .ref 32), (1, .int m1), (2, .int tt), (3, .int (nI i)), (4, .int (nI h)), (5, .int 1), (6, .int (nI (nxm n K T i)))], [.int (nI i), .ref 32], XM L b1 ml) rfl ?_
    refine xB.c1 100 [.ref 32, .int (nI i)] [] (c_mother _ L _ _ hPb hi) rfl ?_
    refine xB.go 1 (166, [(0, .ref 32), (1, .int m1), (2, .int tt), (3, .int (nI i)), (4, .int (nI h)), (5, .int 1), (6, .int (nI (otm n K T i)))], [], XM L b1 ml) rfl ?_
    have hm1b : m1 = 0 ∨ m1 = 1 := by rcases hm1 with z | z; exact Or.inr z.1; exact Or.inl z.1
    refine walk_f d L mi ml hP p1 hi (hrr _ hF2) h16 (hP.nx_le hi).2 hm1b (fun m2 hf2 hv2 hm2 => ?_)
    obtain ⟨q1, q2, q3, q4, q5, q6⟩ := p1.put hn64 hf2 (hrr _ hF2) h16 hv2
    generalize hce : xU b1 37 (otm n K T i) (nI h) = c1 at q1 q2 q3 q4 q5 q6 ⊢
    refine xB.go 7 (55, [(0, .ref 32), (1, .int m2), (2, .int tt), (3, .int ((nI i) + 1)), (4, .int (nI h)), (5, .int 2), (6, .int (nI (otm n K T i)))], [], XM L c1 ml) rfl ?_
    refine xB.fo [(0, .ref 32), (1, .int m2), (2, .int tt), (3, .int (nI i + 1))] (by simp) ?_
    rw [nI_1]
    have hm2b : m2 = 0 ∨ m2 = 1 := by rcases hm2 with z | z; exact Or.inr z.1; exact Or.inl z.1
    refine k m2 hm2b c1 q1 (fun z => ?_) (Nat.le_trans p4 q4) (fun z => ?_)
    · rcases hm2 with w | ⟨-, w1, w2⟩
      · rw [w.1] at z; cases z
      · rcases hm1 with y | ⟨-, y1, y2⟩
        · rw [y.1] at w1; cases w1
        · have e1 : b1 37 = a 37 := p6 y2
          refine ⟨y1, (q6 w2).trans e1, fun j hj => ?_⟩
          rcases Fo_nxm (n := n) hj with rfl | rfl
          · exact ⟨hf1, y2⟩
          · rw [e1] at w2; exact ⟨hf2, w2⟩
    · rcases hm2 with ⟨-, w | w⟩ | ⟨w, -⟩
      · rcases hm1 with ⟨-, y | y⟩ | ⟨y, -⟩
        · exact Or.inl y
        · exact Or.inr (Nat.le_trans (p5 y) q4)
        · rw [y] at w; cases w
      · exact Or.inr (Nat.le_trans (Nat.succ_le_succ p4) (q5 w))
      · rw [w] at z; cases z
  · refine xB.go 3 (55, [(0, .ref 32), (1, .int m), (2, .int tt), (3, .int ((nI i) + 1)), (4, .int (nI h))], [], XM L a ml) rfl ?_
    refine xB.fo [(0, .ref 32), (1, .int m), (2, .int tt), (3, .int (nI i + 1))] (by simp) ?_
    rw [nI_1]
    have g9 := k_eq hk (c := 9) (by decide) (Classical.not_not.mp h1)
    exact k m hm a hJ (fun z => ⟨z, rfl, fun j hj => absurd g9 hj.1⟩) (Nat.le_refl _) (fun z => Or.inl z)
theorem pt_1 {k : Nat} (hk : k < 10) (h : ¬ nI (pt k) = 0) : pt k = 1 := by
  have := (pt_le k hk).1
  rcases (show pt k = 0 ∨ pt k = 1 by omega) with z | z
  · rw [z] at h; exact absurd rfl h
  · exact z
theorem pt_0 {k : Nat} (hk : k < 10) (h : nI (pt k) = 0) : pt k = 0 := by
  have := (pt_le k hk).1
  exact (nI_eq (by omega) (by decide)).mp h
theorem nI_a0 (x : Int32) : x + 0 = x := by simp
set_option maxRecDepth 100000 in
set_option maxHeartbeats 1000000 in
theorem walk_55 (d L : Nat) (mi : xmi) (ml : xml) {n : Nat} {K T : Nat → Nat} (hP : PRM mi n K T) {t : Nat} (k : ∀ (m : Int32), m = 0 ∨ m = 1 → ∀ a : xmi, wJ n K T mi a → (m = 0 → wCl n K T a n) → t + 1 ≤ cnt (wMet a) 64 → (m = 1 → t + 2 ≤ cnt (wMet a) 64) →  xB (d + 2) mX9_walk L (wQ n K T mi ml) (240, [(0, .ref 32), (1, .int m), (2, .int (nI t))], [], XM L a ml)) : ∀ (f i : Nat), i ≤ n → n - i < f → ∀ (m : Int32), m = 0 ∨ m = 1 → ∀ a : xmi, wJ n K T mi a → (m = 0 → wCl n K T a i) → t + 1 ≤ cnt (wMet a) 64 → (m = 1 → t + 2 ≤ cnt (wMet a) 64) →  xB (d + 2) mX9_walk L (wQ n K T mi ml) (55, [(0, .ref 32), (1, .int m), (2, .int (nI t)), (3, .int (nI i))], [], XM L a ml) := by
  have hn64 := hP.2.1
  intro f
  induction f with
  | zero => intro i h1 h2; omega
  | succ f ih =>
    intro i hle hlt m hm a hJ hcl hc1 hc2
    have hPa := hJ.prm hP
    refine xB.go 3 (60, [(0, .ref 32), (1, .int m), (2, .int (nI t)), (3, .int (nI i))], [.int (a 32 2), .int (nI i)], XM L a ml) rfl ?_
    refine xB.cg (60, [(0, .ref 32), (1, .int m), (2, .int (nI t)), (3, .int (nI i))], [.int (nI n), .int (nI i)], XM L a ml) (by rw [hPa.1]) ?_
    refine xB.bp ((nI n) ≤ (nI i)) (240, [(0, .ref 32), (1, .int m), (2, .int (nI t)), (3, .int (nI i))], [], XM L a ml) (63, [(0, .ref 32), (1, .int m), (2, .int (nI t)), (3, .int (nI i))], [], XM L a ml) rfl (fun h1 => ?_) (fun h1 => ?_)
    · have hin : ¬ i < n := fun z => absurd ((nI_ltI (by omega) (by omega)).mpr z) (i_nlt.mpr h1)
      obtain rfl : i = n := by omega
      refine xB.fo [(0, .ref 32), (1, .int m), (2, .int (nI t))] (by simp) ?_
      exact k m hm a hJ hcl hc1 hc2
    · have hin : i < n := (nI_ltI (by omega) (by omega)).mp (i_nle.mp h1)
      have hk := (hP.2.2.1 i hin).2
      have hi64 : i < 64 := by omega
      have hi31 : i < 2 ^ 31 := by omega
      refine xB.go 3 (68, [(0, .ref 32), (1, .int m), (2, .int (nI t)), (3, .int (nI i))], [.int (nI i), .ref 37], XM L a ml) rfl ?_
      refine xB.ck (xin (nI i) 64) (69, [(0, .ref 32), (1, .int m), (2, .int (nI t)), (3, .int (nI i))], [.int (a 37 (nI i).toNatClampNeg)], XM L a ml) rfl (xin_of hi64 (by decide) rfl) ?_
      refine xB.bp (0 ≤ (a 37 (nI i).toNatClampNeg)) (75, [(0, .ref 32), (1, .int m), (2, .int (nI t)), (3, .int (nI i))], [], XM L a ml) (72, [(0, .ref 32), (1, .int m), (2, .int (nI t)), (3, .int (nI i))], [], XM L a ml) rfl (fun h2 => ?_) (fun h2 => ?_)
      · obtain ⟨hx, hx16, hxe, hrx⟩ : ∃ h, h ≤ 16 ∧ a 37 i = nI h ∧ Rh n K T i h := by
          rcases hJ.2.1 i hi64 with z | ⟨-, z⟩
          · rw [nI_clamp hi31, z] at h2; exact absurd neg1_lt (i_nlt.mpr h2)
          · exact z
        refine xB.go 3 (80, [(0, .ref 32), (1, .int m), (2, .int (nI t)), (3, .int (nI i))], [.int (nI i), .ref 37], XM L a ml) rfl ?_
        refine xB.ck (xin (nI i) 64) (81, [(0, .ref 32), (1, .int m), (2, .int (nI t)), (3, .int (nI i))], [.int (a 37 (nI i).toNatClampNeg)], XM L a ml) rfl (xin_of hi64 (by decide) rfl) ?_
        refine xB.cg (81, [(0, .ref 32), (1, .int m), (2, .int (nI t)), (3, .int (nI i))], [.int (nI hx)], XM L a ml) (by rw [nI_clamp hi31, hxe]) ?_
        refine xB.go 2 (83, [(0, .ref 32), (1, .int m), (2, .int (nI t)), (3, .int (nI i))], [.int (nI i), .ref 32, .int (nI hx)], XM L a ml) rfl ?_
        refine xB.c1 97 [.ref 32, .int (nI i)] [.int (nI hx)] (c_mtakes _ L _ _ hPa hin) rfl ?_
        refine xB.go 3 (91, [(0, .ref 32), (1, .int m), (2, .int (nI t)), (3, .int (nI i)), (4, .int ((nI hx) - (nI (tk (K i)))))], [.int ((nI hx) - (nI (tk (K i))))], XM L a ml) rfl ?_
        refine xB.bp (0 ≤ ((nI hx) - (nI (tk (K i))))) (96, [(0, .ref 32), (1, .int m), (2, .int (nI t)), (3, .int (nI i)), (4, .int ((nI hx) - (nI (tk (K i)))))], [], XM L a ml) (94, [(0, .ref 32), (1, .int m), (2, .int (nI t)), (3, .int (nI i)), (4, .int ((nI hx) - (nI (tk (K i)))))], [], XM L a ml) rfl (fun h3 => ?_) (fun h3 => ?_)
        · refine xB.cg (96, [(0, .ref 32), (1, .int m), (2, .int (nI t)), (3, .int (nI i)), (4, .int (nI (hx - tk (K i))))], [], XM L a ml) (by rw [nI_subeq (go_le hx16 hk (i_nlt.mpr h3))]) ?_
          refine xB.go 3 (100, [(0, .ref 32), (1, .int m), (2, .int (nI t)), (3, .int (nI i)), (4, .int (nI (hx - tk (K i))))], [.int (nI i), .ref 32, .int (nI (hx - tk (K i)))], XM L a ml) rfl ?_
          refine xB.c1 98 [.ref 32, .int (nI i)] [.int (nI (hx - tk (K i)))] (c_mgives _ L _ _ hPa hin) rfl ?_
          refine xB.bp ((nI (pt (K i))) = 0) (110, [(0, .ref 32), (1, .int m), (2, .int (nI t)), (3, .int (nI i)), (4, .int (nI (hx - tk (K i))))], [.int (nI (hx - tk (K i)))], XM L a ml) (106, [(0, .ref 32), (1, .int m), (2, .int (nI t)), (3, .int (nI i)), (4, .int (nI (hx - tk (K i))))], [.int (nI (hx - tk (K i)))], XM L a ml) rfl (fun h4 => ?_) (fun h4 => ?_)
          · refine xB.go 2 (112, [(0, .ref 32), (1, .int m), (2, .int (nI t)), (3, .int (nI i)), (4, .int (nI (hx - tk (K i))))], [.int ((nI (hx - tk (K i))) + 0)], XM L a ml) rfl ?_
            refine xB.cg (112, [(0, .ref 32), (1, .int m), (2, .int (nI t)), (3, .int (nI i)), (4, .int (nI (hx - tk (K i))))], [.int (nI (hx - tk (K i) + pt (K i)))], XM L a ml) (by rw [pt_0 hk h4]; simp) ?_
            refine xB.go 3 (118, [(0, .ref 32), (1, .int m), (2, .int (nI t)), (3, .int (nI i)), (4, .int (nI (hx - tk (K i) + pt (K i))))], [.int 16, .int (nI (hx - tk (K i) + pt (K i)))], XM L a ml) rfl ?_
            refine xB.bp ((nI (hx - tk (K i) + pt (K i))) ≤ 16) (123, [(0, .ref 32), (1, .int m), (2, .int (nI t)), (3, .int (nI i)), (4, .int (nI (hx - tk (K i) + pt (K i))))], [], XM L a ml) (121, [(0, .ref 32), (1, .int m), (2, .int (nI t)), (3, .int (nI i)), (4, .int (nI (hx - tk (K i) + pt (K i))))], [], XM L a ml) rfl (fun h5 => ?_) (fun h5 => ?_)
            · have hgt := go_le hx16 hk (i_nlt.mpr h3)
              have hg16 : hx - tk (K i) + pt (K i) ≤ 16 := (nI_leI (by have := (pt_le _ hk).1; omega) (by decide)).mp h5
              refine walk_123 d L mi ml hP hJ hin hg16 (fun j hj => hrx.next hin hgt hg16 hj) hm (fun m1 hm1 a1 hJ1 r1 r2 r3 => ?_)
              refine ih (i + 1) (by omega) (by omega) m1 hm1 a1 hJ1 (fun z j hh q1 q2 q3 => ?_) (Nat.le_trans hc1 r2) (fun z => ?_)
              · obtain ⟨s1, s2, s3⟩ := r1 z
                rw [s2] at q3 ⊢
                by_cases w : j = i
                · subst w; obtain rfl := nI_inj q2 hx16 (q3.symm.trans hxe); exact ⟨hgt, hg16, s3⟩
                · exact hcl s1 j hh (by omega) q2 q3
              · rcases r3 z with w | w
                · exact Nat.le_trans (hc2 w) r2
                · omega
            · refine xB.go 1 (122, [(0, .ref 32), (1, .int m), (2, .int (nI t)), (3, .int (nI i)), (4, .int (nI (hx - tk (K i) + pt (K i))))], [.int 0], XM L a ml) rfl ?_
              refine xB.rt (some (.int 0)) a ml rfl ?_
              refine ⟨0, rfl, rfl, hJ.1, Or.inr ⟨rfl, fun w => ?_⟩⟩
              have g := (w.1 i hx hrx).2.2
              exact absurd (nI_le g (by decide)) h5
          · refine xB.go 3 (112, [(0, .ref 32), (1, .int m), (2, .int (nI t)), (3, .int (nI i)), (4, .int (nI (hx - tk (K i))))], [.int ((nI (hx - tk (K i))) + 1)], XM L a ml) rfl ?_
            refine xB.cg (112, [(0, .ref 32), (1, .int m), (2, .int (nI t)), (3, .int (nI i)), (4, .int (nI (hx - tk (K i))))], [.int (nI (hx - tk (K i) + pt (K i)))], XM L a ml) (by rw [nI_1, pt_1 hk h4]) ?_
            refine xB.go 3 (118, [(0, .ref 32), (1, .int m), (2, .int (nI t)), (3, .int (nI i)), (4, .int (nI (hx - tk (K i) + pt (K i))))], [.int 16, .int (nI (hx - tk (K i) + pt (K i)))], XM L a ml) rfl ?_
            refine xB.bp ((nI (hx - tk (K i) + pt (K i))) ≤ 16) (123, [(0, .ref 32), (1, .int m), (2, .int (nI t)), (3, .int (nI i)), (4, .int (nI (hx - tk (K i) + pt (K i))))], [], XM L a ml) (121, [(0, .ref 32), (1, .int m), (2, .int (nI t)), (3, .int (nI i)), (4, .int (nI (hx - tk (K i) + pt (K i))))], [], XM L a ml) rfl (fun h6 => ?_) (fun h6 => ?_)
            · have hgt := go_le hx16 hk (i_nlt.mpr h3)
              have hg16 : hx - tk (K i) + pt (K i) ≤ 16 := (nI_leI (by have := (pt_le _ hk).1; omega) (by decide)).mp h6
              refine walk_123 d L mi ml hP hJ hin hg16 (fun j hj => hrx.next hin hgt hg16 hj) hm (fun m1 hm1 a1 hJ1 r1 r2 r3 => ?_)
              refine ih (i + 1) (by omega) (by omega) m1 hm1 a1 hJ1 (fun z j hh q1 q2 q3 => ?_) (Nat.le_trans hc1 r2) (fun z => ?_)
              · obtain ⟨s1, s2, s3⟩ := r1 z
                rw [s2] at q3 ⊢
                by_cases w : j = i
                · subst w; obtain rfl := nI_inj q2 hx16 (q3.symm.trans hxe); exact ⟨hgt, hg16, s3⟩
                · exact hcl s1 j hh (by omega) q2 q3
              · rcases r3 z with w | w
                · exact Nat.le_trans (hc2 w) r2
                · omega
            · refine xB.go 1 (122, [(0, .ref 32), (1, .int m), (2, .int (nI t)), (3, .int (nI i)), (4, .int (nI (hx - tk (K i) + pt (K i))))], [.int 0], XM L a ml) rfl ?_
              refine xB.rt (some (.int 0)) a ml rfl ?_
              refine ⟨0, rfl, rfl, hJ.1, Or.inr ⟨rfl, fun w => ?_⟩⟩
              have g := (w.1 i hx hrx).2.2
              exact absurd (nI_le g (by decide)) h6
        · refine xB.go 1 (95, [(0, .ref 32), (1, .int m), (2, .int (nI t)), (3, .int (nI i)), (4, .int ((nI hx) - (nI (tk (K i)))))], [.int 0], XM L a ml) rfl ?_
          refine xB.rt (some (.int 0)) a ml rfl ?_
          refine ⟨0, rfl, rfl, hJ.1, Or.inr ⟨rfl, fun w => ?_⟩⟩
          have := (tk_le _ hk).1
          have g := (w.1 i hx hrx).2.1
          rw [i_nle, nI_subneg (by omega) (by omega)] at h3
          omega
      · refine xB.go 3 (55, [(0, .ref 32), (1, .int m), (2, .int (nI t)), (3, .int ((nI i) + 1))], [], XM L a ml) rfl ?_
        refine xB.fo [(0, .ref 32), (1, .int m), (2, .int (nI t)), (3, .int (nI i + 1))] (by simp) ?_
        rw [nI_1]
        refine ih (i + 1) (by omega) (by omega) m hm a hJ (fun z j hh q1 q2 q3 => ?_) hc1 hc2
        by_cases w : j = i
        · subst w; rw [nI_clamp hi31, q3] at h2; exact absurd (nI_pos' (by omega)) h2
        · exact hcl z j hh (by omega) q2 q3
set_option maxRecDepth 100000 in
set_option maxHeartbeats 1000000 in
theorem walk_41 (d L : Nat) (mi : xmi) (ml : xml) {n : Nat} {K T : Nat → Nat} (hP : PRM mi n K T) : ∀ (f t : Nat), t ≤ 65 → 65 - t < f → ∀ (m : Int32) (a : xmi), wJ n K T mi a → (m = 1 ∧ t + 1 ≤ cnt (wMet a) 64) ∨ (m = 0 ∧ wCl n K T a n) → xB (d + 2) mX9_walk L (wQ n K T mi ml) (41, [(0, .ref 32), (1, .int m), (2, .int (nI t))], [], XM L a ml) := by
  have hn64 := hP.2.1
  intro f
  induction f with
  | zero => intro t h1 h2; omega
  | succ f ih =>
    intro t hle hlt m a hJ hI
    refine xB.go 2 (44, [(0, .ref 32), (1, .int m), (2, .int (nI t))], [.int 64, .int (nI t)], XM L a ml) rfl ?_
    refine xB.bp (64 < (nI t)) (246, [(0, .ref 32), (1, .int m), (2, .int (nI t))], [], XM L a ml) (47, [(0, .ref 32), (1, .int m), (2, .int (nI t))], [], XM L a ml) rfl (fun h1 => ?_) (fun h1 => ?_)
    · refine xB.go 1 (247, [(0, .ref 32), (1, .int m), (2, .int (nI t))], [.int 1], XM L a ml) rfl ?_
      refine xB.rt (some (.int 1)) a ml rfl ?_
      have ht : 64 < t := (nI_ltI (by decide) (by omega)).mp h1
      rcases hI with ⟨-, z⟩ | ⟨-, z⟩
      · have := cnt_le (wMet a) 64; omega
      · exact ⟨1, rfl, rfl, hJ.1, hJ.cl hP.2.1 z⟩
    · refine xB.go 1 (48, [(0, .ref 32), (1, .int m), (2, .int (nI t))], [.int m], XM L a ml) rfl ?_
      refine xB.bp (m = 0) (246, [(0, .ref 32), (1, .int m), (2, .int (nI t))], [], XM L a ml) (51, [(0, .ref 32), (1, .int m), (2, .int (nI t))], [], XM L a ml) rfl (fun h2 => ?_) (fun h2 => ?_)
      · refine xB.go 1 (247, [(0, .ref 32), (1, .int m), (2, .int (nI t))], [.int 1], XM L a ml) rfl ?_
        refine xB.rt (some (.int 1)) a ml rfl ?_
        rcases hI with ⟨z, -⟩ | ⟨-, z⟩
        · rw [z] at h2; cases h2
        · exact ⟨1, rfl, rfl, hJ.1, hJ.cl hP.2.1 z⟩
      · refine xB.go 4 (55, [(0, .ref 32), (1, .int 0), (2, .int (nI t)), (3, .int 0)], [], XM L a ml) rfl ?_
        have ht : t ≤ 64 := by
          rcases Nat.lt_or_ge 64 t with z | z
          · exact absurd (nI_lt z (by omega)) h1
          · exact z
        have hcn : t + 1 ≤ cnt (wMet a) 64 := by
          rcases hI with ⟨-, z⟩ | ⟨z, -⟩
          · exact z
          · exact absurd z h2
        refine walk_55 d L mi ml hP (t := t) (fun m1 hm1 a1 hJ1 r1 r2 r3 => ?_) (n + 1) 0 (Nat.zero_le _) (by omega) 0 (Or.inl rfl) a hJ (fun _ j hh q1 => by omega) hcn (fun z => absurd z (by decide))
        refine xB.go 2 (41, [(0, .ref 32), (1, .int m1), (2, .int ((nI t) + 1))], [], XM L a1 ml) rfl ?_
        rw [nI_1]
        refine ih (t + 1) (by omega) (by omega) m1 a1 hJ1 ?_
        rcases hm1 with z | z
        · exact Or.inr ⟨z, r1 z⟩
        · exact Or.inl ⟨z, r3 z⟩
def sl_fill {α : Type} (f : Nat → α) (v : α) (k : Nat) : Nat → α := fun i => if i < k then v else f i
theorem sl_fill_0 {α : Type} (f : Nat → Nat → α) (a : Nat) (v : α) : va_up f a (sl_fill (f a) v 0) = f := by
  funext x
  by_cases h : x = a
  · subst h; rw [va_up_self]; funext i; simp [sl_fill]
  · rw [va_up_ne _ _ h]
theorem sl_fill_s {α : Type} (f : Nat → Nat → α) (a : Nat) (v : α) (k : Nat) : xU (va_up f a (sl_fill (f a) v k)) a k v = va_up f a (sl_fill (f a) v (k + 1)) := by
  unfold xU
  funext x
  by_cases h : x = a
  · subst h
    rw [va_up_self, va_up_self, va_up_self]
    funext i
    by_cases hi : i = k
    · subst hi; rw [va_up_self]; simp [sl_fill]
    · rw [va_up_ne _ _ hi]; unfold sl_fill
      by_cases h2 : i < k
      · rw [if_pos h2, if_pos (by omega)]
      · rw [if_neg h2, if_neg (by omega)]
  · rw [va_up_ne _ _ h, va_up_ne _ _ h, va_up_ne _ _ h]
set_option maxRecDepth 100000 in
set_option maxHeartbeats 1000000 in
theorem walk_2 (d L : Nat) (mi : xmi) (ml : xml) (Q : Option Value → xmi → xml → Prop) (k : xB d mX9_walk L Q (21, [(0, .ref 32)], [], XM L (va_up mi 37 (sl_fill (mi 37) (-1) 64)) ml)) : ∀ (f i : Nat), i ≤ 64 → 64 - i < f → xB d mX9_walk L Q (2, [(0, .ref 32), (1, .int (nI i))], [], XM L (va_up mi 37 (sl_fill (mi 37) (-1) i)) ml) := by
  intro f
  induction f with
  | zero => intro i h1 h2; omega
  | succ f ih =>
    intro i hle hlt
    refine xB.go 2 (5, [(0, .ref 32), (1, .int (nI i))], [.int 64, .int (nI i)], XM L (va_up mi 37 (sl_fill (mi 37) (-1) i)) ml) rfl ?_
    refine xB.bp (64 ≤ (nI i)) (21, [(0, .ref 32), (1, .int (nI i))], [], XM L (va_up mi 37 (sl_fill (mi 37) (-1) i)) ml) (8, [(0, .ref 32), (1, .int (nI i))], [], XM L (va_up mi 37 (sl_fill (mi 37) (-1) i)) ml) rfl (fun h1 => ?_) (fun h1 => ?_)
    · have hge : 64 ≤ i := (nI_leI (by decide) (by omega)).mp h1
      obtain rfl : i = 64 := by omega
      exact xB.fo [(0, .ref 32)] (by simp) k
    · refine xB.go 4 (14, [(0, .ref 32), (1, .int (nI i))], [.int (-1), .int (nI i), .ref 37], XM L (va_up mi 37 (sl_fill (mi 37) (-1) i)) ml) rfl ?_
      refine xB.ck (xin (nI i) 64) (15, [(0, .ref 32), (1, .int (nI i))], [], XM L (xU (va_up mi 37 (sl_fill (mi 37) (-1) i)) 37 (nI i).toNatClampNeg (-1)) ml) rfl (xin_of (show i < 64 from Nat.lt_of_not_le (fun z => h1 (nI_le z (by omega)))) (by decide) rfl) ?_
      refine xB.go 2 (2, [(0, .ref 32), (1, .int ((nI i) + 1))], [], XM L (xU (va_up mi 37 (sl_fill (mi 37) (-1) i)) 37 (nI i).toNatClampNeg (-1)) ml) rfl ?_
      have hlt2 : i < 64 := Nat.lt_of_not_le (fun z => h1 (nI_le z (by omega)))
      rw [nI_1, nI_clamp (by omega), sl_fill_s]
      exact ih (i + 1) (by omega) (by omega)
set_option maxRecDepth 100000 in
set_option maxHeartbeats 1000000 in
theorem c_walk (d L : Nat) (mi : xmi) (ml : xml) {n : Nat} {K T : Nat → Nat} (hP : PRM mi n K T) : xF (d + 3) 101 [.ref 32] L mi ml (wQ n K T mi ml) := by
  refine xF.mk mX9_walk rfl rfl ?_
  refine xB.go 2 (2, [(0, .ref 32), (1, .int 0)], [], XM L mi ml) rfl ?_
  refine xB.cg (2, [(0, .ref 32), (1, .int (nI 0))], [], XM L (va_up mi 37 (sl_fill (mi 37) (-1) 0)) ml) (by rw [sl_fill_0]; rfl) ?_
  refine walk_2 (d + 2) L mi ml _ ?_ 65 0 (by omega) (by omega)
  refine xB.go 2 (25, [(0, .ref 32)], [.int ((va_up mi 37 (sl_fill (mi 37) (-1) 64)) 32 2)], XM L (va_up mi 37 (sl_fill (mi 37) (-1) 64)) ml) rfl ?_
  refine xB.cg (25, [(0, .ref 32)], [.int (nI n)], XM L (va_up mi 37 (sl_fill (mi 37) (-1) 64)) ml) (by rw [show (va_up mi 37 (sl_fill (mi 37) (-1) 64)) 32 2 = mi 32 2 from rfl, hP.1]) ?_
  refine xB.bp (¬ (nI n) = 0) (30, [(0, .ref 32)], [], XM L (va_up mi 37 (sl_fill (mi 37) (-1) 64)) ml) (28, [(0, .ref 32)], [], XM L (va_up mi 37 (sl_fill (mi 37) (-1) 64)) ml) rfl (fun h1 => ?_) (fun h1 => ?_)
  · refine xB.go 9 (41, [(0, .ref 32), (1, .int 1), (2, .int 0)], [], XM L (xU (va_up mi 37 (sl_fill (mi 37) (-1) 64)) 37 0 0) ml) rfl ?_
    have hn0 : 0 < n := by
      rcases Nat.eq_zero_or_pos n with z | z
      · subst z; exact absurd rfl h1
      · exact z
    have hJ : wJ n K T mi (xU (va_up mi 37 (sl_fill (mi 37) (-1) 64)) 37 0 0) := by
      refine ⟨fun x hx => by rw [xU_ne hx, va_up_ne _ _ hx], fun i hi => ?_, by rw [xU_at, va_up_self]; rfl, hn0⟩
      rw [xU_at]
      by_cases z : i = 0
      · subst z; rw [va_up_self]; exact Or.inr ⟨hn0, 0, by omega, rfl, Rh.zero⟩
      · rw [va_up_ne _ _ z, va_up_self]; left; unfold sl_fill; rw [if_pos hi]
    refine walk_41 d L mi ml hP 66 0 (by omega) (by omega) 1 _ hJ (Or.inl ⟨rfl, ?_⟩)
    refine Nat.lt_of_le_of_lt (Nat.zero_le _) (Nat.lt_of_le_of_lt (Nat.le_of_eq (cnt_zero (f := fun _ => false) (m := 64) (fun _ _ => rfl)).symm) (cnt_lt (j := 0) (fun _ _ z => by cases z) (by decide) rfl ?_))
    unfold wMet
    rw [xU_at, va_up_self]
    decide +kernel
  · refine xB.go 1 (29, [(0, .ref 32)], [.int 0], XM L (va_up mi 37 (sl_fill (mi 37) (-1) 64)) ml) rfl ?_
    refine xB.rt (some (.int 0)) (va_up mi 37 (sl_fill (mi 37) (-1) 64)) ml rfl ?_
    have h0 : n = 0 := (nI_eq (by have := hP.2.1; omega) (by decide)).mp (Classical.not_not.mp h1)
    subst h0
    exact ⟨0, rfl, rfl, fun q hq => va_up_ne _ _ hq, Or.inr ⟨rfl, fun w => absurd (w.1 0 0 Rh.zero).1 (by omega)⟩⟩
