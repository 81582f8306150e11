/-! the class's other public methods -/
def nmx (k : Nat) : Nat := [0, 8, 8, 7, 64, 64, 2, 2, 4, 0].getD k 0
theorem nmx_le : ∀ k, k < 10 → nmx k ≤ 64 ∧ xnumb k = nI (nmx k) := by decide +kernel
def insOK (x y : Int32) : Prop := ∃ k, k < 10 ∧ x = nI k ∧ (nmx k = 0 ∨ (0 ≤ y ∧ y < nI (nmx k)))
theorem insOK_iff {x y : Int32} : insOK x y ↔ (0 ≤ x ∧ x < 10) ∧ (xnumb x.toNatClampNeg = 0 ∨ (0 ≤ y ∧ y < xnumb x.toNatClampNeg)) := by
  constructor
  · rintro ⟨k, hk, rfl, h⟩
    rw [nI_clamp (by omega), (nmx_le k hk).2]
    refine ⟨⟨nI_pos' (by omega), by rw [show (10 : Int32) = nI 10 from rfl, nI_ltI (by omega) (by decide)]; exact hk⟩, h.imp (fun z => by rw [z]; rfl) id⟩
  · rintro ⟨⟨h1, h2⟩, h3⟩
    rcases pk_ix x (show (10 : Nat) < 2 ^ 31 by decide) with z | z | ⟨k, hk, rfl⟩
    · exact absurd z (i_nlt.mpr h1)
    · exact absurd h2 (i_nlt.mpr z)
    · rw [nI_clamp (by omega), (nmx_le k hk).2] at h3
      refine ⟨k, hk, rfl, h3.imp (fun z => ?_) id⟩
      have := (nmx_le k hk).1
      exact (nI_eq (by omega) (by decide)).mp z
theorem c_isMem0 (d L : Nat) (mi : xmi) (ml : xml) : xFv (d + 2) 85 [.int 0] L mi ml (.int 1) mi ml := by have h := c_isMemory d L mi ml 0; rwa [xb_t (by decide)] at h
theorem c_isMem1 (d L : Nat) (mi : xmi) (ml : xml) : xFv (d + 2) 85 [.int 1] L mi ml (.int 1) mi ml := by have h := c_isMemory d L mi ml 1; rwa [xb_t (by decide)] at h
theorem c_isMemN (d L : Nat) (mi : xmi) (ml : xml) {x : Int32} (hx : ¬ (0 ≤ x ∧ x < 2)) : xFv (d + 2) 85 [.int x] L mi ml (.int 0) mi ml := by have h := c_isMemory d L mi ml x; rwa [xb_f hx] at h
set_option maxRecDepth 100000 in
set_option maxHeartbeats 1000000 in
theorem c_run0 (d L : Nat) (mi : xmi) (ml : xml) {n : Nat} {K T : Nat → Nat} {vL aL cL : Nat → Nat → Bool} (hC : CI n K T vL aL cL mi ml) (x : Int32) : xF (d + 7) 77 [.ref 0, .int 0, .int x] L mi ml (fun rr a b => ∃ v, rr = some (.int v) ∧ CI n K T vL aL cL a b ∧ ((¬ WF n K T ∧ v = -1 ∧ FR mi ml a b) ∨ (WF n K T ∧ v = nI (runA K T (mi 3) (fuel x) 0 0 (mi 19, mi 23, mi 25, mi 26, 0)).1 ∧ ∃ a0, FR mi ml a0 b ∧ WK 23 24 a0 (runA K T (mi 3) (fuel x) 0 0 (mi 19, mi 23, mi 25, mi 26, 0)).2.1 (runA K T (mi 3) (fuel x) 0 0 (mi 19, mi 23, mi 25, mi 26, 0)).2.2 10000 a))) := by
  refine xF.mk mX8_run rfl rfl ?_
  refine xB.go 1 (1, [(0, .ref 0), (1, .int 0), (2, .int x)], [.int 0], XM L mi ml) rfl ?_
  refine xB.c1 85 [.int 0] [] (c_isMem0 _ L _ _) rfl ?_
  refine xB.go 2 (8, [(0, .ref 0), (1, .int 0), (2, .int x)], [.ref 0], XM L mi ml) rfl ?_
  refine xB.ca 82 [.ref 0] [] (c_iwf _ L _ _ hC) rfl ?_
  intro r1 a b hq
  obtain ⟨v0, rfl, hCa, h08, hv0, hfr⟩ := hq
  have hSa := (hCa.2.2.2.2.2.1 h08).1
  show xB _ _ L _ (11, [(0, .ref 0), (1, .int 0), (2, .int x)], [.int v0], XM L a b)
  refine xB.bp (¬ v0 = 0) (16, [(0, .ref 0), (1, .int 0), (2, .int x)], [], XM L a b) (14, [(0, .ref 0), (1, .int 0), (2, .int x)], [], XM L a b) rfl (fun h1 => ?_) (fun h1 => ?_)
  · have h84 : a 8 4 = 1 := by rcases hSa with z | z; exact z.1; exact absurd (hv0.trans z.1) h1
    have hWa := hSa.wf1 h84
    refine xB.go 12 (36, [(0, .ref 0), (1, .int 0), (2, .int x)], [.int 10000, .int x, .ref 24, .ref 22, .ref 18], XM L a b) rfl ?_
    refine xB.c1 136 [.int x, .int 10000] [.ref 24, .ref 22, .ref 18] (c_min _ L a b x 10000 ) rfl ?_
    refine xB.ca 16 [.ref 18, .ref 22, .ref 24, .int (if x ≤ 10000 then x else 10000)] [] (c_work0 _ L _ _ hCa.1 hCa.2.1 hWa.1 (if x ≤ 10000 then x else 10000) (fuel_le x)) rfl ?_
    intro r2 a2 b2 hq2
    obtain ⟨hb2, rfl, hK⟩ := hq2
    rw [hb2]
    show xB _ _ L _ (42, [(0, .ref 0), (1, .int 0), (2, .int x)], [.int (nI (runA K T (a 3) (fuel x) 0 0 (a 19, a 23, a 25, a 26, 0)).1)], XM L a2 b)
    refine xB.rt (some (.int (nI (runA K T (a 3) (fuel x) 0 0 (a 19, a 23, a 25, a 26, 0)).1))) a2 b rfl ?_
    have hK : WK 23 24 a (runA K T (a 3) (fuel x) 0 0 (a 19, a 23, a 25, a 26, 0)).2.1 (runA K T (a 3) (fuel x) 0 0 (a 19, a 23, a 25, a 26, 0)).2.2 10000 a2 := hK
    refine ⟨_, rfl, hCa.frame (fun y hy => hK.1 y (by omega) (by omega) (by omega) (by omega) (by omega) (by omega)) (fun _ _ => rfl), Or.inr ⟨hWa.1, ?_, a, hfr, ?_⟩⟩
    · rw [(hfr 3 (by decide)).1, (hfr 19 (by decide)).1, (hfr 23 (by decide)).1, (hfr 25 (by decide)).1, (hfr 26 (by decide)).1]
    · rw [(hfr 3 (by decide)).1, (hfr 19 (by decide)).1, (hfr 23 (by decide)).1, (hfr 25 (by decide)).1, (hfr 26 (by decide)).1] at hK; exact hK
  · refine xB.go 1 (15, [(0, .ref 0), (1, .int 0), (2, .int x)], [.int (-1)], XM L a b) rfl ?_
    refine xB.rt (some (.int (-1))) a b rfl ?_
    exact ⟨_, rfl, hCa, Or.inl ⟨(hSa.wf0 (by rw [← hv0, (Classical.not_not.mp h1)]; decide)).1, rfl, hfr⟩⟩
set_option maxRecDepth 100000 in
set_option maxHeartbeats 1000000 in
theorem c_run1 (d L : Nat) (mi : xmi) (ml : xml) {n : Nat} {K T : Nat → Nat} {vL aL cL : Nat → Nat → Bool} (hC : CI n K T vL aL cL mi ml) (x : Int32) : xF (d + 7) 77 [.ref 0, .int 1, .int x] L mi ml (fun rr a b => ∃ v, rr = some (.int v) ∧ CI n K T vL aL cL a b ∧ ((¬ WF n K T ∧ v = -1 ∧ FR mi ml a b) ∨ (WF n K T ∧ v = nI (runA K T (mi 3) (fuel x) 0 0 (mi 19, mi 28, mi 30, mi 31, 0)).1 ∧ ∃ a0, FR mi ml a0 b ∧ WK 28 29 a0 (runA K T (mi 3) (fuel x) 0 0 (mi 19, mi 28, mi 30, mi 31, 0)).2.1 (runA K T (mi 3) (fuel x) 0 0 (mi 19, mi 28, mi 30, mi 31, 0)).2.2 10000 a))) := by
  refine xF.mk mX8_run rfl rfl ?_
  refine xB.go 1 (1, [(0, .ref 0), (1, .int 1), (2, .int x)], [.int 1], XM L mi ml) rfl ?_
  refine xB.c1 85 [.int 1] [] (c_isMem1 _ L _ _) rfl ?_
  refine xB.go 2 (8, [(0, .ref 0), (1, .int 1), (2, .int x)], [.ref 0], XM L mi ml) rfl ?_
  refine xB.ca 82 [.ref 0] [] (c_iwf _ L _ _ hC) rfl ?_
  intro r1 a b hq
  obtain ⟨v0, rfl, hCa, h08, hv0, hfr⟩ := hq
  have hSa := (hCa.2.2.2.2.2.1 h08).1
  show xB _ _ L _ (11, [(0, .ref 0), (1, .int 1), (2, .int x)], [.int v0], XM L a b)
  refine xB.bp (¬ v0 = 0) (16, [(0, .ref 0), (1, .int 1), (2, .int x)], [], XM L a b) (14, [(0, .ref 0), (1, .int 1), (2, .int x)], [], XM L a b) rfl (fun h1 => ?_) (fun h1 => ?_)
  · have h84 : a 8 4 = 1 := by rcases hSa with z | z; exact z.1; exact absurd (hv0.trans z.1) h1
    have hWa := hSa.wf1 h84
    refine xB.go 12 (36, [(0, .ref 0), (1, .int 1), (2, .int x)], [.int 10000, .int x, .ref 29, .ref 27, .ref 18], XM L a b) rfl ?_
    refine xB.c1 136 [.int x, .int 10000] [.ref 29, .ref 27, .ref 18] (c_min _ L a b x 10000 ) rfl ?_
    refine xB.ca 16 [.ref 18, .ref 27, .ref 29, .int (if x ≤ 10000 then x else 10000)] [] (c_work1 _ L _ _ hCa.1 hCa.2.1 hWa.1 (if x ≤ 10000 then x else 10000) (fuel_le x)) rfl ?_
    intro r2 a2 b2 hq2
    obtain ⟨hb2, rfl, hK⟩ := hq2
    rw [hb2]
    show xB _ _ L _ (42, [(0, .ref 0), (1, .int 1), (2, .int x)], [.int (nI (runA K T (a 3) (fuel x) 0 0 (a 19, a 28, a 30, a 31, 0)).1)], XM L a2 b)
    refine xB.rt (some (.int (nI (runA K T (a 3) (fuel x) 0 0 (a 19, a 28, a 30, a 31, 0)).1))) a2 b rfl ?_
    have hK : WK 28 29 a (runA K T (a 3) (fuel x) 0 0 (a 19, a 28, a 30, a 31, 0)).2.1 (runA K T (a 3) (fuel x) 0 0 (a 19, a 28, a 30, a 31, 0)).2.2 10000 a2 := hK
    refine ⟨_, rfl, hCa.frame (fun y hy => hK.1 y (by omega) (by omega) (by omega) (by omega) (by omega) (by omega)) (fun _ _ => rfl), Or.inr ⟨hWa.1, ?_, a, hfr, ?_⟩⟩
    · rw [(hfr 3 (by decide)).1, (hfr 19 (by decide)).1, (hfr 28 (by decide)).1, (hfr 30 (by decide)).1, (hfr 31 (by decide)).1]
    · rw [(hfr 3 (by decide)).1, (hfr 19 (by decide)).1, (hfr 28 (by decide)).1, (hfr 30 (by decide)).1, (hfr 31 (by decide)).1] at hK; exact hK
  · refine xB.go 1 (15, [(0, .ref 0), (1, .int 1), (2, .int x)], [.int (-1)], XM L a b) rfl ?_
    refine xB.rt (some (.int (-1))) a b rfl ?_
    exact ⟨_, rfl, hCa, Or.inl ⟨(hSa.wf0 (by rw [← hv0, (Classical.not_not.mp h1)]; decide)).1, rfl, hfr⟩⟩
set_option maxRecDepth 100000 in
set_option maxHeartbeats 1000000 in
theorem c_runN (d L : Nat) (mi : xmi) (ml : xml) {m : Int32} (hm : ¬ (0 ≤ m ∧ m < 2)) (x : Int32) : xFv (d + 7) 77 [.ref 0, .int m, .int x] L mi ml (.int (-1)) mi ml := by
  refine xF.mk mX8_run rfl rfl ?_
  refine xB.go 1 (1, [(0, .ref 0), (1, .int m), (2, .int x)], [.int m], XM L mi ml) rfl ?_
  refine xB.c1 85 [.int m] [] (c_isMemN _ L _ _ hm) rfl ?_
  refine xB.go 2 (15, [(0, .ref 0), (1, .int m), (2, .int x)], [.int (-1)], XM L mi ml) rfl ?_
  refine xB.rt (some (.int (-1))) mi ml rfl ?_
  exact ⟨rfl, rfl, rfl⟩
set_option maxRecDepth 100000 in
set_option maxHeartbeats 1000000 in
theorem c_instruction (d L : Nat) (mi : xmi) (ml : xml) {n : Nat} {K T : Nat → Nat} (hP : PRG mi n K T) (h1001 : mi 1001 = xnumb) (x y : Int32) : xF (d + 4) 68 [.ref 0, .int x, .int y] L mi ml (fun rr a b => ∃ v, rr = some (.int v) ∧ b = ml ∧ ((n < 64 ∧ insOK x y ∧ v = nI n ∧ a = xU (xU (xU (xU mi 2 n x) 3 n y) 1 2 (nI (n + 1))) 0 8 1) ∨ (¬ (n < 64 ∧ insOK x y) ∧ v = -1 ∧ a = mi))) := by
  refine xF.mk mX8_instruction rfl rfl ?_
  refine xB.go 4 (6, [(0, .ref 0), (1, .int x), (2, .int y)], [.int y, .int x, .ref 1], XM L mi ml) rfl ?_
  refine xB.c1 44 [.ref 1, .int x, .int y] [] (c_add _ L _ _ x y hP.1 hP.2.1) rfl ?_
  refine xB.go 3 (12, [(0, .ref 0), (1, .int x), (2, .int y), (3, .int (if (¬ 64 ≤ mi 1 2) ∧ ((0 ≤ x ∧ x < 10) ∧ (mi 1001 x.toNatClampNeg = 0 ∨ (0 ≤ y ∧ y < mi 1001 x.toNatClampNeg))) then mi 1 2 + 1 - 1 else -1))], [.int (-1), .int (if (¬ 64 ≤ mi 1 2) ∧ ((0 ≤ x ∧ x < 10) ∧ (mi 1001 x.toNatClampNeg = 0 ∨ (0 ≤ y ∧ y < mi 1001 x.toNatClampNeg))) then mi 1 2 + 1 - 1 else -1)], XM L (if (¬ 64 ≤ mi 1 2) ∧ ((0 ≤ x ∧ x < 10) ∧ (mi 1001 x.toNatClampNeg = 0 ∨ (0 ≤ y ∧ y < mi 1001 x.toNatClampNeg))) then xU (xU (xU mi 2 (mi 1 2).toNatClampNeg x) 3 (mi 1 2).toNatClampNeg y) 1 2 (mi 1 2 + 1) else mi) ml) rfl ?_
  refine xB.bp ((if (¬ 64 ≤ mi 1 2) ∧ ((0 ≤ x ∧ x < 10) ∧ (mi 1001 x.toNatClampNeg = 0 ∨ (0 ≤ y ∧ y < mi 1001 x.toNatClampNeg))) then mi 1 2 + 1 - 1 else -1) = (-1)) (20, [(0, .ref 0), (1, .int x), (2, .int y), (3, .int (if (¬ 64 ≤ mi 1 2) ∧ ((0 ≤ x ∧ x < 10) ∧ (mi 1001 x.toNatClampNeg = 0 ∨ (0 ≤ y ∧ y < mi 1001 x.toNatClampNeg))) then mi 1 2 + 1 - 1 else -1))], [], XM L (if (¬ 64 ≤ mi 1 2) ∧ ((0 ≤ x ∧ x < 10) ∧ (mi 1001 x.toNatClampNeg = 0 ∨ (0 ≤ y ∧ y < mi 1001 x.toNatClampNeg))) then xU (xU (xU mi 2 (mi 1 2).toNatClampNeg x) 3 (mi 1 2).toNatClampNeg y) 1 2 (mi 1 2 + 1) else mi) ml) (15, [(0, .ref 0), (1, .int x), (2, .int y), (3, .int (if (¬ 64 ≤ mi 1 2) ∧ ((0 ≤ x ∧ x < 10) ∧ (mi 1001 x.toNatClampNeg = 0 ∨ (0 ≤ y ∧ y < mi 1001 x.toNatClampNeg))) then mi 1 2 + 1 - 1 else -1))], [], XM L (if (¬ 64 ≤ mi 1 2) ∧ ((0 ≤ x ∧ x < 10) ∧ (mi 1001 x.toNatClampNeg = 0 ∨ (0 ≤ y ∧ y < mi 1001 x.toNatClampNeg))) then xU (xU (xU mi 2 (mi 1 2).toNatClampNeg x) 3 (mi 1 2).toNatClampNeg y) 1 2 (mi 1 2 + 1) else mi) ml) rfl (fun h1 => ?_) (fun h1 => ?_)
  · refine xB.go 1 (21, [(0, .ref 0), (1, .int x), (2, .int y), (3, .int (if (¬ 64 ≤ mi 1 2) ∧ ((0 ≤ x ∧ x < 10) ∧ (mi 1001 x.toNatClampNeg = 0 ∨ (0 ≤ y ∧ y < mi 1001 x.toNatClampNeg))) then mi 1 2 + 1 - 1 else -1))], [.int (if (¬ 64 ≤ mi 1 2) ∧ ((0 ≤ x ∧ x < 10) ∧ (mi 1001 x.toNatClampNeg = 0 ∨ (0 ≤ y ∧ y < mi 1001 x.toNatClampNeg))) then mi 1 2 + 1 - 1 else -1)], XM L (if (¬ 64 ≤ mi 1 2) ∧ ((0 ≤ x ∧ x < 10) ∧ (mi 1001 x.toNatClampNeg = 0 ∨ (0 ≤ y ∧ y < mi 1001 x.toNatClampNeg))) then xU (xU (xU mi 2 (mi 1 2).toNatClampNeg x) 3 (mi 1 2).toNatClampNeg y) 1 2 (mi 1 2 + 1) else mi) ml) rfl ?_
    refine xB.rt (some (.int (if (¬ 64 ≤ mi 1 2) ∧ ((0 ≤ x ∧ x < 10) ∧ (mi 1001 x.toNatClampNeg = 0 ∨ (0 ≤ y ∧ y < mi 1001 x.toNatClampNeg))) then mi 1 2 + 1 - 1 else -1))) (if (¬ 64 ≤ mi 1 2) ∧ ((0 ≤ x ∧ x < 10) ∧ (mi 1001 x.toNatClampNeg = 0 ∨ (0 ≤ y ∧ y < mi 1001 x.toNatClampNeg))) then xU (xU (xU mi 2 (mi 1 2).toNatClampNeg x) 3 (mi 1 2).toNatClampNeg y) 1 2 (mi 1 2 + 1) else mi) ml rfl ?_
    have hn64 := hP.2.1
    have hiff : ((¬ 64 ≤ mi 1 2) ∧ ((0 ≤ x ∧ x < 10) ∧ (mi 1001 x.toNatClampNeg = 0 ∨ (0 ≤ y ∧ y < mi 1001 x.toNatClampNeg)))) ↔ (n < 64 ∧ insOK x y) := by rw [insOK_iff, h1001, hP.1, show (64 : Int32) = nI 64 from rfl, nI_leI (by decide) (by omega), Nat.not_le]
    by_cases hg : (¬ 64 ≤ mi 1 2) ∧ ((0 ≤ x ∧ x < 10) ∧ (mi 1001 x.toNatClampNeg = 0 ∨ (0 ≤ y ∧ y < mi 1001 x.toNatClampNeg)))
    have e1 : mi 1 2 + 1 - 1 = nI n := by rw [hP.1, nI_1, show (1 : Int32) = nI 1 from rfl, nI_subeq (by omega)]; rfl
    · rw [if_pos hg, e1] at h1; exact absurd h1 (nI_neg1 (show n < 2 ^ 31 by omega))
    · rw [if_neg hg, if_neg hg]
      exact ⟨_, rfl, rfl, Or.inr ⟨fun z => hg (hiff.mpr z), rfl, rfl⟩⟩
  · refine xB.go 4 (21, [(0, .ref 0), (1, .int x), (2, .int y), (3, .int (if (¬ 64 ≤ mi 1 2) ∧ ((0 ≤ x ∧ x < 10) ∧ (mi 1001 x.toNatClampNeg = 0 ∨ (0 ≤ y ∧ y < mi 1001 x.toNatClampNeg))) then mi 1 2 + 1 - 1 else -1))], [.int (if (¬ 64 ≤ mi 1 2) ∧ ((0 ≤ x ∧ x < 10) ∧ (mi 1001 x.toNatClampNeg = 0 ∨ (0 ≤ y ∧ y < mi 1001 x.toNatClampNeg))) then mi 1 2 + 1 - 1 else -1)], XM L (xU (if (¬ 64 ≤ mi 1 2) ∧ ((0 ≤ x ∧ x < 10) ∧ (mi 1001 x.toNatClampNeg = 0 ∨ (0 ≤ y ∧ y < mi 1001 x.toNatClampNeg))) then xU (xU (xU mi 2 (mi 1 2).toNatClampNeg x) 3 (mi 1 2).toNatClampNeg y) 1 2 (mi 1 2 + 1) else mi) 0 8 1) ml) rfl ?_
    refine xB.rt (some (.int (if (¬ 64 ≤ mi 1 2) ∧ ((0 ≤ x ∧ x < 10) ∧ (mi 1001 x.toNatClampNeg = 0 ∨ (0 ≤ y ∧ y < mi 1001 x.toNatClampNeg))) then mi 1 2 + 1 - 1 else -1))) (xU (if (¬ 64 ≤ mi 1 2) ∧ ((0 ≤ x ∧ x < 10) ∧ (mi 1001 x.toNatClampNeg = 0 ∨ (0 ≤ y ∧ y < mi 1001 x.toNatClampNeg))) then xU (xU (xU mi 2 (mi 1 2).toNatClampNeg x) 3 (mi 1 2).toNatClampNeg y) 1 2 (mi 1 2 + 1) else mi) 0 8 1) ml rfl ?_
    have hn64 := hP.2.1
    have hiff : ((¬ 64 ≤ mi 1 2) ∧ ((0 ≤ x ∧ x < 10) ∧ (mi 1001 x.toNatClampNeg = 0 ∨ (0 ≤ y ∧ y < mi 1001 x.toNatClampNeg)))) ↔ (n < 64 ∧ insOK x y) := by rw [insOK_iff, h1001, hP.1, show (64 : Int32) = nI 64 from rfl, nI_leI (by decide) (by omega), Nat.not_le]
    by_cases hg : (¬ 64 ≤ mi 1 2) ∧ ((0 ≤ x ∧ x < 10) ∧ (mi 1001 x.toNatClampNeg = 0 ∨ (0 ≤ y ∧ y < mi 1001 x.toNatClampNeg)))
    have e1 : mi 1 2 + 1 - 1 = nI n := by rw [hP.1, nI_1, show (1 : Int32) = nI 1 from rfl, nI_subeq (by omega)]; rfl
    · rw [if_pos hg, if_pos hg, e1]
      refine ⟨_, rfl, rfl, Or.inl ⟨(hiff.mp hg).1, (hiff.mp hg).2, rfl, ?_⟩⟩
      rw [hP.1, nI_clamp (by omega), nI_1]
    · rw [if_neg hg] at h1; exact absurd rfl h1
set_option maxRecDepth 100000 in
theorem c_clear (d L : Nat) (mi : xmi) (ml : xml)   : xFn (d + 2) 69 [.ref 0] L mi ml (xU (xU mi 1 2 0) 0 8 1) ml := by
  refine xF.mk mX8_clear rfl rfl ?_
  refine xB.go 2 (4, [(0, .ref 0)], [.ref 1], XM L mi ml) rfl ?_
  refine xB.c0 45 [.ref 1] [] (c_removeAll _ L mi ml  ) rfl ?_
  refine xB.go 3 (12, [(0, .ref 0)], [], XM L (xU (xU mi 1 2 0) 0 8 1) ml) rfl ?_
  refine xB.rt none (xU (xU mi 1 2 0) 0 8 1) ml rfl ?_
  exact ⟨rfl, rfl, rfl⟩
set_option maxRecDepth 100000 in
theorem c_level0 (d L : Nat) (mi : xmi) (ml : xml) (x y : Int32)  : xFv (d + 4) 70 [.ref 0, .int 0, .int x, .int y] L mi ml (.int (xb ((0 ≤ x ∧ x < 8) ∧ (0 ≤ y ∧ y < 4)))) (if (0 ≤ x ∧ x < 8) ∧ (0 ≤ y ∧ y < 4) then xU (xU mi 5 x.toNatClampNeg y) 0 9 1 else mi) ml := by
  refine xF.mk mX8_level rfl rfl ?_
  refine xB.go 5 (7, [(0, .ref 0), (1, .int 0), (2, .int x), (3, .int y)], [.int y, .int x, .int 0, .ref 4], XM L mi ml) rfl ?_
  refine xB.c1 10 [.ref 4, .int 0, .int x, .int y] [] (c_lset0 _ L mi ml x y ) rfl ?_
  refine xB.bn ((0 ≤ x ∧ x < 8) ∧ (0 ≤ y ∧ y < 4)) (15, [(0, .ref 0), (1, .int 0), (2, .int x), (3, .int y)], [], XM L (if (0 ≤ x ∧ x < 8) ∧ (0 ≤ y ∧ y < 4) then xU mi 5 x.toNatClampNeg y else mi) ml) (13, [(0, .ref 0), (1, .int 0), (2, .int x), (3, .int y)], [], XM L (if (0 ≤ x ∧ x < 8) ∧ (0 ≤ y ∧ y < 4) then xU mi 5 x.toNatClampNeg y else mi) ml) rfl (fun h1 => ?_) (fun h1 => ?_)
  · refine xB.go 4 (21, [(0, .ref 0), (1, .int 0), (2, .int x), (3, .int y)], [.int 1], XM L (xU (if (0 ≤ x ∧ x < 8) ∧ (0 ≤ y ∧ y < 4) then xU mi 5 x.toNatClampNeg y else mi) 0 9 1) ml) rfl ?_
    refine xB.rt (some (.int 1)) (xU (if (0 ≤ x ∧ x < 8) ∧ (0 ≤ y ∧ y < 4) then xU mi 5 x.toNatClampNeg y else mi) 0 9 1) ml rfl ?_
    exact ⟨by rw [xb_t h1], by rw [if_pos h1, if_pos h1], rfl⟩
  · refine xB.go 1 (14, [(0, .ref 0), (1, .int 0), (2, .int x), (3, .int y)], [.int 0], XM L (if (0 ≤ x ∧ x < 8) ∧ (0 ≤ y ∧ y < 4) then xU mi 5 x.toNatClampNeg y else mi) ml) rfl ?_
    refine xB.rt (some (.int 0)) (if (0 ≤ x ∧ x < 8) ∧ (0 ≤ y ∧ y < 4) then xU mi 5 x.toNatClampNeg y else mi) ml rfl ?_
    exact ⟨by rw [xb_f h1], by rw [if_neg h1, if_neg h1], rfl⟩
set_option maxRecDepth 100000 in
theorem c_level1 (d L : Nat) (mi : xmi) (ml : xml) (x y : Int32)  : xFv (d + 4) 70 [.ref 0, .int 1, .int x, .int y] L mi ml (.int (xb ((0 ≤ x ∧ x < 2) ∧ (0 ≤ y ∧ y < 4)))) (if (0 ≤ x ∧ x < 2) ∧ (0 ≤ y ∧ y < 4) then xU (xU mi 6 x.toNatClampNeg y) 0 9 1 else mi) ml := by
  refine xF.mk mX8_level rfl rfl ?_
  refine xB.go 5 (7, [(0, .ref 0), (1, .int 1), (2, .int x), (3, .int y)], [.int y, .int x, .int 1, .ref 4], XM L mi ml) rfl ?_
  refine xB.c1 10 [.ref 4, .int 1, .int x, .int y] [] (c_lset1 _ L mi ml x y ) rfl ?_
  refine xB.bn ((0 ≤ x ∧ x < 2) ∧ (0 ≤ y ∧ y < 4)) (15, [(0, .ref 0), (1, .int 1), (2, .int x), (3, .int y)], [], XM L (if (0 ≤ x ∧ x < 2) ∧ (0 ≤ y ∧ y < 4) then xU mi 6 x.toNatClampNeg y else mi) ml) (13, [(0, .ref 0), (1, .int 1), (2, .int x), (3, .int y)], [], XM L (if (0 ≤ x ∧ x < 2) ∧ (0 ≤ y ∧ y < 4) then xU mi 6 x.toNatClampNeg y else mi) ml) rfl (fun h1 => ?_) (fun h1 => ?_)
  · refine xB.go 4 (21, [(0, .ref 0), (1, .int 1), (2, .int x), (3, .int y)], [.int 1], XM L (xU (if (0 ≤ x ∧ x < 2) ∧ (0 ≤ y ∧ y < 4) then xU mi 6 x.toNatClampNeg y else mi) 0 9 1) ml) rfl ?_
    refine xB.rt (some (.int 1)) (xU (if (0 ≤ x ∧ x < 2) ∧ (0 ≤ y ∧ y < 4) then xU mi 6 x.toNatClampNeg y else mi) 0 9 1) ml rfl ?_
    exact ⟨by rw [xb_t h1], by rw [if_pos h1, if_pos h1], rfl⟩
  · refine xB.go 1 (14, [(0, .ref 0), (1, .int 1), (2, .int x), (3, .int y)], [.int 0], XM L (if (0 ≤ x ∧ x < 2) ∧ (0 ≤ y ∧ y < 4) then xU mi 6 x.toNatClampNeg y else mi) ml) rfl ?_
    refine xB.rt (some (.int 0)) (if (0 ≤ x ∧ x < 2) ∧ (0 ≤ y ∧ y < 4) then xU mi 6 x.toNatClampNeg y else mi) ml rfl ?_
    exact ⟨by rw [xb_f h1], by rw [if_neg h1, if_neg h1], rfl⟩
set_option maxRecDepth 100000 in
theorem c_level2 (d L : Nat) (mi : xmi) (ml : xml) (x y : Int32)  : xFv (d + 4) 70 [.ref 0, .int 2, .int x, .int y] L mi ml (.int (xb ((0 ≤ x ∧ x < 4) ∧ (0 ≤ y ∧ y < 4)))) (if (0 ≤ x ∧ x < 4) ∧ (0 ≤ y ∧ y < 4) then xU (xU mi 7 x.toNatClampNeg y) 0 9 1 else mi) ml := by
  refine xF.mk mX8_level rfl rfl ?_
  refine xB.go 5 (7, [(0, .ref 0), (1, .int 2), (2, .int x), (3, .int y)], [.int y, .int x, .int 2, .ref 4], XM L mi ml) rfl ?_
  refine xB.c1 10 [.ref 4, .int 2, .int x, .int y] [] (c_lset2 _ L mi ml x y ) rfl ?_
  refine xB.bn ((0 ≤ x ∧ x < 4) ∧ (0 ≤ y ∧ y < 4)) (15, [(0, .ref 0), (1, .int 2), (2, .int x), (3, .int y)], [], XM L (if (0 ≤ x ∧ x < 4) ∧ (0 ≤ y ∧ y < 4) then xU mi 7 x.toNatClampNeg y else mi) ml) (13, [(0, .ref 0), (1, .int 2), (2, .int x), (3, .int y)], [], XM L (if (0 ≤ x ∧ x < 4) ∧ (0 ≤ y ∧ y < 4) then xU mi 7 x.toNatClampNeg y else mi) ml) rfl (fun h1 => ?_) (fun h1 => ?_)
  · refine xB.go 4 (21, [(0, .ref 0), (1, .int 2), (2, .int x), (3, .int y)], [.int 1], XM L (xU (if (0 ≤ x ∧ x < 4) ∧ (0 ≤ y ∧ y < 4) then xU mi 7 x.toNatClampNeg y else mi) 0 9 1) ml) rfl ?_
    refine xB.rt (some (.int 1)) (xU (if (0 ≤ x ∧ x < 4) ∧ (0 ≤ y ∧ y < 4) then xU mi 7 x.toNatClampNeg y else mi) 0 9 1) ml rfl ?_
    exact ⟨by rw [xb_t h1], by rw [if_pos h1, if_pos h1], rfl⟩
  · refine xB.go 1 (14, [(0, .ref 0), (1, .int 2), (2, .int x), (3, .int y)], [.int 0], XM L (if (0 ≤ x ∧ x < 4) ∧ (0 ≤ y ∧ y < 4) then xU mi 7 x.toNatClampNeg y else mi) ml) rfl ?_
    refine xB.rt (some (.int 0)) (if (0 ≤ x ∧ x < 4) ∧ (0 ≤ y ∧ y < 4) then xU mi 7 x.toNatClampNeg y else mi) ml rfl ?_
    exact ⟨by rw [xb_f h1], by rw [if_neg h1, if_neg h1], rfl⟩
set_option maxRecDepth 100000 in
set_option maxHeartbeats 1000000 in
theorem c_lsetN (d L : Nat) (mi : xmi) (ml : xml) {w : Int32} (g0 : ¬ w = 0) (g1 : ¬ w = 1) (g2 : ¬ w = 2) (x y : Int32) : xFv (d + 3) 10 [.ref 4, .int w, .int x, .int y] L mi ml (.int 0) mi ml := by
  refine xF.mk mX1_set rfl rfl ?_
  refine xB.go 1 (1, [(0, .ref 4), (1, .int w), (2, .int x), (3, .int y)], [.int w], XM L mi ml) rfl ?_
  by_cases h1 : w = 0
  · refine xB.tp h1 ?_
    refine xB.go 1 (28, [(0, .ref 4), (1, .int w), (2, .int x), (3, .int y)], [], XM L mi ml) rfl ?_
    refine xB.go 4 (34, [(0, .ref 4), (1, .int w), (2, .int x), (3, .int y)], [.int y, .int x, .ref 5], XM L mi ml) rfl ?_
    refine xB.c1 14 [.ref 5, .int x, .int y] [] (c_setIn5 _ L _ _ _ _) rfl ?_
    refine xB.rz (xb ((0 ≤ x ∧ x < 8) ∧ (0 ≤ y ∧ y < 4))) (if (0 ≤ x ∧ x < 8) ∧ (0 ≤ y ∧ y < 4) then xU mi 5 x.toNatClampNeg y else mi) ml rfl xz_xb ?_
    exact absurd h1 g0
  by_cases h2 : w = 1
  · refine xB.tp h2 ?_
    refine xB.go 1 (38, [(0, .ref 4), (1, .int w), (2, .int x), (3, .int y)], [], XM L mi ml) rfl ?_
    refine xB.go 4 (44, [(0, .ref 4), (1, .int w), (2, .int x), (3, .int y)], [.int y, .int x, .ref 6], XM L mi ml) rfl ?_
    refine xB.c1 14 [.ref 6, .int x, .int y] [] (c_setIn6 _ L _ _ _ _) rfl ?_
    refine xB.rz (xb ((0 ≤ x ∧ x < 2) ∧ (0 ≤ y ∧ y < 4))) (if (0 ≤ x ∧ x < 2) ∧ (0 ≤ y ∧ y < 4) then xU mi 6 x.toNatClampNeg y else mi) ml rfl xz_xb ?_
    exact absurd h2 g1
  by_cases h3 : w = 2
  · refine xB.tp h3 ?_
    refine xB.go 1 (48, [(0, .ref 4), (1, .int w), (2, .int x), (3, .int y)], [], XM L mi ml) rfl ?_
    refine xB.go 4 (54, [(0, .ref 4), (1, .int w), (2, .int x), (3, .int y)], [.int y, .int x, .ref 7], XM L mi ml) rfl ?_
    refine xB.c1 14 [.ref 7, .int x, .int y] [] (c_setIn7 _ L _ _ _ _) rfl ?_
    refine xB.rz (xb ((0 ≤ x ∧ x < 4) ∧ (0 ≤ y ∧ y < 4))) (if (0 ≤ x ∧ x < 4) ∧ (0 ≤ y ∧ y < 4) then xU mi 7 x.toNatClampNeg y else mi) ml rfl xz_xb ?_
    exact absurd h3 g2
  refine xB.st (58, [(0, .ref 4), (1, .int w), (2, .int x), (3, .int y)], [], XM L mi ml) (xsw_d (mt := mX1_set) rfl (xsw_ne 3 (by decide) (fun k hk => by rcases (show k = 0 ∨ k = 1 ∨ k = 2 by omega) with rfl | rfl | rfl; exact h1; exact h2; exact h3)) rfl) ?_
  refine xB.go 1 (59, [(0, .ref 4), (1, .int w), (2, .int x), (3, .int y)], [.int 0], XM L mi ml) rfl ?_
  refine xB.rt (some (.int 0)) mi ml rfl ?_
  exact ⟨rfl, rfl, rfl⟩
set_option maxRecDepth 100000 in
set_option maxHeartbeats 1000000 in
theorem c_levelN (d L : Nat) (mi : xmi) (ml : xml) {w : Int32} (g0 : ¬ w = 0) (g1 : ¬ w = 1) (g2 : ¬ w = 2) (x y : Int32) : xFv (d + 4) 70 [.ref 0, .int w, .int x, .int y] L mi ml (.int 0) mi ml := by
  refine xF.mk mX8_level rfl rfl ?_
  refine xB.go 5 (7, [(0, .ref 0), (1, .int w), (2, .int x), (3, .int y)], [.int y, .int x, .int w, .ref 4], XM L mi ml) rfl ?_
  refine xB.c1 10 [.ref 4, .int w, .int x, .int y] [] (c_lsetN _ L _ _ g0 g1 g2 x y) rfl ?_
  refine xB.go 2 (14, [(0, .ref 0), (1, .int w), (2, .int x), (3, .int y)], [.int 0], XM L mi ml) rfl ?_
  refine xB.rt (some (.int 0)) mi ml rfl ?_
  exact ⟨rfl, rfl, rfl⟩
theorem l8_24 {x : Int32} (h : x < 8) : x < 24 := by rw [Int32.lt_iff_toInt_lt] at h ⊢; rw [show (8 : Int32).toInt = 8 from by decide +kernel] at h; rw [show (24 : Int32).toInt = 24 from by decide +kernel]; omega
set_option maxRecDepth 100000 in
theorem c_let0 (d L : Nat) (mi : xmi) (ml : xml) (x y : Int32)  : xFv (d + 3) 75 [.ref 0, .int 0, .int x, .int y] L mi ml (.int (xb (0 ≤ x ∧ x < 8))) (if 0 ≤ x ∧ x < 8 then xU mi 23 x.toNatClampNeg y else mi) ml := by
  refine xF.mk mX8_let rfl rfl ?_
  refine xB.go 1 (1, [(0, .ref 0), (1, .int 0), (2, .int x), (3, .int y)], [.int 0], XM L mi ml) rfl ?_
  refine xB.c1 85 [.int 0] [] (c_isMem0 _ L _ _) rfl ?_
  refine xB.go 3 (10, [(0, .ref 0), (1, .int 0), (2, .int x), (3, .int y)], [.int 8, .int x], XM L mi ml) rfl ?_
  refine xB.c1 86 [.int x, .int 8] [] (c_isBetween _ L mi ml x 8 ) rfl ?_
  refine xB.bn (0 ≤ x ∧ x < 8) (18, [(0, .ref 0), (1, .int 0), (2, .int x), (3, .int y)], [], XM L mi ml) (16, [(0, .ref 0), (1, .int 0), (2, .int x), (3, .int y)], [], XM L mi ml) rfl (fun h1 => ?_) (fun h1 => ?_)
  · refine xB.go 6 (26, [(0, .ref 0), (1, .int 0), (2, .int x), (3, .int y)], [.int y, .int x, .ref 22], XM L mi ml) rfl ?_
    refine xB.c0 26 [.ref 22, .int x, .int y] [] (c_mset22 _ L mi ml x y ) rfl ?_
    refine xB.go 1 (30, [(0, .ref 0), (1, .int 0), (2, .int x), (3, .int y)], [.int 1], XM L (if 0 ≤ x ∧ x < 24 then xU mi 23 x.toNatClampNeg y else mi) ml) rfl ?_
    refine xB.rt (some (.int 1)) (if 0 ≤ x ∧ x < 24 then xU mi 23 x.toNatClampNeg y else mi) ml rfl ?_
    exact ⟨by rw [xb_t h1], by rw [if_pos h1, if_pos ⟨h1.1, l8_24 h1.2⟩], rfl⟩
  · refine xB.go 1 (17, [(0, .ref 0), (1, .int 0), (2, .int x), (3, .int y)], [.int 0], XM L mi ml) rfl ?_
    refine xB.rt (some (.int 0)) mi ml rfl ?_
    exact ⟨by rw [xb_f h1], by rw [if_neg h1], rfl⟩
set_option maxRecDepth 100000 in
theorem c_ran0 (d L : Nat) (mi : xmi) (ml : xml) (y : Int32) (hb2 : mi 24 2 = 0 ∨ mi 24 2 = 1) (hb3 : mi 24 3 = 0 ∨ mi 24 3 = 1) : xFv (d + 3) 78 [.ref 0, .int 0, .int y] L mi ml (.int (if mi 24 2 = 0 then -1 else if y = 0 then mi 24 3 else if y = 1 then mi 24 4 else -1)) mi ml := by
  refine xF.mk mX8_ran rfl rfl ?_
  refine xB.go 1 (1, [(0, .ref 0), (1, .int 0), (2, .int y)], [.int 0], XM L mi ml) rfl ?_
  refine xB.c1 85 [.int 0] [] (c_isMem0 _ L _ _) rfl ?_
  refine xB.go 5 (13, [(0, .ref 0), (1, .int 0), (2, .int y)], [.ref 24], XM L mi ml) rfl ?_
  refine xB.c1 28 [.ref 24] [] (c_isThere24 _ L _ _ (by rcases hb2 with z | z <;> rw [z] <;> rfl)) rfl ?_
  refine xB.bp (¬ (mi 24 2) = 0) (21, [(0, .ref 0), (1, .int 0), (2, .int y)], [], XM L mi ml) (19, [(0, .ref 0), (1, .int 0), (2, .int y)], [], XM L mi ml) rfl (fun h1 => ?_) (fun h1 => ?_)
  · refine xB.go 1 (22, [(0, .ref 0), (1, .int 0), (2, .int y)], [.int y], XM L mi ml) rfl ?_
    by_cases h2 : y = 0
    · refine xB.tp h2 ?_
      refine xB.go 1 (48, [(0, .ref 0), (1, .int 0), (2, .int y)], [], XM L mi ml) rfl ?_
      refine xB.go 4 (54, [(0, .ref 0), (1, .int 0), (2, .int y)], [.ref 24], XM L mi ml) rfl ?_
      refine xB.c1 29 [.ref 24] [] (c_isHalted24 _ L _ _ (by rcases hb3 with z | z <;> rw [z] <;> rfl)) rfl ?_
      refine xB.bp ((mi 24 3) = 0) (64, [(0, .ref 0), (1, .int 0), (2, .int y)], [], XM L mi ml) (60, [(0, .ref 0), (1, .int 0), (2, .int y)], [], XM L mi ml) rfl (fun h3 => ?_) (fun h3 => ?_)
      · refine xB.go 1 (65, [(0, .ref 0), (1, .int 0), (2, .int y)], [.int 0], XM L mi ml) rfl ?_
        refine xB.rt (some (.int 0)) mi ml rfl ?_
        refine ⟨?_, rfl, rfl⟩
        rw [if_neg h1]
        rw [if_pos h2, h3]
      · refine xB.go 2 (65, [(0, .ref 0), (1, .int 0), (2, .int y)], [.int 1], XM L mi ml) rfl ?_
        refine xB.rt (some (.int 1)) mi ml rfl ?_
        refine ⟨?_, rfl, rfl⟩
        rw [if_neg h1]
        rw [if_pos h2, hb3.resolve_left h3]
    by_cases h4 : y = 1
    · refine xB.tp h4 ?_
      refine xB.go 1 (66, [(0, .ref 0), (1, .int 0), (2, .int y)], [], XM L mi ml) rfl ?_
      refine xB.go 4 (72, [(0, .ref 0), (1, .int 0), (2, .int y)], [.ref 24], XM L mi ml) rfl ?_
      refine xB.c1 30 [.ref 24] [] (c_count24 _ L mi ml  ) rfl ?_
      refine xB.rt (some (.int (mi 24 4))) mi ml rfl ?_
      refine ⟨?_, rfl, rfl⟩
      rw [if_neg h1]
      rw [if_neg h2, if_pos h4]
    refine xB.st (76, [(0, .ref 0), (1, .int 0), (2, .int y)], [], XM L mi ml) (xls_d (mt := mX8_ran) rfl rfl (xlk_2 (xne_toInt (k := 0) (by decide) h2) (xne_toInt (k := 1) (by decide) h4)) rfl) ?_
    refine xB.go 1 (77, [(0, .ref 0), (1, .int 0), (2, .int y)], [.int (-1)], XM L mi ml) rfl ?_
    refine xB.rt (some (.int (-1))) mi ml rfl ?_
    refine ⟨?_, rfl, rfl⟩
    rw [if_neg h1]
    rw [if_neg h2, if_neg h4]
  · refine xB.go 1 (20, [(0, .ref 0), (1, .int 0), (2, .int y)], [.int (-1)], XM L mi ml) rfl ?_
    refine xB.rt (some (.int (-1))) mi ml rfl ?_
    refine ⟨?_, rfl, rfl⟩
    rw [if_pos (Classical.not_not.mp h1)]
set_option maxRecDepth 100000 in
theorem c_out0 (d L : Nat) (mi : xmi) (ml : xml) (x y : Int32)  : xFv (d + 4) 79 [.ref 0, .int 0, .int x, .int y] L mi ml (.int (if 0 ≤ x ∧ x < (if mi 24 4 ≤ 64 then mi 24 4 else 64) then (if y = 0 then mi 25 x.toNatClampNeg else if y = 1 then mi 26 x.toNatClampNeg else 0) else 0)) mi ml := by
  refine xF.mk mX8_out rfl rfl ?_
  refine xB.go 1 (1, [(0, .ref 0), (1, .int 0), (2, .int x), (3, .int y)], [.int 0], XM L mi ml) rfl ?_
  refine xB.c1 85 [.int 0] [] (c_isMem0 _ L _ _) rfl ?_
  refine xB.go 6 (14, [(0, .ref 0), (1, .int 0), (2, .int x), (3, .int y)], [.ref 24, .int x], XM L mi ml) rfl ?_
  refine xB.c1 31 [.ref 24] [.int x] (c_kept24 _ L mi ml  ) rfl ?_
  refine xB.c1 86 [.int x, .int (if mi 24 4 ≤ 64 then mi 24 4 else 64)] [] (c_isBetween _ L mi ml x (if mi 24 4 ≤ 64 then mi 24 4 else 64) ) rfl ?_
  refine xB.bn (0 ≤ x ∧ x < (if mi 24 4 ≤ 64 then mi 24 4 else 64)) (25, [(0, .ref 0), (1, .int 0), (2, .int x), (3, .int y)], [], XM L mi ml) (23, [(0, .ref 0), (1, .int 0), (2, .int x), (3, .int y)], [], XM L mi ml) rfl (fun h1 => ?_) (fun h1 => ?_)
  · refine xB.go 1 (26, [(0, .ref 0), (1, .int 0), (2, .int x), (3, .int y)], [.int y], XM L mi ml) rfl ?_
    by_cases h2 : y = 0
    · refine xB.tp h2 ?_
      refine xB.go 1 (52, [(0, .ref 0), (1, .int 0), (2, .int x), (3, .int y)], [], XM L mi ml) rfl ?_
      refine xB.go 5 (59, [(0, .ref 0), (1, .int 0), (2, .int x), (3, .int y)], [.int x, .ref 24], XM L mi ml) rfl ?_
      refine xB.c1 32 [.ref 24, .int x] [] (c_channelAt24 _ L mi ml x ) rfl ?_
      refine xB.rt (some (.int (sl_lv mi 25 (if mi 24 4 ≤ 64 then mi 24 4 else 64) x))) mi ml rfl ?_
      refine ⟨?_, rfl, rfl⟩
      rw [if_pos h1]
      rw [if_pos h2]; exact congrArg (fun z => some (Value.int z)) (if_pos h1)
    by_cases h3 : y = 1
    · refine xB.tp h3 ?_
      refine xB.go 1 (63, [(0, .ref 0), (1, .int 0), (2, .int x), (3, .int y)], [], XM L mi ml) rfl ?_
      refine xB.go 5 (70, [(0, .ref 0), (1, .int 0), (2, .int x), (3, .int y)], [.int x, .ref 24], XM L mi ml) rfl ?_
      refine xB.c1 33 [.ref 24, .int x] [] (c_intAt24 _ L mi ml x ) rfl ?_
      refine xB.rt (some (.int (sl_lv mi 26 (if mi 24 4 ≤ 64 then mi 24 4 else 64) x))) mi ml rfl ?_
      refine ⟨?_, rfl, rfl⟩
      rw [if_pos h1]
      rw [if_neg h2, if_pos h3]; exact congrArg (fun z => some (Value.int z)) (if_pos h1)
    refine xB.st (74, [(0, .ref 0), (1, .int 0), (2, .int x), (3, .int y)], [], XM L mi ml) (xls_d (mt := mX8_out) rfl rfl (xlk_2 (xne_toInt (k := 0) (by decide) h2) (xne_toInt (k := 1) (by decide) h3)) rfl) ?_
    refine xB.go 1 (75, [(0, .ref 0), (1, .int 0), (2, .int x), (3, .int y)], [.int 0], XM L mi ml) rfl ?_
    refine xB.rt (some (.int 0)) mi ml rfl ?_
    refine ⟨?_, rfl, rfl⟩
    rw [if_pos h1]
    rw [if_neg h2, if_neg h3]
  · refine xB.go 1 (24, [(0, .ref 0), (1, .int 0), (2, .int x), (3, .int y)], [.int 0], XM L mi ml) rfl ?_
    refine xB.rt (some (.int 0)) mi ml rfl ?_
    refine ⟨?_, rfl, rfl⟩
    rw [if_neg h1]
set_option maxRecDepth 100000 in
theorem c_memory0 (d L : Nat) (mi : xmi) (ml : xml) (x : Int32)  : xFv (d + 3) 81 [.ref 0, .int 0, .int x] L mi ml (.int (sl_lv mi 23 24 x)) mi ml := by
  refine xF.mk mX8_memory rfl rfl ?_
  refine xB.go 1 (1, [(0, .ref 0), (1, .int 0), (2, .int x)], [.int 0], XM L mi ml) rfl ?_
  refine xB.c1 85 [.int 0] [] (c_isMem0 _ L _ _) rfl ?_
  refine xB.go 6 (14, [(0, .ref 0), (1, .int 0), (2, .int x)], [.int x, .ref 22], XM L mi ml) rfl ?_
  refine xB.c1 25 [.ref 22, .int x] [] (c_mget22 _ L mi ml x ) rfl ?_
  refine xB.go 1 (21, [(0, .ref 0), (1, .int 0), (2, .int x)], [.int (sl_lv mi 23 24 x)], XM L mi ml) rfl ?_
  refine xB.rt (some (.int (sl_lv mi 23 24 x))) mi ml rfl ?_
  exact ⟨rfl, rfl, rfl⟩
theorem lay_c0 {x y v : Int32} {mi : xmi} (h1 : 0 ≤ x ∧ x < 2) : (if 0 ≤ (8 + x * 8 + (y &&& 7)) ∧ (8 + x * 8 + (y &&& 7)) < 24 then xU mi 23 (8 + x * 8 + (y &&& 7)).toNatClampNeg v else mi) = xU mi 23 (8 + 8 * x.toNatClampNeg + ix7 y) v := by
  rcases pk_ix x (show (2 : Nat) < 2 ^ 31 by decide) with z | z | ⟨t, ht, rfl⟩
  · exact absurd z (i_nlt.mpr h1.1)
  · exact absurd h1.2 (i_nlt.mpr z)
  · have := (and7_ix y).2
    rw [cell_ix ht, if_pos (rng24 (by omega)), nI_clamp (by omega), nI_clamp (by omega)]
set_option maxRecDepth 100000 in
theorem c_lay0 (d L : Nat) (mi : xmi) (ml : xml) (x y v : Int32)  : xFv (d + 3) 76 [.ref 0, .int 0, .int x, .int y, .int v] L mi ml (.int (xb ((0 ≤ x ∧ x < 2) ∧ (0 ≤ y ∧ y < 8)))) (if (0 ≤ x ∧ x < 2) ∧ (0 ≤ y ∧ y < 8) then xU mi 23 (8 + 8 * x.toNatClampNeg + ix7 y) v else mi) ml := by
  refine xF.mk mX8_lay rfl rfl ?_
  refine xB.go 1 (1, [(0, .ref 0), (1, .int 0), (2, .int x), (3, .int y), (4, .int v)], [.int 0], XM L mi ml) rfl ?_
  refine xB.c1 85 [.int 0] [] (c_isMem0 _ L _ _) rfl ?_
  refine xB.go 3 (9, [(0, .ref 0), (1, .int 0), (2, .int x), (3, .int y), (4, .int v)], [.int 2, .int x], XM L mi ml) rfl ?_
  refine xB.c1 86 [.int x, .int 2] [] (c_isBetween _ L mi ml x 2 ) rfl ?_
  refine xB.bz (0 ≤ x ∧ x < 2) (24, [(0, .ref 0), (1, .int 0), (2, .int x), (3, .int y), (4, .int v)], [], XM L mi ml) (15, [(0, .ref 0), (1, .int 0), (2, .int x), (3, .int y), (4, .int v)], [], XM L mi ml) rfl (fun h1 => ?_) (fun h1 => ?_)
  · refine xB.go 1 (25, [(0, .ref 0), (1, .int 0), (2, .int x), (3, .int y), (4, .int v)], [.int 0], XM L mi ml) rfl ?_
    refine xB.rt (some (.int 0)) mi ml rfl ?_
    have hP : ¬ ((0 ≤ x ∧ x < 2) ∧ (0 ≤ y ∧ y < 8)) := by first | exact fun z => h1 z.1 | exact fun z => h1 z.2
    exact ⟨by rw [xb_f hP], by rw [if_neg hP], rfl⟩
  · refine xB.go 2 (18, [(0, .ref 0), (1, .int 0), (2, .int x), (3, .int y), (4, .int v)], [.int 8, .int y], XM L mi ml) rfl ?_
    refine xB.c1 86 [.int y, .int 8] [] (c_isBetween _ L mi ml y 8 ) rfl ?_
    refine xB.bn (0 ≤ y ∧ y < 8) (26, [(0, .ref 0), (1, .int 0), (2, .int x), (3, .int y), (4, .int v)], [], XM L mi ml) (24, [(0, .ref 0), (1, .int 0), (2, .int x), (3, .int y), (4, .int v)], [], XM L mi ml) rfl (fun h2 => ?_) (fun h2 => ?_)
    · refine xB.go 6 (34, [(0, .ref 0), (1, .int 0), (2, .int x), (3, .int y), (4, .int v)], [.int y, .int x, .ref 22], XM L mi ml) rfl ?_
      refine xB.c1 24 [.int x, .int y] [.ref 22] (c_cellOf _ L mi ml x y ) rfl ?_
      refine xB.go 1 (39, [(0, .ref 0), (1, .int 0), (2, .int x), (3, .int y), (4, .int v)], [.int v, .int (8 + x * 8 + (y &&& 7)), .ref 22], XM L mi ml) rfl ?_
      refine xB.c0 26 [.ref 22, .int (8 + x * 8 + (y &&& 7)), .int v] [] (c_mset22 _ L mi ml (8 + x * 8 + (y &&& 7)) v ) rfl ?_
      refine xB.go 1 (43, [(0, .ref 0), (1, .int 0), (2, .int x), (3, .int y), (4, .int v)], [.int 1], XM L (if 0 ≤ (8 + x * 8 + (y &&& 7)) ∧ (8 + x * 8 + (y &&& 7)) < 24 then xU mi 23 (8 + x * 8 + (y &&& 7)).toNatClampNeg v else mi) ml) rfl ?_
      refine xB.rt (some (.int 1)) (if 0 ≤ (8 + x * 8 + (y &&& 7)) ∧ (8 + x * 8 + (y &&& 7)) < 24 then xU mi 23 (8 + x * 8 + (y &&& 7)).toNatClampNeg v else mi) ml rfl ?_
      have hP : (0 ≤ x ∧ x < 2) ∧ (0 ≤ y ∧ y < 8) := ⟨h1, h2⟩
      exact ⟨by rw [xb_t hP], by rw [if_pos hP]; exact lay_c0 hP.1, rfl⟩
    · refine xB.go 1 (25, [(0, .ref 0), (1, .int 0), (2, .int x), (3, .int y), (4, .int v)], [.int 0], XM L mi ml) rfl ?_
      refine xB.rt (some (.int 0)) mi ml rfl ?_
      have hP : ¬ ((0 ≤ x ∧ x < 2) ∧ (0 ≤ y ∧ y < 8)) := by first | exact fun z => h2 z.1 | exact fun z => h2 z.2
      exact ⟨by rw [xb_f hP], by rw [if_neg hP], rfl⟩
set_option maxRecDepth 100000 in
theorem c_let1 (d L : Nat) (mi : xmi) (ml : xml) (x y : Int32)  : xFv (d + 3) 75 [.ref 0, .int 1, .int x, .int y] L mi ml (.int (xb (0 ≤ x ∧ x < 8))) (if 0 ≤ x ∧ x < 8 then xU mi 28 x.toNatClampNeg y else mi) ml := by
  refine xF.mk mX8_let rfl rfl ?_
  refine xB.go 1 (1, [(0, .ref 0), (1, .int 1), (2, .int x), (3, .int y)], [.int 1], XM L mi ml) rfl ?_
  refine xB.c1 85 [.int 1] [] (c_isMem1 _ L _ _) rfl ?_
  refine xB.go 3 (10, [(0, .ref 0), (1, .int 1), (2, .int x), (3, .int y)], [.int 8, .int x], XM L mi ml) rfl ?_
  refine xB.c1 86 [.int x, .int 8] [] (c_isBetween _ L mi ml x 8 ) rfl ?_
  refine xB.bn (0 ≤ x ∧ x < 8) (18, [(0, .ref 0), (1, .int 1), (2, .int x), (3, .int y)], [], XM L mi ml) (16, [(0, .ref 0), (1, .int 1), (2, .int x), (3, .int y)], [], XM L mi ml) rfl (fun h1 => ?_) (fun h1 => ?_)
  · refine xB.go 6 (26, [(0, .ref 0), (1, .int 1), (2, .int x), (3, .int y)], [.int y, .int x, .ref 27], XM L mi ml) rfl ?_
    refine xB.c0 26 [.ref 27, .int x, .int y] [] (c_mset27 _ L mi ml x y ) rfl ?_
    refine xB.go 1 (30, [(0, .ref 0), (1, .int 1), (2, .int x), (3, .int y)], [.int 1], XM L (if 0 ≤ x ∧ x < 24 then xU mi 28 x.toNatClampNeg y else mi) ml) rfl ?_
    refine xB.rt (some (.int 1)) (if 0 ≤ x ∧ x < 24 then xU mi 28 x.toNatClampNeg y else mi) ml rfl ?_
    exact ⟨by rw [xb_t h1], by rw [if_pos h1, if_pos ⟨h1.1, l8_24 h1.2⟩], rfl⟩
  · refine xB.go 1 (17, [(0, .ref 0), (1, .int 1), (2, .int x), (3, .int y)], [.int 0], XM L mi ml) rfl ?_
    refine xB.rt (some (.int 0)) mi ml rfl ?_
    exact ⟨by rw [xb_f h1], by rw [if_neg h1], rfl⟩
set_option maxRecDepth 100000 in
theorem c_ran1 (d L : Nat) (mi : xmi) (ml : xml) (y : Int32) (hb2 : mi 29 2 = 0 ∨ mi 29 2 = 1) (hb3 : mi 29 3 = 0 ∨ mi 29 3 = 1) : xFv (d + 3) 78 [.ref 0, .int 1, .int y] L mi ml (.int (if mi 29 2 = 0 then -1 else if y = 0 then mi 29 3 else if y = 1 then mi 29 4 else -1)) mi ml := by
  refine xF.mk mX8_ran rfl rfl ?_
  refine xB.go 1 (1, [(0, .ref 0), (1, .int 1), (2, .int y)], [.int 1], XM L mi ml) rfl ?_
  refine xB.c1 85 [.int 1] [] (c_isMem1 _ L _ _) rfl ?_
  refine xB.go 5 (13, [(0, .ref 0), (1, .int 1), (2, .int y)], [.ref 29], XM L mi ml) rfl ?_
  refine xB.c1 28 [.ref 29] [] (c_isThere29 _ L _ _ (by rcases hb2 with z | z <;> rw [z] <;> rfl)) rfl ?_
  refine xB.bp (¬ (mi 29 2) = 0) (21, [(0, .ref 0), (1, .int 1), (2, .int y)], [], XM L mi ml) (19, [(0, .ref 0), (1, .int 1), (2, .int y)], [], XM L mi ml) rfl (fun h1 => ?_) (fun h1 => ?_)
  · refine xB.go 1 (22, [(0, .ref 0), (1, .int 1), (2, .int y)], [.int y], XM L mi ml) rfl ?_
    by_cases h2 : y = 0
    · refine xB.tp h2 ?_
      refine xB.go 1 (48, [(0, .ref 0), (1, .int 1), (2, .int y)], [], XM L mi ml) rfl ?_
      refine xB.go 4 (54, [(0, .ref 0), (1, .int 1), (2, .int y)], [.ref 29], XM L mi ml) rfl ?_
      refine xB.c1 29 [.ref 29] [] (c_isHalted29 _ L _ _ (by rcases hb3 with z | z <;> rw [z] <;> rfl)) rfl ?_
      refine xB.bp ((mi 29 3) = 0) (64, [(0, .ref 0), (1, .int 1), (2, .int y)], [], XM L mi ml) (60, [(0, .ref 0), (1, .int 1), (2, .int y)], [], XM L mi ml) rfl (fun h3 => ?_) (fun h3 => ?_)
      · refine xB.go 1 (65, [(0, .ref 0), (1, .int 1), (2, .int y)], [.int 0], XM L mi ml) rfl ?_
        refine xB.rt (some (.int 0)) mi ml rfl ?_
        refine ⟨?_, rfl, rfl⟩
        rw [if_neg h1]
        rw [if_pos h2, h3]
      · refine xB.go 2 (65, [(0, .ref 0), (1, .int 1), (2, .int y)], [.int 1], XM L mi ml) rfl ?_
        refine xB.rt (some (.int 1)) mi ml rfl ?_
        refine ⟨?_, rfl, rfl⟩
        rw [if_neg h1]
        rw [if_pos h2, hb3.resolve_left h3]
    by_cases h4 : y = 1
    · refine xB.tp h4 ?_
      refine xB.go 1 (66, [(0, .ref 0), (1, .int 1), (2, .int y)], [], XM L mi ml) rfl ?_
      refine xB.go 4 (72, [(0, .ref 0), (1, .int 1), (2, .int y)], [.ref 29], XM L mi ml) rfl ?_
      refine xB.c1 30 [.ref 29] [] (c_count29 _ L mi ml  ) rfl ?_
      refine xB.rt (some (.int (mi 29 4))) mi ml rfl ?_
      refine ⟨?_, rfl, rfl⟩
      rw [if_neg h1]
      rw [if_neg h2, if_pos h4]
    refine xB.st (76, [(0, .ref 0), (1, .int 1), (2, .int y)], [], XM L mi ml) (xls_d (mt := mX8_ran) rfl rfl (xlk_2 (xne_toInt (k := 0) (by decide) h2) (xne_toInt (k := 1) (by decide) h4)) rfl) ?_
    refine xB.go 1 (77, [(0, .ref 0), (1, .int 1), (2, .int y)], [.int (-1)], XM L mi ml) rfl ?_
    refine xB.rt (some (.int (-1))) mi ml rfl ?_
    refine ⟨?_, rfl, rfl⟩
    rw [if_neg h1]
    rw [if_neg h2, if_neg h4]
  · refine xB.go 1 (20, [(0, .ref 0), (1, .int 1), (2, .int y)], [.int (-1)], XM L mi ml) rfl ?_
    refine xB.rt (some (.int (-1))) mi ml rfl ?_
    refine ⟨?_, rfl, rfl⟩
    rw [if_pos (Classical.not_not.mp h1)]
set_option maxRecDepth 100000 in
theorem c_out1 (d L : Nat) (mi : xmi) (ml : xml) (x y : Int32)  : xFv (d + 4) 79 [.ref 0, .int 1, .int x, .int y] L mi ml (.int (if 0 ≤ x ∧ x < (if mi 29 4 ≤ 64 then mi 29 4 else 64) then (if y = 0 then mi 30 x.toNatClampNeg else if y = 1 then mi 31 x.toNatClampNeg else 0) else 0)) mi ml := by
  refine xF.mk mX8_out rfl rfl ?_
  refine xB.go 1 (1, [(0, .ref 0), (1, .int 1), (2, .int x), (3, .int y)], [.int 1], XM L mi ml) rfl ?_
  refine xB.c1 85 [.int 1] [] (c_isMem1 _ L _ _) rfl ?_
  refine xB.go 6 (14, [(0, .ref 0), (1, .int 1), (2, .int x), (3, .int y)], [.ref 29, .int x], XM L mi ml) rfl ?_
  refine xB.c1 31 [.ref 29] [.int x] (c_kept29 _ L mi ml  ) rfl ?_
  refine xB.c1 86 [.int x, .int (if mi 29 4 ≤ 64 then mi 29 4 else 64)] [] (c_isBetween _ L mi ml x (if mi 29 4 ≤ 64 then mi 29 4 else 64) ) rfl ?_
  refine xB.bn (0 ≤ x ∧ x < (if mi 29 4 ≤ 64 then mi 29 4 else 64)) (25, [(0, .ref 0), (1, .int 1), (2, .int x), (3, .int y)], [], XM L mi ml) (23, [(0, .ref 0), (1, .int 1), (2, .int x), (3, .int y)], [], XM L mi ml) rfl (fun h1 => ?_) (fun h1 => ?_)
  · refine xB.go 1 (26, [(0, .ref 0), (1, .int 1), (2, .int x), (3, .int y)], [.int y], XM L mi ml) rfl ?_
    by_cases h2 : y = 0
    · refine xB.tp h2 ?_
      refine xB.go 1 (52, [(0, .ref 0), (1, .int 1), (2, .int x), (3, .int y)], [], XM L mi ml) rfl ?_
      refine xB.go 5 (59, [(0, .ref 0), (1, .int 1), (2, .int x), (3, .int y)], [.int x, .ref 29], XM L mi ml) rfl ?_
      refine xB.c1 32 [.ref 29, .int x] [] (c_channelAt29 _ L mi ml x ) rfl ?_
      refine xB.rt (some (.int (sl_lv mi 30 (if mi 29 4 ≤ 64 then mi 29 4 else 64) x))) mi ml rfl ?_
      refine ⟨?_, rfl, rfl⟩
      rw [if_pos h1]
      rw [if_pos h2]; exact congrArg (fun z => some (Value.int z)) (if_pos h1)
    by_cases h3 : y = 1
    · refine xB.tp h3 ?_
      refine xB.go 1 (63, [(0, .ref 0), (1, .int 1), (2, .int x), (3, .int y)], [], XM L mi ml) rfl ?_
      refine xB.go 5 (70, [(0, .ref 0), (1, .int 1), (2, .int x), (3, .int y)], [.int x, .ref 29], XM L mi ml) rfl ?_
      refine xB.c1 33 [.ref 29, .int x] [] (c_intAt29 _ L mi ml x ) rfl ?_
      refine xB.rt (some (.int (sl_lv mi 31 (if mi 29 4 ≤ 64 then mi 29 4 else 64) x))) mi ml rfl ?_
      refine ⟨?_, rfl, rfl⟩
      rw [if_pos h1]
      rw [if_neg h2, if_pos h3]; exact congrArg (fun z => some (Value.int z)) (if_pos h1)
    refine xB.st (74, [(0, .ref 0), (1, .int 1), (2, .int x), (3, .int y)], [], XM L mi ml) (xls_d (mt := mX8_out) rfl rfl (xlk_2 (xne_toInt (k := 0) (by decide) h2) (xne_toInt (k := 1) (by decide) h3)) rfl) ?_
    refine xB.go 1 (75, [(0, .ref 0), (1, .int 1), (2, .int x), (3, .int y)], [.int 0], XM L mi ml) rfl ?_
    refine xB.rt (some (.int 0)) mi ml rfl ?_
    refine ⟨?_, rfl, rfl⟩
    rw [if_pos h1]
    rw [if_neg h2, if_neg h3]
  · refine xB.go 1 (24, [(0, .ref 0), (1, .int 1), (2, .int x), (3, .int y)], [.int 0], XM L mi ml) rfl ?_
    refine xB.rt (some (.int 0)) mi ml rfl ?_
    refine ⟨?_, rfl, rfl⟩
    rw [if_neg h1]
set_option maxRecDepth 100000 in
theorem c_memory1 (d L : Nat) (mi : xmi) (ml : xml) (x : Int32)  : xFv (d + 3) 81 [.ref 0, .int 1, .int x] L mi ml (.int (sl_lv mi 28 24 x)) mi ml := by
  refine xF.mk mX8_memory rfl rfl ?_
  refine xB.go 1 (1, [(0, .ref 0), (1, .int 1), (2, .int x)], [.int 1], XM L mi ml) rfl ?_
  refine xB.c1 85 [.int 1] [] (c_isMem1 _ L _ _) rfl ?_
  refine xB.go 6 (14, [(0, .ref 0), (1, .int 1), (2, .int x)], [.int x, .ref 27], XM L mi ml) rfl ?_
  refine xB.c1 25 [.ref 27, .int x] [] (c_mget27 _ L mi ml x ) rfl ?_
  refine xB.go 1 (21, [(0, .ref 0), (1, .int 1), (2, .int x)], [.int (sl_lv mi 28 24 x)], XM L mi ml) rfl ?_
  refine xB.rt (some (.int (sl_lv mi 28 24 x))) mi ml rfl ?_
  exact ⟨rfl, rfl, rfl⟩
theorem lay_c1 {x y v : Int32} {mi : xmi} (h1 : 0 ≤ x ∧ x < 2) : (if 0 ≤ (8 + x * 8 + (y &&& 7)) ∧ (8 + x * 8 + (y &&& 7)) < 24 then xU mi 28 (8 + x * 8 + (y &&& 7)).toNatClampNeg v else mi) = xU mi 28 (8 + 8 * x.toNatClampNeg + ix7 y) v := by
  rcases pk_ix x (show (2 : Nat) < 2 ^ 31 by decide) with z | z | ⟨t, ht, rfl⟩
  · exact absurd z (i_nlt.mpr h1.1)
  · exact absurd h1.2 (i_nlt.mpr z)
  · have := (and7_ix y).2
    rw [cell_ix ht, if_pos (rng24 (by omega)), nI_clamp (by omega), nI_clamp (by omega)]
set_option maxRecDepth 100000 in
theorem c_lay1 (d L : Nat) (mi : xmi) (ml : xml) (x y v : Int32)  : xFv (d + 3) 76 [.ref 0, .int 1, .int x, .int y, .int v] L mi ml (.int (xb ((0 ≤ x ∧ x < 2) ∧ (0 ≤ y ∧ y < 8)))) (if (0 ≤ x ∧ x < 2) ∧ (0 ≤ y ∧ y < 8) then xU mi 28 (8 + 8 * x.toNatClampNeg + ix7 y) v else mi) ml := by
  refine xF.mk mX8_lay rfl rfl ?_
  refine xB.go 1 (1, [(0, .ref 0), (1, .int 1), (2, .int x), (3, .int y), (4, .int v)], [.int 1], XM L mi ml) rfl ?_
  refine xB.c1 85 [.int 1] [] (c_isMem1 _ L _ _) rfl ?_
  refine xB.go 3 (9, [(0, .ref 0), (1, .int 1), (2, .int x), (3, .int y), (4, .int v)], [.int 2, .int x], XM L mi ml) rfl ?_
  refine xB.c1 86 [.int x, .int 2] [] (c_isBetween _ L mi ml x 2 ) rfl ?_
  refine xB.bz (0 ≤ x ∧ x < 2) (24, [(0, .ref 0), (1, .int 1), (2, .int x), (3, .int y), (4, .int v)], [], XM L mi ml) (15, [(0, .ref 0), (1, .int 1), (2, .int x), (3, .int y), (4, .int v)], [], XM L mi ml) rfl (fun h1 => ?_) (fun h1 => ?_)
  · refine xB.go 1 (25, [(0, .ref 0), (1, .int 1), (2, .int x), (3, .int y), (4, .int v)], [.int 0], XM L mi ml) rfl ?_
    refine xB.rt (some (.int 0)) mi ml rfl ?_
    have hP : ¬ ((0 ≤ x ∧ x < 2) ∧ (0 ≤ y ∧ y < 8)) := by first | exact fun z => h1 z.1 | exact fun z => h1 z.2
    exact ⟨by rw [xb_f hP], by rw [if_neg hP], rfl⟩
  · refine xB.go 2 (18, [(0, .ref 0), (1, .int 1), (2, .int x), (3, .int y), (4, .int v)], [.int 8, .int y], XM L mi ml) rfl ?_
    refine xB.c1 86 [.int y, .int 8] [] (c_isBetween _ L mi ml y 8 ) rfl ?_
    refine xB.bn (0 ≤ y ∧ y < 8) (26, [(0, .ref 0), (1, .int 1), (2, .int x), (3, .int y), (4, .int v)], [], XM L mi ml) (24, [(0, .ref 0), (1, .int 1), (2, .int x), (3, .int y), (4, .int v)], [], XM L mi ml) rfl (fun h2 => ?_) (fun h2 => ?_)
    · refine xB.go 6 (34, [(0, .ref 0), (1, .int 1), (2, .int x), (3, .int y), (4, .int v)], [.int y, .int x, .ref 27], XM L mi ml) rfl ?_
      refine xB.c1 24 [.int x, .int y] [.ref 27] (c_cellOf _ L mi ml x y ) rfl ?_
      refine xB.go 1 (39, [(0, .ref 0), (1, .int 1), (2, .int x), (3, .int y), (4, .int v)], [.int v, .int (8 + x * 8 + (y &&& 7)), .ref 27], XM L mi ml) rfl ?_
      refine xB.c0 26 [.ref 27, .int (8 + x * 8 + (y &&& 7)), .int v] [] (c_mset27 _ L mi ml (8 + x * 8 + (y &&& 7)) v ) rfl ?_
      refine xB.go 1 (43, [(0, .ref 0), (1, .int 1), (2, .int x), (3, .int y), (4, .int v)], [.int 1], XM L (if 0 ≤ (8 + x * 8 + (y &&& 7)) ∧ (8 + x * 8 + (y &&& 7)) < 24 then xU mi 28 (8 + x * 8 + (y &&& 7)).toNatClampNeg v else mi) ml) rfl ?_
      refine xB.rt (some (.int 1)) (if 0 ≤ (8 + x * 8 + (y &&& 7)) ∧ (8 + x * 8 + (y &&& 7)) < 24 then xU mi 28 (8 + x * 8 + (y &&& 7)).toNatClampNeg v else mi) ml rfl ?_
      have hP : (0 ≤ x ∧ x < 2) ∧ (0 ≤ y ∧ y < 8) := ⟨h1, h2⟩
      exact ⟨by rw [xb_t hP], by rw [if_pos hP]; exact lay_c1 hP.1, rfl⟩
    · refine xB.go 1 (25, [(0, .ref 0), (1, .int 1), (2, .int x), (3, .int y), (4, .int v)], [.int 0], XM L mi ml) rfl ?_
      refine xB.rt (some (.int 0)) mi ml rfl ?_
      have hP : ¬ ((0 ≤ x ∧ x < 2) ∧ (0 ≤ y ∧ y < 8)) := by first | exact fun z => h2 z.1 | exact fun z => h2 z.2
      exact ⟨by rw [xb_f hP], by rw [if_neg hP], rfl⟩
set_option maxRecDepth 100000 in
set_option maxHeartbeats 1000000 in
theorem c_letN (d L : Nat) (mi : xmi) (ml : xml) {m : Int32} (hm : ¬ (0 ≤ m ∧ m < 2)) (x0 x1 : Int32) : xFv (d + 3) 75 [.ref 0, .int m, .int x0, .int x1] L mi ml (.int 0) mi ml := by
  refine xF.mk mX8_let rfl rfl ?_
  refine xB.go 1 (1, [(0, .ref 0), (1, .int m), (2, .int x0), (3, .int x1)], [.int m], XM L mi ml) rfl ?_
  refine xB.c1 85 [.int m] [] (c_isMemN _ L _ _ hm) rfl ?_
  refine xB.go 2 (17, [(0, .ref 0), (1, .int m), (2, .int x0), (3, .int x1)], [.int 0], XM L mi ml) rfl ?_
  refine xB.rt (some (.int 0)) mi ml rfl ?_
  exact ⟨rfl, rfl, rfl⟩
set_option maxRecDepth 100000 in
set_option maxHeartbeats 1000000 in
theorem c_layN (d L : Nat) (mi : xmi) (ml : xml) {m : Int32} (hm : ¬ (0 ≤ m ∧ m < 2)) (x0 x1 x2 : Int32) : xFv (d + 3) 76 [.ref 0, .int m, .int x0, .int x1, .int x2] L mi ml (.int 0) mi ml := by
  refine xF.mk mX8_lay rfl rfl ?_
  refine xB.go 1 (1, [(0, .ref 0), (1, .int m), (2, .int x0), (3, .int x1), (4, .int x2)], [.int m], XM L mi ml) rfl ?_
  refine xB.c1 85 [.int m] [] (c_isMemN _ L _ _ hm) rfl ?_
  refine xB.go 2 (25, [(0, .ref 0), (1, .int m), (2, .int x0), (3, .int x1), (4, .int x2)], [.int 0], XM L mi ml) rfl ?_
  refine xB.rt (some (.int 0)) mi ml rfl ?_
  exact ⟨rfl, rfl, rfl⟩
set_option maxRecDepth 100000 in
set_option maxHeartbeats 1000000 in
theorem c_ranN (d L : Nat) (mi : xmi) (ml : xml) {m : Int32} (hm : ¬ (0 ≤ m ∧ m < 2)) (x0 : Int32) : xFv (d + 3) 78 [.ref 0, .int m, .int x0] L mi ml (.int (-1)) mi ml := by
  refine xF.mk mX8_ran rfl rfl ?_
  refine xB.go 1 (1, [(0, .ref 0), (1, .int m), (2, .int x0)], [.int m], XM L mi ml) rfl ?_
  refine xB.c1 85 [.int m] [] (c_isMemN _ L _ _ hm) rfl ?_
  refine xB.go 2 (20, [(0, .ref 0), (1, .int m), (2, .int x0)], [.int (-1)], XM L mi ml) rfl ?_
  refine xB.rt (some (.int (-1))) mi ml rfl ?_
  exact ⟨rfl, rfl, rfl⟩
set_option maxRecDepth 100000 in
set_option maxHeartbeats 1000000 in
theorem c_outN (d L : Nat) (mi : xmi) (ml : xml) {m : Int32} (hm : ¬ (0 ≤ m ∧ m < 2)) (x0 x1 : Int32) : xFv (d + 4) 79 [.ref 0, .int m, .int x0, .int x1] L mi ml (.int 0) mi ml := by
  refine xF.mk mX8_out rfl rfl ?_
  refine xB.go 1 (1, [(0, .ref 0), (1, .int m), (2, .int x0), (3, .int x1)], [.int m], XM L mi ml) rfl ?_
  refine xB.c1 85 [.int m] [] (c_isMemN _ L _ _ hm) rfl ?_
  refine xB.go 2 (24, [(0, .ref 0), (1, .int m), (2, .int x0), (3, .int x1)], [.int 0], XM L mi ml) rfl ?_
  refine xB.rt (some (.int 0)) mi ml rfl ?_
  exact ⟨rfl, rfl, rfl⟩
set_option maxRecDepth 100000 in
set_option maxHeartbeats 1000000 in
theorem c_memoryN (d L : Nat) (mi : xmi) (ml : xml) {m : Int32} (hm : ¬ (0 ≤ m ∧ m < 2)) (x0 : Int32) : xFv (d + 3) 81 [.ref 0, .int m, .int x0] L mi ml (.int 0) mi ml := by
  refine xF.mk mX8_memory rfl rfl ?_
  refine xB.go 1 (1, [(0, .ref 0), (1, .int m), (2, .int x0)], [.int m], XM L mi ml) rfl ?_
  refine xB.c1 85 [.int m] [] (c_isMemN _ L _ _ hm) rfl ?_
  refine xB.go 2 (21, [(0, .ref 0), (1, .int m), (2, .int x0)], [.int 0], XM L mi ml) rfl ?_
  refine xB.rt (some (.int 0)) mi ml rfl ?_
  exact ⟨rfl, rfl, rfl⟩
