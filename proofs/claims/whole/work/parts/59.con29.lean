/-! the reference: look, all of it -/
set_option maxRecDepth 100000 in
set_option maxHeartbeats 1000000 in
theorem look_23 (d L : Nat) (mi : xmi) (ml : xml) {Q : Option Value → xmi → xml → Prop} (k : xB d mX9_look L Q (43, [(0, .ref 32)], [], XM L (va_up mi 39 (sl_fill (mi 39) 0 4096)) ml)) : ∀ (f i : Nat), i ≤ 4096 → 4096 - i < f → xB d mX9_look L Q (23, [(0, .ref 32), (1, .int (nI i))], [], XM L (va_up mi 39 (sl_fill (mi 39) 0 i)) ml) := by
  intro f
  induction f with
  | zero => intro i h1 h2; omega
  | succ f ih =>
    intro i hle hlt
    refine xB.go 2 (27, [(0, .ref 32), (1, .int (nI i))], [.int 4096, .int (nI i)], XM L (va_up mi 39 (sl_fill (mi 39) 0 i)) ml) rfl ?_
    refine xB.bp (4096 ≤ (nI i)) (43, [(0, .ref 32), (1, .int (nI i))], [], XM L (va_up mi 39 (sl_fill (mi 39) 0 i)) ml) (30, [(0, .ref 32), (1, .int (nI i))], [], XM L (va_up mi 39 (sl_fill (mi 39) 0 i)) ml) rfl (fun h1 => ?_) (fun h1 => ?_)
    · have hge : 4096 ≤ i := (nI_leI (by decide) (by omega)).mp h1
      obtain rfl : i = 4096 := by omega
      refine xB.fo [(0, .ref 32)] (by simp) ?_
      exact k
    · refine xB.go 4 (36, [(0, .ref 32), (1, .int (nI i))], [.int 0, .int (nI i), .ref 39], XM L (va_up mi 39 (sl_fill (mi 39) 0 i)) ml) rfl ?_
      refine xB.ck (xin (nI i) 4096 && xz 0) (37, [(0, .ref 32), (1, .int (nI i))], [], XM L (xU (va_up mi 39 (sl_fill (mi 39) 0 i)) 39 (nI i).toNatClampNeg 0) ml) rfl (Bool.and_eq_true_iff.mpr ⟨(xin_of (j := i) ((nI_ltI (b := 4096) (by omega) (by decide)).mp (i_nle.mp h1)) (by decide) rfl), rfl⟩) ?_
      refine xB.go 2 (23, [(0, .ref 32), (1, .int ((nI i) + 1))], [], XM L (xU (va_up mi 39 (sl_fill (mi 39) 0 i)) 39 (nI i).toNatClampNeg 0) ml) rfl ?_
      have hiN : i < 4096 := (nI_ltI (by omega) (by decide)).mp (i_nle.mp h1)
      rw [nI_1, nI_clamp (by omega), sl_fill_s]
      exact ih (i + 1) (by omega) (by omega)
set_option maxRecDepth 100000 in
set_option maxHeartbeats 1000000 in
theorem look_45 (d L : Nat) (mi : xmi) (ml : xml) {Q : Option Value → xmi → xml → Prop} (k : xB d mX9_look L Q (64, [(0, .ref 32)], [], XM L (va_up mi 38 (sl_fill (mi 38) (-1) 64)) ml)) : ∀ (f i : Nat), i ≤ 64 → 64 - i < f → xB d mX9_look L Q (45, [(0, .ref 32), (1, .int (nI i))], [], XM L (va_up mi 38 (sl_fill (mi 38) (-1) i)) ml) := by
  intro f
  induction f with
  | zero => intro i h1 h2; omega
  | succ f ih =>
    intro i hle hlt
    refine xB.go 2 (48, [(0, .ref 32), (1, .int (nI i))], [.int 64, .int (nI i)], XM L (va_up mi 38 (sl_fill (mi 38) (-1) i)) ml) rfl ?_
    refine xB.bp (64 ≤ (nI i)) (64, [(0, .ref 32), (1, .int (nI i))], [], XM L (va_up mi 38 (sl_fill (mi 38) (-1) i)) ml) (51, [(0, .ref 32), (1, .int (nI i))], [], XM L (va_up mi 38 (sl_fill (mi 38) (-1) i)) ml) rfl (fun h1 => ?_) (fun h1 => ?_)
    · have hge : 64 ≤ i := (nI_leI (by decide) (by omega)).mp h1
      obtain rfl : i = 64 := by omega
      refine xB.fo [(0, .ref 32)] (by simp) ?_
      exact k
    · refine xB.go 4 (57, [(0, .ref 32), (1, .int (nI i))], [.int (-1), .int (nI i), .ref 38], XM L (va_up mi 38 (sl_fill (mi 38) (-1) i)) ml) rfl ?_
      refine xB.ck (xin (nI i) 64) (58, [(0, .ref 32), (1, .int (nI i))], [], XM L (xU (va_up mi 38 (sl_fill (mi 38) (-1) i)) 38 (nI i).toNatClampNeg (-1)) ml) rfl (xin_of (j := i) ((nI_ltI (b := 64) (by omega) (by decide)).mp (i_nle.mp h1)) (by decide) rfl) ?_
      refine xB.go 2 (45, [(0, .ref 32), (1, .int ((nI i) + 1))], [], XM L (xU (va_up mi 38 (sl_fill (mi 38) (-1) i)) 38 (nI i).toNatClampNeg (-1)) ml) rfl ?_
      have hiN : i < 64 := (nI_ltI (by omega) (by decide)).mp (i_nle.mp h1)
      rw [nI_1, nI_clamp (by omega), sl_fill_s]
      exact ih (i + 1) (by omega) (by omega)
set_option maxRecDepth 100000 in
set_option maxHeartbeats 1000000 in
theorem c_look (d L : Nat) (mi : xmi) (ml : xml) {n : Nat} {K T : Nat → Nat} {vL aL cL : Nat → Nat → Bool} (hR : RI n K T vL aL cL mi) : xF (d + 6) 108 [.ref 32] L mi ml (fun rr a b => rr = none ∧ b = ml ∧ RI n K T vL aL cL a ∧ a 32 5 = 1 ∧ FRm mi a) := by
  refine xF.mk mX9_look rfl rfl ?_
  refine xB.go 2 (4, [(0, .ref 32)], [.int (mi 32 5)], XM L mi ml) rfl ?_
  refine xB.bp ((mi 32 5) = 0) (8, [(0, .ref 32)], [], XM L mi ml) (7, [(0, .ref 32)], [], XM L mi ml) rfl (fun h1 => ?_) (fun h1 => ?_)
  · refine xB.go 5 (15, [(0, .ref 32)], [.ref 32, .ref 32], XM L (xU mi 32 5 1) ml) rfl ?_
    refine xB.ca 101 [.ref 32] [.ref 32] (c_walk _ L (xU mi 32 5 1) _ (hR.1.frame rfl rfl rfl)) rfl ?_
    intro r1 a1 b1 hq
    obtain ⟨v, rfl, hb1, f1, hS⟩ := hq
    rw [hb1]
    have hv01 := hS.bool
    show xB _ _ L _ (18, [(0, .ref 32)], [.int v, .ref 32], XM L a1 ml)
    refine xB.st (21, [(0, .ref 32)], [], XM L (xU a1 32 6 v) ml) (by rcases hv01 with z | z <;> rw [z] <;> rfl) ?_
    refine xB.go 2 (23, [(0, .ref 32), (1, .int 0)], [], XM L (xU a1 32 6 v) ml) rfl ?_
    have h05 := h1
    have h10 := hR.2.2.2.2.2.1 h05
    have hx := look_23 (d + 5) L (xU a1 32 6 v) ml (Q := (fun rr a b => rr = none ∧ b = ml ∧ RI n K T vL aL cL a ∧ a 32 5 = 1 ∧ FRm mi a)) ?_ 4097 0 (by omega) (by omega)
    · rw [sl_fill_0] at hx; exact hx
    refine xB.go 2 (45, [(0, .ref 32), (1, .int 0)], [], XM L (va_up (xU a1 32 6 v) 39 (sl_fill ((xU a1 32 6 v) 39) 0 4096)) ml) rfl ?_
    have hx := look_45 (d + 5) L (va_up (xU a1 32 6 v) 39 (sl_fill ((xU a1 32 6 v) 39) 0 4096)) ml (Q := (fun rr a b => rr = none ∧ b = ml ∧ RI n K T vL aL cL a ∧ a 32 5 = 1 ∧ FRm mi a)) ?_ 65 0 (by omega) (by omega)
    · rw [sl_fill_0] at hx; exact hx
    refine xB.go 2 (66, [(0, .ref 32), (1, .int 0)], [], XM L (va_up (va_up (xU a1 32 6 v) 39 (sl_fill ((xU a1 32 6 v) 39) 0 4096)) 38 (sl_fill ((va_up (xU a1 32 6 v) 39 (sl_fill ((xU a1 32 6 v) 39) 0 4096)) 38) (-1) 64)) ml) rfl ?_
    have hP3 : PRM (va_up (va_up (xU a1 32 6 v) 39 (sl_fill ((xU a1 32 6 v) 39) 0 4096)) 38 (sl_fill ((va_up (xU a1 32 6 v) 39 (sl_fill ((xU a1 32 6 v) 39) 0 4096)) 38) (-1) 64)) n K T := hR.1.frame (show a1 32 2 = mi 32 2 by rw [f1 32 (by decide)]; rfl) (show a1 33 = mi 33 by rw [f1 33 (by decide)]; rfl) (show a1 34 = mi 34 by rw [f1 34 (by decide)]; rfl)
    have hS3 : SHM n K T ((va_up (va_up (xU a1 32 6 v) 39 (sl_fill ((xU a1 32 6 v) 39) 0 4096)) 38 (sl_fill ((va_up (xU a1 32 6 v) 39 (sl_fill ((xU a1 32 6 v) 39) 0 4096)) 38) (-1) 64)) 32 6) (va_up (va_up (xU a1 32 6 v) 39 (sl_fill ((xU a1 32 6 v) 39) 0 4096)) 38 (sl_fill ((va_up (xU a1 32 6 v) 39 (sl_fill ((xU a1 32 6 v) 39) 0 4096)) 38) (-1) 64)) := by show SHM n K T v _; exact hS.frame rfl
    refine xR.po (look_66 d L (va_up (va_up (xU a1 32 6 v) 39 (sl_fill ((xU a1 32 6 v) 39) 0 4096)) 38 (sl_fill ((va_up (xU a1 32 6 v) 39 (sl_fill ((xU a1 32 6 v) 39) 0 4096)) 38) (-1) 64)) ml hP3 hS3 (n + 1) 0 (Nat.zero_le _) (by omega) (va_up (va_up (xU a1 32 6 v) 39 (sl_fill ((xU a1 32 6 v) 39) 0 4096)) 38 (sl_fill ((va_up (xU a1 32 6 v) 39 (sl_fill ((xU a1 32 6 v) 39) 0 4096)) 38) (-1) 64)) ⟨fun _ _ _ _ _ _ => rfl, fun p hp => absurd hp (Nat.not_lt_zero _), fun p _ hp => by rw [va_up_self]; unfold sl_fill; rw [if_pos hp]⟩) (fun r M hq => ?_)
    obtain ⟨a, b, e, h1, h2, h3, h4⟩ := hq
    have g32 : a 32 = (xU a1 32 6 v) 32 := h3 32 (by decide) (by decide) (by decide) (by decide) (by decide)
    have g5 : a 32 5 = 1 := by rw [g32]; show a1 32 5 = 1; rw [f1 32 (by decide)]; rfl
    have g6 : a 32 6 = v := by rw [g32]; rfl
    have g10 : a 32 10 = 0 := by rw [g32]; show a1 32 10 = 0; rw [f1 32 (by decide)]; exact h10
    have g37 : a 37 = a1 37 := h3 37 (by decide) (by decide) (by decide) (by decide) (by decide)
    refine ⟨a, b, e, h1, h2, ⟨hP3.frame (by rw [g32]; rfl) (h3 33 (by decide) (by decide) (by decide) (by decide) (by decide)) (h3 34 (by decide) (by decide) (by decide) (by decide) (by decide)), hR.2.1.frame ((h3 34 (by decide) (by decide) (by decide) (by decide) (by decide)).trans (f1 34 (by decide))), hR.2.2.1.frame ((h3 35 (by decide) (by decide) (by decide) (by decide) (by decide)).trans (f1 35 (by decide))), Or.inr g5, Or.inl g10, fun z => absurd (g5.symm.trans z) (by decide), fun _ => ⟨by rw [g6]; exact hS.frame g37, fun z => h4 (by rw [g6] at z; exact z)⟩, fun _ _ z => absurd (g10.symm.trans z) (by decide)⟩, g5, fun x x1 x2 x3 x4 x5 x6 x7 x8 => ?_⟩
    rw [h3 x x3 x4 x6 x7 x8, va_up_ne _ _ x3, va_up_ne _ _ x4, xU_ne x1, f1 x x2, xU_ne x1]
  · refine xB.rt none mi ml rfl ?_
    exact ⟨rfl, rfl, hR, hR.2.2.2.1.resolve_left h1, fun _ _ _ _ _ _ _ _ _ => rfl⟩
