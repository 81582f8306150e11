/-! the reference: flow -/
def byB (K : Nat → Nat) (g0 : Nat → Nat → Nat → Bool) (i h b : Nat) : Bool := decide (K i = 5) && tkG K g0 b i h
section FLP
variable {n : Nat} {K T : Nat → Nat} {rdb : Nat → Nat → Bool} {i h : Nat} {g g0 : Nat → Nat → Nat → Bool}
theorem byB_t (hw : WF n K T) (hn : n ≤ 64) (hr : Rh n K T i h) (hs0 : tSo n K T rdb (RG n K T) g0) {b : Nat} (hb2 : b < 2) (hx : tkG K g0 b i h = true) : TKN K (TY n K T (rdb b) (RG n K T)) i h :=
  ((tkG_iff (Nat.lt_of_lt_of_le (hw.1 i h hr).1 hn) hr.le16 (hw.1 i h hr).2.1).mp hx).mono (fun j k z => hs0 b j k hb2 z)
theorem flow_p1 (hw : WF n K T) (hn : n ≤ 64) (hr : Rh n K T i h) (hs0 : tSo n K T rdb (RG n K T) g0) (hs : tSo n K T rdb (RG n K T) g) {f k b : Nat} (hb2 : b < 2) (hf : Fo K T i f) (hk : k < h - tk (K i)) (hx : (g b i k || byB K g0 i h b) = true) : TY n K T (rdb b) (RG n K T) f k := by
  have h16 := hr.le16
  refine TY.mk hr (Or.inl ⟨hf, Or.inl ⟨hk, ?_⟩⟩)
  rw [Bool.or_eq_true] at hx
  rcases hx with z | z
  · exact Or.inl (hs b i k hb2 ⟨Nat.lt_of_lt_of_le (hw.1 i h hr).1 hn, by omega, z⟩)
  · unfold byB at z
    rw [Bool.and_eq_true, decide_eq_true_iff] at z
    exact Or.inr ⟨z.1, byB_t hw hn hr hs0 hb2 z.2⟩
theorem flow_p2 (hw : WF n K T) (hn : n ≤ 64) (hr : Rh n K T i h) (hs : tSo n K T rdb (RG n K T) g) {f b : Nat} (hb2 : b < 2) (hf : Fo K T i f) (hp : pt (K i) = 1) (hx : (g b i 16 || tkG K g b i h || rdb b i) = true) : TY n K T (rdb b) (RG n K T) f (h - tk (K i)) := by
  refine TY.mk hr (Or.inl ⟨hf, Or.inr ⟨hp, rfl, ?_⟩⟩)
  rw [Bool.or_eq_true, Bool.or_eq_true] at hx
  rcases hx with (z | z) | z
  · exact Or.inr (Or.inl (hs b i 16 hb2 ⟨Nat.lt_of_lt_of_le (hw.1 i h hr).1 hn, Nat.le_refl _, z⟩))
  · exact Or.inl (byB_t hw hn hr hs hb2 z)
  · exact Or.inr (Or.inr z)
theorem flow_p3 (hw : WF n K T) (hn : n ≤ 64) (hr : Rh n K T i h) (hs0 : tSo n K T rdb (RG n K T) g0) {j b : Nat} (hb2 : b < 2) (hj : RG n K T i j) (hx : byB K g0 i h b = true) : TY n K T (rdb b) (RG n K T) j 16 := by
  unfold byB at hx
  rw [Bool.and_eq_true, decide_eq_true_iff] at hx
  exact TY.mk hr (Or.inr ⟨hx.1, byB_t hw hn hr hs0 hb2 hx.2, hj, rfl⟩)
end FLP
def fD1 (K : Nat → Nat) (g0 : Nat → Nat → Nat → Bool) (i h f kk b j k : Nat) : Prop := j = f ∧ k < kk ∧ (g0 b i k || byB K g0 i h b) = true
def fD2 (K : Nat → Nat) (rdb : Nat → Nat → Bool) (g0 : Nat → Nat → Nat → Bool) (i h f b j k : Nat) : Prop := j = f ∧ k = h - tk (K i) ∧ pt (K i) = 1 ∧ (g0 b i 16 || tkG K g0 b i h || rdb b i) = true
def fD3 (n : Nat) (K T : Nat → Nat) (g0 : Nat → Nat → Nat → Bool) (i h q b j k : Nat) : Prop := k = 16 ∧ j < q ∧ RG n K T i j ∧ byB K g0 i h b = true
def fD12 (K : Nat → Nat) (rdb : Nat → Nat → Bool) (g0 : Nat → Nat → Nat → Bool) (i h f b j k : Nat) : Prop := fD1 K g0 i h f (h - tk (K i)) b j k ∨ fD2 K rdb g0 i h f b j k
theorem bi2 {b : Nat} (hb2 : b < 2) {F : Nat → Bool} : (bif Nat.beq b 0 then F 0 else F 1) = F b := by
  rcases (show b = 0 ∨ b = 1 by omega) with rfl | rfl <;> rfl
set_option maxRecDepth 100000 in
set_option maxHeartbeats 1000000 in
theorem flow_79 (d L : Nat) (mi : xmi) (ml : xml) {n : Nat} {K T : Nat → Nat} {vL aL cL : Nat → Nat → Bool} (hP : PRM mi n K T) (hN : NUMm mi n K T) (hV : LEVm mi vL aL cL) (hw : WF n K T) (hJR : JR n K T mi) {i h : Nat} (hr : Rh n K T i h) (hh : mi 37 i = nI h) {g0 : Nat → Nat → Nat → Bool} (hT0 : TG g0 mi) (hs0 : tSo n K T (rd K T vL aL) (RG n K T) g0) {f : Nat} (hfo : Fo K T i f) (D0 : Nat → Nat → Nat → Prop) (w : Int32) {Q : Option Value → xmi → xml → Prop} (kk : ∀ (m : Int32) (a : xmi), flI n K T (rd K T vL aL) (RG n K T) mi g0 (fun b j k' => D0 b j k' ∨ fD1 K g0 i h f (h - tk (K i)) b j k') m a → xB (d + 3) mX9_flow L Q (131, [(0, .ref 32), (1, .int (nI i)), (2, .int m), (3, .int (nI (h - tk (K i)))), (4, .int (lv2 (byB K g0 i h 0) (byB K g0 i h 1))), (5, .int w), (6, .int (nI f))], [], XM L a ml)) : ∀ (fu k : Nat), k ≤ h - tk (K i) → h - tk (K i) - k < fu → ∀ (m : Int32) (a : xmi), flI n K T (rd K T vL aL) (RG n K T) mi g0 (fun b j k' => D0 b j k' ∨ fD1 K g0 i h f k b j k') m a → xB (d + 3) mX9_flow L Q (79, [(0, .ref 32), (1, .int (nI i)), (2, .int m), (3, .int (nI (h - tk (K i)))), (4, .int (lv2 (byB K g0 i h 0) (byB K g0 i h 1))), (5, .int w), (6, .int (nI f)), (7, .int (nI k))], [], XM L a ml) := by
  have hn64 := hP.2.1
  have hin := (hw.1 i h hr).1
  have htk := (hw.1 i h hr).2.1
  have hg16 := (hw.1 i h hr).2.2
  have h16 := hr.le16
  have hi64 : i < 64 := by omega
  have hk := (hP.2.2.1 i hin).2
  have hf64 : f < 64 := Nat.lt_of_lt_of_le (hw.fo ⟨h, hr⟩ hfo).1 hn64
  intro fu
  induction fu with
  | zero => intro k h1 h2; omega
  | succ fu ih =>
    intro k hle hlt m a hI
    refine xB.go 2 (82, [(0, .ref 32), (1, .int (nI i)), (2, .int m), (3, .int (nI (h - tk (K i)))), (4, .int (lv2 (byB K g0 i h 0) (byB K g0 i h 1))), (5, .int w), (6, .int (nI f)), (7, .int (nI k))], [.int (nI (h - tk (K i))), .int (nI k)], XM L a ml) rfl ?_
    refine xB.bp ((nI (h - tk (K i))) ≤ (nI k)) (131, [(0, .ref 32), (1, .int (nI i)), (2, .int m), (3, .int (nI (h - tk (K i)))), (4, .int (lv2 (byB K g0 i h 0) (byB K g0 i h 1))), (5, .int w), (6, .int (nI f)), (7, .int (nI k))], [], XM L a ml) (85, [(0, .ref 32), (1, .int (nI i)), (2, .int m), (3, .int (nI (h - tk (K i)))), (4, .int (lv2 (byB K g0 i h 0) (byB K g0 i h 1))), (5, .int w), (6, .int (nI f)), (7, .int (nI k))], [], XM L a ml) rfl (fun h1 => ?_) (fun h1 => ?_)
    · have hge : h - tk (K i) ≤ k := (nI_leI (by omega) (by omega)).mp h1
      have hke : k = h - tk (K i) := by omega
      rw [hke] at hI
      refine xB.fo [(0, .ref 32), (1, .int (nI i)), (2, .int m), (3, .int (nI (h - tk (K i)))), (4, .int (lv2 (byB K g0 i h 0) (byB K g0 i h 1))), (5, .int w), (6, .int (nI f))] (by simp) ?_
      exact kk m a hI
    · have hkr : k < h - tk (K i) := (nI_ltI (by omega) (by omega)).mp (i_nle.mp h1)
      obtain ⟨g, hTg, hsg, hgg, hmg⟩ := flI.g hT0 hs0 hI
      have hPa : PRM a n K T := hP.frame (by rw [hI.1 32 (by decide)]) (hI.1 33 (by decide)) (hI.1 34 (by decide))
      have hha : a 37 i = nI h := by rw [hI.1 37 (by decide)]; exact hh
      refine xB.go 4 (91, [(0, .ref 32), (1, .int (nI i)), (2, .int m), (3, .int (nI (h - tk (K i)))), (4, .int (lv2 (byB K g0 i h 0) (byB K g0 i h 1))), (5, .int w), (6, .int (nI f)), (7, .int (nI k))], [.int (nI k), .int (nI f), .ref 32, .ref 32], XM L a ml) rfl ?_
      refine xB.c1 109 [.ref 32, .int (nI f), .int (nI k)] [.ref 32] (c_pileN _ L _ _ (i := f) (k := k) (by omega) (by omega)) rfl ?_
      refine xB.go 5 (102, [(0, .ref 32), (1, .int (nI i)), (2, .int m), (3, .int (nI (h - tk (K i)))), (4, .int (lv2 (byB K g0 i h 0) (byB K g0 i h 1))), (5, .int w), (6, .int (nI f)), (7, .int (nI k))], [.int (nI k), .int (nI i), .ref 32, .ref 40, .int (nI (64 + (16 * f + k))), .ref 32], XM L a ml) rfl ?_
      refine xB.c1 109 [.ref 32, .int (nI i), .int (nI k)] [.ref 40, .int (nI (64 + (16 * f + k))), .ref 32] (c_pileN _ L _ _ (i := i) (k := k) (by omega) (by omega)) rfl ?_
      refine xB.ck (xin (nI (64 + (16 * i + k))) 1088) (106, [(0, .ref 32), (1, .int (nI i)), (2, .int m), (3, .int (nI (h - tk (K i)))), (4, .int (lv2 (byB K g0 i h 0) (byB K g0 i h 1))), (5, .int w), (6, .int (nI f)), (7, .int (nI k))], [.int (a 40 (nI (64 + (16 * i + k))).toNatClampNeg), .int (nI (64 + (16 * f + k))), .ref 32], XM L a ml) rfl (xin_of (j := 64 + (16 * i + k)) (by omega) (by decide) rfl) ?_
      refine xB.go 2 (109, [(0, .ref 32), (1, .int (nI i)), (2, .int m), (3, .int (nI (h - tk (K i)))), (4, .int (lv2 (byB K g0 i h 0) (byB K g0 i h 1))), (5, .int w), (6, .int (nI f)), (7, .int (nI k))], [.int ((a 40 (nI (64 + (16 * i + k))).toNatClampNeg) ||| (lv2 (byB K g0 i h 0) (byB K g0 i h 1))), .int (nI (64 + (16 * f + k))), .ref 32], XM L a ml) rfl ?_
      refine xB.cg (109, [(0, .ref 32), (1, .int (nI i)), (2, .int m), (3, .int (nI (h - tk (K i)))), (4, .int (lv2 (byB K g0 i h 0) (byB K g0 i h 1))), (5, .int w), (6, .int (nI f)), (7, .int (nI k))], [.int (lv2 (g 0 i k || byB K g0 i h 0) (g 1 i k || byB K g0 i h 1)), .int (nI (64 + (16 * f + k))), .ref 32], XM L a ml) (by rw [nI_clamp (by omega), hTg.p hi64 (by omega), lv2_or]) ?_
      refine xB.c1 110 [.ref 32, .int (nI (64 + (16 * f + k))), .int (lv2 (g 0 i k || byB K g0 i h 0) (g 1 i k || byB K g0 i h 1))] [] (c_grows _ L a _ (t := 64 + (16 * f + k)) (by omega) (lv2 (g 0 i k || byB K g0 i h 0) (g 1 i k || byB K g0 i h 1))) rfl ?_
      refine xB.bn (¬ (a 40 (64 + (16 * f + k)) ||| (lv2 (g 0 i k || byB K g0 i h 0) (g 1 i k || byB K g0 i h 1))) = a 40 (64 + (16 * f + k))) (119, [(0, .ref 32), (1, .int (nI i)), (2, .int m), (3, .int (nI (h - tk (K i)))), (4, .int (lv2 (byB K g0 i h 0) (byB K g0 i h 1))), (5, .int w), (6, .int (nI f)), (7, .int (nI k))], [], XM L (xU a 40 (64 + (16 * f + k)) ((a 40 (64 + (16 * f + k))) ||| (lv2 (g 0 i k || byB K g0 i h 0) (g 1 i k || byB K g0 i h 1)))) ml) (115, [(0, .ref 32), (1, .int (nI i)), (2, .int m), (3, .int (nI (h - tk (K i)))), (4, .int (lv2 (byB K g0 i h 0) (byB K g0 i h 1))), (5, .int w), (6, .int (nI f)), (7, .int (nI k))], [], XM L (xU a 40 (64 + (16 * f + k)) ((a 40 (64 + (16 * f + k))) ||| (lv2 (g 0 i k || byB K g0 i h 0) (g 1 i k || byB K g0 i h 1)))) ml) rfl (fun h2 => ?_) (fun h2 => ?_)
      · refine xB.go 5 (79, [(0, .ref 32), (1, .int (nI i)), (2, .int 1), (3, .int (nI (h - tk (K i)))), (4, .int (lv2 (byB K g0 i h 0) (byB K g0 i h 1))), (5, .int w), (6, .int (nI f)), (7, .int ((nI k) + 1))], [], XM L (xU a 40 (64 + (16 * f + k)) ((a 40 (64 + (16 * f + k))) ||| (lv2 (g 0 i k || byB K g0 i h 0) (g 1 i k || byB K g0 i h 1)))) ml) rfl ?_
        rw [nI_1]
        exact ih (k + 1) (by omega) (by omega) 1 _ (hI.grow1 hTg hsg hmg hf64 (k := k) (by omega) (fun z => flow_p1 hw hn64 hr hs0 hsg (by decide) hfo hkr z) (fun z => flow_p1 hw hn64 hr hs0 hsg (by decide) hfo hkr z) rfl (tix_lt (by omega)).symm h2)
      · refine xB.go 1 (116, [(0, .ref 32), (1, .int (nI i)), (2, .int m), (3, .int (nI (h - tk (K i)))), (4, .int (lv2 (byB K g0 i h 0) (byB K g0 i h 1))), (5, .int w), (6, .int (nI f)), (7, .int (nI k))], [.int m], XM L (xU a 40 (64 + (16 * f + k)) ((a 40 (64 + (16 * f + k))) ||| (lv2 (g 0 i k || byB K g0 i h 0) (g 1 i k || byB K g0 i h 1)))) ml) rfl ?_
        refine xB.bp (m = 0) (123, [(0, .ref 32), (1, .int (nI i)), (2, .int m), (3, .int (nI (h - tk (K i)))), (4, .int (lv2 (byB K g0 i h 0) (byB K g0 i h 1))), (5, .int w), (6, .int (nI f)), (7, .int (nI k))], [], XM L (xU a 40 (64 + (16 * f + k)) ((a 40 (64 + (16 * f + k))) ||| (lv2 (g 0 i k || byB K g0 i h 0) (g 1 i k || byB K g0 i h 1)))) ml) (119, [(0, .ref 32), (1, .int (nI i)), (2, .int m), (3, .int (nI (h - tk (K i)))), (4, .int (lv2 (byB K g0 i h 0) (byB K g0 i h 1))), (5, .int w), (6, .int (nI f)), (7, .int (nI k))], [], XM L (xU a 40 (64 + (16 * f + k)) ((a 40 (64 + (16 * f + k))) ||| (lv2 (g 0 i k || byB K g0 i h 0) (g 1 i k || byB K g0 i h 1)))) ml) rfl (fun h3 => ?_) (fun h3 => ?_)
        · refine xB.go 4 (79, [(0, .ref 32), (1, .int (nI i)), (2, .int 0), (3, .int (nI (h - tk (K i)))), (4, .int (lv2 (byB K g0 i h 0) (byB K g0 i h 1))), (5, .int w), (6, .int (nI f)), (7, .int ((nI k) + 1))], [], XM L (xU a 40 (64 + (16 * f + k)) ((a 40 (64 + (16 * f + k))) ||| (lv2 (g 0 i k || byB K g0 i h 0) (g 1 i k || byB K g0 i h 1)))) ml) rfl ?_
          rw [nI_1]
          have hDx : m = 0 → ∀ b j k', b < 2 → j < 64 → k' ≤ 16 → (fun b j k' => D0 b j k' ∨ fD1 K g0 i h f (k + 1) b j k') b j k' → (fun b j k' => D0 b j k' ∨ fD1 K g0 i h f k b j k') b j k' ∨ (j = f ∧ k' = k ∧ (bif Nat.beq b 0 then (g 0 i k || byB K g0 i h 0) else (g 1 i k || byB K g0 i h 1)) = true) := fun mz b j k' hb2 _ _ hx => by
            rcases hx with hx | ⟨x1, x2, x3⟩
            · exact Or.inl (Or.inl hx)
            · by_cases e2 : k' = k
              · right; subst e2; refine ⟨x1, rfl, ?_⟩
                rw [(hgg mz).2]; exact (bi2 hb2 (F := fun b => g0 b i k' || byB K g0 i h b)).trans x3
              · exact Or.inl (Or.inr ⟨x1, by omega, x3⟩)
          obtain ⟨e, hI2⟩ := hI.grow2 hTg (fun z => (hgg z).2) hf64 (k := k) (by omega) rfl (tix_lt (by omega)).symm (Classical.not_not.mp h2) hDx
          rw [e]
          rw [show m = 0 from h3] at hI2
          exact ih (k + 1) (by omega) (by omega) 0 a hI2
        · refine xB.go 5 (79, [(0, .ref 32), (1, .int (nI i)), (2, .int 1), (3, .int (nI (h - tk (K i)))), (4, .int (lv2 (byB K g0 i h 0) (byB K g0 i h 1))), (5, .int w), (6, .int (nI f)), (7, .int ((nI k) + 1))], [], XM L (xU a 40 (64 + (16 * f + k)) ((a 40 (64 + (16 * f + k))) ||| (lv2 (g 0 i k || byB K g0 i h 0) (g 1 i k || byB K g0 i h 1)))) ml) rfl ?_
          rw [nI_1]
          have hDx : m = 0 → ∀ b j k', b < 2 → j < 64 → k' ≤ 16 → (fun b j k' => D0 b j k' ∨ fD1 K g0 i h f (k + 1) b j k') b j k' → (fun b j k' => D0 b j k' ∨ fD1 K g0 i h f k b j k') b j k' ∨ (j = f ∧ k' = k ∧ (bif Nat.beq b 0 then (g 0 i k || byB K g0 i h 0) else (g 1 i k || byB K g0 i h 1)) = true) := fun mz b j k' hb2 _ _ hx => by
            rcases hx with hx | ⟨x1, x2, x3⟩
            · exact Or.inl (Or.inl hx)
            · by_cases e2 : k' = k
              · right; subst e2; refine ⟨x1, rfl, ?_⟩
                rw [(hgg mz).2]; exact (bi2 hb2 (F := fun b => g0 b i k' || byB K g0 i h b)).trans x3
              · exact Or.inl (Or.inr ⟨x1, by omega, x3⟩)
          obtain ⟨e, hI2⟩ := hI.grow2 hTg (fun z => (hgg z).2) hf64 (k := k) (by omega) rfl (tix_lt (by omega)).symm (Classical.not_not.mp h2) hDx
          rw [e]
          rw [hI2.bool.resolve_left (by first | exact h3 | exact fun z => h3 z)] at hI2
          exact ih (k + 1) (by omega) (by omega) 1 a hI2
set_option maxRecDepth 100000 in
set_option maxHeartbeats 1000000 in
theorem flow_131 (d L : Nat) (mi : xmi) (ml : xml) {n : Nat} {K T : Nat → Nat} {vL aL cL : Nat → Nat → Bool} (hP : PRM mi n K T) (hN : NUMm mi n K T) (hV : LEVm mi vL aL cL) (hw : WF n K T) (hJR : JR n K T mi) {i h : Nat} (hr : Rh n K T i h) (hh : mi 37 i = nI h) {g0 : Nat → Nat → Nat → Bool} (hT0 : TG g0 mi) (hs0 : tSo n K T (rd K T vL aL) (RG n K T) g0) {f : Nat} (hfo : Fo K T i f) (D0 : Nat → Nat → Nat → Prop) (w : Int32) {Q : Option Value → xmi → xml → Prop} (kk : ∀ (m : Int32) (a : xmi), flI n K T (rd K T vL aL) (RG n K T) mi g0 (fun b j k' => D0 b j k' ∨ fD12 K (rd K T vL aL) g0 i h f b j k') m a → xB (d + 3) mX9_flow L Q (168, [(0, .ref 32), (1, .int (nI i)), (2, .int m), (3, .int (nI (h - tk (K i)))), (4, .int (lv2 (byB K g0 i h 0) (byB K g0 i h 1))), (5, .int w)], [], XM L a ml)) (m : Int32) (a : xmi) (hI : flI n K T (rd K T vL aL) (RG n K T) mi g0 (fun b j k' => D0 b j k' ∨ fD1 K g0 i h f (h - tk (K i)) b j k') m a) : xB (d + 3) mX9_flow L Q (131, [(0, .ref 32), (1, .int (nI i)), (2, .int m), (3, .int (nI (h - tk (K i)))), (4, .int (lv2 (byB K g0 i h 0) (byB K g0 i h 1))), (5, .int w), (6, .int (nI f))], [], XM L a ml) := by
  have hn64 := hP.2.1
  have hin := (hw.1 i h hr).1
  have htk := (hw.1 i h hr).2.1
  have hg16 := (hw.1 i h hr).2.2
  have h16 := hr.le16
  have hi64 : i < 64 := by omega
  have hk := (hP.2.2.1 i hin).2
  have hf64 : f < 64 := Nat.lt_of_lt_of_le (hw.fo ⟨h, hr⟩ hfo).1 hn64
  obtain ⟨g, hTg, hsg, hgg, hmg⟩ := flI.g hT0 hs0 hI
  have hPa : PRM a n K T := hP.frame (by rw [hI.1 32 (by decide)]) (hI.1 33 (by decide)) (hI.1 34 (by decide))
  have hha : a 37 i = nI h := by rw [hI.1 37 (by decide)]; exact hh
  refine xB.go 2 (133, [(0, .ref 32), (1, .int (nI i)), (2, .int m), (3, .int (nI (h - tk (K i)))), (4, .int (lv2 (byB K g0 i h 0) (byB K g0 i h 1))), (5, .int w), (6, .int (nI f))], [.int (nI i), .ref 32], XM L a ml) rfl ?_
  refine xB.c1 98 [.ref 32, .int (nI i)] [] (c_mgives _ L _ _ hPa hin) rfl ?_
  refine xB.bp ((nI (pt (K i))) = 0) (168, [(0, .ref 32), (1, .int (nI i)), (2, .int m), (3, .int (nI (h - tk (K i)))), (4, .int (lv2 (byB K g0 i h 0) (byB K g0 i h 1))), (5, .int w), (6, .int (nI f))], [], XM L a ml) (139, [(0, .ref 32), (1, .int (nI i)), (2, .int m), (3, .int (nI (h - tk (K i)))), (4, .int (lv2 (byB K g0 i h 0) (byB K g0 i h 1))), (5, .int w), (6, .int (nI f))], [], XM L a ml) rfl (fun h1 => ?_) (fun h1 => ?_)
  · refine xB.fo [(0, .ref 32), (1, .int (nI i)), (2, .int m), (3, .int (nI (h - tk (K i)))), (4, .int (lv2 (byB K g0 i h 0) (byB K g0 i h 1))), (5, .int w)] (by simp) ?_
    refine kk m a (hI.cg (fun b j k' _ _ _ hx => ?_))
    rcases hx with hx | hx | hx
    · exact Or.inl hx
    · exact Or.inr hx
    · have hp0 := hx.2.2.1; rw [pt_0 hk h1] at hp0; cases hp0
  · have hp1 := pt_1 hk h1
    refine xB.go 4 (144, [(0, .ref 32), (1, .int (nI i)), (2, .int m), (3, .int (nI (h - tk (K i)))), (4, .int (lv2 (byB K g0 i h 0) (byB K g0 i h 1))), (5, .int w), (6, .int (nI f))], [.int (nI (h - tk (K i))), .int (nI f), .ref 32, .ref 32], XM L a ml) rfl ?_
    refine xB.c1 109 [.ref 32, .int (nI f), .int (nI (h - tk (K i)))] [.ref 32] (c_pileN _ L _ _ (i := f) (k := h - tk (K i)) (by omega) (by omega)) rfl ?_
    refine xB.go 2 (149, [(0, .ref 32), (1, .int (nI i)), (2, .int m), (3, .int (nI (h - tk (K i)))), (4, .int (lv2 (byB K g0 i h 0) (byB K g0 i h 1))), (5, .int w), (6, .int (nI f))], [.int (nI i), .ref 32, .int (nI (64 + (16 * f + (h - tk (K i))))), .ref 32], XM L a ml) rfl ?_
    refine xB.c1 112 [.ref 32, .int (nI i)] [.int (nI (64 + (16 * f + (h - tk (K i))))), .ref 32] (c_mput _ L _ _ hPa hin hha h16 htk hTg (hN.frame (hI.1 34 (by decide))) (hV.frame (hI.1 35 (by decide)))) rfl ?_
    refine xB.c1 110 [.ref 32, .int (nI (64 + (16 * f + (h - tk (K i))))), .int (lv2 (g 0 i 16 || tkG K g 0 i h || rd K T vL aL 0 i) (g 1 i 16 || tkG K g 1 i h || rd K T vL aL 1 i))] [] (c_grows _ L a _ (t := 64 + (16 * f + (h - tk (K i)))) (by omega) (lv2 (g 0 i 16 || tkG K g 0 i h || rd K T vL aL 0 i) (g 1 i 16 || tkG K g 1 i h || rd K T vL aL 1 i))) rfl ?_
    refine xB.bn (¬ (a 40 (64 + (16 * f + (h - tk (K i)))) ||| (lv2 (g 0 i 16 || tkG K g 0 i h || rd K T vL aL 0 i) (g 1 i 16 || tkG K g 1 i h || rd K T vL aL 1 i))) = a 40 (64 + (16 * f + (h - tk (K i))))) (162, [(0, .ref 32), (1, .int (nI i)), (2, .int m), (3, .int (nI (h - tk (K i)))), (4, .int (lv2 (byB K g0 i h 0) (byB K g0 i h 1))), (5, .int w), (6, .int (nI f))], [], XM L (xU a 40 (64 + (16 * f + (h - tk (K i)))) ((a 40 (64 + (16 * f + (h - tk (K i))))) ||| (lv2 (g 0 i 16 || tkG K g 0 i h || rd K T vL aL 0 i) (g 1 i 16 || tkG K g 1 i h || rd K T vL aL 1 i)))) ml) (158, [(0, .ref 32), (1, .int (nI i)), (2, .int m), (3, .int (nI (h - tk (K i)))), (4, .int (lv2 (byB K g0 i h 0) (byB K g0 i h 1))), (5, .int w), (6, .int (nI f))], [], XM L (xU a 40 (64 + (16 * f + (h - tk (K i)))) ((a 40 (64 + (16 * f + (h - tk (K i))))) ||| (lv2 (g 0 i 16 || tkG K g 0 i h || rd K T vL aL 0 i) (g 1 i 16 || tkG K g 1 i h || rd K T vL aL 1 i)))) ml) rfl (fun h2 => ?_) (fun h2 => ?_)
    · refine xB.go 3 (168, [(0, .ref 32), (1, .int (nI i)), (2, .int 1), (3, .int (nI (h - tk (K i)))), (4, .int (lv2 (byB K g0 i h 0) (byB K g0 i h 1))), (5, .int w), (6, .int (nI f))], [], XM L (xU a 40 (64 + (16 * f + (h - tk (K i)))) ((a 40 (64 + (16 * f + (h - tk (K i))))) ||| (lv2 (g 0 i 16 || tkG K g 0 i h || rd K T vL aL 0 i) (g 1 i 16 || tkG K g 1 i h || rd K T vL aL 1 i)))) ml) rfl ?_
      refine xB.fo [(0, .ref 32), (1, .int (nI i)), (2, .int 1), (3, .int (nI (h - tk (K i)))), (4, .int (lv2 (byB K g0 i h 0) (byB K g0 i h 1))), (5, .int w)] (by simp) ?_
      exact kk 1 _ (hI.grow1 hTg hsg hmg hf64 (k := h - tk (K i)) (by omega) (fun z => flow_p2 hw hn64 hr hsg (by decide) hfo hp1 z) (fun z => flow_p2 hw hn64 hr hsg (by decide) hfo hp1 z) rfl (tix_lt (by omega)).symm h2)
    · refine xB.go 1 (159, [(0, .ref 32), (1, .int (nI i)), (2, .int m), (3, .int (nI (h - tk (K i)))), (4, .int (lv2 (byB K g0 i h 0) (byB K g0 i h 1))), (5, .int w), (6, .int (nI f))], [.int m], XM L (xU a 40 (64 + (16 * f + (h - tk (K i)))) ((a 40 (64 + (16 * f + (h - tk (K i))))) ||| (lv2 (g 0 i 16 || tkG K g 0 i h || rd K T vL aL 0 i) (g 1 i 16 || tkG K g 1 i h || rd K T vL aL 1 i)))) ml) rfl ?_
      refine xB.bp (m = 0) (166, [(0, .ref 32), (1, .int (nI i)), (2, .int m), (3, .int (nI (h - tk (K i)))), (4, .int (lv2 (byB K g0 i h 0) (byB K g0 i h 1))), (5, .int w), (6, .int (nI f))], [], XM L (xU a 40 (64 + (16 * f + (h - tk (K i)))) ((a 40 (64 + (16 * f + (h - tk (K i))))) ||| (lv2 (g 0 i 16 || tkG K g 0 i h || rd K T vL aL 0 i) (g 1 i 16 || tkG K g 1 i h || rd K T vL aL 1 i)))) ml) (162, [(0, .ref 32), (1, .int (nI i)), (2, .int m), (3, .int (nI (h - tk (K i)))), (4, .int (lv2 (byB K g0 i h 0) (byB K g0 i h 1))), (5, .int w), (6, .int (nI f))], [], XM L (xU a 40 (64 + (16 * f + (h - tk (K i)))) ((a 40 (64 + (16 * f + (h - tk (K i))))) ||| (lv2 (g 0 i 16 || tkG K g 0 i h || rd K T vL aL 0 i) (g 1 i 16 || tkG K g 1 i h || rd K T vL aL 1 i)))) ml) rfl (fun h3 => ?_) (fun h3 => ?_)
      · refine xB.go 2 (168, [(0, .ref 32), (1, .int (nI i)), (2, .int 0), (3, .int (nI (h - tk (K i)))), (4, .int (lv2 (byB K g0 i h 0) (byB K g0 i h 1))), (5, .int w), (6, .int (nI f))], [], XM L (xU a 40 (64 + (16 * f + (h - tk (K i)))) ((a 40 (64 + (16 * f + (h - tk (K i))))) ||| (lv2 (g 0 i 16 || tkG K g 0 i h || rd K T vL aL 0 i) (g 1 i 16 || tkG K g 1 i h || rd K T vL aL 1 i)))) ml) rfl ?_
        refine xB.fo [(0, .ref 32), (1, .int (nI i)), (2, .int 0), (3, .int (nI (h - tk (K i)))), (4, .int (lv2 (byB K g0 i h 0) (byB K g0 i h 1))), (5, .int w)] (by simp) ?_
        have hDx : m = 0 → ∀ b j k', b < 2 → j < 64 → k' ≤ 16 → (fun b j k' => D0 b j k' ∨ fD12 K (rd K T vL aL) g0 i h f b j k') b j k' → (fun b j k' => D0 b j k' ∨ fD1 K g0 i h f (h - tk (K i)) b j k') b j k' ∨ (j = f ∧ k' = h - tk (K i) ∧ (bif Nat.beq b 0 then (g 0 i 16 || tkG K g 0 i h || rd K T vL aL 0 i) else (g 1 i 16 || tkG K g 1 i h || rd K T vL aL 1 i)) = true) := fun mz b j k' hb2 _ _ hx => by
          rcases hx with hx | hx | ⟨x1, x2, x3, x4⟩
          · exact Or.inl (Or.inl hx)
          · exact Or.inl (Or.inr hx)
          · right; refine ⟨x1, x2, ?_⟩
            rw [(hgg mz).2]; exact (bi2 hb2 (F := fun b => g0 b i 16 || tkG K g0 b i h || rd K T vL aL b i)).trans x4
        obtain ⟨e, hI2⟩ := hI.grow2 hTg (fun z => (hgg z).2) hf64 (k := h - tk (K i)) (by omega) rfl (tix_lt (by omega)).symm (Classical.not_not.mp h2) hDx
        rw [e]
        rw [show m = 0 from h3] at hI2
        exact kk 0 a hI2
      · refine xB.go 3 (168, [(0, .ref 32), (1, .int (nI i)), (2, .int 1), (3, .int (nI (h - tk (K i)))), (4, .int (lv2 (byB K g0 i h 0) (byB K g0 i h 1))), (5, .int w), (6, .int (nI f))], [], XM L (xU a 40 (64 + (16 * f + (h - tk (K i)))) ((a 40 (64 + (16 * f + (h - tk (K i))))) ||| (lv2 (g 0 i 16 || tkG K g 0 i h || rd K T vL aL 0 i) (g 1 i 16 || tkG K g 1 i h || rd K T vL aL 1 i)))) ml) rfl ?_
        refine xB.fo [(0, .ref 32), (1, .int (nI i)), (2, .int 1), (3, .int (nI (h - tk (K i)))), (4, .int (lv2 (byB K g0 i h 0) (byB K g0 i h 1))), (5, .int w)] (by simp) ?_
        have hDx : m = 0 → ∀ b j k', b < 2 → j < 64 → k' ≤ 16 → (fun b j k' => D0 b j k' ∨ fD12 K (rd K T vL aL) g0 i h f b j k') b j k' → (fun b j k' => D0 b j k' ∨ fD1 K g0 i h f (h - tk (K i)) b j k') b j k' ∨ (j = f ∧ k' = h - tk (K i) ∧ (bif Nat.beq b 0 then (g 0 i 16 || tkG K g 0 i h || rd K T vL aL 0 i) else (g 1 i 16 || tkG K g 1 i h || rd K T vL aL 1 i)) = true) := fun mz b j k' hb2 _ _ hx => by
          rcases hx with hx | hx | ⟨x1, x2, x3, x4⟩
          · exact Or.inl (Or.inl hx)
          · exact Or.inl (Or.inr hx)
          · right; refine ⟨x1, x2, ?_⟩
            rw [(hgg mz).2]; exact (bi2 hb2 (F := fun b => g0 b i 16 || tkG K g0 b i h || rd K T vL aL b i)).trans x4
        obtain ⟨e, hI2⟩ := hI.grow2 hTg (fun z => (hgg z).2) hf64 (k := h - tk (K i)) (by omega) rfl (tix_lt (by omega)).symm (Classical.not_not.mp h2) hDx
        rw [e]
        rw [hI2.bool.resolve_left (by first | exact h3 | exact fun z => h3 z)] at hI2
        exact kk 1 a hI2
