/-! the reference: flow, type -/
theorem by_le0 : ∀ p q : Bool, lv2 p q ≤ 0 → p = false ∧ q = false := by decide +kernel
theorem by_gt0 : ∀ p q : Bool, ¬ lv2 p q ≤ 0 → p = true ∨ q = true := by decide +kernel
set_option maxRecDepth 100000 in
set_option maxHeartbeats 1000000 in
theorem flow_177 (d L : Nat) (mi : xmi) (ml : xml) {n : Nat} {K T : Nat → Nat} {vL aL cL : Nat → Nat → Bool} (hP : PRM mi n K T) (hN : NUMm mi n K T) (hV : LEVm mi vL aL cL) (hw : WF n K T) (hJR : JR n K T mi) {i h : Nat} (hr : Rh n K T i h) (hh : mi 37 i = nI h) {g0 : Nat → Nat → Nat → Bool} (hT0 : TG g0 mi) (hs0 : tSo n K T (rd K T vL aL) (RG n K T) g0) (D0 : Nat → Nat → Nat → Prop) : ∀ (fu q : Nat), q ≤ n → n - q < fu → ∀ (m : Int32) (a : xmi), flI n K T (rd K T vL aL) (RG n K T) mi g0 (fun b j k' => D0 b j k' ∨ fD3 n K T g0 i h q b j k') m a → xB (d + 3) mX9_flow L (fun rr a b => ∃ m, rr = some (.int m) ∧ b = ml ∧ flI n K T (rd K T vL aL) (RG n K T) mi g0 (fun b j k' => D0 b j k' ∨ fD3 n K T g0 i h n b j k') m a) (177, [(0, .ref 32), (1, .int (nI i)), (2, .int m), (3, .int (nI (h - tk (K i)))), (4, .int (lv2 (byB K g0 i h 0) (byB K g0 i h 1))), (5, .int (nI q))], [], XM L a ml) := by
  have hn64 := hP.2.1
  have hin := (hw.1 i h hr).1
  have htk := (hw.1 i h hr).2.1
  have hg16 := (hw.1 i h hr).2.2
  have h16 := hr.le16
  have hi64 : i < 64 := by omega
  have hk := (hP.2.2.1 i hin).2
  intro fu
  induction fu with
  | zero => intro q h1 h2; omega
  | succ fu ih =>
    intro q hle hlt m a hI
    refine xB.go 3 (183, [(0, .ref 32), (1, .int (nI i)), (2, .int m), (3, .int (nI (h - tk (K i)))), (4, .int (lv2 (byB K g0 i h 0) (byB K g0 i h 1))), (5, .int (nI q))], [.int (a 32 2), .int (nI q)], XM L a ml) rfl ?_
    refine xB.cg (183, [(0, .ref 32), (1, .int (nI i)), (2, .int m), (3, .int (nI (h - tk (K i)))), (4, .int (lv2 (byB K g0 i h 0) (byB K g0 i h 1))), (5, .int (nI q))], [.int (nI n), .int (nI q)], XM L a ml) (by rw [hI.1 32 (by decide), hP.1]) ?_
    refine xB.bp ((nI n) ≤ (nI q)) (233, [(0, .ref 32), (1, .int (nI i)), (2, .int m), (3, .int (nI (h - tk (K i)))), (4, .int (lv2 (byB K g0 i h 0) (byB K g0 i h 1))), (5, .int (nI q))], [], XM L a ml) (186, [(0, .ref 32), (1, .int (nI i)), (2, .int m), (3, .int (nI (h - tk (K i)))), (4, .int (lv2 (byB K g0 i h 0) (byB K g0 i h 1))), (5, .int (nI q))], [], XM L a ml) rfl (fun h1 => ?_) (fun h1 => ?_)
    · refine xB.go 1 (234, [(0, .ref 32), (1, .int (nI i)), (2, .int m), (3, .int (nI (h - tk (K i)))), (4, .int (lv2 (byB K g0 i h 0) (byB K g0 i h 1))), (5, .int (nI q))], [.int m], XM L a ml) rfl ?_
      refine xB.rz m a ml rfl (by rcases hI.bool with z | z <;> rw [z] <;> rfl) ?_
      have hge : n ≤ q := (nI_leI (by omega) (by omega)).mp h1
      have hqe : q = n := by omega
      rw [hqe] at hI
      exact ⟨_, rfl, rfl, hI⟩
    · have hqn : q < n := (nI_ltI (by omega) (by omega)).mp (i_nle.mp h1)
      refine xB.go 1 (188, [(0, .ref 32), (1, .int (nI i)), (2, .int m), (3, .int (nI (h - tk (K i)))), (4, .int (lv2 (byB K g0 i h 0) (byB K g0 i h 1))), (5, .int (nI q))], [.int (lv2 (byB K g0 i h 0) (byB K g0 i h 1))], XM L a ml) rfl ?_
      refine xB.bp ((lv2 (byB K g0 i h 0) (byB K g0 i h 1)) ≤ 0) (233, [(0, .ref 32), (1, .int (nI i)), (2, .int m), (3, .int (nI (h - tk (K i)))), (4, .int (lv2 (byB K g0 i h 0) (byB K g0 i h 1))), (5, .int (nI q))], [], XM L a ml) (191, [(0, .ref 32), (1, .int (nI i)), (2, .int m), (3, .int (nI (h - tk (K i)))), (4, .int (lv2 (byB K g0 i h 0) (byB K g0 i h 1))), (5, .int (nI q))], [], XM L a ml) rfl (fun h2 => ?_) (fun h2 => ?_)
      · refine xB.go 1 (234, [(0, .ref 32), (1, .int (nI i)), (2, .int m), (3, .int (nI (h - tk (K i)))), (4, .int (lv2 (byB K g0 i h 0) (byB K g0 i h 1))), (5, .int (nI q))], [.int m], XM L a ml) rfl ?_
        refine xB.rz m a ml rfl (by rcases hI.bool with z | z <;> rw [z] <;> rfl) ?_
        have hz := by_le0 _ _ h2
        refine ⟨_, rfl, rfl, hI.cg (fun b j k' hb2 _ _ hx => ?_)⟩
        rcases hx with hx | hx
        · exact Or.inl hx
        · have hx4 := hx.2.2.2
          rcases (show b = 0 ∨ b = 1 by omega) with rfl | rfl
          · rw [hz.1] at hx4; cases hx4
          · rw [hz.2] at hx4; cases hx4
      · obtain ⟨g, hTg, hsg, hgg, hmg⟩ := flI.g hT0 hs0 hI
        have hPa : PRM a n K T := hP.frame (by rw [hI.1 32 (by decide)]) (hI.1 33 (by decide)) (hI.1 34 (by decide))
        have hha : a 37 i = nI h := by rw [hI.1 37 (by decide)]; exact hh
        have hK5 : K i = 5 := by
          have hz := by_gt0 _ _ h2
          unfold byB at hz
          rcases hz with z | z
          · rw [Bool.and_eq_true, decide_eq_true_iff] at z; exact z.1
          · rw [Bool.and_eq_true, decide_eq_true_iff] at z; exact z.1
        have hrg := (hJR i hin).2 ⟨h, hr⟩ hK5 q hqn
        have hm39 : a 39 (64 * nI i + nI q).toNatClampNeg = mi 39 (64 * i + q) := by rw [ix64 hi64 (by omega), nI_clamp (by omega), hI.1 39 (by decide)]
        refine xB.go 7 (202, [(0, .ref 32), (1, .int (nI i)), (2, .int m), (3, .int (nI (h - tk (K i)))), (4, .int (lv2 (byB K g0 i h 0) (byB K g0 i h 1))), (5, .int (nI q))], [.int ((64 * (nI i)) + (nI q)), .ref 39], XM L a ml) rfl ?_
        refine xB.ck (xin ((64 * (nI i)) + (nI q)) 4096) (203, [(0, .ref 32), (1, .int (nI i)), (2, .int m), (3, .int (nI (h - tk (K i)))), (4, .int (lv2 (byB K g0 i h 0) (byB K g0 i h 1))), (5, .int (nI q))], [.int (a 39 ((64 * (nI i)) + (nI q)).toNatClampNeg)], XM L a ml) rfl (xin_of (j := 64 * i + q) (by omega) (by decide) (ix64 hi64 (by omega))) ?_
        refine xB.bp ((a 39 ((64 * (nI i)) + (nI q)).toNatClampNeg) = 0) (227, [(0, .ref 32), (1, .int (nI i)), (2, .int m), (3, .int (nI (h - tk (K i)))), (4, .int (lv2 (byB K g0 i h 0) (byB K g0 i h 1))), (5, .int (nI q))], [], XM L a ml) (206, [(0, .ref 32), (1, .int (nI i)), (2, .int m), (3, .int (nI (h - tk (K i)))), (4, .int (lv2 (byB K g0 i h 0) (byB K g0 i h 1))), (5, .int (nI q))], [], XM L a ml) rfl (fun h3 => ?_) (fun h3 => ?_)
        · refine xB.go 2 (177, [(0, .ref 32), (1, .int (nI i)), (2, .int m), (3, .int (nI (h - tk (K i)))), (4, .int (lv2 (byB K g0 i h 0) (byB K g0 i h 1))), (5, .int ((nI q) + 1))], [], XM L a ml) rfl ?_
          rw [nI_1]
          refine ih (q + 1) (by omega) (by omega) m a (hI.cg (fun b j k' hb2 _ _ hx => ?_))
          rcases hx with hx | ⟨x1, x2, x3, x4⟩
          · exact Or.inl hx
          · by_cases e : j = q
            · subst e; exact absurd (hrg.2.mpr x3) (by rw [← hm39, h3]; decide)
            · exact Or.inr ⟨x1, by omega, x3, x4⟩
        · have hRq : RG n K T i q := hrg.2.mp (hrg.1.resolve_left (by rw [← hm39]; exact h3))
          refine xB.go 3 (211, [(0, .ref 32), (1, .int (nI i)), (2, .int m), (3, .int (nI (h - tk (K i)))), (4, .int (lv2 (byB K g0 i h 0) (byB K g0 i h 1))), (5, .int (nI q))], [.int (lv2 (byB K g0 i h 0) (byB K g0 i h 1)), .int (nI q), .ref 32], XM L a ml) rfl ?_
          refine xB.c1 110 [.ref 32, .int (nI q), .int (lv2 (byB K g0 i h 0) (byB K g0 i h 1))] [] (c_grows _ L a _ (t := q) (by omega) (lv2 (byB K g0 i h 0) (byB K g0 i h 1))) rfl ?_
          refine xB.bn (¬ (a 40 (q) ||| (lv2 (byB K g0 i h 0) (byB K g0 i h 1))) = a 40 (q)) (221, [(0, .ref 32), (1, .int (nI i)), (2, .int m), (3, .int (nI (h - tk (K i)))), (4, .int (lv2 (byB K g0 i h 0) (byB K g0 i h 1))), (5, .int (nI q))], [], XM L (xU a 40 (q) ((a 40 (q)) ||| (lv2 (byB K g0 i h 0) (byB K g0 i h 1)))) ml) (217, [(0, .ref 32), (1, .int (nI i)), (2, .int m), (3, .int (nI (h - tk (K i)))), (4, .int (lv2 (byB K g0 i h 0) (byB K g0 i h 1))), (5, .int (nI q))], [], XM L (xU a 40 (q) ((a 40 (q)) ||| (lv2 (byB K g0 i h 0) (byB K g0 i h 1)))) ml) rfl (fun h4 => ?_) (fun h4 => ?_)
          · refine xB.go 5 (177, [(0, .ref 32), (1, .int (nI i)), (2, .int 1), (3, .int (nI (h - tk (K i)))), (4, .int (lv2 (byB K g0 i h 0) (byB K g0 i h 1))), (5, .int ((nI q) + 1))], [], XM L (xU a 40 (q) ((a 40 (q)) ||| (lv2 (byB K g0 i h 0) (byB K g0 i h 1)))) ml) rfl ?_
            rw [nI_1]
            exact ih (q + 1) (by omega) (by omega) 1 _ (hI.grow1 hTg hsg hmg (show q < 64 by omega) (k := 16) (by omega) (fun z => flow_p3 hw hn64 hr hs0 (by decide) hRq z) (fun z => flow_p3 hw hn64 hr hs0 (by decide) hRq z) rfl tix16.symm h4)
          · refine xB.go 1 (218, [(0, .ref 32), (1, .int (nI i)), (2, .int m), (3, .int (nI (h - tk (K i)))), (4, .int (lv2 (byB K g0 i h 0) (byB K g0 i h 1))), (5, .int (nI q))], [.int m], XM L (xU a 40 (q) ((a 40 (q)) ||| (lv2 (byB K g0 i h 0) (byB K g0 i h 1)))) ml) rfl ?_
            refine xB.bp (m = 0) (225, [(0, .ref 32), (1, .int (nI i)), (2, .int m), (3, .int (nI (h - tk (K i)))), (4, .int (lv2 (byB K g0 i h 0) (byB K g0 i h 1))), (5, .int (nI q))], [], XM L (xU a 40 (q) ((a 40 (q)) ||| (lv2 (byB K g0 i h 0) (byB K g0 i h 1)))) ml) (221, [(0, .ref 32), (1, .int (nI i)), (2, .int m), (3, .int (nI (h - tk (K i)))), (4, .int (lv2 (byB K g0 i h 0) (byB K g0 i h 1))), (5, .int (nI q))], [], XM L (xU a 40 (q) ((a 40 (q)) ||| (lv2 (byB K g0 i h 0) (byB K g0 i h 1)))) ml) rfl (fun h5 => ?_) (fun h5 => ?_)
            · refine xB.go 4 (177, [(0, .ref 32), (1, .int (nI i)), (2, .int 0), (3, .int (nI (h - tk (K i)))), (4, .int (lv2 (byB K g0 i h 0) (byB K g0 i h 1))), (5, .int ((nI q) + 1))], [], XM L (xU a 40 (q) ((a 40 (q)) ||| (lv2 (byB K g0 i h 0) (byB K g0 i h 1)))) ml) rfl ?_
              rw [nI_1]
              have hDx : m = 0 → ∀ b j k', b < 2 → j < 64 → k' ≤ 16 → (fun b j k' => D0 b j k' ∨ fD3 n K T g0 i h (q + 1) b j k') b j k' → (fun b j k' => D0 b j k' ∨ fD3 n K T g0 i h q b j k') b j k' ∨ (j = q ∧ k' = 16 ∧ (bif Nat.beq b 0 then byB K g0 i h 0 else byB K g0 i h 1) = true) := fun mz b j k' hb2 _ _ hx => by
                rcases hx with hx | ⟨x1, x2, x3, x4⟩
                · exact Or.inl (Or.inl hx)
                · by_cases e2 : j = q
                  · right; exact ⟨e2, x1, (bi2 hb2 (F := fun b => byB K g0 i h b)).trans x4⟩
                  · exact Or.inl (Or.inr ⟨x1, by omega, x3, x4⟩)
              obtain ⟨e, hI2⟩ := hI.grow2 hTg (fun z => (hgg z).2) (show q < 64 by omega) (k := 16) (by omega) rfl tix16.symm (Classical.not_not.mp h4) hDx
              rw [e]
              rw [show m = 0 from h5] at hI2
              exact ih (q + 1) (by omega) (by omega) 0 a hI2
            · refine xB.go 5 (177, [(0, .ref 32), (1, .int (nI i)), (2, .int 1), (3, .int (nI (h - tk (K i)))), (4, .int (lv2 (byB K g0 i h 0) (byB K g0 i h 1))), (5, .int ((nI q) + 1))], [], XM L (xU a 40 (q) ((a 40 (q)) ||| (lv2 (byB K g0 i h 0) (byB K g0 i h 1)))) ml) rfl ?_
              rw [nI_1]
              have hDx : m = 0 → ∀ b j k', b < 2 → j < 64 → k' ≤ 16 → (fun b j k' => D0 b j k' ∨ fD3 n K T g0 i h (q + 1) b j k') b j k' → (fun b j k' => D0 b j k' ∨ fD3 n K T g0 i h q b j k') b j k' ∨ (j = q ∧ k' = 16 ∧ (bif Nat.beq b 0 then byB K g0 i h 0 else byB K g0 i h 1) = true) := fun mz b j k' hb2 _ _ hx => by
                rcases hx with hx | ⟨x1, x2, x3, x4⟩
                · exact Or.inl (Or.inl hx)
                · by_cases e2 : j = q
                  · right; exact ⟨e2, x1, (bi2 hb2 (F := fun b => byB K g0 i h b)).trans x4⟩
                  · exact Or.inl (Or.inr ⟨x1, by omega, x3, x4⟩)
              obtain ⟨e, hI2⟩ := hI.grow2 hTg (fun z => (hgg z).2) (show q < 64 by omega) (k := 16) (by omega) rfl tix16.symm (Classical.not_not.mp h4) hDx
              rw [e]
              rw [hI2.bool.resolve_left (by first | exact h5 | exact fun z => h5 z)] at hI2
              exact ih (q + 1) (by omega) (by omega) 1 a hI2
def fDV (n : Nat) (K T : Nat → Nat) (rdb : Nat → Nat → Bool) (g0 : Nat → Nat → Nat → Bool) (i h b j k : Nat) : Prop := DVi K T (rdb b) (RG n K T) i h (gS g0 b) j k
theorem fDV_d {n : Nat} {K T : Nat → Nat} {rdb : Nat → Nat → Bool} {g0 : Nat → Nat → Nat → Bool} {i h b j k : Nat} (hi : i < 64) (h16 : h ≤ 16) (htk : tk (K i) ≤ h) (hj : RG n K T i j → j < n) (hx : fDV n K T rdb g0 i h b j k) : (K i ≠ 9 ∧ (fD12 K rdb g0 i h (nxm n K T i) b j k ∨ fD12 K rdb g0 i h (otm n K T i) b j k)) ∨ fD3 n K T g0 i h n b j k := by
  rcases hx with ⟨hf, hx⟩ | ⟨h5, ht, hg, hk⟩
  · left
    refine ⟨hf.1, ?_⟩
    have key : ∀ f, j = f → fD12 K rdb g0 i h f b j k := fun f hjf => by
      rcases hx with ⟨h1, h2⟩ | ⟨h1, h2, h3⟩
      · left; refine ⟨hjf, h1, ?_⟩
        rw [Bool.or_eq_true]
        rcases h2 with z | ⟨z1, z2⟩
        · exact Or.inl z.2.2
        · right; unfold byB; rw [Bool.and_eq_true, decide_eq_true_iff]; exact ⟨z1, (tkG_iff hi h16 htk).mpr z2⟩
      · right; refine ⟨hjf, h2, h1, ?_⟩
        rw [Bool.or_eq_true, Bool.or_eq_true]
        rcases h3 with z | z | z
        · exact Or.inl (Or.inr ((tkG_iff hi h16 htk).mpr z))
        · exact Or.inl (Or.inl z.2.2)
        · exact Or.inr z
    rcases Fo_nxm (n := n) hf with z | z
    · exact Or.inl (key _ z)
    · exact Or.inr (key _ z)
  · right
    refine ⟨hk, hj hg, hg, ?_⟩
    unfold byB; rw [Bool.and_eq_true, decide_eq_true_iff]; exact ⟨h5, (tkG_iff hi h16 htk).mpr ht⟩
set_option maxRecDepth 100000 in
set_option maxHeartbeats 1000000 in
theorem flow_36 (d L : Nat) (mi : xmi) (ml : xml) {n : Nat} {K T : Nat → Nat} {vL aL cL : Nat → Nat → Bool} (hP : PRM mi n K T) (hN : NUMm mi n K T) (hV : LEVm mi vL aL cL) (hw : WF n K T) (hJR : JR n K T mi) {i h : Nat} (hr : Rh n K T i h) (hh : mi 37 i = nI h) {g0 : Nat → Nat → Nat → Bool} (hT0 : TG g0 mi) (hs0 : tSo n K T (rd K T vL aL) (RG n K T) g0) : xB (d + 3) mX9_flow L (fun rr a b => ∃ m, rr = some (.int m) ∧ b = ml ∧ flI n K T (rd K T vL aL) (RG n K T) mi g0 (fDV n K T (rd K T vL aL) g0 i h) m a) (36, [(0, .ref 32), (1, .int (nI i)), (2, .int 0), (3, .int (nI (h - tk (K i)))), (4, .int (lv2 (byB K g0 i h 0) (byB K g0 i h 1)))], [], XM L mi ml) := by
  have hn64 := hP.2.1
  have hin := (hw.1 i h hr).1
  have htk := (hw.1 i h hr).2.1
  have hg16 := (hw.1 i h hr).2.2
  have h16 := hr.le16
  have hi64 : i < 64 := by omega
  have hk := (hP.2.2.1 i hin).2
  refine xB.go 8 (50, [(0, .ref 32), (1, .int (nI i)), (2, .int 0), (3, .int (nI (h - tk (K i)))), (4, .int (lv2 (byB K g0 i h 0) (byB K g0 i h 1))), (5, .int 0)], [.int (nI i), .ref 33], XM L mi ml) rfl ?_
  refine xB.ck (xin (nI i) 64) (51, [(0, .ref 32), (1, .int (nI i)), (2, .int 0), (3, .int (nI (h - tk (K i)))), (4, .int (lv2 (byB K g0 i h 0) (byB K g0 i h 1))), (5, .int 0)], [.int (mi 33 (nI i).toNatClampNeg)], XM L mi ml) rfl (xin_of (j := i) (by omega) (by decide) rfl) ?_
  refine xB.cg (51, [(0, .ref 32), (1, .int (nI i)), (2, .int 0), (3, .int (nI (h - tk (K i)))), (4, .int (lv2 (byB K g0 i h 0) (byB K g0 i h 1))), (5, .int 0)], [.int (nI (K i))], XM L mi ml) (by rw [nI_clamp (by omega), (hP.2.2.1 i hin).1]) ?_
  refine xB.go 1 (53, [(0, .ref 32), (1, .int (nI i)), (2, .int 0), (3, .int (nI (h - tk (K i)))), (4, .int (lv2 (byB K g0 i h 0) (byB K g0 i h 1))), (5, .int 0)], [.int 9, .int (nI (K i))], XM L mi ml) rfl ?_
  refine xB.bp ((nI (K i)) = 9) (174, [(0, .ref 32), (1, .int (nI i)), (2, .int 0), (3, .int (nI (h - tk (K i)))), (4, .int (lv2 (byB K g0 i h 0) (byB K g0 i h 1))), (5, .int 0)], [], XM L mi ml) (56, [(0, .ref 32), (1, .int (nI i)), (2, .int 0), (3, .int (nI (h - tk (K i)))), (4, .int (lv2 (byB K g0 i h 0) (byB K g0 i h 1))), (5, .int 0)], [], XM L mi ml) rfl (fun h1 => ?_) (fun h1 => ?_)
  · refine xB.go 2 (177, [(0, .ref 32), (1, .int (nI i)), (2, .int 0), (3, .int (nI (h - tk (K i)))), (4, .int (lv2 (byB K g0 i h 0) (byB K g0 i h 1))), (5, .int 0)], [], XM L mi ml) rfl ?_
    have g9 : K i = 9 := k_eq hk (c := 9) (by decide) h1
    refine xB.fo [(0, .ref 32), (1, .int (nI i)), (2, .int 0), (3, .int (nI (h - tk (K i)))), (4, .int (lv2 (byB K g0 i h 0) (byB K g0 i h 1))), (5, .int 0)] (by simp) ?_
    refine xR.po (flow_177 d L mi ml hP hN hV hw hJR hr hh hT0 hs0 (fun _ _ _ => False) (n + 1) 0 (Nat.zero_le _) (by omega) 0 mi (⟨fun _ _ => rfl, Or.inl ⟨rfl, rfl, fun b j k _ _ _ hx => by rcases hx with hx | hx; exact hx.elim; exact absurd hx.2.1 (Nat.not_lt_zero _)⟩⟩)) (fun r M hq => ?_)
    obtain ⟨a9, b9, e9, m9, q1, q2, q3⟩ := hq
    refine ⟨a9, b9, e9, m9, q1, q2, q3.cg (fun b j k hb2 _ _ hx => ?_)⟩
    rcases fDV_d hi64 h16 htk (fun ⟨v, z1, z2⟩ => hw.lt (z2.mm hw ⟨h, hr⟩)) hx with z | z
    · exact absurd g9 z.1
    · exact Or.inr z
  · refine xB.go 4 (63, [(0, .ref 32), (1, .int (nI i)), (2, .int 0), (3, .int (nI (h - tk (K i)))), (4, .int (lv2 (byB K g0 i h 0) (byB K g0 i h 1))), (5, .int 0)], [.int (nI i), .ref 32], XM L mi ml) rfl ?_
    refine xB.c1 99 [.ref 32, .int (nI i)] [] (c_mnext _ L _ _ hP hin) rfl ?_
    refine xB.go 4 (79, [(0, .ref 32), (1, .int (nI i)), (2, .int 0), (3, .int (nI (h - tk (K i)))), (4, .int (lv2 (byB K g0 i h 0) (byB K g0 i h 1))), (5, .int 0), (6, .int (nI (nxm n K T i))), (7, .int 0)], [], XM L mi ml) rfl ?_
    have g9 := k_ne (c := 9) h1
    have f1 := nxm_Fo (n := n) (T := T) g9
    have f2 := otm_Fo (n := n) (T := T) g9
    refine flow_79 d L mi ml hP hN hV hw hJR hr hh hT0 hs0 f1 (fun _ _ _ => False) 0 (fun m1 a1 hI1 => ?_) (h - tk (K i) + 1) 0 (Nat.zero_le _) (by omega) 0 mi ⟨fun _ _ => rfl, Or.inl ⟨rfl, rfl, fun b j k _ _ _ hx => by rcases hx with hx | hx; exact hx.elim; exact absurd hx.2.1 (Nat.not_lt_zero _)⟩⟩
    refine flow_131 d L mi ml hP hN hV hw hJR hr hh hT0 hs0 f1 (fun _ _ _ => False) 0 (fun m2 a2 hI2 => ?_) m1 a1 hI1
    have hP2 : PRM a2 n K T := hP.frame (by rw [hI2.1 32 (by decide)]) (hI2.1 33 (by decide)) (hI2.1 34 (by decide))
    refine xB.go 8 (50, [(0, .ref 32), (1, .int (nI i)), (2, .int m2), (3, .int (nI (h - tk (K i)))), (4, .int (lv2 (byB K g0 i h 0) (byB K g0 i h 1))), (5, .int 1)], [.int (nI i), .ref 33], XM L a2 ml) rfl ?_
    refine xB.ck (xin (nI i) 64) (51, [(0, .ref 32), (1, .int (nI i)), (2, .int m2), (3, .int (nI (h - tk (K i)))), (4, .int (lv2 (byB K g0 i h 0) (byB K g0 i h 1))), (5, .int 1)], [.int (a2 33 (nI i).toNatClampNeg)], XM L a2 ml) rfl (xin_of (j := i) (by omega) (by decide) rfl) ?_
    refine xB.cg (51, [(0, .ref 32), (1, .int (nI i)), (2, .int m2), (3, .int (nI (h - tk (K i)))), (4, .int (lv2 (byB K g0 i h 0) (byB K g0 i h 1))), (5, .int 1)], [.int (nI (K i))], XM L a2 ml) (by rw [nI_clamp (by omega), (hP2.2.2.1 i hin).1]) ?_
    refine xB.go 1 (53, [(0, .ref 32), (1, .int (nI i)), (2, .int m2), (3, .int (nI (h - tk (K i)))), (4, .int (lv2 (byB K g0 i h 0) (byB K g0 i h 1))), (5, .int 1)], [.int 9, .int (nI (K i))], XM L a2 ml) rfl ?_
    refine xB.bp ((nI (K i)) = 9) (174, [(0, .ref 32), (1, .int (nI i)), (2, .int m2), (3, .int (nI (h - tk (K i)))), (4, .int (lv2 (byB K g0 i h 0) (byB K g0 i h 1))), (5, .int 1)], [], XM L a2 ml) (56, [(0, .ref 32), (1, .int (nI i)), (2, .int m2), (3, .int (nI (h - tk (K i)))), (4, .int (lv2 (byB K g0 i h 0) (byB K g0 i h 1))), (5, .int 1)], [], XM L a2 ml) rfl (fun h61 => ?_) (fun h61 => ?_)
    · refine xB.go 2 (177, [(0, .ref 32), (1, .int (nI i)), (2, .int m2), (3, .int (nI (h - tk (K i)))), (4, .int (lv2 (byB K g0 i h 0) (byB K g0 i h 1))), (5, .int 0)], [], XM L a2 ml) rfl ?_
      exact absurd (k_eq hk (c := 9) (by decide) h61) g9
    · refine xB.go 4 (71, [(0, .ref 32), (1, .int (nI i)), (2, .int m2), (3, .int (nI (h - tk (K i)))), (4, .int (lv2 (byB K g0 i h 0) (byB K g0 i h 1))), (5, .int 1)], [.int (nI i), .ref 32], XM L a2 ml) rfl ?_
      refine xB.c1 100 [.ref 32, .int (nI i)] [] (c_mother _ L _ _ hP2 hin) rfl ?_
      refine xB.go 3 (79, [(0, .ref 32), (1, .int (nI i)), (2, .int m2), (3, .int (nI (h - tk (K i)))), (4, .int (lv2 (byB K g0 i h 0) (byB K g0 i h 1))), (5, .int 1), (6, .int (nI (otm n K T i))), (7, .int 0)], [], XM L a2 ml) rfl ?_
      refine flow_79 d L mi ml hP hN hV hw hJR hr hh hT0 hs0 f2 (fun b j k => False ∨ fD12 K (rd K T vL aL) g0 i h (nxm n K T i) b j k) 1 (fun m3 a3 hI3 => ?_) (h - tk (K i) + 1) 0 (Nat.zero_le _) (by omega) m2 a2 (hI2.cg (fun b j k _ _ _ hx => by rcases hx with hx | hx; exact hx; exact absurd hx.2.1 (Nat.not_lt_zero _)))
      refine flow_131 d L mi ml hP hN hV hw hJR hr hh hT0 hs0 f2 (fun b j k => False ∨ fD12 K (rd K T vL aL) g0 i h (nxm n K T i) b j k) 1 (fun m4 a4 hI4 => ?_) m3 a3 hI3
      refine xB.go 7 (177, [(0, .ref 32), (1, .int (nI i)), (2, .int m4), (3, .int (nI (h - tk (K i)))), (4, .int (lv2 (byB K g0 i h 0) (byB K g0 i h 1))), (5, .int 0)], [], XM L a4 ml) rfl ?_
      refine xB.fo [(0, .ref 32), (1, .int (nI i)), (2, .int m4), (3, .int (nI (h - tk (K i)))), (4, .int (lv2 (byB K g0 i h 0) (byB K g0 i h 1))), (5, .int 0)] (by simp) ?_
      refine xR.po (flow_177 d L mi ml hP hN hV hw hJR hr hh hT0 hs0 (fun b j k => (fun b j k => False ∨ fD12 K (rd K T vL aL) g0 i h (nxm n K T i) b j k) b j k ∨ fD12 K (rd K T vL aL) g0 i h (otm n K T i) b j k) (n + 1) 0 (Nat.zero_le _) (by omega) m4 a4 (hI4.cg (fun b j k _ _ _ hx => by rcases hx with hx | hx; exact hx; exact absurd hx.2.1 (Nat.not_lt_zero _)))) (fun r M hq => ?_)
      obtain ⟨a9, b9, e9, m9, q1, q2, q3⟩ := hq
      refine ⟨a9, b9, e9, m9, q1, q2, q3.cg (fun b j k hb2 _ _ hx => ?_)⟩
      rcases fDV_d hi64 h16 htk (fun ⟨v, z1, z2⟩ => hw.lt (z2.mm hw ⟨h, hr⟩)) hx with z | z
      · rcases z.2 with z | z
        · exact Or.inl (Or.inl (Or.inr z))
        · exact Or.inl (Or.inr z)
      · exact Or.inr z
set_option maxRecDepth 100000 in
set_option maxHeartbeats 1000000 in
theorem c_flow (d L : Nat) (mi : xmi) (ml : xml) {n : Nat} {K T : Nat → Nat} {vL aL cL : Nat → Nat → Bool} (hP : PRM mi n K T) (hN : NUMm mi n K T) (hV : LEVm mi vL aL cL) (hw : WF n K T) (hJR : JR n K T mi) {i h : Nat} (hr : Rh n K T i h) (hh : mi 37 i = nI h) {g0 : Nat → Nat → Nat → Bool} (hT0 : TG g0 mi) (hs0 : tSo n K T (rd K T vL aL) (RG n K T) g0) : xF (d + 4) 113 [.ref 32, .int (nI i)] L mi ml (fun rr a b => ∃ m, rr = some (.int m) ∧ b = ml ∧ flI n K T (rd K T vL aL) (RG n K T) mi g0 (fDV n K T (rd K T vL aL) g0 i h) m a) := by
  have hn64 := hP.2.1
  have hin := (hw.1 i h hr).1
  have htk := (hw.1 i h hr).2.1
  have hg16 := (hw.1 i h hr).2.2
  have h16 := hr.le16
  have hi64 : i < 64 := by omega
  have hk := (hP.2.2.1 i hin).2
  refine xF.mk mX9_flow rfl rfl ?_
  refine xB.go 5 (7, [(0, .ref 32), (1, .int (nI i)), (2, .int 0)], [.int (nI i), .ref 37], XM L mi ml) rfl ?_
  refine xB.ck (xin (nI i) 64) (8, [(0, .ref 32), (1, .int (nI i)), (2, .int 0)], [.int (mi 37 (nI i).toNatClampNeg)], XM L mi ml) rfl (xin_of (j := i) (by omega) (by decide) rfl) ?_
  refine xB.cg (8, [(0, .ref 32), (1, .int (nI i)), (2, .int 0)], [.int (nI h)], XM L mi ml) (by rw [nI_clamp (by omega), hh]) ?_
  refine xB.go 2 (10, [(0, .ref 32), (1, .int (nI i)), (2, .int 0)], [.int (nI i), .ref 32, .int (nI h)], XM L mi ml) rfl ?_
  refine xB.c1 97 [.ref 32, .int (nI i)] [.int (nI h)] (c_mtakes _ L _ _ hP hin) rfl ?_
  refine xB.go 1 (14, [(0, .ref 32), (1, .int (nI i)), (2, .int 0)], [.int ((nI h) - (nI (tk (K i))))], XM L mi ml) rfl ?_
  refine xB.cg (14, [(0, .ref 32), (1, .int (nI i)), (2, .int 0)], [.int (nI (h - tk (K i)))], XM L mi ml) (by rw [nI_subeq htk]) ?_
  refine xB.go 4 (20, [(0, .ref 32), (1, .int (nI i)), (2, .int 0), (3, .int (nI (h - tk (K i))))], [.int (nI i), .ref 33], XM L mi ml) rfl ?_
  refine xB.ck (xin (nI i) 64) (21, [(0, .ref 32), (1, .int (nI i)), (2, .int 0), (3, .int (nI (h - tk (K i))))], [.int (mi 33 (nI i).toNatClampNeg)], XM L mi ml) rfl (xin_of (j := i) (by omega) (by decide) rfl) ?_
  refine xB.cg (21, [(0, .ref 32), (1, .int (nI i)), (2, .int 0), (3, .int (nI (h - tk (K i))))], [.int (nI (K i))], XM L mi ml) (by rw [nI_clamp (by omega), (hP.2.2.1 i hin).1]) ?_
  refine xB.go 1 (22, [(0, .ref 32), (1, .int (nI i)), (2, .int 0), (3, .int (nI (h - tk (K i))))], [.int 5, .int (nI (K i))], XM L mi ml) rfl ?_
  refine xB.bp (¬ (nI (K i)) = 5) (33, [(0, .ref 32), (1, .int (nI i)), (2, .int 0), (3, .int (nI (h - tk (K i))))], [], XM L mi ml) (25, [(0, .ref 32), (1, .int (nI i)), (2, .int 0), (3, .int (nI (h - tk (K i))))], [], XM L mi ml) rfl (fun h1 => ?_) (fun h1 => ?_)
  · refine xB.go 2 (36, [(0, .ref 32), (1, .int (nI i)), (2, .int 0), (3, .int (nI (h - tk (K i)))), (4, .int 0)], [], XM L mi ml) rfl ?_
    have g5 := k_ne (c := 5) h1
    have e : (0 : Int32) = lv2 (byB K g0 i h 0) (byB K g0 i h 1) := by simp [byB, g5, lv2]
    rw [show ([(0, Value.ref 32), (1, Value.int (nI i)), (2, Value.int 0), (3, Value.int (nI (h - tk (K i)))), (4, Value.int 0)] : List (Nat × Value)) = [(0, Value.ref 32), (1, Value.int (nI i)), (2, Value.int 0), (3, Value.int (nI (h - tk (K i)))), (4, Value.int (lv2 (byB K g0 i h 0) (byB K g0 i h 1)))] by rw [← e]]
    exact flow_36 d L mi ml hP hN hV hw hJR hr hh hT0 hs0
  · refine xB.go 2 (27, [(0, .ref 32), (1, .int (nI i)), (2, .int 0), (3, .int (nI (h - tk (K i))))], [.int (nI i), .ref 32], XM L mi ml) rfl ?_
    refine xB.c1 111 [.ref 32, .int (nI i)] [] (c_mtaken _ L _ _ hP hin hh h16 htk hT0) rfl ?_
    refine xB.go 2 (36, [(0, .ref 32), (1, .int (nI i)), (2, .int 0), (3, .int (nI (h - tk (K i)))), (4, .int (lv2 (tkG K g0 0 i h) (tkG K g0 1 i h)))], [], XM L mi ml) rfl ?_
    have g5 := k_eq hk (c := 5) (by decide) (Classical.not_not.mp h1)
    have e : lv2 (tkG K g0 0 i h) (tkG K g0 1 i h) = lv2 (byB K g0 i h 0) (byB K g0 i h 1) := by simp [byB, g5]
    rw [e]
    exact flow_36 d L mi ml hP hN hV hw hJR hr hh hT0 hs0
