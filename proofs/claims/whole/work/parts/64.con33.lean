/-! the reference: type -/
theorem flI.step {n : Nat} {K T : Nat → Nat} {rdb : Nat → Nat → Bool} {a a' : xmi} {g : Nat → Nat → Nat → Bool} {i h r : Nat} {m m' : Int32} (hn : n ≤ 64) (hw : WF n K T) (hr : Rh n K T i h) (hT : TG g a) (hI : tI n K T rdb (RG n K T) g m r i) (hF : flI n K T rdb (RG n K T) a g (fDV n K T rdb g i h) m' a') :
    (m' = 0 → ∃ g', TG g' a' ∧ tI n K T rdb (RG n K T) g' m r (i + 1)) ∧ (m' = 1 → ∃ g', TG g' a' ∧ tI n K T rdb (RG n K T) g' 1 r (i + 1)) := by
  have hw1 := hw.1 i h hr
  have h16 := hr.le16
  rcases hF.2 with ⟨z1, z2, z3⟩ | ⟨z1, g', z2, z3, z4, z5⟩
  · refine ⟨fun _ => ⟨g, by rw [z2]; exact hT, hI.step hI.1 (fun _ _ _ _ _ _ q => q) (Or.inl ⟨rfl, fun _ _ _ _ _ _ => rfl, fun h2 hr2 b hb2 j k hd => ?_⟩)⟩, fun z => by rw [z1] at z; cases z⟩
    obtain rfl := hw.2 i h2 h hr2 hr
    have hjk : j < 64 ∧ k ≤ 16 := by
      rcases hd with ⟨hf, ⟨h1, -⟩ | ⟨h1, h3, -⟩⟩ | ⟨-, -, ⟨v, h3, h5⟩, h4⟩
      · exact ⟨Nat.lt_of_lt_of_le (hw.fo ⟨_, hr⟩ hf).1 hn, by omega⟩
      · exact ⟨Nat.lt_of_lt_of_le (hw.fo ⟨_, hr⟩ hf).1 hn, by omega⟩
      · exact ⟨Nat.lt_of_lt_of_le (hw.lt (h5.mm hw ⟨_, hr⟩)) hn, by omega⟩
    exact ⟨hjk.1, hjk.2, z3 b j k hb2 hjk.1 hjk.2 hd⟩
  · exact ⟨(fun z => by rw [z1] at z; cases z), fun _ => ⟨g', z2, hI.step z3 z4 (Or.inr ⟨rfl, z5⟩)⟩⟩
theorem PRM.f40 {n : Nat} {K T : Nat → Nat} {mi a : xmi} (hP : PRM mi n K T) (h : ∀ x, x ≠ 40 → a x = mi x) : PRM a n K T := hP.frame (by rw [h 32 (by decide)]) (h 33 (by decide)) (h 34 (by decide))
set_option maxRecDepth 100000 in
set_option maxHeartbeats 1000000 in
theorem type_69 (d L : Nat) (mi : xmi) (ml : xml) {n : Nat} {K T : Nat → Nat} {vL aL cL : Nat → Nat → Bool} (hP : PRM mi n K T) (hN : NUMm mi n K T) (hV : LEVm mi vL aL cL) (hw : WF n K T) (hJR : JR n K T mi) (hht : ∀ i, i < 64 → (∃ h, h ≤ 16 ∧ Rh n K T i h ∧ mi 37 i = nI h) ∨ (mi 37 i = -1 ∧ ¬ ∃ h, Rh n K T i h)) (t : Int32) (r : Nat) {Q : Option Value → xmi → xml → Prop} (k : ∀ (m : Int32) (a : xmi), (∀ x, x ≠ 40 → a x = mi x) → (∃ g, TG g a ∧ tI n K T (rd K T vL aL) (RG n K T) g m r n) → xB (d + 4) mX9_type L Q (110, [(0, .ref 32), (1, .int m), (2, .int t)], [], XM L a ml)) : ∀ (f i : Nat), i ≤ n → n - i < f → ∀ (m : Int32) (a : xmi), (∀ x, x ≠ 40 → a x = mi x) → (∃ g, TG g a ∧ tI n K T (rd K T vL aL) (RG n K T) g m r i) → xB (d + 4) mX9_type L Q (69, [(0, .ref 32), (1, .int m), (2, .int t), (3, .int (nI i))], [], XM L a ml) := by
  have hn64 := hP.2.1
  intro f
  induction f with
  | zero => intro i h1 h2; omega
  | succ f ih =>
    intro i hle hlt m a hf hI
    have hPa := hP.f40 hf
    refine xB.go 3 (74, [(0, .ref 32), (1, .int m), (2, .int t), (3, .int (nI i))], [.int (a 32 2), .int (nI i)], XM L a ml) rfl ?_
    refine xB.cg (74, [(0, .ref 32), (1, .int m), (2, .int t), (3, .int (nI i))], [.int (nI n), .int (nI i)], XM L a ml) (by rw [hPa.1]) ?_
    refine xB.bp ((nI n) ≤ (nI i)) (110, [(0, .ref 32), (1, .int m), (2, .int t), (3, .int (nI i))], [], XM L a ml) (77, [(0, .ref 32), (1, .int m), (2, .int t), (3, .int (nI i))], [], XM L a ml) rfl (fun h1 => ?_) (fun h1 => ?_)
    · have hge : n ≤ i := (nI_leI (by omega) (by omega)).mp h1
      have hie : i = n := by omega
      rw [hie] at hI
      refine xB.fo [(0, .ref 32), (1, .int m), (2, .int t)] (by simp) ?_
      exact k m a hf hI
    · have hin : i < n := (nI_ltI (by omega) (by omega)).mp (i_nle.mp h1)
      refine xB.go 3 (82, [(0, .ref 32), (1, .int m), (2, .int t), (3, .int (nI i))], [.int (nI i), .ref 37], XM L a ml) rfl ?_
      refine xB.ck (xin (nI i) 64) (83, [(0, .ref 32), (1, .int m), (2, .int t), (3, .int (nI i))], [.int (a 37 (nI i).toNatClampNeg)], XM L a ml) rfl (xin_of (j := i) (by omega) (by decide) rfl) ?_
      refine xB.bp ((a 37 (nI i).toNatClampNeg) < 0) (104, [(0, .ref 32), (1, .int m), (2, .int t), (3, .int (nI i))], [], XM L a ml) (86, [(0, .ref 32), (1, .int m), (2, .int t), (3, .int (nI i))], [], XM L a ml) rfl (fun h2 => ?_) (fun h2 => ?_)
      · refine xB.go 2 (69, [(0, .ref 32), (1, .int m), (2, .int t), (3, .int ((nI i) + 1))], [], XM L a ml) rfl ?_
        rw [nI_1]
        obtain ⟨g, hTg, hIg⟩ := hI
        refine ih (i + 1) (by omega) (by omega) m a hf ⟨g, hTg, hIg.skip (fun z => ?_)⟩
        rcases hht i (by omega) with ⟨x, z1, z2, z3⟩ | ⟨z1, z2⟩
        · rw [nI_clamp (by omega), hf 37 (by decide), z3] at h2; exact absurd h2 (nI_pos (by omega))
        · exact z2 z
      · obtain ⟨h, hrh, hha⟩ : ∃ h, Rh n K T i h ∧ a 37 i = nI h := by
          rcases hht i (by omega) with ⟨x, z1, z2, z3⟩ | ⟨z1, z2⟩
          · exact ⟨x, z2, by rw [hf 37 (by decide)]; exact z3⟩
          · rw [nI_clamp (by omega), hf 37 (by decide), z1] at h2; exact absurd neg1_lt h2
        obtain ⟨g, hTg, hIg⟩ := hI
        refine xB.go 2 (88, [(0, .ref 32), (1, .int m), (2, .int t), (3, .int (nI i))], [.int (nI i), .ref 32], XM L a ml) rfl ?_
        refine xB.ca 113 [.ref 32, .int (nI i)] [] (c_flow _ L _ _ hPa (hN.frame (hf 34 (by decide))) (hV.frame (hf 35 (by decide))) hw (hJR.frame (hf 38 (by decide)) (hf 39 (by decide))) hrh hha hTg hIg.1) rfl ?_
        intro r1 a1 b1 hq
        obtain ⟨m1, rfl, hb1, hF⟩ := hq
        rw [hb1]
        have hst := flI.step hn64 hw hrh hTg hIg hF
        have hf1 : ∀ x, x ≠ 40 → a1 x = mi x := fun x hx => (hF.1 x hx).trans (hf x hx)
        show xB _ _ L _ (91, [(0, .ref 32), (1, .int m), (2, .int t), (3, .int (nI i))], [.int m1], XM L a1 ml)
        refine xB.bp (¬ m1 = 0) (98, [(0, .ref 32), (1, .int m), (2, .int t), (3, .int (nI i))], [], XM L a1 ml) (94, [(0, .ref 32), (1, .int m), (2, .int t), (3, .int (nI i))], [], XM L a1 ml) rfl (fun h3 => ?_) (fun h3 => ?_)
        · refine xB.go 5 (69, [(0, .ref 32), (1, .int 1), (2, .int t), (3, .int ((nI i) + 1))], [], XM L a1 ml) rfl ?_
          rw [nI_1]
          exact ih (i + 1) (by omega) (by omega) 1 a1 hf1 (hst.2 (hF.bool.resolve_left h3))
        · refine xB.go 1 (95, [(0, .ref 32), (1, .int m), (2, .int t), (3, .int (nI i))], [.int m], XM L a1 ml) rfl ?_
          refine xB.bp (m = 0) (102, [(0, .ref 32), (1, .int m), (2, .int t), (3, .int (nI i))], [], XM L a1 ml) (98, [(0, .ref 32), (1, .int m), (2, .int t), (3, .int (nI i))], [], XM L a1 ml) rfl (fun h4 => ?_) (fun h4 => ?_)
          · refine xB.go 4 (69, [(0, .ref 32), (1, .int 0), (2, .int t), (3, .int ((nI i) + 1))], [], XM L a1 ml) rfl ?_
            rw [nI_1]
            have m10 : m1 = 0 := by first | exact h3 | exact Classical.not_not.mp h3
            have hst2 := hst.1 m10
            rw [show m = 0 from h4] at hst2
            exact ih (i + 1) (by omega) (by omega) 0 a1 hf1 hst2
          · refine xB.go 5 (69, [(0, .ref 32), (1, .int 1), (2, .int t), (3, .int ((nI i) + 1))], [], XM L a1 ml) rfl ?_
            rw [nI_1]
            have m10 : m1 = 0 := by first | exact h3 | exact Classical.not_not.mp h3
            have hst2 := hst.1 m10
            have m1e : m = 1 := by
              obtain ⟨g2, -, q⟩ := hst2
              rcases q.2 with z | z
              · exact z.1
              · exact absurd z.1 h4
            rw [m1e] at hst2
            exact ih (i + 1) (by omega) (by omega) 1 a1 hf1 hst2
set_option maxRecDepth 100000 in
set_option maxHeartbeats 1000000 in
theorem type_54 (d L : Nat) (mi : xmi) (ml : xml) {n : Nat} {K T : Nat → Nat} {vL aL cL : Nat → Nat → Bool} (hP : PRM mi n K T) (hN : NUMm mi n K T) (hV : LEVm mi vL aL cL) (hw : WF n K T) (hJR : JR n K T mi) (hht : ∀ i, i < 64 → (∃ h, h ≤ 16 ∧ Rh n K T i h ∧ mi 37 i = nI h) ∨ (mi 37 i = -1 ∧ ¬ ∃ h, Rh n K T i h)) : ∀ (f r : Nat), r ≤ 2177 → 2177 - r < f → ∀ (m : Int32) (a : xmi), (∀ x, x ≠ 40 → a x = mi x) → (∃ g, TG g a ∧ tO n K T (rd K T vL aL) (RG n K T) g m r) → xB (d + 4) mX9_type L (fun rr a b => rr = some (.int 1) ∧ b = ml ∧ (∀ x, x ≠ 40 → a x = mi x) ∧ TYR n K T vL aL a) (54, [(0, .ref 32), (1, .int m), (2, .int (nI r))], [], XM L a ml) := by
  have hn64 := hP.2.1
  intro f
  induction f with
  | zero => intro r h1 h2; omega
  | succ f ih =>
    intro r hle hlt m a hf hI
    refine xB.go 2 (58, [(0, .ref 32), (1, .int m), (2, .int (nI r))], [.int 2200, .int (nI r)], XM L a ml) rfl ?_
    refine xB.bp (2200 ≤ (nI r)) (116, [(0, .ref 32), (1, .int m), (2, .int (nI r))], [], XM L a ml) (61, [(0, .ref 32), (1, .int m), (2, .int (nI r))], [], XM L a ml) rfl (fun h1 => ?_) (fun h1 => ?_)
    · refine xB.go 1 (117, [(0, .ref 32), (1, .int m), (2, .int (nI r))], [.int 1], XM L a ml) rfl ?_
      refine xB.rt (some (.int 1)) a ml rfl ?_
      obtain ⟨g, hTg, hO⟩ := hI
      exact ⟨rfl, rfl, hf, g, hTg, hO.end (Or.inr (by have : 2200 ≤ r := (nI_leI (by decide) (by omega)).mp h1; omega))⟩
    · refine xB.go 1 (62, [(0, .ref 32), (1, .int m), (2, .int (nI r))], [.int m], XM L a ml) rfl ?_
      refine xB.bp (m = 0) (116, [(0, .ref 32), (1, .int m), (2, .int (nI r))], [], XM L a ml) (65, [(0, .ref 32), (1, .int m), (2, .int (nI r))], [], XM L a ml) rfl (fun h2 => ?_) (fun h2 => ?_)
      · refine xB.go 1 (117, [(0, .ref 32), (1, .int m), (2, .int (nI r))], [.int 1], XM L a ml) rfl ?_
        refine xB.rt (some (.int 1)) a ml rfl ?_
        obtain ⟨g, hTg, hO⟩ := hI
        exact ⟨rfl, rfl, hf, g, hTg, hO.end (Or.inl h2)⟩
      · refine xB.go 4 (69, [(0, .ref 32), (1, .int 0), (2, .int (nI r)), (3, .int 0)], [], XM L a ml) rfl ?_
        obtain ⟨g, hTg, hO⟩ := hI
        have m1e : m = 1 := by
          rcases hO.2 with z | z
          · exact z.1
          · exact absurd z.1 h2
        rw [m1e] at hO
        obtain ⟨hIb, hr2⟩ := tI.begin hO
        refine type_69 d L mi ml hP hN hV hw hJR hht (nI r) r (fun m2 a2 hf2 hI2 => ?_) (n + 1) 0 (Nat.zero_le _) (by omega) 0 a hf ⟨g, hTg, hIb⟩
        refine xB.go 2 (54, [(0, .ref 32), (1, .int m2), (2, .int ((nI r) + 1))], [], XM L a2 ml) rfl ?_
        rw [nI_1]
        obtain ⟨g2, hTg2, hIg2⟩ := hI2
        exact ih (r + 1) (by omega) (by omega) m2 a2 hf2 ⟨g2, hTg2, hIg2.end hw⟩
set_option maxRecDepth 100000 in
set_option maxHeartbeats 1000000 in
theorem type_30 (d L : Nat) (mi : xmi) (ml : xml) {Q : Option Value → xmi → xml → Prop} (k : xB d mX9_type L Q (50, [(0, .ref 32)], [], XM L (va_up mi 40 (sl_fill (mi 40) 0 1088)) ml)) : ∀ (f i : Nat), i ≤ 1088 → 1088 - i < f → xB d mX9_type L Q (30, [(0, .ref 32), (1, .int (nI i))], [], XM L (va_up mi 40 (sl_fill (mi 40) 0 i)) ml) := by
  intro f
  induction f with
  | zero => intro i h1 h2; omega
  | succ f ih =>
    intro i hle hlt
    refine xB.go 2 (34, [(0, .ref 32), (1, .int (nI i))], [.int 1088, .int (nI i)], XM L (va_up mi 40 (sl_fill (mi 40) 0 i)) ml) rfl ?_
    refine xB.bp (1088 ≤ (nI i)) (50, [(0, .ref 32), (1, .int (nI i))], [], XM L (va_up mi 40 (sl_fill (mi 40) 0 i)) ml) (37, [(0, .ref 32), (1, .int (nI i))], [], XM L (va_up mi 40 (sl_fill (mi 40) 0 i)) ml) rfl (fun h1 => ?_) (fun h1 => ?_)
    · have hge : 1088 ≤ i := (nI_leI (by decide) (by omega)).mp h1
      obtain rfl : i = 1088 := by omega
      refine xB.fo [(0, .ref 32)] (by simp) ?_
      exact k
    · refine xB.go 4 (43, [(0, .ref 32), (1, .int (nI i))], [.int 0, .int (nI i), .ref 40], XM L (va_up mi 40 (sl_fill (mi 40) 0 i)) ml) rfl ?_
      refine xB.ck (xin (nI i) 1088) (44, [(0, .ref 32), (1, .int (nI i))], [], XM L (xU (va_up mi 40 (sl_fill (mi 40) 0 i)) 40 (nI i).toNatClampNeg 0) ml) rfl (xin_of (j := i) ((nI_ltI (b := 1088) (by omega) (by decide)).mp (i_nle.mp h1)) (by decide) rfl) ?_
      refine xB.go 2 (30, [(0, .ref 32), (1, .int ((nI i) + 1))], [], XM L (xU (va_up mi 40 (sl_fill (mi 40) 0 i)) 40 (nI i).toNatClampNeg 0) ml) rfl ?_
      have hiN : i < 1088 := (nI_ltI (by omega) (by decide)).mp (i_nle.mp h1)
      rw [nI_1, nI_clamp (by omega), sl_fill_s]
      exact ih (i + 1) (by omega) (by omega)
set_option maxRecDepth 100000 in
set_option maxHeartbeats 1000000 in
theorem c_type (d L : Nat) (mi : xmi) (ml : xml) {n : Nat} {K T : Nat → Nat} {vL aL cL : Nat → Nat → Bool} (hR : RI n K T vL aL cL mi) : xF (d + 7) 114 [.ref 32] L mi ml (fun rr a b => ∃ v, rr = some (.int v) ∧ b = ml ∧ RI n K T vL aL cL a ∧ FRm mi a ∧ a 32 5 = 1 ∧ v = a 32 6 ∧ (v = 1 → a 32 10 = 1)) := by
  refine xF.mk mX9_type rfl rfl ?_
  refine xB.go 1 (1, [(0, .ref 32)], [.ref 32], XM L mi ml) rfl ?_
  refine xB.ca 108 [.ref 32] [] (c_look _ L _ _ hR) rfl ?_
  intro r0 a b0 hq0
  obtain ⟨rfl, hb0, hRa, h05, hfr⟩ := hq0
  rw [hb0]
  have hSa := (hRa.2.2.2.2.2.2.1 h05).1
  show xB _ _ L _ (4, [(0, .ref 32)], [], XM L a ml)
  refine xB.go 2 (8, [(0, .ref 32)], [.int (a 32 6)], XM L a ml) rfl ?_
  refine xB.bp ((a 32 6) = 0) (18, [(0, .ref 32)], [], XM L a ml) (11, [(0, .ref 32)], [], XM L a ml) rfl (fun h1 => ?_) (fun h1 => ?_)
  · refine xB.go 2 (22, [(0, .ref 32)], [.int (a 32 6)], XM L a ml) rfl ?_
    refine xB.rz (a 32 6) a ml rfl (by rcases hSa.bool with z | z <;> rw [z] <;> rfl) ?_
    exact ⟨_, rfl, rfl, hRa, hfr, h05, rfl, fun z => by rw [h1] at z; cases z⟩
  · refine xB.go 2 (15, [(0, .ref 32)], [.int (a 32 10)], XM L a ml) rfl ?_
    refine xB.bp ((a 32 10) = 0) (23, [(0, .ref 32)], [], XM L a ml) (18, [(0, .ref 32)], [], XM L a ml) rfl (fun h2 => ?_) (fun h2 => ?_)
    · refine xB.go 5 (30, [(0, .ref 32), (1, .int 0)], [], XM L (xU a 32 10 1) ml) rfl ?_
      have h06 : a 32 6 = 1 := hSa.bool.resolve_left h1
      have hJRa := (hRa.2.2.2.2.2.2.1 h05).2 h06
      have hW : WF n K T ∧ ∀ i, i < 64 → (∃ h, h ≤ 16 ∧ Rh n K T i h ∧ a 37 i = nI h) ∨ (a 37 i = -1 ∧ ¬ ∃ h, Rh n K T i h) := by
        rcases hSa with z | z
        · exact z.2
        · rw [h06] at z; exact absurd z.1 (by decide)
      have hx := type_30 (d + 6) L (xU a 32 10 1) ml (Q := (fun rr a b => ∃ v, rr = some (.int v) ∧ b = ml ∧ RI n K T vL aL cL a ∧ FRm mi a ∧ a 32 5 = 1 ∧ v = a 32 6 ∧ (v = 1 → a 32 10 = 1))) ?_ 1089 0 (by omega) (by omega)
      · rw [sl_fill_0] at hx; exact hx
      refine xB.go 4 (54, [(0, .ref 32), (1, .int 1), (2, .int 0)], [], XM L (va_up (xU a 32 10 1) 40 (sl_fill ((xU a 32 10 1) 40) 0 1088)) ml) rfl ?_
      refine xR.po (type_54 (d + 2) L (xU a 32 10 1) ml (hRa.1.frame rfl rfl rfl) (hRa.2.1.frame rfl) (hRa.2.2.1.frame rfl) hW.1 (hJRa.frame rfl rfl) hW.2 2178 0 (Nat.zero_le _) (by omega) 1 (va_up (xU a 32 10 1) 40 (sl_fill ((xU a 32 10 1) 40) 0 1088)) (fun x hx => by rw [va_up_ne _ _ hx]) ⟨fun _ _ _ => false, fun j k hj hk => ?_, tO.zero (fun _ _ _ _ _ _ => rfl)⟩) (fun r M hq => ?_)
      · rw [va_up_self]; unfold sl_fill; rw [if_pos (by unfold tix; split <;> omega)]; rfl
      · obtain ⟨a9, b9, e9, q1, q2, q3, q4⟩ := hq
        have g32 : a9 32 = (xU a 32 10 1) 32 := q3 32 (by decide)
        have g5 : a9 32 5 = 1 := by rw [g32]; exact h05
        have g6 : a9 32 6 = 1 := by rw [g32]; exact h06
        have g10 : a9 32 10 = 1 := by rw [g32]; rfl
        refine ⟨a9, b9, e9, 1, q1, q2, ⟨hRa.1.frame (by rw [g32]; rfl) (q3 33 (by decide)) (q3 34 (by decide)), hRa.2.1.frame (q3 34 (by decide)), hRa.2.2.1.frame (q3 35 (by decide)), Or.inr g5, Or.inr g10, fun z => absurd (g5.symm.trans z) (by decide), fun _ => ⟨by rw [g6, ← h06]; exact hSa.frame (q3 37 (by decide)), fun _ => hJRa.frame (q3 38 (by decide)) (q3 39 (by decide))⟩, fun _ _ _ => q4⟩, fun x x1 x2 x3 x4 x5 x6 x7 x8 => by rw [q3 x x5, xU_ne x1, hfr x x1 x2 x3 x4 x5 x6 x7 x8], g5, g6.symm, fun _ => g10⟩
    · refine xB.go 2 (22, [(0, .ref 32)], [.int (a 32 6)], XM L a ml) rfl ?_
      refine xB.rz (a 32 6) a ml rfl (by rcases hSa.bool with z | z <;> rw [z] <;> rfl) ?_
      exact ⟨_, rfl, rfl, hRa, hfr, h05, rfl, fun _ => hRa.2.2.2.2.1.resolve_left h2⟩
