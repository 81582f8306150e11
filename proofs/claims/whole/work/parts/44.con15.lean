/-! Types.find -/
def tF (mi : xmi) (ml : xml) (a : xmi) (b : xml) : Prop := (∀ x, x ≠ 16 → a x = mi x) ∧ (∀ y, y ≠ 7 → a 16 y = mi 16 y) ∧ (∀ x, x ≠ 16 → x ≠ 17 → b x = ml x)
theorem NUM.frame {mi a : xmi} {n : Nat} {K T : Nat → Nat} (h : NUM mi n K T) (e : a 3 = mi 3) : NUM a n K T := by unfold NUM at h ⊢; rw [e]; exact h
theorem LEV.frame {mi a : xmi} {vL aL cL : Nat → Nat → Bool} (h : LEV mi vL aL cL) (e5 : a 5 = mi 5) (e6 : a 6 = mi 6) (e7 : a 7 = mi 7) : LEV a vL aL cL := by unfold LEV at h ⊢; rw [e5, e6, e7]; exact h
set_option maxRecDepth 100000 in
set_option maxHeartbeats 1000000 in
theorem tfind_46 (d L : Nat) (mi : xmi) (ml : xml) {n : Nat} {K T : Nat → Nat} {vL aL cL : Nat → Nat → Bool} (hP : PRG mi n K T) (hN : NUM mi n K T) (hV : LEV mi vL aL cL) (hw : WF n K T) (hm : ∀ i, i < 64 → (hb (ml 8 2) i = true ↔ ∃ h, Rh n K T i h)) (hht : ∀ i h, Rh n K T i h → mi 9 i = nI h ∧ h ≤ 16) (x1 : Int32) (r : Nat) (k : ∀ (a : xmi) (b : xml), tF mi ml a b → tI n K T (rd K T vL aL) (fun i j => hb (ml 15 i) j = true) (tb2 b) (a 16 7) r n → xB (d + 4) mX7_find L (fun rr a b => rr = none ∧ tF mi ml a b ∧ ∀ b' j k, b' < 2 → (TY n K T (rd K T vL aL b') (fun i j => hb (ml 15 i) j = true) j k ↔ gS (tb2 b) b' j k)) (79, [(0, .ref 16), (1, .int x1)], [], XM L a b)) : ∀ (f i : Nat), i ≤ n → n - i < f → ∀ (a : xmi) (b : xml), tF mi ml a b → tI n K T (rd K T vL aL) (fun i j => hb (ml 15 i) j = true) (tb2 b) (a 16 7) r i → xB (d + 4) mX7_find L (fun rr a b => rr = none ∧ tF mi ml a b ∧ ∀ b' j k, b' < 2 → (TY n K T (rd K T vL aL b') (fun i j => hb (ml 15 i) j = true) j k ↔ gS (tb2 b) b' j k)) (46, [(0, .ref 16), (1, .int x1), (2, .int (nI i))], [], XM L a b) := by
  have hn64 := hP.2.1
  intro f
  induction f with
  | zero => intro i h1 h2; omega
  | succ f ih =>
    intro i hle hlt a b hf hI
    have hPa : PRG a n K T := hP.frame (hf.1 1 (by decide)) (hf.1 2 (by decide)) (hf.1 3 (by decide)) (hf.1 1002 (by decide)) (hf.1 1003 (by decide))
    refine xB.go 3 (51, [(0, .ref 16), (1, .int x1), (2, .int (nI i))], [.ref 1, .int (nI i)], XM L a b) rfl ?_
    refine xB.c1 40 [.ref 1] [.int (nI i)] (c_size _ L _ _) rfl ?_
    refine xB.cg (54, [(0, .ref 16), (1, .int x1), (2, .int (nI i))], [.int (nI n), .int (nI i)], XM L a b) (by rw [hPa.1]) ?_
    refine xB.bp ((nI n) ≤ (nI i)) (79, [(0, .ref 16), (1, .int x1), (2, .int (nI i))], [], XM L a b) (57, [(0, .ref 16), (1, .int x1), (2, .int (nI i))], [], XM L a b) rfl (fun h1 => ?_) (fun h1 => ?_)
    · have hge : n ≤ i := (nI_leI (by omega) (by omega)).mp h1
      obtain rfl : i = n := by omega
      refine xB.fo [(0, .ref 16), (1, .int x1)] (by simp) ?_
      exact k a b hf hI
    · have hin : i < n := (nI_ltI (by omega) (by omega)).mp (i_nle.mp h1)
      have hi64 : i < 64 := by omega
      have hmb : hb (b 8 2) i = true ↔ ∃ h, Rh n K T i h := by rw [hf.2.2 8 (by decide) (by decide)]; exact hm i hi64
      refine xB.go 3 (62, [(0, .ref 16), (1, .int x1), (2, .int (nI i))], [.int (nI i), .ref 8], XM L a b) rfl ?_
      refine xB.c1 51 [.ref 8, .int (nI i)] [] (c_isMetN _ L _ _ hi64) rfl ?_
      refine xB.bz (hb (b 8 2) i = true) (73, [(0, .ref 16), (1, .int x1), (2, .int (nI i))], [], XM L a b) (68, [(0, .ref 16), (1, .int x1), (2, .int (nI i))], [], XM L a b) rfl (fun h2 => ?_) (fun h2 => ?_)
      · refine xB.go 2 (46, [(0, .ref 16), (1, .int x1), (2, .int ((nI i) + 1))], [], XM L a b) rfl ?_
        rw [nI_1]
        exact ih (i + 1) (by omega) (by omega) a b hf (hI.skip (fun z => h2 (hmb.mpr z)))
      · obtain ⟨h, hrh⟩ := hmb.mp h2
        refine xB.go 2 (70, [(0, .ref 16), (1, .int x1), (2, .int (nI i))], [.int (nI i), .ref 16], XM L a b) rfl ?_
        refine xB.ca 62 [.ref 16, .int (nI i)] [] (c_spreadFrom _ L _ _ hPa (hN.frame (hf.1 3 (by decide))) (hV.frame (hf.1 5 (by decide)) (hf.1 6 (by decide)) (hf.1 7 (by decide))) hin h2 (by rw [hf.1 9 (by decide)]; exact (hht i h hrh).1) (hht i h hrh).2 (hw.1 i h hrh).2.1 (hw.1 i h hrh).2.2 (fun c hc => (hw.fo ⟨h, hrh⟩ hc).1)) rfl ?_
        intro rr a1 b1 hq
        obtain ⟨rfl, hS⟩ := hq
        show xB _ _ L _ (73, [(0, .ref 16), (1, .int x1), (2, .int (nI i))], [], XM L a1 b1)
        refine xB.go 2 (46, [(0, .ref 16), (1, .int x1), (2, .int ((nI i) + 1))], [], XM L a1 b1) rfl ?_
        rw [nI_1]
        obtain ⟨s1, s2, s3, s4⟩ := SPR.step (rdb := rd K T vL aL) hn64 hw hrh (fun j => by rw [hf.2.2 15 (by decide) (by decide)]) hS hI
        exact ih (i + 1) (by omega) (by omega) a1 b1 ⟨fun x hx => by rw [s2 x hx, hf.1 x hx], fun y hy => by rw [s3 y hy, hf.2.1 y hy], fun x h1 h2 => by rw [s4 x h1 h2, hf.2.2 x h1 h2]⟩ s1
set_option maxRecDepth 100000 in
set_option maxHeartbeats 1000000 in
theorem tfind_25 (d L : Nat) (mi : xmi) (ml : xml) {n : Nat} {K T : Nat → Nat} {vL aL cL : Nat → Nat → Bool} (hP : PRG mi n K T) (hN : NUM mi n K T) (hV : LEV mi vL aL cL) (hw : WF n K T) (hm : ∀ i, i < 64 → (hb (ml 8 2) i = true ↔ ∃ h, Rh n K T i h)) (hht : ∀ i h, Rh n K T i h → mi 9 i = nI h ∧ h ≤ 16) : ∀ (f r : Nat), r ≤ 2177 → 2177 - r < f → ∀ (a : xmi) (b : xml), tF mi ml a b → tO n K T (rd K T vL aL) (fun i j => hb (ml 15 i) j = true) (tb2 b) (a 16 7) r → xB (d + 4) mX7_find L (fun rr a b => rr = none ∧ tF mi ml a b ∧ ∀ b' j k, b' < 2 → (TY n K T (rd K T vL aL b') (fun i j => hb (ml 15 i) j = true) j k ↔ gS (tb2 b) b' j k)) (25, [(0, .ref 16), (1, .int (nI r))], [], XM L a b) := by
  intro f
  induction f with
  | zero => intro i h1 h2; omega
  | succ f ih =>
    intro r hle hlt a b hf hO
    refine xB.go 2 (29, [(0, .ref 16), (1, .int (nI r))], [.int 2177, .int (nI r)], XM L a b) rfl ?_
    refine xB.bp (2177 ≤ (nI r)) (85, [(0, .ref 16), (1, .int (nI r))], [], XM L a b) (32, [(0, .ref 16), (1, .int (nI r))], [], XM L a b) rfl (fun h1 => ?_) (fun h1 => ?_)
    · refine xB.rt none a b rfl ?_
      exact ⟨rfl, hf, hO.end (Or.inr ((nI_leI (by decide) (by omega)).mp h1))⟩
    · refine xB.go 2 (36, [(0, .ref 16), (1, .int (nI r))], [.int (a 16 7)], XM L a b) rfl ?_
      refine xB.bp ((a 16 7) = 0) (85, [(0, .ref 16), (1, .int (nI r))], [], XM L a b) (39, [(0, .ref 16), (1, .int (nI r))], [], XM L a b) rfl (fun h2 => ?_) (fun h2 => ?_)
      · refine xB.rt none a b rfl ?_
        exact ⟨rfl, hf, hO.end (Or.inl h2)⟩
      · refine xB.go 5 (46, [(0, .ref 16), (1, .int (nI r)), (2, .int 0)], [], XM L (xU a 16 7 0) b) rfl ?_
        have hO1 : tO n K T (rd K T vL aL) (fun i j => hb (ml 15 i) j = true) (tb2 b) (1) r := by
          rcases hO.2 with ⟨g, -⟩ | ⟨g, -⟩
          · rw [g] at hO; exact hO
          · exact absurd g h2
        obtain ⟨hI, hr2⟩ := tI.begin hO1
        refine tfind_46 d L mi ml hP hN hV hw hm hht (nI r) r (fun a1 b1 hf1 hI1 => ?_) (n + 1) 0 (Nat.zero_le _) (by omega) (xU a 16 7 0) b ⟨fun x hx => by rw [xU_ne hx, hf.1 x hx], fun y hy => by rw [xU_at, va_up_ne _ _ hy, hf.2.1 y hy], hf.2.2⟩ (by rw [xU_self]; exact hI)
        refine xB.go 2 (25, [(0, .ref 16), (1, .int ((nI r) + 1))], [], XM L a1 b1) rfl ?_
        rw [nI_1]
        exact ih (r + 1) (by omega) (by omega) a1 b1 hf1 (hI1.end hw)
set_option maxRecDepth 100000 in
set_option maxHeartbeats 1000000 in
theorem c_tfind (d L : Nat) (mi : xmi) (ml : xml) {n : Nat} {K T : Nat → Nat} {vL aL cL : Nat → Nat → Bool} (hP : PRG mi n K T) (hN : NUM mi n K T) (hV : LEV mi vL aL cL) (hw : WF n K T) (hm : ∀ i, i < 64 → (hb (ml 8 2) i = true ↔ ∃ h, Rh n K T i h)) (hht : ∀ i h, Rh n K T i h → mi 9 i = nI h ∧ h ≤ 16) : xF (d + 5) 59 [.ref 16] L mi ml (fun rr a b => rr = none ∧ tF mi ml a b ∧ ∀ b' j k, b' < 2 → (TY n K T (rd K T vL aL b') (fun i j => hb (ml 15 i) j = true) j k ↔ gS (tb2 b) b' j k)) := by
  refine xF.mk mX7_find rfl rfl ?_
  refine xB.go 3 (5, [(0, .ref 16)], [.long 0, .ref 17], XM L mi ml) rfl ?_
  refine xB.c0 137 [.ref 17, .long 0] [] (c_fill17 _ L _ _ _) rfl ?_
  refine xB.go 11 (25, [(0, .ref 16), (1, .int 0)], [], XM L (xU mi 16 7 1) (xU (xU (va_up ml 17 (sl_fill (ml 17) 0 64)) 16 5 0) 16 6 0)) rfl ?_
  refine tfind_25 d L mi ml hP hN hV hw hm hht 2178 0 (Nat.zero_le _) (by omega) _ _ ⟨fun x hx => by rw [xU_ne hx], fun y hy => by rw [xU_at, va_up_ne _ _ hy], fun x h1 h2 => by rw [xU_ne h1, xU_ne h1, va_up_ne _ _ h2]⟩ ?_
  rw [xU_self]
  refine tO.zero (fun b j k hb2 hj hk => ?_)
  unfold tb2
  cases Nat.blt k 16 with
  | true => simp only [cond_true]; rw [xU_ne (by decide), xU_ne (by decide), va_up_self]; unfold sl_fill; rw [if_pos hj, hb_0]
  | false =>
    simp only [cond_false]
    rcases (show b = 0 ∨ b = 1 by omega) with rfl | rfl
    · rw [xU_at, va_up_ne _ _ (by decide), xU_self, hb_0]
    · rw [xU_self, hb_0]
