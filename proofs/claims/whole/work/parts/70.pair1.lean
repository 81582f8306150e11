/-! PAIRS: a call of the class, then the same of the reference: one answer, and all holds again -/
def PAIR (j1 : Nat) (as1 : List Value) (j2 : Nat) (as2 : List Value) (L : Nat) (xs : Nat → Int32) (mi : xmi) (ml : xml) : Prop := ∃ MID : Int32 → xmi → xml → Prop, xF 10 j1 as1 L mi ml (fun r a b => ∃ v, r = some (.int v) ∧ MID v a b) ∧ ∀ v a b, MID v a b → a 1000 = xs ∧ xF 10 j2 as2 L a b (fun r a' b' => r = some (.int v) ∧ INV xs a' b')
theorem RI.frame {n : Nat} {K T : Nat → Nat} {vL aL cL : Nat → Nat → Bool} {mi a : xmi} (h : RI n K T vL aL cL mi) (ha : ∀ x, 32 ≤ x → x ≤ 40 → x ≠ 36 → a x = mi x) : RI n K T vL aL cL a := by
  obtain ⟨h1, h2, h3, h4, h5, h6, h7, h8⟩ := h
  have e := ha 32 (by decide) (by decide) (by decide)
  refine ⟨h1.frame (by rw [e]) (ha 33 (by decide) (by decide) (by decide)) (ha 34 (by decide) (by decide) (by decide)), h2.frame (ha 34 (by decide) (by decide) (by decide)), h3.frame (ha 35 (by decide) (by decide) (by decide)), by rw [e]; exact h4, by rw [e]; exact h5, fun z => ?_, fun z => ?_, fun z z2 z3 => ?_⟩
  · rw [e] at z ⊢; exact h6 z
  · rw [e] at z ⊢
    exact ⟨(h7 z).1.frame (ha 37 (by decide) (by decide) (by decide)), fun y => ((h7 z).2 y).frame (ha 38 (by decide) (by decide) (by decide)) (ha 39 (by decide) (by decide) (by decide))⟩
  · rw [e] at z z2 z3
    exact (h8 z z2 z3).frame (ha 40 (by decide) (by decide) (by decide))
theorem RW1.frame {w M O : Nat} {mi a : xmi} (h : RW1 w M O mi) (hM : a M = mi M) (h0 : a O = mi O) (h1 : a (O + 1) = mi (O + 1)) (h2 : a (O + 2) = mi (O + 2)) (h36 : a 36 = mi 36) (h43 : a 43 = mi 43) (h44 : a 44 = mi 44) (h45 : a 45 = mi 45) (h46 : a 46 = mi 46) (h47 : a 47 = mi 47) : RW1 w M O a := by
  unfold RW1 at h ⊢; rw [hM, h0, h1, h2, h36, h43, h44, h45, h46, h47]; exact h
theorem REL.frame {n : Nat} {mi a : xmi} (h : REL n mi) (e : ∀ x, x = 3 ∨ x = 34 ∨ x = 36 ∨ (19 ≤ x ∧ x ≤ 31) ∨ (43 ≤ x ∧ x ≤ 48) → a x = mi x) : REL n a := by
  obtain ⟨h1, h2, h3, h4⟩ := h
  refine ⟨?_, ?_, h3.frame (e _ (by omega)) (e _ (by omega)) (e _ (by omega)) (e _ (by omega)) (e _ (by omega)) (e _ (by omega)) (e _ (by omega)) (e _ (by omega)) (e _ (by omega)) (e _ (by omega)), h4.frame (e _ (by omega)) (e _ (by omega)) (e _ (by omega)) (e _ (by omega)) (e _ (by omega)) (e _ (by omega)) (e _ (by omega)) (e _ (by omega)) (e _ (by omega)) (e _ (by omega))⟩
  · rw [e 3 (by omega), e 34 (by omega)]; exact h1
  · rw [e 19 (by omega), e 48 (by omega)]; exact h2
section PR
variable {L n : Nat} {K T : Nat → Nat} {vL aL cL : Nat → Nat → Bool} {xs : Nat → Int32} {mi : xmi} {ml : xml}
theorem pair_an {j1 j2 : Nat} {as1 as2 : List Value} {SPEC : Int32 → Prop} (hR : RI n K T vL aL cL mi) (hL : REL n mi) (h0 : mi 1000 = xs) (h1 : mi 1001 = xnumb) (f1 : xF 10 j1 as1 L mi ml (fun rr a b => ∃ v, rr = some (.int v) ∧ CI n K T vL aL cL a b ∧ FR mi ml a b ∧ SPEC v)) (f2 : ∀ a b, RI n K T vL aL cL a → xF 10 j2 as2 L a b (fun rr a' b' => ∃ v, rr = some (.int v) ∧ b' = b ∧ RI n K T vL aL cL a' ∧ FRm a a' ∧ SPEC v)) (uq : ∀ v w, SPEC v → SPEC w → v = w) : PAIR j1 as1 j2 as2 L xs mi ml := by
  refine ⟨fun v a b => CI n K T vL aL cL a b ∧ FR mi ml a b ∧ SPEC v, f1, fun v a b ⟨q1, q2, q3⟩ => ⟨(q2 1000 (by decide)).1.trans h0, ?_⟩⟩
  have hRa := hR.frame (a := a) (fun x hx _ _ => (q2 x (by omega)).1)
  have hLa := hL.frame (a := a) (fun x hx => (q2 x (by omega)).1)
  refine (f2 a b hRa).po (fun r a' b' ⟨v', e, eb, p1, p2, p3⟩ => ⟨by rw [e, uq v v' q3 p3], n, K, T, vL, aL, cL, ?_, p1, ?_, ?_, ?_⟩)
  · rw [eb]
    exact q1.frame (fun x hx => p2 x (by omega) (by omega) (by omega) (by omega) (by omega) (by omega) (by omega) (by omega)) (fun _ _ => rfl)
  · exact hLa.frame (fun x hx => p2 x (by omega) (by omega) (by omega) (by omega) (by omega) (by omega) (by omega) (by omega))
  · rw [p2 1000 (by decide) (by decide) (by decide) (by decide) (by decide) (by decide) (by decide) (by decide), (q2 1000 (by decide)).1, h0]
  · rw [p2 1001 (by decide) (by decide) (by decide) (by decide) (by decide) (by decide) (by decide) (by decide), (q2 1001 (by decide)).1, h1]
end PR
theorem p_check {L : Nat} {xs : Nat → Int32} {mi : xmi} {ml : xml} (h : INV xs mi ml) : PAIR 71 [.ref 0] 117 [.ref 32] L xs mi ml := by
  obtain ⟨n, K, T, vL, aL, cL, hC, hR, hL, h0, h1⟩ := h
  exact pair_an hR hL h0 h1 (c_check 3 L mi ml hC) (fun a b hRa => c_mcheck 2 L a b hRa) (fun v w => CHK.uq)
theorem p_surrounding {L : Nat} {xs : Nat → Int32} {mi : xmi} {ml : xml} (h : INV xs mi ml) (x : Int32) : PAIR 72 [.ref 0, .int x] 118 [.ref 32, .int x] L xs mi ml := by
  obtain ⟨n, K, T, vL, aL, cL, hC, hR, hL, h0, h1⟩ := h
  exact pair_an hR hL h0 h1 (c_surrounding 3 L mi ml hC x) (fun a b hRa => c_msurrounding 1 L a b hRa x) (fun v w => SUR.uq hC.1.2.1)
theorem p_pile {L : Nat} {xs : Nat → Int32} {mi : xmi} {ml : xml} (h : INV xs mi ml) (x y : Int32) : PAIR 73 [.ref 0, .int x, .int y] 119 [.ref 32, .int x, .int y] L xs mi ml := by
  obtain ⟨n, K, T, vL, aL, cL, hC, hR, hL, h0, h1⟩ := h
  exact pair_an hR hL h0 h1 (c_pile 3 L mi ml hC x y) (fun a b hRa => c_mpile 1 L a b hRa x y) (fun v w => PIL.uq hC.1.2.1)
theorem p_junction {L : Nat} {xs : Nat → Int32} {mi : xmi} {ml : xml} (h : INV xs mi ml) (x : Int32) : PAIR 74 [.ref 0, .int x] 120 [.ref 32, .int x] L xs mi ml := by
  obtain ⟨n, K, T, vL, aL, cL, hC, hR, hL, h0, h1⟩ := h
  exact pair_an hR hL h0 h1 (c_junction 3 L mi ml hC x) (fun a b hRa => c_mjunction 1 L a b hRa x) (fun v w => JUN.uq hC.1.2.1)
theorem INV.scr {xs : Nat → Int32} {mi : xmi} {ml : xml} (h : INV xs mi ml) : mi 1000 = xs := by obtain ⟨_, _, _, _, _, _, _, _, _, h0, _⟩ := h; exact h0
/-- neither changes anything -/
theorem pair_ro {L : Nat} {xs : Nat → Int32} {mi : xmi} {ml : xml} {j1 j2 : Nat} {as1 as2 : List Value} {v w : Int32} (h : INV xs mi ml) (f1 : xFv 10 j1 as1 L mi ml (.int v) mi ml) (f2 : xFv 10 j2 as2 L mi ml (.int w) mi ml) (e : w = v) : PAIR j1 as1 j2 as2 L xs mi ml := by
  refine ⟨fun u a b => u = v ∧ a = mi ∧ b = ml, f1.po (fun r a b ⟨q1, q2, q3⟩ => ⟨v, q1, rfl, q2, q3⟩), fun u a b ⟨q1, q2, q3⟩ => ⟨q2 ▸ h.scr, ?_⟩⟩
  subst q1; subst q2; subst q3; subst e
  exact f2.po (fun r a b ⟨q1, q2, q3⟩ => ⟨q1, by subst q2; subst q3; exact h⟩)
theorem m_cases (m : Int32) : m = 0 ∨ m = 1 ∨ ¬ (0 ≤ m ∧ m < 2) := by
  by_cases h : 0 ≤ m ∧ m < 2
  · obtain ⟨j, hj, rfl⟩ := ix_j (m := 2) (by decide) h
    rcases (show j = 0 ∨ j = 1 by omega) with rfl | rfl
    · exact Or.inl rfl
    · exact Or.inr (Or.inl rfl)
  · exact Or.inr (Or.inr h)
theorem p_memory {L : Nat} {xs : Nat → Int32} {mi : xmi} {ml : xml} (h : INV xs mi ml) (m x : Int32) : PAIR 81 [.ref 0, .int m, .int x] 133 [.ref 32, .int m, .int x] L xs mi ml := by
  obtain ⟨n, K, T, vL, aL, cL, hC, hR, hL, h0, h1⟩ := id h
  have key : ∀ (M B : Nat), (∀ y, y < 24 → mi M y = mi 36 (B + y)) → (if 0 ≤ x ∧ x < 24 then mi 36 (B + x.toNatClampNeg) else 0) = sl_lv mi M 24 x := fun M B hM => by
    unfold sl_lv
    by_cases g : 0 ≤ x ∧ x < 24
    · rw [if_pos g, if_pos g]
      obtain ⟨j, hj, rfl⟩ := ix_j (m := 24) (by decide) g
      rw [nI_clamp (by omega), hM j hj]
    · rw [if_neg g, if_neg g]
  rcases m_cases m with rfl | rfl | hm
  · exact pair_ro h (c_memory0 7 L mi ml x) (c_mmemory0 8 L mi ml x) (key 23 0 hL.2.2.1.1)
  · exact pair_ro h (c_memory1 7 L mi ml x) (c_mmemory1 8 L mi ml x) (key 28 24 hL.2.2.2.1)
  · exact pair_ro h (c_memoryN 7 L mi ml hm x) (c_mmemoryN 8 L mi ml hm x) rfl
theorem p_ran {L : Nat} {xs : Nat → Int32} {mi : xmi} {ml : xml} (h : INV xs mi ml) (m x : Int32) : PAIR 78 [.ref 0, .int m, .int x] 128 [.ref 32, .int m, .int x] L xs mi ml := by
  obtain ⟨n, K, T, vL, aL, cL, hC, hR, hL, h0, h1⟩ := id h
  rcases m_cases m with rfl | rfl | hm
  · obtain ⟨-, -, -, ⟨c, r1, r2, -⟩, r3, r4, r5, r6, -⟩ := hL.2.2.1
    exact pair_ro h (c_ran0 7 L mi ml x r4 r6) (c_mran0 8 L mi ml x (by rw [← r5]; exact r6)) (by rw [r1, r2, r3, r5])
  · obtain ⟨-, -, -, ⟨c, r1, r2, -⟩, r3, r4, r5, r6, -⟩ := hL.2.2.2
    exact pair_ro h (c_ran1 7 L mi ml x r4 r6) (c_mran1 8 L mi ml x (by rw [← r5]; exact r6)) (by rw [r1, r2, r3, r5])
  · exact pair_ro h (c_ranN 7 L mi ml hm x) (c_mranN 8 L mi ml hm x) rfl
theorem kp_min {c : Nat} (hc : c ≤ 10000) : (if nI c ≤ 64 then nI c else 64) = nI (min c 64) := by
  by_cases h : nI c ≤ 64
  · rw [if_pos h]
    have : c ≤ 64 := (nI_leI (by omega) (by decide)).mp h
    rw [Nat.min_eq_left this]
  · rw [if_neg h]
    have : ¬ c ≤ 64 := fun z => h (nI_le z (by decide))
    rw [Nat.min_eq_right (by omega)]; rfl
theorem p_out {L : Nat} {xs : Nat → Int32} {mi : xmi} {ml : xml} (h : INV xs mi ml) (m x y : Int32) : PAIR 79 [.ref 0, .int m, .int x, .int y] 129 [.ref 32, .int m, .int x, .int y] L xs mi ml := by
  obtain ⟨n, K, T, vL, aL, cL, hC, hR, hL, h0, h1⟩ := id h
  have key : ∀ (w M O B : Nat), B = 64 * w → RW1 w M O mi → (if (0 ≤ x ∧ x < 64) ∧ ¬ mi 45 w ≤ x ∧ (0 ≤ y ∧ y < 2) then (if y = 0 then mi 46 (B + x.toNatClampNeg) else mi 47 (B + x.toNatClampNeg)) else 0) = (if 0 ≤ x ∧ x < (if mi O 4 ≤ 64 then mi O 4 else 64) then (if y = 0 then mi (O + 1) x.toNatClampNeg else if y = 1 then mi (O + 2) x.toNatClampNeg else 0) else 0) := fun w M O B hB hw => by
    obtain ⟨-, q1, q2, ⟨c, r1, r2, r3⟩, -⟩ := hw
    subst hB
    rw [r1, r2, kp_min r3]
    have hiff : ((0 ≤ x ∧ x < 64) ∧ ¬ nI c ≤ x) ↔ (0 ≤ x ∧ x < nI (min c 64)) := by
      constructor
      · rintro ⟨g1, g2⟩
        obtain ⟨j, hj, rfl⟩ := ix_j (m := 64) (by decide) g1
        refine ⟨g1.1, (nI_ltI (by omega) (by omega)).mpr ?_⟩
        have hlt : ¬ c ≤ j := fun z => g2 ((nI_leI (by omega) (by omega)).mpr z)
        omega
      · intro g
        obtain ⟨j, hj, rfl⟩ := ix_j (by omega) g
        exact ⟨⟨g.1, (nI_ltI (b := 64) (by omega) (by decide)).mpr (by omega)⟩, fun z => by have := (nI_leI (by omega) (by omega)).mp z; omega⟩
    by_cases g : 0 ≤ x ∧ x < nI (min c 64)
    · rw [if_pos g]
      have g' := hiff.mpr g
      obtain ⟨j, hj, rfl⟩ := ix_j (by omega) g
      rw [nI_clamp (by omega)]
      by_cases y0 : y = 0
      · subst y0
        rw [if_pos ⟨g'.1, g'.2, by decide⟩, if_pos rfl, if_pos rfl, q1 j (by omega)]
      · by_cases y1 : y = 1
        · subst y1
          rw [if_pos ⟨g'.1, g'.2, by decide⟩, if_neg (by decide), if_neg (by decide), if_pos rfl, q2 j (by omega)]
        · have hno : ¬ ((0 ≤ nI j ∧ nI j < 64) ∧ ¬ nI c ≤ nI j ∧ (0 ≤ y ∧ y < 2)) := by
            rintro ⟨-, -, z⟩
            obtain ⟨k, hk, rfl⟩ := ix_j (m := 2) (by decide) z
            rcases (show k = 0 ∨ k = 1 by omega) with rfl | rfl
            · exact y0 rfl
            · exact y1 rfl
          rw [if_neg hno, if_neg y0, if_neg y1]
    · rw [if_neg g, if_neg (fun z => g (hiff.mp ⟨z.1, z.2.1⟩))]
  rcases m_cases m with rfl | rfl | hm
  · exact pair_ro h (c_out0 6 L mi ml x y) (c_mout0 8 L mi ml x y) (key 0 23 24 0 rfl hL.2.2.1)
  · exact pair_ro h (c_out1 6 L mi ml x y) (c_mout1 8 L mi ml x y) (key 1 28 29 64 rfl hL.2.2.2)
  · exact pair_ro h (c_outN 6 L mi ml hm x y) (c_moutN 8 L mi ml hm x y) rfl
theorem p_same {L : Nat} {xs : Nat → Int32} {mi : xmi} {ml : xml} (h : INV xs mi ml) (lev : Int32) : PAIR 80 [.ref 0, .int lev] 132 [.ref 32, .int lev] L xs mi ml := by
  obtain ⟨n, K, T, vL, aL, cL, hC, hR, hL, h0, h1⟩ := id h
  obtain ⟨-, a1, a2, ⟨c0, a3, a4, a5⟩, -, -, a6, a7, a8⟩ := hL.2.2.1
  obtain ⟨-, b1, b2, ⟨c1, b3, b4, b5⟩, -, -, b6, b7, b8⟩ := hL.2.2.2
  have hV := hC.2.2.1.2.2
  have hVm := hR.2.2.1.2.2
  have lv : ∀ (r : Nat → Int32) (i : Nat), CHV r → i < 64 → ∃ c, c < 4 ∧ r i = nI c ∧ sl_lv mi 7 4 (r i) = mi 35 (10 + c) := fun r i hr hi => by
    obtain ⟨c, hc, e⟩ := hr i hi
    refine ⟨c, hc, e, ?_⟩
    rw [e, show (4 : Int32) = nI 4 from rfl, sl_lvN (by decide) hc, hV c hc, hVm c hc]
  have f1 := c_same 4 L mi ml (k0 := min c0 64) (k1 := min c1 64) (by rw [a3]; exact kp_min a5) (Nat.min_le_right _ _) (by rw [b3]; exact kp_min b5) (Nat.min_le_right _ _) lev (fun i => decide (sl_lv mi 7 4 (mi 25 i) &&& (lev ^^^ (-1)) = 0)) (fun i => decide (sl_lv mi 7 4 (mi 30 i) &&& (lev ^^^ (-1)) = 0)) (fun i _ => by rw [decide_eq_true_iff]) (fun i _ => by rw [decide_eq_true_iff]) (fun i j => decide (mi 25 i = mi 30 j ∧ mi 26 i = mi 31 j)) (fun i j _ _ => by rw [decide_eq_true_iff]) a7 b7
  have f2 := c_msame 7 L mi ml (k0 := min c0 64) (k1 := min c1 64) a4 (by omega) rfl b4 (by omega) rfl lev (fun i => decide (sl_lv mi 7 4 (mi 25 i) &&& (lev ^^^ (-1)) = 0)) (fun i => decide (sl_lv mi 7 4 (mi 30 i) &&& (lev ^^^ (-1)) = 0)) (fun i hi => by
    obtain ⟨c, hc, e1, e2⟩ := lv (mi 25) i a8 (by omega)
    refine ⟨c, hc, ?_, ?_⟩
    · rw [← e1]; exact (a1 i (by omega)).symm
    · rw [decide_eq_true_iff, e2]) (fun i hi => by
    obtain ⟨c, hc, e1, e2⟩ := lv (mi 30) i b8 (by omega)
    refine ⟨c, hc, ?_, ?_⟩
    · rw [← e1]; exact (b1 i (by omega)).symm
    · rw [decide_eq_true_iff, e2]) (fun i j => decide (mi 25 i = mi 30 j ∧ mi 26 i = mi 31 j)) (fun i j hi hj => by
    rw [decide_eq_true_iff]
    have e1 : mi 25 i = mi 46 i := by have := a1 i (by omega); simpa using this
    have e2 : mi 26 i = mi 47 i := by have := a2 i (by omega); simpa using this
    have e3 : mi 30 j = mi 46 (64 + j) := b1 j (by omega)
    have e4 : mi 31 j = mi 47 (64 + j) := b2 j (by omega)
    rw [e1, e2, e3, e4])
  exact pair_ro h f1 f2 (by rw [a6, b6])
