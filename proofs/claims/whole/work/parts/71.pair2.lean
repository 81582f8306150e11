/-! PAIRS that change something -/
theorem pair_up {L : Nat} {xs : Nat → Int32} {mi A A' : xmi} {ml : xml} {j1 j2 : Nat} {as1 as2 : List Value} {v w : Int32} (h0 : INV xs mi ml) (f1 : xFv 10 j1 as1 L mi ml (.int v) A ml) (f2 : xFv 10 j2 as2 L A ml (.int w) A' ml) (e : w = v) (hA : A 1000 = mi 1000) (h : INV xs A' ml) : PAIR j1 as1 j2 as2 L xs mi ml := by
  refine ⟨fun u a b => u = v ∧ a = A ∧ b = ml, f1.po (fun r a b ⟨q1, q2, q3⟩ => ⟨v, q1, rfl, q2, q3⟩), fun u a b ⟨q1, q2, q3⟩ => ⟨by rw [q2, hA]; exact h0.scr, ?_⟩⟩
  subst q1; subst q2; subst q3; subst e
  exact f2.po (fun r a b ⟨q1, q2, q3⟩ => ⟨q1, by subst q2; subst q3; exact h⟩)
theorem inv_mem0 {xs : Nat → Int32} {mi : xmi} {ml : xml} (h : INV xs mi ml) {j : Nat} (hj : j < 24) (y : Int32) : INV xs (xU (xU mi 23 j y) 36 (0 + j) y) ml := by
  obtain ⟨n, K, T, vL, aL, cL, hC, hR, hL, h0, h1⟩ := h
  have fr : ∀ x, x ≠ 23 → x ≠ 36 → (xU (xU mi 23 j y) 36 (0 + j) y) x = mi x := fun x x1 x2 => by rw [xU_ne x2, xU_ne x1]
  refine ⟨n, K, T, vL, aL, cL, hC.frame (fun x hx => fr x (by omega) (by omega)) (fun _ _ => rfl), hR.frame (fun x h1 h2 h3 => fr x (by omega) h3), ⟨hL.1, hL.2.1, ?_, ?_⟩, h0, h1⟩
  · obtain ⟨r1, r2⟩ := hL.2.2.1
    refine ⟨?_, r2⟩
    intro x hx
    show va_up (mi 23) j y x = va_up (mi 36) (0 + j) y (24 * 0 + x)
    exact (upB (B := 0) (fun x hx => (r1 x hx).symm) x hx).symm
  · obtain ⟨r1, r2⟩ := hL.2.2.2
    refine ⟨?_, r2⟩
    intro x hx
    show mi 28 x = va_up (mi 36) (0 + j) y (24 * 1 + x)
    rw [va_up_ne _ _ (by omega)]; exact r1 x hx
theorem inv_mem1 {xs : Nat → Int32} {mi : xmi} {ml : xml} (h : INV xs mi ml) {j : Nat} (hj : j < 24) (y : Int32) : INV xs (xU (xU mi 28 j y) 36 (24 + j) y) ml := by
  obtain ⟨n, K, T, vL, aL, cL, hC, hR, hL, h0, h1⟩ := h
  have fr : ∀ x, x ≠ 28 → x ≠ 36 → (xU (xU mi 28 j y) 36 (24 + j) y) x = mi x := fun x x1 x2 => by rw [xU_ne x2, xU_ne x1]
  refine ⟨n, K, T, vL, aL, cL, hC.frame (fun x hx => fr x (by omega) (by omega)) (fun _ _ => rfl), hR.frame (fun x h1 h2 h3 => fr x (by omega) h3), ⟨hL.1, hL.2.1, ?_, ?_⟩, h0, h1⟩
  · obtain ⟨r1, r2⟩ := hL.2.2.1
    refine ⟨?_, r2⟩
    intro x hx
    show mi 23 x = va_up (mi 36) (24 + j) y (24 * 0 + x)
    rw [va_up_ne _ _ (by omega)]; exact r1 x hx
  · obtain ⟨r1, r2⟩ := hL.2.2.2
    refine ⟨?_, r2⟩
    intro x hx
    show va_up (mi 28) j y x = va_up (mi 36) (24 + j) y (24 * 1 + x)
    exact (upB (B := 24) (fun x hx => (r1 x hx).symm) x hx).symm
theorem p_let {L : Nat} {xs : Nat → Int32} {mi : xmi} {ml : xml} (h : INV xs mi ml) (m x y : Int32) : PAIR 75 [.ref 0, .int m, .int x, .int y] 121 [.ref 32, .int m, .int x, .int y] L xs mi ml := by
  rcases m_cases m with rfl | rfl | hm
  · by_cases g : 0 ≤ x ∧ x < 8
    · refine pair_up h (c_let0 7 L mi ml x y) (c_mlet0 8 L _ ml x y) rfl (by rw [if_pos g]; rfl) ?_
      rw [if_pos g, if_pos g]
      obtain ⟨j, hj, rfl⟩ := ix_j (m := 8) (by decide) g
      rw [nI_clamp (by omega)]
      exact inv_mem0 h (by omega) y
    · refine pair_up h (c_let0 7 L mi ml x y) (c_mlet0 8 L _ ml x y) rfl (by rw [if_neg g]) ?_
      rw [if_neg g, if_neg g]; exact h
  · by_cases g : 0 ≤ x ∧ x < 8
    · refine pair_up h (c_let1 7 L mi ml x y) (c_mlet1 8 L _ ml x y) rfl (by rw [if_pos g]; rfl) ?_
      rw [if_pos g, if_pos g]
      obtain ⟨j, hj, rfl⟩ := ix_j (m := 8) (by decide) g
      rw [nI_clamp (by omega)]
      exact inv_mem1 h (by omega) y
    · refine pair_up h (c_let1 7 L mi ml x y) (c_mlet1 8 L _ ml x y) rfl (by rw [if_neg g]) ?_
      rw [if_neg g, if_neg g]; exact h
  · exact pair_ro h (c_letN 7 L mi ml hm x y) (c_mletN 8 L mi ml hm x y) rfl
theorem p_lay {L : Nat} {xs : Nat → Int32} {mi : xmi} {ml : xml} (h : INV xs mi ml) (m x y v : Int32) : PAIR 76 [.ref 0, .int m, .int x, .int y, .int v] 122 [.ref 32, .int m, .int x, .int y, .int v] L xs mi ml := by
  rcases m_cases m with rfl | rfl | hm
  · by_cases g : (0 ≤ x ∧ x < 2) ∧ (0 ≤ y ∧ y < 8)
    · refine pair_up h (c_lay0 7 L mi ml x y v) (c_mlay0 8 L _ ml x y v) rfl (by rw [if_pos g]; rfl) ?_
      rw [if_pos g, if_pos g]
      obtain ⟨j, hj, rfl⟩ := ix_j (m := 2) (by decide) g.1
      have h7 := (and7_ix y).2
      rw [nI_clamp (by omega)]
      exact inv_mem0 h (by omega) v
    · refine pair_up h (c_lay0 7 L mi ml x y v) (c_mlay0 8 L _ ml x y v) rfl (by rw [if_neg g]) ?_
      rw [if_neg g, if_neg g]; exact h
  · by_cases g : (0 ≤ x ∧ x < 2) ∧ (0 ≤ y ∧ y < 8)
    · refine pair_up h (c_lay1 7 L mi ml x y v) (c_mlay1 8 L _ ml x y v) rfl (by rw [if_pos g]; rfl) ?_
      rw [if_pos g, if_pos g]
      obtain ⟨j, hj, rfl⟩ := ix_j (m := 2) (by decide) g.1
      have h7 := (and7_ix y).2
      rw [nI_clamp (by omega)]
      exact inv_mem1 h (by omega) v
    · refine pair_up h (c_lay1 7 L mi ml x y v) (c_mlay1 8 L _ ml x y v) rfl (by rw [if_neg g]) ?_
      rw [if_neg g, if_neg g]; exact h
  · exact pair_ro h (c_layN 7 L mi ml hm x y v) (c_mlayN 8 L mi ml hm x y v) rfl
theorem lv4 : ∀ j, j < 4 → ∃ p q : Bool, nI j = lv2 p q := by decide +kernel
def lvUp (f : Nat → Nat → Bool) (j : Nat) (p q : Bool) : Nat → Nat → Bool := fun b z => if z = j then (bif Nat.beq b 0 then p else q) else f b z
theorem lvUp_self {f : Nat → Nat → Bool} {j : Nat} {p q : Bool} : lv2 (lvUp f j p q 0 j) (lvUp f j p q 1 j) = lv2 p q := by unfold lvUp; rw [if_pos rfl, if_pos rfl]; rfl
theorem lvUp_ne {f : Nat → Nat → Bool} {j z : Nat} {p q : Bool} (h : z ≠ j) : lv2 (lvUp f j p q 0 z) (lvUp f j p q 1 z) = lv2 (f 0 z) (f 1 z) := by unfold lvUp; rw [if_neg h, if_neg h]
theorem inv_lev0 {xs : Nat → Int32} {mi : xmi} {ml : xml} (h : INV xs mi ml) {j : Nat} (hj : j < 8) {y : Int32} (hy : 0 ≤ y ∧ y < 4) : INV xs (xU (xU (xU (xU mi 5 j y) 0 9 1) 35 (j) y) 32 10 0) ml := by
  obtain ⟨n, K, T, vL, aL, cL, hC, hR, hL, h0, h1⟩ := h
  obtain ⟨t, ht, rfl⟩ := ix_j (m := 4) (by decide) hy
  obtain ⟨p, q, e⟩ := lv4 t ht
  rw [e]
  obtain ⟨c1, c2, c3, c4, c5, c6, c7⟩ := hC
  obtain ⟨m1, m2, m3, m4, m5, m6, m7, m8⟩ := hR
  refine ⟨n, K, T, (lvUp vL j p q), aL, cL, ⟨c1.frame rfl rfl rfl rfl rfl, c2.frame rfl, ⟨?_, ?_, ?_⟩, c4, Or.inr rfl, fun z => ⟨(c6 z).1.frame rfl rfl rfl, fun z2 => ((c6 z).2 z2).frame rfl rfl⟩, fun _ z => absurd z (by show ¬ (1 : Int32) = 0; decide)⟩, ⟨m1.frame rfl rfl rfl, m2.frame rfl, ⟨?_, ?_, ?_⟩, m4, Or.inl rfl, fun _ => rfl, fun z => ⟨(m7 z).1.frame rfl, fun z2 => ((m7 z).2 z2).frame rfl rfl⟩, fun _ _ z => absurd z (by show ¬ (0 : Int32) = 1; decide)⟩, hL, h0, h1⟩
  · intro x hx
    show va_up (mi 5) j (lv2 p q) x = _
    by_cases ex : x = j
    · subst ex; rw [va_up_self, lvUp_self]
    · rw [va_up_ne _ _ ex, lvUp_ne ex]; exact c3.1 x hx
  · exact c3.2.1
  · exact c3.2.2
  · intro x hx
    show va_up (mi 35) (j) (lv2 p q) (x) = _
    by_cases ex : x = j
    · subst ex; rw [va_up_self, lvUp_self]
    · rw [va_up_ne _ _ (by omega), lvUp_ne ex]; exact m3.1 x hx
  · intro x hx
    show va_up (mi 35) (j) (lv2 p q) (8 + x) = _
    rw [va_up_ne _ _ (by omega)]; exact m3.2.1 x hx
  · intro x hx
    show va_up (mi 35) (j) (lv2 p q) (10 + x) = _
    rw [va_up_ne _ _ (by omega)]; exact m3.2.2 x hx
theorem inv_lev1 {xs : Nat → Int32} {mi : xmi} {ml : xml} (h : INV xs mi ml) {j : Nat} (hj : j < 2) {y : Int32} (hy : 0 ≤ y ∧ y < 4) : INV xs (xU (xU (xU (xU mi 6 j y) 0 9 1) 35 (8 + j) y) 32 10 0) ml := by
  obtain ⟨n, K, T, vL, aL, cL, hC, hR, hL, h0, h1⟩ := h
  obtain ⟨t, ht, rfl⟩ := ix_j (m := 4) (by decide) hy
  obtain ⟨p, q, e⟩ := lv4 t ht
  rw [e]
  obtain ⟨c1, c2, c3, c4, c5, c6, c7⟩ := hC
  obtain ⟨m1, m2, m3, m4, m5, m6, m7, m8⟩ := hR
  refine ⟨n, K, T, vL, (lvUp aL j p q), cL, ⟨c1.frame rfl rfl rfl rfl rfl, c2.frame rfl, ⟨?_, ?_, ?_⟩, c4, Or.inr rfl, fun z => ⟨(c6 z).1.frame rfl rfl rfl, fun z2 => ((c6 z).2 z2).frame rfl rfl⟩, fun _ z => absurd z (by show ¬ (1 : Int32) = 0; decide)⟩, ⟨m1.frame rfl rfl rfl, m2.frame rfl, ⟨?_, ?_, ?_⟩, m4, Or.inl rfl, fun _ => rfl, fun z => ⟨(m7 z).1.frame rfl, fun z2 => ((m7 z).2 z2).frame rfl rfl⟩, fun _ _ z => absurd z (by show ¬ (0 : Int32) = 1; decide)⟩, hL, h0, h1⟩
  · exact c3.1
  · intro x hx
    show va_up (mi 6) j (lv2 p q) x = _
    by_cases ex : x = j
    · subst ex; rw [va_up_self, lvUp_self]
    · rw [va_up_ne _ _ ex, lvUp_ne ex]; exact c3.2.1 x hx
  · exact c3.2.2
  · intro x hx
    show va_up (mi 35) (8 + j) (lv2 p q) (x) = _
    rw [va_up_ne _ _ (by omega)]; exact m3.1 x hx
  · intro x hx
    show va_up (mi 35) (8 + j) (lv2 p q) (8 + x) = _
    by_cases ex : x = j
    · subst ex; rw [va_up_self, lvUp_self]
    · rw [va_up_ne _ _ (by omega), lvUp_ne ex]; exact m3.2.1 x hx
  · intro x hx
    show va_up (mi 35) (8 + j) (lv2 p q) (10 + x) = _
    rw [va_up_ne _ _ (by omega)]; exact m3.2.2 x hx
theorem inv_lev2 {xs : Nat → Int32} {mi : xmi} {ml : xml} (h : INV xs mi ml) {j : Nat} (hj : j < 4) {y : Int32} (hy : 0 ≤ y ∧ y < 4) : INV xs (xU (xU (xU (xU mi 7 j y) 0 9 1) 35 (10 + j) y) 32 10 0) ml := by
  obtain ⟨n, K, T, vL, aL, cL, hC, hR, hL, h0, h1⟩ := h
  obtain ⟨t, ht, rfl⟩ := ix_j (m := 4) (by decide) hy
  obtain ⟨p, q, e⟩ := lv4 t ht
  rw [e]
  obtain ⟨c1, c2, c3, c4, c5, c6, c7⟩ := hC
  obtain ⟨m1, m2, m3, m4, m5, m6, m7, m8⟩ := hR
  refine ⟨n, K, T, vL, aL, (lvUp cL j p q), ⟨c1.frame rfl rfl rfl rfl rfl, c2.frame rfl, ⟨?_, ?_, ?_⟩, c4, Or.inr rfl, fun z => ⟨(c6 z).1.frame rfl rfl rfl, fun z2 => ((c6 z).2 z2).frame rfl rfl⟩, fun _ z => absurd z (by show ¬ (1 : Int32) = 0; decide)⟩, ⟨m1.frame rfl rfl rfl, m2.frame rfl, ⟨?_, ?_, ?_⟩, m4, Or.inl rfl, fun _ => rfl, fun z => ⟨(m7 z).1.frame rfl, fun z2 => ((m7 z).2 z2).frame rfl rfl⟩, fun _ _ z => absurd z (by show ¬ (0 : Int32) = 1; decide)⟩, hL, h0, h1⟩
  · exact c3.1
  · exact c3.2.1
  · intro x hx
    show va_up (mi 7) j (lv2 p q) x = _
    by_cases ex : x = j
    · subst ex; rw [va_up_self, lvUp_self]
    · rw [va_up_ne _ _ ex, lvUp_ne ex]; exact c3.2.2 x hx
  · intro x hx
    show va_up (mi 35) (10 + j) (lv2 p q) (x) = _
    rw [va_up_ne _ _ (by omega)]; exact m3.1 x hx
  · intro x hx
    show va_up (mi 35) (10 + j) (lv2 p q) (8 + x) = _
    rw [va_up_ne _ _ (by omega)]; exact m3.2.1 x hx
  · intro x hx
    show va_up (mi 35) (10 + j) (lv2 p q) (10 + x) = _
    by_cases ex : x = j
    · subst ex; rw [va_up_self, lvUp_self]
    · rw [va_up_ne _ _ (by omega), lvUp_ne ex]; exact m3.2.2 x hx
theorem pl0 {L : Nat} {xs : Nat → Int32} {mi : xmi} {ml : xml} (h : INV xs mi ml) (x y : Int32) : PAIR 70 [.ref 0, .int 0, .int x, .int y] 96 [.ref 32, .int 0, .int x, .int y] L xs mi ml := by
  refine pair_up h (c_level0 6 L mi ml x y) (c_mlevel0 8 L _ ml x y) rfl (by split <;> rfl) ?_
  by_cases g : (0 ≤ x ∧ x < 8) ∧ (0 ≤ y ∧ y < 4)
  · rw [if_pos g, if_pos g]
    obtain ⟨j, hj, rfl⟩ := ix_j (m := 8) (by decide) g.1
    rw [nI_clamp (by omega)]
    exact inv_lev0 h hj g.2
  · rw [if_neg g, if_neg g]; exact h
theorem pl1 {L : Nat} {xs : Nat → Int32} {mi : xmi} {ml : xml} (h : INV xs mi ml) (x y : Int32) : PAIR 70 [.ref 0, .int 1, .int x, .int y] 96 [.ref 32, .int 1, .int x, .int y] L xs mi ml := by
  refine pair_up h (c_level1 6 L mi ml x y) (c_mlevel1 8 L _ ml x y) rfl (by split <;> rfl) ?_
  by_cases g : (0 ≤ x ∧ x < 2) ∧ (0 ≤ y ∧ y < 4)
  · rw [if_pos g, if_pos g]
    obtain ⟨j, hj, rfl⟩ := ix_j (m := 2) (by decide) g.1
    rw [nI_clamp (by omega)]
    exact inv_lev1 h hj g.2
  · rw [if_neg g, if_neg g]; exact h
theorem pl2 {L : Nat} {xs : Nat → Int32} {mi : xmi} {ml : xml} (h : INV xs mi ml) (x y : Int32) : PAIR 70 [.ref 0, .int 2, .int x, .int y] 96 [.ref 32, .int 2, .int x, .int y] L xs mi ml := by
  refine pair_up h (c_level2 6 L mi ml x y) (c_mlevel2 8 L _ ml x y) rfl (by split <;> rfl) ?_
  by_cases g : (0 ≤ x ∧ x < 4) ∧ (0 ≤ y ∧ y < 4)
  · rw [if_pos g, if_pos g]
    obtain ⟨j, hj, rfl⟩ := ix_j (m := 4) (by decide) g.1
    rw [nI_clamp (by omega)]
    exact inv_lev2 h hj g.2
  · rw [if_neg g, if_neg g]; exact h
theorem p_level {L : Nat} {xs : Nat → Int32} {mi : xmi} {ml : xml} (h : INV xs mi ml) (w x y : Int32) : PAIR 70 [.ref 0, .int w, .int x, .int y] 96 [.ref 32, .int w, .int x, .int y] L xs mi ml := by
  by_cases g0 : w = 0
  · subst g0; exact pl0 h x y
  by_cases g1 : w = 1
  · subst g1; exact pl1 h x y
  by_cases g2 : w = 2
  · subst g2; exact pl2 h x y
  exact pair_ro h (c_levelN 6 L mi ml g0 g1 g2 x y) (c_mlevelN 8 L mi ml g0 g1 g2 x y) rfl
