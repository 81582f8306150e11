/-! PAIRS: instruction, clear, run -/
theorem nmxX_le : ∀ k, k < 10 → nmx k ≤ 64 := by decide
theorem nk_ok {k : Nat} {y : Int32} (hk : k < 10) (h0 : nmx k ≠ 0) (h : nmx k = 0 ∨ (0 ≤ y ∧ y < nI (nmx k))) : y = nI y.toNatClampNeg ∧ y.toNatClampNeg < nmx k := by
  have hl := nmxX_le k hk
  obtain ⟨j, hj, rfl⟩ := ix_j (m := nmx k) (by omega) (h.resolve_left h0)
  rw [nI_clamp (by omega)]
  exact ⟨rfl, hj⟩
def NRr (r : Nat → Int32) (n : Nat) (K T : Nat → Nat) : Prop := ∀ i, i < n → (K i = 1 ∨ K i = 2 → r i = nI (T i) ∧ T i < 8) ∧ (K i = 6 ∨ K i = 7 → r i = nI (T i) ∧ T i < 2) ∧ (K i = 8 → r i = nI (T i) ∧ T i < 4) ∧ (K i = 3 → r i = nI (T i) ∧ T i < 7)
theorem nr_up {r : Nat → Int32} {n k : Nat} {K T : Nat → Nat} {y : Int32} (h : NRr r n K T) (hk : k < 10) (hy : nmx k = 0 ∨ (0 ≤ y ∧ y < nI (nmx k))) : NRr (va_up r n y) (n + 1) (va_up K n k) (va_up T n y.toNatClampNeg) := by
  intro i hi
  by_cases e : i = n
  · subst e
    rw [va_up_self, va_up_self, va_up_self]
    refine ⟨fun z => ?_, fun z => ?_, fun z => ?_, fun z => ?_⟩
    · rcases z with rfl | rfl <;> exact nk_ok hk (by decide) hy
    · rcases z with rfl | rfl <;> exact nk_ok hk (by decide) hy
    · subst z; exact nk_ok hk (by decide) hy
    · subst z; exact nk_ok hk (by decide) hy
  · rw [va_up_ne _ _ e, va_up_ne _ _ e, va_up_ne _ _ e]; exact h i (by omega)
theorem jr_up {r : Nat → Int32} {n k : Nat} {K T : Nat → Nat} {y : Int32} (h : ∀ i, i < n → K i = 4 ∨ K i = 5 → r i = nI (T i) ∧ T i < 64) (hk : k < 10) (hy : nmx k = 0 ∨ (0 ≤ y ∧ y < nI (nmx k))) : ∀ i, i < n + 1 → va_up K n k i = 4 ∨ va_up K n k i = 5 → va_up r n y i = nI (va_up T n y.toNatClampNeg i) ∧ va_up T n y.toNatClampNeg i < 64 := by
  intro i hi
  by_cases e : i = n
  · subst e
    rw [va_up_self, va_up_self, va_up_self]
    intro z
    rcases z with rfl | rfl <;> exact nk_ok hk (by decide) hy
  · rw [va_up_ne _ _ e, va_up_ne _ _ e, va_up_ne _ _ e]; exact h i (by omega)
theorem kr_up {r : Nat → Int32} {n k : Nat} {K : Nat → Nat} (h : ∀ i, i < n → r i = nI (K i) ∧ K i < 10) (hk : k < 10) : ∀ i, i < n + 1 → va_up r n (nI k) i = nI (va_up K n k i) ∧ va_up K n k i < 10 := by
  intro i hi
  by_cases e : i = n
  · subst e; rw [va_up_self, va_up_self]; exact ⟨rfl, hk⟩
  · rw [va_up_ne _ _ e, va_up_ne _ _ e]; exact h i (by omega)
theorem inv_ins {n : Nat} {K T : Nat → Nat} {vL aL cL : Nat → Nat → Bool} {xs : Nat → Int32} {mi : xmi} {ml : xml} (hC : CI n K T vL aL cL mi ml) (hR : RI n K T vL aL cL mi) (hL : REL n mi) (h0 : mi 1000 = xs) (h1 : mi 1001 = xnumb) (hn : n < 64) {x y : Int32} (hxy : insOK x y) : INV xs (xU (xU (xU (xU (xU (xU (xU (xU (xU mi 2 n x) 3 n y) 1 2 (nI (n + 1))) 0 8 1) 33 n x) 34 n y) 32 2 (nI (n + 1))) 32 5 0) 32 10 0) ml := by
  obtain ⟨k, hk, rfl, hy⟩ := hxy
  obtain ⟨⟨c11, c12, c13, c14, c15, c16⟩, c2, c3, c4, c5, c6, c7⟩ := hC
  obtain ⟨⟨m11, m12, m13, m14⟩, m2, m3, m4, m5, m6, m7, m8⟩ := hR
  refine ⟨n + 1, va_up K n k, va_up T n y.toNatClampNeg, vL, aL, cL, ⟨⟨rfl, by omega, kr_up c13 hk, jr_up c14 hk hy, c15, c16⟩, nr_up c2 hk hy, c3, Or.inr rfl, c5, fun z => absurd z (by show ¬ (1 : Int32) = 0; decide), fun z => absurd z (by show ¬ (1 : Int32) = 0; decide)⟩, ⟨⟨rfl, by omega, kr_up m13 hk, jr_up m14 hk hy⟩, nr_up m2 hk hy, m3, Or.inl rfl, Or.inl rfl, fun _ => rfl, fun z => absurd z (by show ¬ (0 : Int32) = 1; decide), fun z => absurd z (by show ¬ (0 : Int32) = 1; decide)⟩, ⟨?_, hL.2.1, hL.2.2.1, hL.2.2.2⟩, h0, h1⟩
  intro i hi
  show va_up (mi 3) n y i = va_up (mi 34) n y i
  by_cases e : i = n
  · subst e; rw [va_up_self, va_up_self]
  · rw [va_up_ne _ _ e, va_up_ne _ _ e]; exact hL.1 i (by omega)
theorem p_instruction {L : Nat} {xs : Nat → Int32} {mi : xmi} {ml : xml} (h : INV xs mi ml) (x y : Int32) : PAIR 68 [.ref 0, .int x, .int y] 94 [.ref 32, .int x, .int y] L xs mi ml := by
  obtain ⟨n, K, T, vL, aL, cL, hC, hR, hL, h0, h1⟩ := id h
  refine ⟨fun v a b => b = ml ∧ ((n < 64 ∧ insOK x y ∧ v = nI n ∧ a = (xU (xU (xU (xU mi 2 n x) 3 n y) 1 2 (nI (n + 1))) 0 8 1)) ∨ (¬ (n < 64 ∧ insOK x y) ∧ v = -1 ∧ a = mi)), c_instruction 6 L mi ml hC.1 h1 x y, fun v a b ⟨eb, q⟩ => ⟨by rcases q with ⟨_, _, _, rfl⟩ | ⟨_, _, rfl⟩ <;> exact h0, ?_⟩⟩
  subst eb
  rcases q with ⟨q1, q2, q3, q4⟩ | ⟨q1, q3, q4⟩
  · subst q4
    refine (c_minstruction 7 L (xU (xU (xU (xU mi 2 n x) 3 n y) 1 2 (nI (n + 1))) 0 8 1) b (hR.1.frame rfl rfl rfl) x y).po (fun r a' b' ⟨v', e, eb, p⟩ => ?_)
    subst eb
    rcases p with ⟨p1, p2, p3, p4⟩ | ⟨p1, -, -⟩
    · subst p4; rw [e, q3, p3]; exact ⟨rfl, inv_ins hC hR hL h0 h1 q1 q2⟩
    · exact absurd ⟨q1, q2⟩ p1
  · subst q4
    refine (c_minstruction 7 L a b hR.1 x y).po (fun r a' b' ⟨v', e, eb, p⟩ => ?_)
    subst eb
    rcases p with ⟨p1, p2, p3, p4⟩ | ⟨-, p3, p4⟩
    · exact absurd ⟨p1, p2⟩ q1
    · subst p4; rw [e, q3, p3]; exact ⟨rfl, h⟩
/-- the same with no answer -/
def PAIR0 (j1 : Nat) (as1 : List Value) (j2 : Nat) (as2 : List Value) (L : Nat) (xs : Nat → Int32) (mi : xmi) (ml : xml) : Prop := ∃ MID : xmi → xml → Prop, xF 10 j1 as1 L mi ml (fun r a b => r = none ∧ MID a b) ∧ ∀ a b, MID a b → a 1000 = xs ∧ xF 10 j2 as2 L a b (fun r a' b' => r = none ∧ INV xs a' b')
theorem p_clear {L : Nat} {xs : Nat → Int32} {mi : xmi} {ml : xml} (h : INV xs mi ml) : PAIR0 69 [.ref 0] 95 [.ref 32] L xs mi ml := by
  obtain ⟨n, K, T, vL, aL, cL, hC, hR, hL, h0, h1⟩ := id h
  refine ⟨fun a b => a = xU (xU mi 1 2 0) 0 8 1 ∧ b = ml, c_clear 8 L mi ml, fun a b ⟨ea, eb⟩ => ⟨by rw [ea]; exact h0, ?_⟩⟩
  subst ea; subst eb
  refine (c_mclear 9 L _ b).po (fun r a' b' ⟨e, ea, eb⟩ => ⟨e, ?_⟩)
  subst ea; subst eb
  obtain ⟨⟨c11, c12, c13, c14, c15, c16⟩, c2, c3, c4, c5, c6, c7⟩ := hC
  obtain ⟨⟨m11, m12, m13, m14⟩, m2, m3, m4, m5, m6, m7, m8⟩ := hR
  exact ⟨0, K, T, vL, aL, cL, ⟨⟨rfl, by omega, fun i hi => absurd hi (Nat.not_lt_zero i), fun i hi => absurd hi (Nat.not_lt_zero i), c15, c16⟩, fun i hi => absurd hi (Nat.not_lt_zero i), c3, Or.inr rfl, c5, fun z => absurd z (by show ¬ (1 : Int32) = 0; decide), fun z => absurd z (by show ¬ (1 : Int32) = 0; decide)⟩, ⟨⟨rfl, by omega, fun i hi => absurd hi (Nat.not_lt_zero i), fun i hi => absurd hi (Nat.not_lt_zero i)⟩, fun i hi => absurd hi (Nat.not_lt_zero i), m3, Or.inl rfl, Or.inl rfl, fun _ => rfl, fun z => absurd z (by show ¬ (0 : Int32) = 1; decide), fun z => absurd z (by show ¬ (0 : Int32) = 1; decide)⟩, ⟨fun i hi => absurd hi (Nat.not_lt_zero i), hL.2.1, hL.2.2.1, hL.2.2.2⟩, h0, h1⟩
theorem nok_of {mi : xmi} {n : Nat} {K T : Nat → Nat} (h : NUM mi n K T) : NOK n K (mi 3) := fun i hi => by
  obtain ⟨g1, g2, g3, -⟩ := h i hi
  refine ⟨fun z => ?_, fun z => ?_, fun z => ⟨T i, (g3 z).2, (g3 z).1⟩⟩
  · have q := g1 z; rw [q.1, nI_clamp (by omega)]; exact q.2
  · have q := g2 z; rw [q.1, nI_clamp (by omega)]; exact q.2
theorem inv_run0 {n : Nat} {K T : Nat → Nat} {vL aL cL : Nat → Nat → Bool} {xs : Nat → Int32} {mi : xmi} {ml : xml} (hL : REL n mi) (h0 : mi 1000 = xs) (h1 : mi 1001 = xnumb) {a a0 a' a9 : xmi} {b : xml} (hCa : CI n K T vL aL cL a b) (hRa : RI n K T vL aL cL a') {s t : RS} {hl : Bool} (q2 : FR mi ml a0 b) (q3 : WK 23 24 a0 s hl 10000 a) (p2 : FRm a a') (p3 : RK 0 (xU (xU (xU a' 43 0 1) 44 0 0) 45 0 0) t hl 10000 a9) (e : EQV s t) (hch : CHV s.2.2.1) : INV xs a9 b := by
  obtain ⟨k1, k2, k3, k4, k5, k6, k7, k8, k9⟩ := q3
  obtain ⟨⟨r1, r2, r3, r4, r5⟩, r6, r7, ⟨r8, r9, r10, r11⟩⟩ := p3
  obtain ⟨e1, e2, e3, e4, e5⟩ := e
  have fa : ∀ x, (18 ≤ x ∨ x = 3) → x ≠ 18 → x ≠ 19 → x ≠ 23 → x ≠ 24 → x ≠ 25 → x ≠ 26 → a x = mi x := fun x hx g1 g2 g3 g4 g5 g6 => (k1 x g1 g2 g3 g4 g5 g6).trans (q2 x hx).1
  have fm : ∀ x, x ≠ 43 → x ≠ 44 → x ≠ 45 → xU (xU (xU a' 43 0 1) 44 0 0) 45 0 0 x = a' x := fun x g1 g2 g3 => by rw [xU_ne g3, xU_ne g2, xU_ne g1]
  have f8 : ∀ x, x ≠ 36 → x ≠ 43 → x ≠ 44 → x ≠ 45 → x ≠ 46 → x ≠ 47 → x ≠ 48 → a9 x = a' x := fun x g1 g2 g3 g4 g5 g6 g7 => (r8 x g1 g3 g4 g5 g6 g7).trans (fm x g2 g3 g4)
  have fp : ∀ x, x < 32 ∨ (33 ≤ x ∧ x ≤ 36) ∨ (43 ≤ x ∧ x ≤ 48) ∨ 1000 ≤ x → a' x = a x := fun x hx => p2 x (by omega) (by omega) (by omega) (by omega) (by omega) (by omega) (by omega) (by omega)
  have f9 : ∀ x, x < 32 ∨ x = 34 ∨ 1000 ≤ x → a9 x = a x := fun x hx => (f8 x (by omega) (by omega) (by omega) (by omega) (by omega) (by omega) (by omega)).trans (fp x (by omega))
  refine ⟨n, K, T, vL, aL, cL, hCa.frame (fun x hx => f9 x (by omega)) (fun _ _ => rfl), hRa.frame (fun x h1 h2 h3 => f8 x h3 (by omega) (by omega) (by omega) (by omega) (by omega) (by omega)), ⟨?_, ?_, ?_, ?_⟩, ?_, ?_⟩
  · rw [f9 3 (by omega), f9 34 (by omega), fa 3 (by omega) (by omega) (by omega) (by omega) (by omega) (by omega) (by omega), fa 34 (by omega) (by omega) (by omega) (by omega) (by omega) (by omega) (by omega)]; exact hL.1
  · intro x hx; rw [f9 19 (by omega), k2, r1 x hx]; exact e1 x hx
  · refine ⟨fun x hx => ?_, fun x hx => ?_, fun x hx => ?_, ⟨s.2.2.2.2, ?_, ?_, k7⟩, ?_, ?_, ?_, ?_, ?_⟩
    · rw [f9 23 (by omega), k3, r2 x hx]; exact e2 x hx
    · rw [show 24 + 1 = 25 from rfl, f9 25 (by omega), k4, r3 x hx]; exact e3 x hx
    · rw [show 24 + 2 = 26 from rfl, f9 26 (by omega), k5, r4 x hx]; exact e4 x hx
    · rw [f9 24 (by omega)]; exact k6
    · rw [r5, e5]
    · rw [f9 24 (by omega), k8, r8 43 (by decide) (by decide) (by decide) (by decide) (by decide) (by decide)]; rfl
    · rw [f9 24 (by omega), k8]; exact Or.inr rfl
    · rw [f9 24 (by omega), k9, r7]
    · rw [f9 24 (by omega), k9]; cases hl
      · exact Or.inl rfl
      · exact Or.inr rfl
    · rw [show 24 + 1 = 25 from rfl, f9 25 (by omega), k4]; exact hch
  · obtain ⟨g1, g2, g3, g4, g5, g6, g7, g8, g9⟩ := hL.2.2.2
    have i43 : a9 43 1 = mi 43 1 := by
      rw [r8 43 (by decide) (by decide) (by decide) (by decide) (by decide) (by decide)]
      exact (congrFun (fp 43 (by omega)) 1).trans (congrFun (fa 43 (by omega) (by omega) (by omega) (by omega) (by omega) (by omega) (by omega)) 1)
    have i44 : a9 44 1 = mi 44 1 := (r10 1 (by decide)).2.trans ((congrFun (fp 44 (by omega)) 1).trans (congrFun (fa 44 (by omega) (by omega) (by omega) (by omega) (by omega) (by omega) (by omega)) 1))
    have i45 : a9 45 1 = mi 45 1 := (r10 1 (by decide)).1.trans ((congrFun (fp 45 (by omega)) 1).trans (congrFun (fa 45 (by omega) (by omega) (by omega) (by omega) (by omega) (by omega) (by omega)) 1))
    have iO : a9 29 = mi 29 := (f9 29 (by omega)).trans (fa 29 (by omega) (by omega) (by omega) (by omega) (by omega) (by omega) (by omega))
    have iO1 : a9 (29 + 1) = mi (29 + 1) := (f9 30 (by omega)).trans (fa 30 (by omega) (by omega) (by omega) (by omega) (by omega) (by omega) (by omega))
    refine ⟨fun x hx => ?_, fun x hx => ?_, fun x hx => ?_, ?_, ?_, ?_, ?_, ?_, ?_⟩
    · rw [f9 28 (by omega), fa 28 (by omega) (by omega) (by omega) (by omega) (by omega) (by omega) (by omega), r9 _ (by omega), fm 36 (by decide) (by decide) (by decide), fp 36 (by omega), fa 36 (by omega) (by omega) (by omega) (by omega) (by omega) (by omega) (by omega)]; exact g1 x hx
    · rw [iO1, (r11 _ (by omega)).1, fm 46 (by decide) (by decide) (by decide), fp 46 (by omega), fa 46 (by omega) (by omega) (by omega) (by omega) (by omega) (by omega) (by omega)]; exact g2 x hx
    · rw [show 29 + 2 = 31 from rfl, f9 31 (by omega), fa 31 (by omega) (by omega) (by omega) (by omega) (by omega) (by omega) (by omega), (r11 _ (by omega)).2, fm 47 (by decide) (by decide) (by decide), fp 47 (by omega), fa 47 (by omega) (by omega) (by omega) (by omega) (by omega) (by omega) (by omega)]; exact g3 x hx
    · rw [iO, i45]; exact g4
    · rw [iO, i43]; exact g5
    · rw [iO]; exact g6
    · rw [iO, i44]; exact g7
    · rw [iO]; exact g8
    · rw [iO1]; exact g9
  · rw [f9 1000 (by omega), fa 1000 (by omega) (by omega) (by omega) (by omega) (by omega) (by omega) (by omega), h0]
  · rw [f9 1001 (by omega), fa 1001 (by omega) (by omega) (by omega) (by omega) (by omega) (by omega) (by omega), h1]
theorem pr0 {L : Nat} {xs : Nat → Int32} {mi : xmi} {ml : xml} (h : INV xs mi ml) (x : Int32) : PAIR 77 [.ref 0, .int 0, .int x] 127 [.ref 32, .int 0, .int x] L xs mi ml := by
  obtain ⟨n, K, T, vL, aL, cL, hC, hR, hL, h0, h1⟩ := id h
  refine ⟨_, c_run0 3 L mi ml hC x, fun v a b ⟨q1, q⟩ => ⟨by
    rcases q with ⟨_, _, q4⟩ | ⟨_, _, a0, q4, q5⟩
    · exact (q4 1000 (by decide)).1.trans h0
    · exact ((q5.1 1000 (by decide) (by decide) (by decide) (by decide) (by decide) (by decide)).trans (q4 1000 (by decide)).1).trans h0, ?_⟩⟩
  rcases q with ⟨q2, q3, q4⟩ | ⟨hw, q3, a0, q4, q5⟩
  · have hRa := hR.frame (a := a) (fun x hx _ _ => (q4 x (by omega)).1)
    have hLa := hL.frame (a := a) (fun x hx => (q4 x (by omega)).1)
    refine (c_mrun0 3 L a b hRa x).po (fun r a' b' ⟨v', e, eb, a2, p1, p2, p⟩ => ?_)
    rcases p with ⟨-, p3, p4⟩ | ⟨p3, -⟩
    · subst p4
      refine ⟨by rw [e, q3, p3], n, K, T, vL, aL, cL, ?_, p1, ?_, ?_, ?_⟩
      · rw [eb]
        exact q1.frame (fun x hx => p2 x (by omega) (by omega) (by omega) (by omega) (by omega) (by omega) (by omega) (by omega)) (fun _ _ => rfl)
      · exact hLa.frame (fun x hx => p2 x (by omega) (by omega) (by omega) (by omega) (by omega) (by omega) (by omega) (by omega))
      · rw [p2 1000 (by decide) (by decide) (by decide) (by decide) (by decide) (by decide) (by decide) (by decide), (q4 1000 (by decide)).1, h0]
      · rw [p2 1001 (by decide) (by decide) (by decide) (by decide) (by decide) (by decide) (by decide) (by decide), (q4 1001 (by decide)).1, h1]
    · exact absurd p3 q2
  · have fa : ∀ x, (18 ≤ x ∨ x = 3) → x ≠ 18 → x ≠ 19 → x ≠ 23 → x ≠ 24 → x ≠ 25 → x ≠ 26 → a x = mi x := fun x hx g1 g2 g3 g4 g5 g6 => (q5.1 x g1 g2 g3 g4 g5 g6).trans (q4 x hx).1
    have hRa := hR.frame (a := a) (fun x hx _ _ => fa x (by omega) (by omega) (by omega) (by omega) (by omega) (by omega) (by omega))
    have f34 : a 34 = mi 34 := fa 34 (by omega) (by omega) (by omega) (by omega) (by omega) (by omega) (by omega)
    have f48 : a 48 = mi 48 := fa 48 (by omega) (by omega) (by omega) (by omega) (by omega) (by omega) (by omega)
    have f36 : a 36 = mi 36 := fa 36 (by omega) (by omega) (by omega) (by omega) (by omega) (by omega) (by omega)
    have f46 : a 46 = mi 46 := fa 46 (by omega) (by omega) (by omega) (by omega) (by omega) (by omega) (by omega)
    have f47 : a 47 = mi 47 := fa 47 (by omega) (by omega) (by omega) (by omega) (by omega) (by omega) (by omega)
    have h00 : Rh n K T 0 0 := fun X h0 _ => h0
    obtain ⟨g1, g2, g3, g4, g5, g6, g7, g8, g9⟩ := hL.2.2.1
    have ee : EQV (mi 19, mi 23, mi 25, mi 26, 0) (a 48, fun y => a 36 (0 + y), fun y => a 46 (0 + y), fun y => a 47 (0 + y), 0) := ⟨fun y hy => by show mi 19 y = a 48 y; rw [f48]; exact hL.2.1 y hy, fun y hy => by show mi 23 y = a 36 (0 + y); rw [f36]; exact g1 y hy, fun y hy => by show mi 25 y = a 46 (0 + y); rw [f46]; exact g2 y hy, fun y hy => by show mi 26 y = a 47 (0 + y); rw [f47]; exact g3 y hy, rfl⟩
    obtain ⟨u1, u2, u3⟩ := runA_eqv (N' := a 34) hw (fun i hi => (hC.1.2.2.1 i hi).2) (nok_of hC.2.1) (fun i hi => by rw [f34]; exact hL.1 i hi) (fuel x) 0 0 _ _ h00 ee
    have hch := runA_ch hw (nok_of hC.2.1) (fuel x) 0 0 (mi 19, mi 23, mi 25, mi 26, 0) h00 g9
    refine (c_mrun0 3 L a b hRa x).po (fun r a' b' ⟨v', e, eb, a2, p1, p2, p⟩ => ?_)
    subst eb
    rcases p with ⟨p3, -⟩ | ⟨-, p3, p4⟩
    · exact absurd hw p3
    · refine ⟨by rw [e, q3, p3, u1], ?_⟩
      rw [← u3] at p4
      exact inv_run0 hL h0 h1 q1 p1 q4 q5 p2 p4 u2 hch
theorem inv_run1 {n : Nat} {K T : Nat → Nat} {vL aL cL : Nat → Nat → Bool} {xs : Nat → Int32} {mi : xmi} {ml : xml} (hL : REL n mi) (h0 : mi 1000 = xs) (h1 : mi 1001 = xnumb) {a a0 a' a9 : xmi} {b : xml} (hCa : CI n K T vL aL cL a b) (hRa : RI n K T vL aL cL a') {s t : RS} {hl : Bool} (q2 : FR mi ml a0 b) (q3 : WK 28 29 a0 s hl 10000 a) (p2 : FRm a a') (p3 : RK 1 (xU (xU (xU a' 43 1 1) 44 1 0) 45 1 0) t hl 10000 a9) (e : EQV s t) (hch : CHV s.2.2.1) : INV xs a9 b := by
  obtain ⟨k1, k2, k3, k4, k5, k6, k7, k8, k9⟩ := q3
  obtain ⟨⟨r1, r2, r3, r4, r5⟩, r6, r7, ⟨r8, r9, r10, r11⟩⟩ := p3
  obtain ⟨e1, e2, e3, e4, e5⟩ := e
  have fa : ∀ x, (18 ≤ x ∨ x = 3) → x ≠ 18 → x ≠ 19 → x ≠ 28 → x ≠ 29 → x ≠ 30 → x ≠ 31 → a x = mi x := fun x hx g1 g2 g3 g4 g5 g6 => (k1 x g1 g2 g3 g4 g5 g6).trans (q2 x hx).1
  have fm : ∀ x, x ≠ 43 → x ≠ 44 → x ≠ 45 → xU (xU (xU a' 43 1 1) 44 1 0) 45 1 0 x = a' x := fun x g1 g2 g3 => by rw [xU_ne g3, xU_ne g2, xU_ne g1]
  have f8 : ∀ x, x ≠ 36 → x ≠ 43 → x ≠ 44 → x ≠ 45 → x ≠ 46 → x ≠ 47 → x ≠ 48 → a9 x = a' x := fun x g1 g2 g3 g4 g5 g6 g7 => (r8 x g1 g3 g4 g5 g6 g7).trans (fm x g2 g3 g4)
  have fp : ∀ x, x < 32 ∨ (33 ≤ x ∧ x ≤ 36) ∨ (43 ≤ x ∧ x ≤ 48) ∨ 1000 ≤ x → a' x = a x := fun x hx => p2 x (by omega) (by omega) (by omega) (by omega) (by omega) (by omega) (by omega) (by omega)
  have f9 : ∀ x, x < 32 ∨ x = 34 ∨ 1000 ≤ x → a9 x = a x := fun x hx => (f8 x (by omega) (by omega) (by omega) (by omega) (by omega) (by omega) (by omega)).trans (fp x (by omega))
  refine ⟨n, K, T, vL, aL, cL, hCa.frame (fun x hx => f9 x (by omega)) (fun _ _ => rfl), hRa.frame (fun x h1 h2 h3 => f8 x h3 (by omega) (by omega) (by omega) (by omega) (by omega) (by omega)), ⟨?_, ?_, ?_, ?_⟩, ?_, ?_⟩
  · rw [f9 3 (by omega), f9 34 (by omega), fa 3 (by omega) (by omega) (by omega) (by omega) (by omega) (by omega) (by omega), fa 34 (by omega) (by omega) (by omega) (by omega) (by omega) (by omega) (by omega)]; exact hL.1
  · intro x hx; rw [f9 19 (by omega), k2, r1 x hx]; exact e1 x hx
  · obtain ⟨g1, g2, g3, g4, g5, g6, g7, g8, g9⟩ := hL.2.2.1
    have i43 : a9 43 0 = mi 43 0 := by
      rw [r8 43 (by decide) (by decide) (by decide) (by decide) (by decide) (by decide)]
      exact (congrFun (fp 43 (by omega)) 0).trans (congrFun (fa 43 (by omega) (by omega) (by omega) (by omega) (by omega) (by omega) (by omega)) 0)
    have i44 : a9 44 0 = mi 44 0 := (r10 0 (by decide)).2.trans ((congrFun (fp 44 (by omega)) 0).trans (congrFun (fa 44 (by omega) (by omega) (by omega) (by omega) (by omega) (by omega) (by omega)) 0))
    have i45 : a9 45 0 = mi 45 0 := (r10 0 (by decide)).1.trans ((congrFun (fp 45 (by omega)) 0).trans (congrFun (fa 45 (by omega) (by omega) (by omega) (by omega) (by omega) (by omega) (by omega)) 0))
    have iO : a9 24 = mi 24 := (f9 24 (by omega)).trans (fa 24 (by omega) (by omega) (by omega) (by omega) (by omega) (by omega) (by omega))
    have iO1 : a9 (24 + 1) = mi (24 + 1) := (f9 25 (by omega)).trans (fa 25 (by omega) (by omega) (by omega) (by omega) (by omega) (by omega) (by omega))
    refine ⟨fun x hx => ?_, fun x hx => ?_, fun x hx => ?_, ?_, ?_, ?_, ?_, ?_, ?_⟩
    · rw [f9 23 (by omega), fa 23 (by omega) (by omega) (by omega) (by omega) (by omega) (by omega) (by omega), r9 _ (by omega), fm 36 (by decide) (by decide) (by decide), fp 36 (by omega), fa 36 (by omega) (by omega) (by omega) (by omega) (by omega) (by omega) (by omega)]; exact g1 x hx
    · rw [iO1, (r11 _ (by omega)).1, fm 46 (by decide) (by decide) (by decide), fp 46 (by omega), fa 46 (by omega) (by omega) (by omega) (by omega) (by omega) (by omega) (by omega)]; exact g2 x hx
    · rw [show 24 + 2 = 26 from rfl, f9 26 (by omega), fa 26 (by omega) (by omega) (by omega) (by omega) (by omega) (by omega) (by omega), (r11 _ (by omega)).2, fm 47 (by decide) (by decide) (by decide), fp 47 (by omega), fa 47 (by omega) (by omega) (by omega) (by omega) (by omega) (by omega) (by omega)]; exact g3 x hx
    · rw [iO, i45]; exact g4
    · rw [iO, i43]; exact g5
    · rw [iO]; exact g6
    · rw [iO, i44]; exact g7
    · rw [iO]; exact g8
    · rw [iO1]; exact g9
  · refine ⟨fun x hx => ?_, fun x hx => ?_, fun x hx => ?_, ⟨s.2.2.2.2, ?_, ?_, k7⟩, ?_, ?_, ?_, ?_, ?_⟩
    · rw [f9 28 (by omega), k3, r2 x hx]; exact e2 x hx
    · rw [show 29 + 1 = 30 from rfl, f9 30 (by omega), k4, r3 x hx]; exact e3 x hx
    · rw [show 29 + 2 = 31 from rfl, f9 31 (by omega), k5, r4 x hx]; exact e4 x hx
    · rw [f9 29 (by omega)]; exact k6
    · rw [r5, e5]
    · rw [f9 29 (by omega), k8, r8 43 (by decide) (by decide) (by decide) (by decide) (by decide) (by decide)]; rfl
    · rw [f9 29 (by omega), k8]; exact Or.inr rfl
    · rw [f9 29 (by omega), k9, r7]
    · rw [f9 29 (by omega), k9]; cases hl
      · exact Or.inl rfl
      · exact Or.inr rfl
    · rw [show 29 + 1 = 30 from rfl, f9 30 (by omega), k4]; exact hch
  · rw [f9 1000 (by omega), fa 1000 (by omega) (by omega) (by omega) (by omega) (by omega) (by omega) (by omega), h0]
  · rw [f9 1001 (by omega), fa 1001 (by omega) (by omega) (by omega) (by omega) (by omega) (by omega) (by omega), h1]
theorem pr1 {L : Nat} {xs : Nat → Int32} {mi : xmi} {ml : xml} (h : INV xs mi ml) (x : Int32) : PAIR 77 [.ref 0, .int 1, .int x] 127 [.ref 32, .int 1, .int x] L xs mi ml := by
  obtain ⟨n, K, T, vL, aL, cL, hC, hR, hL, h0, h1⟩ := id h
  refine ⟨_, c_run1 3 L mi ml hC x, fun v a b ⟨q1, q⟩ => ⟨by
    rcases q with ⟨_, _, q4⟩ | ⟨_, _, a0, q4, q5⟩
    · exact (q4 1000 (by decide)).1.trans h0
    · exact ((q5.1 1000 (by decide) (by decide) (by decide) (by decide) (by decide) (by decide)).trans (q4 1000 (by decide)).1).trans h0, ?_⟩⟩
  rcases q with ⟨q2, q3, q4⟩ | ⟨hw, q3, a0, q4, q5⟩
  · have hRa := hR.frame (a := a) (fun x hx _ _ => (q4 x (by omega)).1)
    have hLa := hL.frame (a := a) (fun x hx => (q4 x (by omega)).1)
    refine (c_mrun1 3 L a b hRa x).po (fun r a' b' ⟨v', e, eb, a2, p1, p2, p⟩ => ?_)
    rcases p with ⟨-, p3, p4⟩ | ⟨p3, -⟩
    · subst p4
      refine ⟨by rw [e, q3, p3], n, K, T, vL, aL, cL, ?_, p1, ?_, ?_, ?_⟩
      · rw [eb]
        exact q1.frame (fun x hx => p2 x (by omega) (by omega) (by omega) (by omega) (by omega) (by omega) (by omega) (by omega)) (fun _ _ => rfl)
      · exact hLa.frame (fun x hx => p2 x (by omega) (by omega) (by omega) (by omega) (by omega) (by omega) (by omega) (by omega))
      · rw [p2 1000 (by decide) (by decide) (by decide) (by decide) (by decide) (by decide) (by decide) (by decide), (q4 1000 (by decide)).1, h0]
      · rw [p2 1001 (by decide) (by decide) (by decide) (by decide) (by decide) (by decide) (by decide) (by decide), (q4 1001 (by decide)).1, h1]
    · exact absurd p3 q2
  · have fa : ∀ x, (18 ≤ x ∨ x = 3) → x ≠ 18 → x ≠ 19 → x ≠ 28 → x ≠ 29 → x ≠ 30 → x ≠ 31 → a x = mi x := fun x hx g1 g2 g3 g4 g5 g6 => (q5.1 x g1 g2 g3 g4 g5 g6).trans (q4 x hx).1
    have hRa := hR.frame (a := a) (fun x hx _ _ => fa x (by omega) (by omega) (by omega) (by omega) (by omega) (by omega) (by omega))
    have f34 : a 34 = mi 34 := fa 34 (by omega) (by omega) (by omega) (by omega) (by omega) (by omega) (by omega)
    have f48 : a 48 = mi 48 := fa 48 (by omega) (by omega) (by omega) (by omega) (by omega) (by omega) (by omega)
    have f36 : a 36 = mi 36 := fa 36 (by omega) (by omega) (by omega) (by omega) (by omega) (by omega) (by omega)
    have f46 : a 46 = mi 46 := fa 46 (by omega) (by omega) (by omega) (by omega) (by omega) (by omega) (by omega)
    have f47 : a 47 = mi 47 := fa 47 (by omega) (by omega) (by omega) (by omega) (by omega) (by omega) (by omega)
    have h00 : Rh n K T 0 0 := fun X h0 _ => h0
    obtain ⟨g1, g2, g3, g4, g5, g6, g7, g8, g9⟩ := hL.2.2.2
    have ee : EQV (mi 19, mi 28, mi 30, mi 31, 0) (a 48, fun y => a 36 (24 + y), fun y => a 46 (64 + y), fun y => a 47 (64 + y), 0) := ⟨fun y hy => by show mi 19 y = a 48 y; rw [f48]; exact hL.2.1 y hy, fun y hy => by show mi 28 y = a 36 (24 + y); rw [f36]; exact g1 y hy, fun y hy => by show mi 30 y = a 46 (64 + y); rw [f46]; exact g2 y hy, fun y hy => by show mi 31 y = a 47 (64 + y); rw [f47]; exact g3 y hy, rfl⟩
    obtain ⟨u1, u2, u3⟩ := runA_eqv (N' := a 34) hw (fun i hi => (hC.1.2.2.1 i hi).2) (nok_of hC.2.1) (fun i hi => by rw [f34]; exact hL.1 i hi) (fuel x) 0 0 _ _ h00 ee
    have hch := runA_ch hw (nok_of hC.2.1) (fuel x) 0 0 (mi 19, mi 28, mi 30, mi 31, 0) h00 g9
    refine (c_mrun1 3 L a b hRa x).po (fun r a' b' ⟨v', e, eb, a2, p1, p2, p⟩ => ?_)
    subst eb
    rcases p with ⟨p3, -⟩ | ⟨-, p3, p4⟩
    · exact absurd hw p3
    · refine ⟨by rw [e, q3, p3, u1], ?_⟩
      rw [← u3] at p4
      exact inv_run1 hL h0 h1 q1 p1 q4 q5 p2 p4 u2 hch
theorem p_run {L : Nat} {xs : Nat → Int32} {mi : xmi} {ml : xml} (h : INV xs mi ml) (m x : Int32) : PAIR 77 [.ref 0, .int m, .int x] 127 [.ref 32, .int m, .int x] L xs mi ml := by
  rcases m_cases m with rfl | rfl | hm
  · exact pr0 h x
  · exact pr1 h x
  · obtain ⟨n, K, T, vL, aL, cL, hC, hR, hL, h0, h1⟩ := id h
    refine ⟨fun v a b => v = -1 ∧ a = mi ∧ b = ml, (c_runN 3 L mi ml hm x).po (fun r a b ⟨q1, q2, q3⟩ => ⟨-1, q1, rfl, q2, q3⟩), fun v a b ⟨q1, q2, q3⟩ => ⟨q2 ▸ h0, ?_⟩⟩
    subst q1; subst q2; subst q3
    refine (c_mrunN 3 L a b hR hm x).po (fun r a' b' ⟨e, eb, p1, _, p2⟩ => ⟨e, n, K, T, vL, aL, cL, ?_, p1, ?_, ?_, ?_⟩)
    · rw [eb]
      exact hC.frame (fun x hx => p2 x (by omega) (by omega) (by omega) (by omega) (by omega) (by omega) (by omega) (by omega)) (fun _ _ => rfl)
    · exact hL.frame (fun x hx => p2 x (by omega) (by omega) (by omega) (by omega) (by omega) (by omega) (by omega) (by omega))
    · rw [p2 1000 (by decide) (by decide) (by decide) (by decide) (by decide) (by decide) (by decide) (by decide), h0]
    · rw [p2 1001 (by decide) (by decide) (by decide) (by decide) (by decide) (by decide) (by decide) (by decide), h1]
