/-! Shape.find -/
/-- what is met is come to; what is open is met -/
def sI0 (n : Nat) (K T : Nat → Nat) (a : xmi) (b : xml) : Prop := (∀ i, i < 64 → hb (b 8 2) i = true → i < n ∧ ∃ h, h ≤ 16 ∧ a 9 i = nI h ∧ Rh n K T i h) ∧ (∀ i, i < 64 → hb (b 8 3) i = true → hb (b 8 2) i = true)
theorem nI_inj {x y : Nat} (hx : x ≤ 16) (hy : y ≤ 16) (h : nI x = nI y) : x = y := (nI_eq (by omega) (by omega)).mp h
theorem CT.wf0 {n q h : Nat} {mi a : xmi} {ml b : xml} (hc : CT n mi ml q h a b) (h0 : mi 8 4 = 0) : a 8 4 = 0 := by
  rcases hc with ⟨-, rfl, rfl⟩ | ⟨-, -, rfl, rfl⟩ | ⟨-, -, -, rfl, rfl⟩ | ⟨-, -, -, rfl, rfl⟩ <;> first | rfl | exact h0
theorem CT.step {n q h : Nat} {K T : Nat → Nat} {a a1 : xmi} {b b1 : xml} (hn : n ≤ 64) (hc : CT n a b q h a1 b1) (hI : sI0 n K T a b) (hw : a 8 4 = 1) (hr : Rh n K T q h) (h16 : h ≤ 16) :
    (a1 8 4 = 0 ∧ ¬ WF n K T) ∨ (a1 8 4 = 1 ∧ sI0 n K T a1 b1 ∧ q < n ∧ hb (b1 8 2) q = true ∧ a1 9 q = nI h ∧ (∀ i, i < 64 → hb (b 8 2) i = true → hb (b1 8 2) i = true ∧ a1 9 i = a 9 i) ∧ (∀ i, i < 64 → (hb (b1 8 2) i && !hb (b1 8 3) i) = (hb (b 8 2) i && !hb (b 8 3) i))) := by
  rcases hc with ⟨h1, rfl, rfl⟩ | ⟨h1, h2, rfl, rfl⟩ | ⟨h1, h2, h3, rfl, rfl⟩ | ⟨h1, h2, h3, rfl, rfl⟩
  · exact Or.inl ⟨rfl, fun w => h1 (w.1 q h hr).1⟩
  · right
    have hq64 : q < 64 := by omega
    have e2 : xU (xU b 8 2 (b 8 2 ||| xbit (nI q))) 8 3 (b 8 3 ||| xbit (nI q)) 8 2 = b 8 2 ||| xbit (nI q) := rfl
    have e3 : xU (xU b 8 2 (b 8 2 ||| xbit (nI q))) 8 3 (b 8 3 ||| xbit (nI q)) 8 3 = b 8 3 ||| xbit (nI q) := rfl
    have e9 : ∀ i, i ≠ q → xU a 9 q (nI h) 9 i = a 9 i := fun i hi => by unfold xU; rw [va_up_self, va_up_ne _ _ hi]
    have e9q : xU a 9 q (nI h) 9 q = nI h := by unfold xU; rw [va_up_self, va_up_self]
    have hne : ∀ i, i < 64 → hb (b 8 2) i = true → i ≠ q := fun i _ g z => by rw [z, h2] at g; cases g
    rw [sI0, e2, e3]
    refine ⟨hw, ⟨fun i hi g => ?_, fun i hi g => ?_⟩, h1, ?_, e9q, fun i hi g => ⟨?_, e9 i (hne i hi g)⟩, fun i hi => ?_⟩
    · rw [hb_or, hb_bit hq64] at g
      by_cases z : i = q
      · subst z; exact ⟨h1, h, h16, e9q, hr⟩
      · have g : hb (b 8 2) i = true := by simpa [z] using g
        obtain ⟨g1, g2⟩ := hI.1 i hi g
        rw [e9 i z]; exact ⟨g1, g2⟩
    · rw [hb_or, hb_bit hq64] at g ⊢
      by_cases z : i = q
      · simp [z]
      · have g : hb (b 8 3) i = true := by simpa [z] using g
        rw [hI.2 i hi g]; rfl
    · rw [hb_or, hb_bit hq64]; simp
    · rw [hb_or, g]; rfl
    · rw [hb_or, hb_or, hb_bit hq64]
      by_cases z : i = q
      · subst z
        rw [h2]; simp
      · simp [z]
  · exact Or.inl ⟨rfl, fun w => by
      obtain ⟨-, h', g1, g2, g3⟩ := hI.1 q (by omega) h2
      exact h3 (by rw [g2, w.2 q h' h g3 hr])⟩
  · exact Or.inr ⟨hw, hI, h1, h2, h3, fun i _ g => ⟨g, rfl⟩, fun _ _ => rfl⟩
/-- the loop's invariant: r places are done -/
def sLI (n : Nat) (K T : Nat → Nat) (mi : xmi) (ml : xml) (r : Nat) (a : xmi) (b : xml) : Prop :=
  (∀ x, x ≠ 8 → x ≠ 9 → a x = mi x) ∧ (∀ x, x ≠ 8 → b x = ml x) ∧ ((a 8 4 = 0 ∧ ¬ WF n K T) ∨ (a 8 4 = 1 ∧ sI0 n K T a b ∧ hb (b 8 2) 0 = true ∧ 0 < n ∧ a 9 0 = nI 0 ∧ r ≤ cnt (fun i => hb (b 8 2) i && !hb (b 8 3) i) 64 ∧
    (∀ i h, i < 64 → hb (b 8 2) i = true → hb (b 8 3) i = false → h ≤ 16 → a 9 i = nI h → tk (K i) ≤ h ∧ h - tk (K i) + pt (K i) ≤ 16 ∧ ∀ j, Fo K T i j → j < n ∧ hb (b 8 2) j = true ∧ a 9 j = nI (h - tk (K i) + pt (K i)))))
/-- what is known behind find -/
def SHP (n : Nat) (K T : Nat → Nat) (a : xmi) (b : xml) : Prop := (a 8 4 = 1 ∧ WF n K T ∧ (∀ i, i < 64 → (hb (b 8 2) i = true ↔ ∃ h, Rh n K T i h)) ∧ (∀ i h, Rh n K T i h → a 9 i = nI h ∧ h ≤ 16)) ∨ (a 8 4 = 0 ∧ ¬ WF n K T)
theorem sLI.done {n r : Nat} {K T : Nat → Nat} {mi a : xmi} {ml b : xml} (hn : n ≤ 64) (h : sLI n K T mi ml r a b) (hw : ¬ a 8 4 = 0) (ho : ∀ i, i < 64 → hb (b 8 3) i = false) : SHP n K T a b := by
  obtain ⟨-, -, h | ⟨h1, h2, h3, h4, h5, -, h7⟩⟩ := h
  · exact absurd h.1 hw
  have key := WF_of (n := n) (K := K) (T := T) (fun i h => i < n ∧ hb (b 8 2) i = true ∧ a 9 i = nI h ∧ h ≤ 16) ⟨h4, h3, h5, by omega⟩
    (fun i h ⟨g1, g2, g3, g4⟩ => ⟨g1, (h7 i h (by omega) g2 (ho i (by omega)) g4 g3).1, (h7 i h (by omega) g2 (ho i (by omega)) g4 g3).2.1⟩)
    (fun i h j ⟨g1, g2, g3, g4⟩ hf => by
      obtain ⟨k1, k2, k3⟩ := h7 i h (by omega) g2 (ho i (by omega)) g4 g3
      obtain ⟨k4, k5, k6⟩ := k3 j hf
      exact ⟨k4, k5, k6, k2⟩)
    (fun i h h' g g' => nI_inj g.2.2.2 g'.2.2.2 (g.2.2.1.symm.trans g'.2.2.1))
  refine Or.inl ⟨h1, key.1, fun i hi => ⟨fun g => ?_, fun ⟨h, g⟩ => (key.2 i h g).2.1⟩, fun i h g => ⟨(key.2 i h g).2.2.1, (key.2 i h g).2.2.2⟩⟩
  obtain ⟨-, h, -, -, g⟩ := h2.1 i hi g
  exact ⟨h, g⟩
theorem sLI.next {n r i h : Nat} {K T : Nat → Nat} {mi a a1 : xmi} {ml b b1 : xml} (hn : n ≤ 64) (hL : sLI n K T mi ml r a b) (hw : ¬ a 8 4 = 0) (hi : i < 64) (ho : hb (b 8 3) i = true) (hh : a 9 i = nI h) (h16 : h ≤ 16) (hg : GO n K T a (xU b 8 3 (b 8 3 &&& (xbit (nI i) ^^^ (-1)))) i h a1 b1) : sLI n K T mi ml (r + 1) a1 b1 := by
  obtain ⟨f1, f2, hL | ⟨h1, h2, h3, h4, h5, h6, h7⟩⟩ := hL
  · exact absurd hL.1 hw
  -- the state with i taken out of what is open
  generalize hb' : xU b 8 3 (b 8 3 &&& (xbit (nI i) ^^^ (-1))) = b' at hg
  have e2 : b' 8 2 = b 8 2 := by rw [← hb']; rfl
  have e3 : ∀ j, j < 64 → hb (b' 8 3) j = (hb (b 8 3) j && !decide (j = i)) := fun j hj => by
    rw [← hb']; show hb (b 8 3 &&& (xbit (nI i) ^^^ (-1))) j = _
    rw [hb_and, hb_not _ hj, hb_bit hi]
  have f2' : ∀ x, x ≠ 8 → b' x = ml x := fun x hx => by rw [← hb', xU_ne hx]; exact f2 x hx
  have hm : hb (b 8 2) i = true := h2.2 i hi ho
  obtain ⟨hin, h', hh1, hh2, hrh⟩ := h2.1 i hi hm
  obtain rfl : h' = h := nI_inj hh1 h16 (hh2.symm.trans hh)
  have hI : sI0 n K T a b' := ⟨fun j hj g => by rw [e2] at g; exact h2.1 j hj g, fun j hj g => by rw [e3 j hj] at g; rw [e2]; exact h2.2 j hj (by simp at g; exact g.1)⟩
  have hcnt : r + 1 ≤ cnt (fun j => hb (b' 8 2) j && !hb (b' 8 3) j) 64 := by
    refine Nat.lt_of_le_of_lt h6 (cnt_lt (j := i) (fun j hj g => ?_) hi (by simp [ho]) (by rw [e2, e3 i hi, hm]; simp))
    rw [e2, e3 j hj]; simp at g ⊢; exact ⟨g.1, Or.inl g.2⟩
  have hold : ∀ j h', j < 64 → hb (b 8 2) j = true → hb (b 8 3) j = false → h' ≤ 16 → a 9 j = nI h' → tk (K j) ≤ h' ∧ h' - tk (K j) + pt (K j) ≤ 16 ∧ ∀ q, Fo K T j q → q < n ∧ hb (b' 8 2) q = true ∧ a 9 q = nI (h' - tk (K j) + pt (K j)) := by rw [e2]; exact h7
  have hproc : ∀ j, j < 64 → hb (b' 8 2) j = true → hb (b' 8 3) j = false → j = i ∨ (hb (b 8 2) j = true ∧ hb (b 8 3) j = false) := fun j hj g1 g2 => by
    rw [e2] at g1
    rw [e3 j hj] at g2
    by_cases z : j = i
    · exact Or.inl z
    · exact Or.inr ⟨g1, by simpa [z] using g2⟩
  rcases hg with ⟨g1, rfl, rfl⟩ | ⟨⟨g1, g2⟩, hg⟩
  · refine ⟨fun x x8 x9 => by rw [xU_ne x8]; exact f1 x x8 x9, f2', Or.inl ⟨rfl, fun w => g1 (w.1 i _ hrh).2⟩⟩
  rcases hg with ⟨k9, rfl, rfl⟩ | ⟨k9, k5, hc⟩ | ⟨k5, a2, b2, hc1, hc2⟩
  · refine ⟨f1, f2', Or.inr ⟨h1, hI, by rw [e2]; exact h3, h4, h5, hcnt, fun j hj' q1 q2 q3 q4 q5 => ?_⟩⟩
    rcases hproc j q1 q2 q3 with rfl | ⟨z1, z2⟩
    · obtain rfl := nI_inj q4 h16 (q5.symm.trans hh)
      exact ⟨g1, g2, fun q hq => absurd k9 hq.1⟩
    · exact hold j hj' q1 z1 z2 q4 q5
  · obtain ⟨fr1, fr2⟩ := hc.frame
    have hF : Fo K T i (if K i = 4 then T i else i + 1) := ⟨k9, Or.inl rfl⟩
    refine ⟨fun x x8 x9 => by rw [fr1 x x8 x9]; exact f1 x x8 x9, fun x x8 => by rw [fr2 x x8]; exact f2' x x8, ?_⟩
    rcases hc.step hn hI h1 (hrh.next hin g1 g2 hF) g2 with z | ⟨z1, z2, z3, z4, z5, z6, z7⟩
    · exact Or.inl z
    · refine Or.inr ⟨z1, z2, (z6 0 (by omega) (by rw [e2]; exact h3)).1, h4, by rw [(z6 0 (by omega) (by rw [e2]; exact h3)).2]; exact h5, ?_, fun j hj' q1 q2 q3 q4 q5 => ?_⟩
      · rw [cnt_congr (fun j hj => z7 j hj)]; exact hcnt
      · have hz := z7 j q1
        rw [q2, q3] at hz
        have hz2 : hb (b' 8 2) j = true ∧ hb (b' 8 3) j = false := by simpa using hz.symm
        have e9 := (z6 j q1 hz2.1).2
        rw [e9] at q5
        rcases hproc j q1 hz2.1 hz2.2 with rfl | ⟨y1, y2⟩
        · obtain rfl := nI_inj q4 h16 (q5.symm.trans hh)
          refine ⟨g1, g2, fun q hq => ?_⟩
          obtain rfl : q = if K j = 4 then T j else j + 1 := by
            rcases hq.2 with w | w
            · exact w
            · exact absurd w.1 k5
          exact ⟨z3, z4, z5⟩
        · obtain ⟨w1, w2, w3⟩ := hold j hj' q1 y1 y2 q4 q5
          refine ⟨w1, w2, fun q hq => ?_⟩
          obtain ⟨w4, w5, w6⟩ := w3 q hq
          have := z6 q (by omega) w5
          exact ⟨w4, this.1, by rw [this.2]; exact w6⟩
  · obtain ⟨fr1, fr2⟩ := hc1.frame
    obtain ⟨fs1, fs2⟩ := hc2.frame
    have hF1 : Fo K T i (i + 1) := ⟨by rw [k5]; decide, Or.inl (by rw [if_neg (by rw [k5]; decide)])⟩
    have hF2 : Fo K T i (T i) := ⟨by rw [k5]; decide, Or.inr ⟨k5, rfl⟩⟩
    refine ⟨fun x x8 x9 => by rw [fs1 x x8 x9, fr1 x x8 x9]; exact f1 x x8 x9, fun x x8 => by rw [fs2 x x8, fr2 x x8]; exact f2' x x8, ?_⟩
    rcases hc1.step hn hI h1 (hrh.next hin g1 g2 hF1) g2 with z | ⟨z1, z2, z3, z4, z5, z6, z7⟩
    · exact Or.inl ⟨hc2.wf0 z.1, z.2⟩
    rcases hc2.step hn z2 z1 (hrh.next hin g1 g2 hF2) g2 with y | ⟨y1, y2, y3, y4, y5, y6, y7⟩
    · exact Or.inl y
    have h30 := (z6 0 (by omega) (by rw [e2]; exact h3))
    have h31 := y6 0 (by omega) h30.1
    refine Or.inr ⟨y1, y2, h31.1, h4, by rw [h31.2, h30.2]; exact h5, ?_, fun j hj' q1 q2 q3 q4 q5 => ?_⟩
    · rw [cnt_congr (fun j hj => (y7 j hj).trans (z7 j hj))]; exact hcnt
    · have hz := (y7 j q1).trans (z7 j q1)
      rw [q2, q3] at hz
      have hz2 : hb (b' 8 2) j = true ∧ hb (b' 8 3) j = false := by simpa using hz.symm
      have e9 := (z6 j q1 hz2.1)
      have e9' := (y6 j q1 e9.1)
      rw [e9'.2, e9.2] at q5
      rcases hproc j q1 hz2.1 hz2.2 with rfl | ⟨x1, x2⟩
      · obtain rfl := nI_inj q4 h16 (q5.symm.trans hh)
        refine ⟨g1, g2, fun q hq => ?_⟩
        rcases hq.2 with w | w
        · rw [if_neg (by rw [k5]; decide)] at w
          subst w
          have := y6 (j + 1) (by omega) z4
          exact ⟨z3, this.1, by rw [this.2]; exact z5⟩
        · rw [w.2]; exact ⟨y3, y4, y5⟩
      · obtain ⟨w1, w2, w3⟩ := hold j hj' q1 x1 x2 q4 q5
        refine ⟨w1, w2, fun q hq => ?_⟩
        obtain ⟨w4, w5, w6⟩ := w3 q hq
        have t1 := z6 q (by omega) w5
        have t2 := y6 q (by omega) t1.1
        exact ⟨w4, t2.1, by rw [t2.2, t1.2]; exact w6⟩
set_option maxRecDepth 100000 in
set_option maxHeartbeats 1000000 in
theorem find_loop (d L : Nat) (mi : xmi) (ml : xml) {n : Nat} {K T : Nat → Nat} (hP : PRG mi n K T) : ∀ (f r : Nat), r ≤ 64 → 64 - r ≤ f → ∀ (a : xmi) (b : xml), sLI n K T mi ml r a b → xB (d + 4) mX6_find L (fun rr x y => rr = none ∧ (∀ q, q ≠ 8 → q ≠ 9 → x q = mi q) ∧ (∀ q, q ≠ 8 → y q = ml q) ∧ SHP n K T x y) (23, [(0, .ref 8), (1, .int (nI r))], [], XM L a b) := by
  have hn64 := hP.2.1
  intro f
  induction f with
  | zero =>
    intro r hr hf a b hL
    obtain rfl : r = 64 := by omega
    refine xB.go 2 (26, [(0, .ref 8), (1, .int (nI 64))], [.int 64, .int (nI 64)], XM L a b) rfl ?_
    refine xB.bp (64 ≤ (nI 64)) (81, [(0, .ref 8), (1, .int (nI 64))], [], XM L a b) (29, [(0, .ref 8), (1, .int (nI 64))], [], XM L a b) rfl (fun h1 => ?_) (fun h1 => ?_)
    · refine xB.rt none a b rfl ?_
      refine ⟨rfl, hL.1, hL.2.1, ?_⟩
      have hr64 : 64 ≤ 64 := Nat.le_refl _
      by_cases hw : a 8 4 = 0
      · rcases hL.2.2 with z | z
        · exact Or.inr z
        · rw [z.1] at hw; cases hw
      · refine hL.done hn64 hw (fun i hi => ?_)
        obtain ⟨-, -, z | ⟨z1, z2, -, -, -, z6, -⟩⟩ := hL
        · exact absurd z.1 hw
        · have := cnt_full (Nat.le_trans hr64 z6) i hi
          simp at this
          exact this.2
    · exact absurd (Int32.le_refl _) h1
  | succ f ih =>
    intro r hr hf a b hL
    have hPa : PRG a n K T := hP.frame (hL.1 1 (by decide) (by decide)) (hL.1 2 (by decide) (by decide)) (hL.1 3 (by decide) (by decide)) (hL.1 1002 (by decide) (by decide)) (hL.1 1003 (by decide) (by decide))
    refine xB.go 2 (26, [(0, .ref 8), (1, .int (nI r))], [.int 64, .int (nI r)], XM L a b) rfl ?_
    refine xB.bp (64 ≤ (nI r)) (81, [(0, .ref 8), (1, .int (nI r))], [], XM L a b) (29, [(0, .ref 8), (1, .int (nI r))], [], XM L a b) rfl (fun h1 => ?_) (fun h1 => ?_)
    · refine xB.rt none a b rfl ?_
      refine ⟨rfl, hL.1, hL.2.1, ?_⟩
      have hr64 : 64 ≤ r := (nI_leI (by decide) (by omega)).mp h1
      by_cases hw : a 8 4 = 0
      · rcases hL.2.2 with z | z
        · exact Or.inr z
        · rw [z.1] at hw; cases hw
      · refine hL.done hn64 hw (fun i hi => ?_)
        obtain ⟨-, -, z | ⟨z1, z2, -, -, -, z6, -⟩⟩ := hL
        · exact absurd z.1 hw
        · have := cnt_full (Nat.le_trans hr64 z6) i hi
          simp at this
          exact this.2
    · refine xB.go 2 (33, [(0, .ref 8), (1, .int (nI r))], [.int (a 8 4)], XM L a b) rfl ?_
      refine xB.bp ((a 8 4) = 0) (81, [(0, .ref 8), (1, .int (nI r))], [], XM L a b) (36, [(0, .ref 8), (1, .int (nI r))], [], XM L a b) rfl (fun h2 => ?_) (fun h2 => ?_)
      · refine xB.rt none a b rfl ?_
        refine ⟨rfl, hL.1, hL.2.1, ?_⟩
        rcases hL.2.2 with z | z
        · exact Or.inr z
        · rw [z.1] at h2; cases h2
      · refine xB.go 4 (42, [(0, .ref 8), (1, .int (nI r))], [.int (lg_cmp (b 8 3) 0)], XM L a b) rfl ?_
        refine xB.lz (b 8 3) 0 (81, [(0, .ref 8), (1, .int (nI r))], [], XM L a b) (45, [(0, .ref 8), (1, .int (nI r))], [], XM L a b) rfl (fun h3 => ?_) (fun h3 => ?_)
        · refine xB.rt none a b rfl ?_
          refine ⟨rfl, hL.1, hL.2.1, hL.done hn64 h2 (fun i hi => ?_)⟩
          rw [h3, hb_0]
        · have hlo := xlow_spec h3
          have hmet : hb (b 8 2) (xlow (b 8 3)) = true := by
            obtain ⟨-, -, z | ⟨z1, z2, -⟩⟩ := hL
            · exact absurd z.1 h2
            · exact z2.2 _ hlo.1 hlo.2.1
          obtain ⟨hin, h, h16, hh⟩ : xlow (b 8 3) < n ∧ ∃ h, h ≤ 16 ∧ a 9 (xlow (b 8 3)) = nI h := by
            obtain ⟨-, -, z | ⟨z1, z2, -⟩⟩ := hL
            · exact absurd z.1 h2
            · obtain ⟨w1, h, w2, w3, -⟩ := z2.1 _ hlo.1 hmet
              exact ⟨w1, h, w2, w3⟩
          refine xB.go 2 (49, [(0, .ref 8), (1, .int (nI r))], [.long (b 8 3)], XM L a b) rfl ?_
          refine xB.c1 90 [.long (b 8 3)] [] (c_lowest _ L a b (b 8 3) ) rfl ?_
          refine xB.cg (52, [(0, .ref 8), (1, .int (nI r))], [.int (nI (xlow (b 8 3)))], XM L a b) (by rw [xbc_of h3]) ?_
          refine xB.go 5 (59, [(0, .ref 8), (1, .int (nI r)), (2, .int (nI (xlow (b 8 3))))], [.int (nI (xlow (b 8 3))), .long (b 8 3), .ref 8], XM L a b) rfl ?_
          refine xB.c1 88 [.int (nI (xlow (b 8 3)))] [.long (b 8 3), .ref 8] (c_bit _ L a b (nI (xlow (b 8 3))) ) rfl ?_
          refine xB.go 6 (72, [(0, .ref 8), (1, .int (nI r)), (2, .int (nI (xlow (b 8 3))))], [.int (nI (xlow (b 8 3))), .ref 8], XM L a (xU b 8 3 ((b 8 3) &&& ((xbit (nI (xlow (b 8 3)))) ^^^ (-1))))) rfl ?_
          refine xB.ca 54 [.ref 8, .int (nI (xlow (b 8 3)))] [] (c_goOnFrom _ L a _ hPa hin hh h16) rfl ?_
          intro r1 a1 b1 hq1
          obtain ⟨rfl, hq1⟩ := hq1
          show xB _ _ L _ (75, [(0, .ref 8), (1, .int (nI r)), (2, .int (nI (xlow (b 8 3))))], [], XM L a1 b1)
          refine xB.go 2 (23, [(0, .ref 8), (1, .int ((nI r) + 1)), (2, .int (nI (xlow (b 8 3))))], [], XM L a1 b1) rfl ?_
          refine xB.fo [(0, .ref 8), (1, .int (nI r + 1))] (by simp) ?_
          rw [nI_1]
          have hr64 : r < 64 := Nat.lt_of_not_le (fun z => h1 (nI_le z (by omega)))
          exact ih (r + 1) (by omega) (by omega) a1 b1 (hL.next hn64 h2 hlo.1 hlo.2.1 hh h16 hq1)
theorem sLI_zero {n : Nat} {K T : Nat → Nat} {mi a1 : xmi} {ml b1 : xml} (hn : n ≤ 64) (hc : CT n (xU mi 8 4 1) (xU (xU ml 8 2 0) 8 3 0) 0 0 a1 b1) : sLI n K T mi ml 0 a1 b1 := by
  obtain ⟨f1, f2⟩ := hc.frame
  have hI : sI0 n K T (xU mi 8 4 1) (xU (xU ml 8 2 0) 8 3 0) := ⟨(fun i _ g => by have : hb 0 i = true := g; rw [hb_0] at this; cases this), (fun i _ g => by have : hb 0 i = true := g; rw [hb_0] at this; cases this)⟩
  refine ⟨fun x x8 x9 => by rw [f1 x x8 x9, xU_ne x8], fun x x8 => by rw [f2 x x8, xU_ne x8, xU_ne x8], ?_⟩
  rcases hc.step hn hI rfl Rh.zero (by omega) with z | ⟨z1, z2, z3, z4, z5, z6, z7⟩
  · exact Or.inl z
  · refine Or.inr ⟨z1, z2, z4, z3, z5, Nat.zero_le _, fun i h q1 q2 q3 _ _ => ?_⟩
    have := z7 i q1
    rw [q2, q3] at this
    have h0 : hb (0 : Int64) i = true := by
      have e : (hb (0 : Int64) i && !hb (0 : Int64) i) = true := this.symm
      simp at e
    rw [hb_0] at h0; cases h0
set_option maxRecDepth 100000 in
set_option maxHeartbeats 1000000 in
theorem c_find (d L : Nat) (mi : xmi) (ml : xml) {n : Nat} {K T : Nat → Nat} (hP : PRG mi n K T) : xF (d + 5) 53 [.ref 8] L mi ml (fun rr x y => rr = none ∧ (∀ q, q ≠ 8 → q ≠ 9 → x q = mi q) ∧ (∀ q, q ≠ 8 → y q = ml q) ∧ SHP n K T x y) := by
  have hP1 : PRG (xU mi 8 4 1) n K T := hP.frame (xU_ne (by decide)) (xU_ne (by decide)) (xU_ne (by decide)) (xU_ne (by decide)) (xU_ne (by decide))
  refine xF.mk mX6_find rfl rfl ?_
  refine xB.go 12 (18, [(0, .ref 8)], [.int 0, .int 0, .ref 8], XM L (xU mi 8 4 1) (xU (xU ml 8 2 0) 8 3 0)) rfl ?_
  refine xB.ca 55 [.ref 8, .int 0, .int 0] [] (c_comeTo _ L _ _ hP1 0 0 (by decide)) rfl ?_
  intro r1 a1 b1 hq1
  obtain ⟨rfl, hq1⟩ := hq1
  show xB _ _ L _ (21, [(0, .ref 8)], [], XM L a1 b1)
  refine xB.go 2 (23, [(0, .ref 8), (1, .int 0)], [], XM L a1 b1) rfl ?_
  exact find_loop d L mi ml hP 64 0 (by omega) (by omega) a1 b1 (sLI_zero hP.2.1 hq1)
