/-! two states of a run that agree where it looks -/
def EQV (s t : RS) : Prop := (∀ x, x < 16 → s.1 x = t.1 x) ∧ (∀ x, x < 24 → s.2.1 x = t.2.1 x) ∧ (∀ x, x < 64 → s.2.2.1 x = t.2.2.1 x) ∧ (∀ x, x < 64 → s.2.2.2.1 x = t.2.2.2.1 x) ∧ s.2.2.2.2 = t.2.2.2.2
theorem stA_eqv {k h : Nat} {z : Int32} {s t : RS} (hk : k < 10) (htk : tk k ≤ h) (hg : h - tk k + pt k ≤ 16) (h16 : h ≤ 16) (hz : (k = 1 ∨ k = 2 → z.toNatClampNeg < 8) ∧ (k = 6 ∨ k = 7 → z.toNatClampNeg < 2)) (e : EQV s t) : EQV (stA k z h s) (stA k z h t) := by
  obtain ⟨e1, e2, e3, e4, e5⟩ := e
  rcases (show k = 0 ∨ k = 1 ∨ k = 2 ∨ k = 3 ∨ k = 4 ∨ k = 5 ∨ k = 6 ∨ k = 7 ∨ k = 8 ∨ k = 9 by omega) with rfl | rfl | rfl | rfl | rfl | rfl | rfl | rfl | rfl | rfl
  · exact ⟨upc e1, e2, e3, e4, e5⟩
  · have hz := hz.1 (Or.inl rfl)
    refine ⟨?_, e2, e3, e4, e5⟩
    show ∀ x, x < 16 → va_up s.1 h (s.2.1 z.toNatClampNeg) x = va_up t.1 h (t.2.1 z.toNatClampNeg) x
    rw [e2 _ (by omega)]; exact upc e1
  · have ht : 1 ≤ h := htk
    refine ⟨e1, ?_, e3, e4, e5⟩
    show ∀ x, x < 24 → va_up s.2.1 z.toNatClampNeg (s.1 (h - 1)) x = va_up t.2.1 z.toNatClampNeg (t.1 (h - 1)) x
    rw [e1 (h - 1) (by omega)]; exact upc e2
  · have ht : 2 ≤ h := htk
    refine ⟨?_, e2, e3, e4, e5⟩
    show ∀ x, x < 16 → va_up s.1 (h - 2) (dnA z (s.1 (h - 2)) (s.1 (h - 1))) x = va_up t.1 (h - 2) (dnA z (t.1 (h - 2)) (t.1 (h - 1))) x
    rw [e1 (h - 1) (by omega), e1 (h - 2) (by omega)]; exact upc e1
  · exact ⟨e1, e2, e3, e4, e5⟩
  · exact ⟨e1, e2, e3, e4, e5⟩
  · have ht : 1 ≤ h := htk
    have hz := hz.2 (Or.inl rfl)
    refine ⟨?_, e2, e3, e4, e5⟩
    show ∀ x, x < 16 → va_up s.1 (h - 1) (s.2.1 (8 + 8 * z.toNatClampNeg + ix7 (s.1 (h - 1)))) x = va_up t.1 (h - 1) (t.2.1 (8 + 8 * z.toNatClampNeg + ix7 (t.1 (h - 1)))) x
    have h7 := (and7_ix (t.1 (h - 1))).2
    rw [e1 (h - 1) (by omega), e2 _ (by omega)]; exact upc e1
  · have ht : 2 ≤ h := htk
    refine ⟨e1, ?_, e3, e4, e5⟩
    show ∀ x, x < 24 → va_up s.2.1 (8 + 8 * z.toNatClampNeg + ix7 (s.1 (h - 2))) (s.1 (h - 1)) x = va_up t.2.1 (8 + 8 * z.toNatClampNeg + ix7 (t.1 (h - 2))) (t.1 (h - 1)) x
    rw [e1 (h - 1) (by omega), e1 (h - 2) (by omega)]; exact upc e2
  · have ht : 1 ≤ h := htk
    by_cases hc : s.2.2.2.2 < 64
    · have hc2 : t.2.2.2.2 < 64 := by rw [← e5]; exact hc
      have es : ∀ u : RS, u.2.2.2.2 < 64 → stA 8 z h u = (u.1, u.2.1, va_up u.2.2.1 u.2.2.2.2 z, va_up u.2.2.2.1 u.2.2.2.2 (u.1 (h - 1)), u.2.2.2.2 + 1) := fun u hu => if_pos hu
      rw [es s hc, es t hc2]
      refine ⟨e1, e2, ?_, ?_, by show s.2.2.2.2 + 1 = t.2.2.2.2 + 1; rw [e5]⟩
      · show ∀ x, x < 64 → va_up s.2.2.1 s.2.2.2.2 z x = va_up t.2.2.1 t.2.2.2.2 z x
        rw [e5]; exact upc e3
      · show ∀ x, x < 64 → va_up s.2.2.2.1 s.2.2.2.2 (s.1 (h - 1)) x = va_up t.2.2.2.1 t.2.2.2.2 (t.1 (h - 1)) x
        rw [e5, e1 (h - 1) (by omega)]; exact upc e4
    · have hc2 : ¬ t.2.2.2.2 < 64 := by rw [← e5]; exact hc
      have es : ∀ u : RS, ¬ u.2.2.2.2 < 64 → stA 8 z h u = (u.1, u.2.1, u.2.2.1, u.2.2.2.1, u.2.2.2.2 + 1) := fun u hu => if_neg hu
      rw [es s hc, es t hc2]
      exact ⟨e1, e2, e3, e4, by show s.2.2.2.2 + 1 = t.2.2.2.2 + 1; rw [e5]⟩
  · exact ⟨e1, e2, e3, e4, e5⟩
theorem nxA_eqv {k t i h : Nat} {s u : RS} (h16 : h ≤ 16) (htk : tk k ≤ h) (e : EQV s u) : nxA k t i h s = nxA k t i h u := by
  unfold nxA
  by_cases h4 : k = 4
  · rw [if_pos h4, if_pos h4]
  · by_cases h5 : k = 5
    · subst h5
      have ht : 1 ≤ h := htk
      rw [e.1 (h - 1) (by omega)]
    · rw [if_neg h4, if_neg h4, if_neg h5, if_neg h5]
/-- the numbers that a run needs are in order -/
def NOK (n : Nat) (K : Nat → Nat) (N : Nat → Int32) : Prop := ∀ i, i < n → (K i = 1 ∨ K i = 2 → (N i).toNatClampNeg < 8) ∧ (K i = 6 ∨ K i = 7 → (N i).toNatClampNeg < 2) ∧ (K i = 8 → ∃ c, c < 4 ∧ N i = nI c)
theorem runA_eqv {n : Nat} {K T : Nat → Nat} {N N' : Nat → Int32} (hw : WF n K T) (hK : ∀ i, i < n → K i < 10) (hN : NOK n K N) (hNN : ∀ i, i < n → N i = N' i) : ∀ (f i h : Nat) (s t : RS), Rh n K T i h → EQV s t → (runA K T N f i h s).1 = (runA K T N' f i h t).1 ∧ EQV (runA K T N f i h s).2.1 (runA K T N' f i h t).2.1 ∧ (runA K T N f i h s).2.2 = (runA K T N' f i h t).2.2 := by
  intro f
  induction f with
  | zero => intro i h s t _ e; exact ⟨rfl, e, rfl⟩
  | succ f ih =>
    intro i h s t hr e
    obtain ⟨hin, htk, hg⟩ := hw.1 i h hr
    by_cases h9 : K i = 9
    · have e1 : ∀ (M : Nat → Int32) (u : RS), runA K T M (f + 1) i h u = (1, u, true) := fun M u => if_pos h9
      rw [e1, e1]; exact ⟨rfl, e, rfl⟩
    · have e1 : ∀ (M : Nat → Int32) (u : RS), runA K T M (f + 1) i h u = ((runA K T M f (nxA (K i) (T i) i h u) (h - tk (K i) + pt (K i)) (stA (K i) (M i) h u)).1 + 1, (runA K T M f (nxA (K i) (T i) i h u) (h - tk (K i) + pt (K i)) (stA (K i) (M i) h u)).2) := fun M u => if_neg h9
      have hx := ih (nxA (K i) (T i) i h s) (h - tk (K i) + pt (K i)) (stA (K i) (N i) h s) (stA (K i) (N i) h t) (hr.next hin htk hg (nxA_Fo h9)) (stA_eqv (hK i hin) htk hg hr.le16 ⟨(hN i hin).1, (hN i hin).2.1⟩ e)
      rw [e1, e1, ← hNN i hin, ← nxA_eqv hr.le16 htk e]
      exact ⟨by show _ + 1 = _ + 1; rw [hx.1], hx.2⟩
def CHV (r : Nat → Int32) : Prop := ∀ x, x < 64 → ∃ c, c < 4 ∧ r x = nI c
theorem stA_ch {k h : Nat} {z : Int32} {s : RS} (hz : k = 8 → ∃ c, c < 4 ∧ z = nI c) (hs : CHV s.2.2.1) : CHV (stA k z h s).2.2.1 := by
  unfold stA
  repeat' split
  all_goals first | exact hs | skip
  rename_i h8 _
  obtain ⟨c, hc, e⟩ := hz h8
  intro x hx
  show ∃ c, c < 4 ∧ va_up s.2.2.1 s.2.2.2.2 z x = nI c
  by_cases ex : x = s.2.2.2.2
  · subst ex; rw [va_up_self]; exact ⟨c, hc, e⟩
  · rw [va_up_ne _ _ ex]; exact hs x hx
theorem runA_ch {n : Nat} {K T : Nat → Nat} {N : Nat → Int32} (hw : WF n K T) (hN : NOK n K N) : ∀ (f i h : Nat) (s : RS), Rh n K T i h → CHV s.2.2.1 → CHV (runA K T N f i h s).2.1.2.2.1 := by
  intro f
  induction f with
  | zero => intro i h s _ e; exact e
  | succ f ih =>
    intro i h s hr e
    obtain ⟨hin, htk, hg⟩ := hw.1 i h hr
    by_cases h9 : K i = 9
    · have e1 : runA K T N (f + 1) i h s = (1, s, true) := if_pos h9
      rw [e1]; exact e
    · have e1 : runA K T N (f + 1) i h s = ((runA K T N f (nxA (K i) (T i) i h s) (h - tk (K i) + pt (K i)) (stA (K i) (N i) h s)).1 + 1, (runA K T N f (nxA (K i) (T i) i h s) (h - tk (K i) + pt (K i)) (stA (K i) (N i) h s)).2) := if_neg h9
      rw [e1]
      exact ih _ _ _ (hr.next hin htk hg (nxA_Fo h9)) (stA_ch (hN i hin).2.2 e)
/-! what holds between the two objects -/
def RW1 (w : Nat) (M O : Nat) (mi : xmi) : Prop := (∀ x, x < 24 → mi M x = mi 36 (24 * w + x)) ∧ (∀ x, x < 64 → mi (O + 1) x = mi 46 (64 * w + x)) ∧ (∀ x, x < 64 → mi (O + 2) x = mi 47 (64 * w + x)) ∧ (∃ c, mi O 4 = nI c ∧ mi 45 w = nI c ∧ c ≤ 10000) ∧ mi O 2 = mi 43 w ∧ (mi O 2 = 0 ∨ mi O 2 = 1) ∧ mi O 3 = mi 44 w ∧ (mi O 3 = 0 ∨ mi O 3 = 1) ∧ CHV (mi (O + 1))
def REL (n : Nat) (mi : xmi) : Prop := (∀ i, i < n → mi 3 i = mi 34 i) ∧ (∀ x, x < 16 → mi 19 x = mi 48 x) ∧ RW1 0 23 24 mi ∧ RW1 1 28 29 mi
def INV (xs : Nat → Int32) (mi : xmi) (ml : xml) : Prop := ∃ n K T vL aL cL, CI n K T vL aL cL mi ml ∧ RI n K T vL aL cL mi ∧ REL n mi ∧ mi 1000 = xs ∧ mi 1001 = xnumb
