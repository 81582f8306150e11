/-! THE DOCUMENT'S TERMS over a program of n instructions, kinds K, jumps T -/
def tk (k : Nat) : Nat := [0, 0, 1, 2, 0, 1, 1, 2, 1, 0].getD k 0
def pt (k : Nat) : Nat := [1, 1, 0, 1, 0, 0, 1, 0, 0, 0].getD k 0
/-- a way goes on from i to j -/
def Fo (K T : Nat → Nat) (i j : Nat) : Prop := K i ≠ 9 ∧ ((j = if K i = 4 then T i else i + 1) ∨ (K i = 5 ∧ j = T i))
/-- instruction i is come to with h ints on the pile -/
def Rh (n : Nat) (K T : Nat → Nat) (i h : Nat) : Prop := ∀ X : Nat → Nat → Prop, X 0 0 → (∀ i h j, X i h → i < n → tk (K i) ≤ h → h - tk (K i) + pt (K i) ≤ 16 → Fo K T i j → X j (h - tk (K i) + pt (K i))) → X i h
theorem Rh.zero {n : Nat} {K T : Nat → Nat} : Rh n K T 0 0 := fun _ h _ => h
theorem Rh.next {n : Nat} {K T : Nat → Nat} {i h j : Nat} (hr : Rh n K T i h) (h1 : i < n) (h2 : tk (K i) ≤ h) (h3 : h - tk (K i) + pt (K i) ≤ 16) (h4 : Fo K T i j) : Rh n K T j (h - tk (K i) + pt (K i)) := fun X a b => b i h j (hr X a b) h1 h2 h3 h4
/-- well formed -/
def WF (n : Nat) (K T : Nat → Nat) : Prop := (∀ i h, Rh n K T i h → i < n ∧ tk (K i) ≤ h ∧ h - tk (K i) + pt (K i) ≤ 16) ∧ ∀ i h h', Rh n K T i h → Rh n K T i h' → h = h'
/-- a set of places with heights that is closed and in order: then all is well formed, and it is what is come to -/
theorem WF_of {n : Nat} {K T : Nat → Nat} (S : Nat → Nat → Prop) (h0 : S 0 0) (hin : ∀ i h, S i h → i < n ∧ tk (K i) ≤ h ∧ h - tk (K i) + pt (K i) ≤ 16) (hcl : ∀ i h j, S i h → Fo K T i j → S j (h - tk (K i) + pt (K i))) (huq : ∀ i h h', S i h → S i h' → h = h') : WF n K T ∧ ∀ i h, Rh n K T i h → S i h := by
  have hs : ∀ i h, Rh n K T i h → S i h := fun i h hr => hr S h0 (fun i h j g _ _ _ g4 => hcl i h j g g4)
  exact ⟨⟨fun i h hr => hin i h (hs i h hr), fun i h h' a b => huq i h h' (hs i h a) (hs i h' b)⟩, hs⟩
/-! how many places of a row are in a set -/
def cnt (f : Nat → Bool) : Nat → Nat
  | 0 => 0
  | m + 1 => cnt f m + (bif f m then 1 else 0)
theorem cnt_le (f : Nat → Bool) (m : Nat) : cnt f m ≤ m := by
  induction m with
  | zero => exact Nat.le_refl _
  | succ m ih => unfold cnt; cases f m <;> simp only [cond_true, cond_false] <;> omega
theorem cnt_congr {f g : Nat → Bool} {m : Nat} (h : ∀ i, i < m → f i = g i) : cnt f m = cnt g m := by
  induction m with
  | zero => rfl
  | succ m ih => unfold cnt; rw [ih (fun i hi => h i (by omega)), h m (by omega)]
theorem cnt_mono {f g : Nat → Bool} {m : Nat} (h : ∀ i, i < m → f i = true → g i = true) : cnt f m ≤ cnt g m := by
  induction m with
  | zero => exact Nat.le_refl _
  | succ m ih =>
    unfold cnt
    have h1 := ih (fun i hi => h i (by omega))
    have h2 := h m (by omega)
    cases hf : f m <;> cases hg : g m <;> simp only [cond_true, cond_false] <;> first | omega | (rw [hf, hg] at h2; exact absurd (h2 rfl) (by decide))
theorem cnt_lt {f g : Nat → Bool} {m j : Nat} (h : ∀ i, i < m → f i = true → g i = true) (hj : j < m) (h1 : f j = false) (h2 : g j = true) : cnt f m < cnt g m := by
  induction m with
  | zero => omega
  | succ m ih =>
    unfold cnt
    by_cases e : j = m
    · subst e
      have := cnt_mono (f := f) (g := g) (m := j) (fun i hi => h i (by omega))
      rw [h1, h2]; simp only [cond_true, cond_false]; omega
    · have h3 := ih (fun i hi => h i (by omega)) (by omega)
      have h4 := h m (by omega)
      cases hf : f m <;> cases hg : g m <;> simp only [cond_true, cond_false] <;> first | omega | (rw [hf, hg] at h4; exact absurd (h4 rfl) (by decide))
theorem cnt_zero {f : Nat → Bool} {m : Nat} (h : ∀ i, i < m → f i = false) : cnt f m = 0 := by
  induction m with
  | zero => rfl
  | succ m ih => unfold cnt; rw [ih (fun i hi => h i (by omega)), h m (by omega)]; rfl
theorem cnt_full {f : Nat → Bool} {m : Nat} (h : m ≤ cnt f m) : ∀ i, i < m → f i = true := by
  induction m with
  | zero => intro i hi; omega
  | succ m ih =>
    unfold cnt at h
    have h1 := cnt_le f m
    cases hf : f m with
    | false => rw [hf] at h; simp only [cond_false] at h; omega
    | true =>
      rw [hf] at h; simp only [cond_true] at h
      intro i hi
      by_cases e : i = m
      · subst e; exact hf
      · exact ih (by omega) i (by omega)
/-! the program in the class's cells -/
def PRG (mi : xmi) (n : Nat) (K T : Nat → Nat) : Prop := mi 1 2 = nI n ∧ n ≤ 64 ∧ (∀ i, i < n → mi 2 i = nI (K i) ∧ K i < 10) ∧ (∀ i, i < n → K i = 4 ∨ K i = 5 → mi 3 i = nI (T i) ∧ T i < 64) ∧ mi 1002 = xtake ∧ mi 1003 = xputs
theorem tk_le : ∀ k, k < 10 → tk k ≤ 2 ∧ xtake k = nI (tk k) := by decide +kernel
theorem pt_le : ∀ k, k < 10 → pt k ≤ 1 ∧ xputs k = nI (pt k) := by decide +kernel
theorem nI_rng {i n : Nat} (hn : n < 2 ^ 31) (hi : i < 2 ^ 31) : (0 ≤ nI i ∧ nI i < nI n) ↔ i < n := by
  rw [nI_ltI hi hn]
  exact ⟨fun h => h.2, fun h => ⟨nI_pos' hi, h⟩⟩
theorem PRG.kind {mi : xmi} {n : Nat} {K T : Nat → Nat} (h : PRG mi n K T) {i : Nat} (hi : i < n) : sl_kind mi (nI i) = nI (K i) := by
  obtain ⟨h1, h2, h3, -⟩ := h
  unfold sl_kind
  rw [h1, if_pos ((nI_rng (by omega) (by omega)).mpr hi), nI_clamp (by omega), (h3 i hi).1]
theorem PRG.num {mi : xmi} {n : Nat} {K T : Nat → Nat} (h : PRG mi n K T) {i : Nat} (hi : i < n) : sl_num mi (nI i) = mi 3 i := by
  obtain ⟨h1, h2, h3, -⟩ := h
  unfold sl_num
  rw [h1, if_pos ((nI_rng (by omega) (by omega)).mpr hi), nI_clamp (by omega)]
theorem PRG.pf {mi : xmi} {n : Nat} {K T : Nat → Nat} (h : PRG mi n K T) {i : Nat} (hi : i < n) (h9 : K i ≠ 9) : sl_pf mi (nI i) = nI (if K i = 4 then T i else i + 1) := by
  have hk := (h.2.2.1 i hi).2
  unfold sl_pf
  rw [h.kind hi, if_neg (by rw [show (9 : Int32) = nI 9 from rfl, nI_eq (by omega) (by omega)]; exact h9)]
  by_cases h4 : K i = 4
  · rw [if_pos (by rw [h4]; rfl), if_pos h4, h.num hi, (h.2.2.2.1 i hi (Or.inl h4)).1]
  · rw [if_neg (by rw [show (4 : Int32) = nI 4 from rfl, nI_eq (by omega) (by omega)]; exact h4), if_neg h4, nI_1]
theorem PRG.ofr {mi : xmi} {n : Nat} {K T : Nat → Nat} (h : PRG mi n K T) {i : Nat} (hi : i < n) (h5 : K i = 5) : sl_of mi (nI i) = nI (T i) := by
  unfold sl_of
  rw [h.kind hi, if_pos (by rw [h5]; rfl), h.num hi, (h.2.2.2.1 i hi (Or.inr h5)).1]
