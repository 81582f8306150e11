/-! TYPES: the least levels, a bit at a time; place 16 is the surrounding -/
def TKN (K : Nat → Nat) (X : Nat → Nat → Prop) (i h : Nat) : Prop := ∃ k, h - tk (K i) ≤ k ∧ k < h ∧ X i k
/-- what the rules at instruction i, with h ints on the pile, ask for -/
def DVi (K T : Nat → Nat) (rdb : Nat → Bool) (Rg : Nat → Nat → Prop) (i h : Nat) (X : Nat → Nat → Prop) (j k : Nat) : Prop :=
  (Fo K T i j ∧ ((k < h - tk (K i) ∧ (X i k ∨ (K i = 5 ∧ TKN K X i h))) ∨ (pt (K i) = 1 ∧ k = h - tk (K i) ∧ (TKN K X i h ∨ X i 16 ∨ rdb i = true)))) ∨ (K i = 5 ∧ TKN K X i h ∧ Rg i j ∧ k = 16)
theorem DVi.mono {K T : Nat → Nat} {rdb : Nat → Bool} {Rg : Nat → Nat → Prop} {i h j k : Nat} {X Y : Nat → Nat → Prop} (hXY : ∀ j k, X j k → Y j k) (hd : DVi K T rdb Rg i h X j k) : DVi K T rdb Rg i h Y j k := by
  have ht : TKN K X i h → TKN K Y i h := fun ⟨k, a, b, c⟩ => ⟨k, a, b, hXY _ _ c⟩
  rcases hd with ⟨hf, ⟨h1, h2 | ⟨h2, h3⟩⟩ | ⟨h1, h2, h3 | h3 | h3⟩⟩ | ⟨h1, h2, h3, h4⟩
  · exact Or.inl ⟨hf, Or.inl ⟨h1, Or.inl (hXY _ _ h2)⟩⟩
  · exact Or.inl ⟨hf, Or.inl ⟨h1, Or.inr ⟨h2, ht h3⟩⟩⟩
  · exact Or.inl ⟨hf, Or.inr ⟨h1, h2, Or.inl (ht h3)⟩⟩
  · exact Or.inl ⟨hf, Or.inr ⟨h1, h2, Or.inr (Or.inl (hXY _ _ h3))⟩⟩
  · exact Or.inl ⟨hf, Or.inr ⟨h1, h2, Or.inr (Or.inr h3)⟩⟩
  · exact Or.inr ⟨h1, ht h2, h3, h4⟩
def TY (n : Nat) (K T : Nat → Nat) (rdb : Nat → Bool) (Rg : Nat → Nat → Prop) (j k : Nat) : Prop := ∀ X : Nat → Nat → Prop, (∀ i h, Rh n K T i h → ∀ j k, DVi K T rdb Rg i h X j k → X j k) → X j k
theorem TY.mk {n : Nat} {K T : Nat → Nat} {rdb : Nat → Bool} {Rg : Nat → Nat → Prop} {i h j k : Nat} (hr : Rh n K T i h) (hd : DVi K T rdb Rg i h (TY n K T rdb Rg) j k) : TY n K T rdb Rg j k := fun X hX => hX i h hr j k (hd.mono (fun j k g => g X hX))
/-! the class's cells -/
def tS (ml : xml) (b j k : Nat) : Prop := (k < 16 ∧ hb (ml 17 j) (2 * k + b) = true) ∨ (k = 16 ∧ hb (ml 16 (5 + b)) j = true)
theorem tkn_iff {K : Nat → Nat} {ml : xml} {b i h : Nat} (h16 : h ≤ 16) (htk : tk (K i) ≤ h) : tkn K ml b i h = true ↔ TKN K (tS ml b) i h := by
  unfold tkn
  rw [anyr_iff]
  constructor
  · rintro ⟨k, h1, h2, h3⟩; exact ⟨k, h1, by omega, Or.inl ⟨by omega, h3⟩⟩
  · rintro ⟨k, h1, h2, h3 | h3⟩
    · exact ⟨k, h1, by omega, h3.2⟩
    · omega
theorem gpl_17 {ml : xml} {o : Option Nat} {left : Int64} {j x : Nat} : hb (gpl ml o left 17 j) x = (hb (ml 17 j) x || (decide (o = some j) && hb left x)) := by
  cases o with
  | none => show hb (ml 17 j) x = _; simp
  | some q =>
    show hb (xU ml 17 q (ml 17 q ||| left) 17 j) x = _
    rw [xU_at]
    by_cases h : j = q
    · subst h; rw [va_up_self, hb_or]; simp
    · have : ¬ q = j := fun e => h e.symm
      rw [va_up_ne _ _ h]; simp [this]
theorem gpl_row {ml : xml} {o : Option Nat} {left : Int64} {x : Nat} (h : x ≠ 17) : gpl ml o left x = ml x := by
  cases o with
  | none => rfl
  | some q => exact xU_ne h
theorem gsl_row {ml : xml} {R : Int64} {p q : Bool} {x : Nat} (h : x ≠ 16) : gsl ml R p q x = ml x := by unfold gsl; rw [xU_ne h, xU_ne h]
theorem hb_gsA {x R : Int64} {p : Bool} {j : Nat} (hj : j < 64) : hb (x ||| gsA x R p) j = (hb x j || (p && hb R j)) := by
  unfold gsA
  cases p with
  | true => simp only [cond_true]; rw [hb_or, hb_and, hb_not _ hj]; cases hb x j <;> simp
  | false => simp only [cond_false]; rw [or_z]; simp
theorem gsl_16 {ml : xml} {R : Int64} {p q : Bool} {b j : Nat} (hb2 : b < 2) (hj : j < 64) : hb (gsl ml R p q 16 (5 + b)) j = (hb (ml 16 (5 + b)) j || ((bif Nat.beq b 0 then p else q) && hb R j)) := by
  rcases (show b = 0 ∨ b = 1 by omega) with rfl | rfl
  · exact hb_gsA hj
  · exact hb_gsA hj
/-- the bits behind spreadFrom: those before, and what the rules at i ask for -/
theorem SPR.bits {n : Nat} {K T : Nat → Nat} {rdb : Nat → Nat → Bool} {mi a : xmi} {ml b' : xml} {i h : Nat} (h16 : h ≤ 16) (htk : tk (K i) ≤ h) (hg : h - tk (K i) + pt (K i) ≤ 16) (hs : SPR K T (rdb 0 i) (rdb 1 i) mi ml i h a b') {b j k : Nat} (hb2 : b < 2) (hj : j < 64) (hk : k ≤ 16) :
    tS b' b j k ↔ tS ml b j k ∨ DVi K T (rdb b) (fun i j => hb (ml 15 i) j = true) i h (tS ml b) j k := by
  obtain ⟨left, hl, -, rfl⟩ := hs
  have hsp17 : sp1l K ml i h 17 = ml 17 := by unfold sp1l; split; exact gsl_row (by decide); rfl
  have hF : (decide (fo1 K T i = some j) || decide (fo2 K T i = some j)) = true ↔ Fo K T i j := by rw [Fo_iff]; simp
  rcases Nat.lt_or_ge k 16 with hk16 | hk16
  · have e1 : hb (gpl (gpl (sp1l K ml i h) (fo1 K T i) left) (fo2 K T i) left 17 j) (2 * k + b) = (hb (ml 17 j) (2 * k + b) || ((decide (fo1 K T i = some j) || decide (fo2 K T i = some j)) && hb left (2 * k + b))) := by
      rw [gpl_17, gpl_17, hsp17]
      cases hb (ml 17 j) (2 * k + b) <;> cases hb left (2 * k + b) <;> simp
    have e2 : hb left (2 * k + b) = true ↔ (k < h - tk (K i) ∧ (tS ml b i k ∨ (K i = 5 ∧ TKN K (tS ml b) i h))) ∨ (pt (K i) = 1 ∧ k = h - tk (K i) ∧ (TKN K (tS ml b) i h ∨ tS ml b i 16 ∨ rdb b i = true)) := by
      rw [hl _ (by omega)]
      have ht := tkn_iff (ml := ml) (b := b) h16 htk
      have hS : tS ml b i k ↔ hb (ml 17 i) (2 * k + b) = true := ⟨fun z => z.elim (fun w => w.2) (fun w => by omega), fun z => Or.inl ⟨hk16, z⟩⟩
      have hS16 : tS ml b i 16 ↔ hb (ml 16 (5 + b)) i = true := ⟨fun z => z.elim (fun w => by omega) (fun w => w.2), fun z => Or.inr ⟨rfl, z⟩⟩
      rw [hS, hS16, ← ht]
      rcases (show b = 0 ∨ b = 1 by omega) with rfl | rfl
      · show lfx K ml (rdb 0 i) (rdb 1 i) i h (2 * k) = true ↔ _
        have m2 : Nat.beq (2 * k % 2) 0 = true := by rw [show 2 * k % 2 = 0 by omega]; rfl
        have c1 : (2 * k < 2 * (h - tk (K i))) ↔ k < h - tk (K i) := by omega
        have c2 : (2 * k = 2 * (h - tk (K i))) ↔ k = h - tk (K i) := by omega
        have c3 : ¬ (2 * k = 2 * (h - tk (K i)) + 1) := by omega
        simp only [lfx, m2, cond_true, Bool.or_eq_true, Bool.and_eq_true, decide_eq_true_eq, c1, c2, c3, false_and, or_false, Nat.add_zero, or_assoc]
      · have m2 : Nat.beq ((2 * k + 1) % 2) 0 = false := by rw [show (2 * k + 1) % 2 = 1 by omega]; rfl
        have c1 : (2 * k + 1 < 2 * (h - tk (K i))) ↔ k < h - tk (K i) := by omega
        have c2 : ¬ (2 * k + 1 = 2 * (h - tk (K i))) := by omega
        have c3 : (2 * k + 1 = 2 * (h - tk (K i)) + 1) ↔ k = h - tk (K i) := by omega
        simp only [lfx, m2, cond_false, Bool.or_eq_true, Bool.and_eq_true, decide_eq_true_eq, c1, c2, c3, false_and, false_or, or_assoc]
    constructor
    · rintro (⟨-, g⟩ | ⟨g, -⟩)
      · rw [e1, Bool.or_eq_true, Bool.and_eq_true, hF, e2] at g
        rcases g with g | ⟨g1, g2⟩
        · exact Or.inl (Or.inl ⟨hk16, g⟩)
        · exact Or.inr (Or.inl ⟨g1, g2⟩)
      · omega
    · intro g
      refine Or.inl ⟨hk16, ?_⟩
      rw [e1, Bool.or_eq_true, Bool.and_eq_true, hF, e2]
      rcases g with (⟨-, g⟩ | ⟨g, -⟩) | (⟨g1, g2⟩ | ⟨-, -, -, g⟩)
      · exact Or.inl g
      · omega
      · exact Or.inr ⟨g1, g2⟩
      · omega
  · obtain rfl : k = 16 := by omega
    have e1 : gpl (gpl (sp1l K ml i h) (fo1 K T i) left) (fo2 K T i) left 16 = sp1l K ml i h 16 := by rw [gpl_row (by decide), gpl_row (by decide)]
    have hD : DVi K T (rdb b) (fun i j => hb (ml 15 i) j = true) i h (tS ml b) j 16 ↔ K i = 5 ∧ TKN K (tS ml b) i h ∧ hb (ml 15 i) j = true := by
      constructor
      · rintro (⟨-, ⟨g, -⟩ | ⟨g1, g2, -⟩⟩ | ⟨g1, g2, g3, -⟩)
        · omega
        · omega
        · exact ⟨g1, g2, g3⟩
      · rintro ⟨g1, g2, g3⟩; exact Or.inr ⟨g1, g2, g3, rfl⟩
    rw [hD]
    have hS : ∀ m : xml, tS m b j 16 ↔ hb (m 16 (5 + b)) j = true := fun m => ⟨fun z => z.elim (fun w => by omega) (fun w => w.2), fun z => Or.inr ⟨rfl, z⟩⟩
    rw [hS, hS, e1]
    unfold sp1l
    by_cases h5 : K i = 5
    · rw [if_pos h5, gsl_16 hb2 hj, Bool.or_eq_true, Bool.and_eq_true]
      have ht := tkn_iff (ml := ml) (b := b) h16 htk
      have : (bif Nat.beq b 0 then tkn K ml 0 i h else tkn K ml 1 i h) = tkn K ml b i h := by
        rcases (show b = 0 ∨ b = 1 by omega) with rfl | rfl <;> rfl
      rw [this, ht]
      simp [h5]
    · rw [if_neg h5]; simp [h5]
