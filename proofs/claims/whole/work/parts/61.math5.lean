/-! growth of the reference's levels in one flow -/
theorem tix_inj {j k j' k' : Nat} (hj : j < 64) (hk : k ≤ 16) (hj' : j' < 64) (hk' : k' ≤ 16) (h : tix j k = tix j' k') : j = j' ∧ k = k' := by
  unfold tix at h
  split at h <;> split at h <;> omega
def gUp (g : Nat → Nat → Nat → Bool) (j k : Nat) (p q : Bool) : Nat → Nat → Nat → Bool := fun b j' k' => g b j' k' || (decide (j' = j ∧ k' = k) && (bif Nat.beq b 0 then p else q))
theorem TG.up {g : Nat → Nat → Nat → Bool} {a : xmi} (h : TG g a) {j k : Nat} (hj : j < 64) (hk : k ≤ 16) (p q : Bool) : TG (gUp g j k p q) (xU a 40 (tix j k) (a 40 (tix j k) ||| lv2 p q)) := fun j' k' hj' hk' => by
  unfold gUp
  by_cases e : j' = j ∧ k' = k
  · obtain ⟨rfl, rfl⟩ := e
    rw [xU_self, h j' k' hj' hk', lv2_or, show Nat.beq 1 0 = false from rfl]; simp
  · have : tix j' k' ≠ tix j k := fun z => e (tix_inj hj' hk' hj hk z)
    rw [xU_at, va_up_ne _ _ this, h j' k' hj' hk']
    simp [e]
section FL
variable (n : Nat) (K T : Nat → Nat) (rdb : Nat → Nat → Bool) (Rg : Nat → Nat → Prop) (mi0 : xmi) (g0 : Nat → Nat → Nat → Bool)
def flI (D : Nat → Nat → Nat → Prop) (m : Int32) (a : xmi) : Prop := (∀ x, x ≠ 40 → a x = mi0 x) ∧ ((m = 0 ∧ a = mi0 ∧ ∀ b j k, b < 2 → j < 64 → k ≤ 16 → D b j k → g0 b j k = true) ∨ (m = 1 ∧ ∃ g, TG g a ∧ tSo n K T rdb Rg g ∧ (∀ b j k, b < 2 → j < 64 → k ≤ 16 → g0 b j k = true → g b j k = true) ∧ ∃ b j k, b < 2 ∧ j < 64 ∧ k ≤ 16 ∧ g0 b j k = false ∧ g b j k = true))
variable {n K T rdb Rg mi0 g0}
theorem flI.bool {D : Nat → Nat → Nat → Prop} {m : Int32} {a : xmi} (h : flI n K T rdb Rg mi0 g0 D m a) : m = 0 ∨ m = 1 := by rcases h.2 with z | z; exact Or.inl z.1; exact Or.inr z.1
theorem flI.g {D : Nat → Nat → Nat → Prop} {m : Int32} {a : xmi} (h0 : TG g0 mi0) (hs : tSo n K T rdb Rg g0) (h : flI n K T rdb Rg mi0 g0 D m a) : ∃ g, TG g a ∧ tSo n K T rdb Rg g ∧ (m = 0 → a = mi0 ∧ g = g0) ∧ ∀ b j k, b < 2 → j < 64 → k ≤ 16 → g0 b j k = true → g b j k = true := by
  rcases h.2 with ⟨z1, z2, z3⟩ | ⟨z1, g, z2, z3, z4, z5⟩
  · exact ⟨g0, by rw [z2]; exact h0, hs, fun _ => ⟨z2, rfl⟩, fun _ _ _ _ _ _ h => h⟩
  · exact ⟨g, z2, z3, (fun z => by rw [z1] at z; cases z), z4⟩
theorem flI.cg {D D' : Nat → Nat → Nat → Prop} {m : Int32} {a : xmi} (h : flI n K T rdb Rg mi0 g0 D m a) (hd : ∀ b j k, b < 2 → j < 64 → k ≤ 16 → D' b j k → D b j k) : flI n K T rdb Rg mi0 g0 D' m a :=
  ⟨h.1, h.2.imp (fun z => ⟨z.1, z.2.1, fun b j k hb2 hj hk hx => z.2.2 b j k hb2 hj hk (hd b j k hb2 hj hk hx)⟩) id⟩
theorem flI.grow1 {D D' : Nat → Nat → Nat → Prop} {m : Int32} {a : xmi} {g : Nat → Nat → Nat → Bool} {j k : Nat} {p q : Bool} (h : flI n K T rdb Rg mi0 g0 D m a) (hT : TG g a) (hs : tSo n K T rdb Rg g) (hm : ∀ b j k, b < 2 → j < 64 → k ≤ 16 → g0 b j k = true → g b j k = true) (hj : j < 64) (hk : k ≤ 16) (hp : p = true → TY n K T (rdb 0) Rg j k) (hq : q = true → TY n K T (rdb 1) Rg j k) {y : Int32} (hy : y = lv2 p q) {t : Nat} (ht : t = tix j k) (hg : ¬ (a 40 t ||| y) = a 40 t) : flI n K T rdb Rg mi0 g0 D' 1 (xU a 40 t (a 40 t ||| y)) := by
  subst hy; subst ht
  refine ⟨fun x hx => by rw [xU_ne hx, h.1 x hx], Or.inr ⟨rfl, gUp g j k p q, hT.up hj hk p q, ?_, ?_, ?_⟩⟩
  · rintro b j' k' hb2 ⟨h1, h2, h3⟩
    unfold gUp at h3
    rw [Bool.or_eq_true, Bool.and_eq_true, decide_eq_true_iff] at h3
    rcases h3 with h3 | ⟨⟨rfl, rfl⟩, h4⟩
    · exact hs b j' k' hb2 ⟨h1, h2, h3⟩
    · rcases (show b = 0 ∨ b = 1 by omega) with rfl | rfl
      · exact hp h4
      · exact hq h4
  · intro b j' k' hb2 h1 h2 h3
    unfold gUp; rw [hm b j' k' hb2 h1 h2 h3]; rfl
  · have hne : (p = true ∧ g 0 j k = false) ∨ (q = true ∧ g 1 j k = false) := by
      refine Classical.byContradiction fun z => hg ?_
      rw [hT j k hj hk, lv2_or]
      cases p <;> cases q <;> cases h0 : g 0 j k <;> cases h1 : g 1 j k <;> simp_all
    have hf : ∀ b, b < 2 → g b j k = false → g0 b j k = false := fun b hb2 z => by
      cases hx : g0 b j k with
      | false => rfl
      | true => rw [hm b j k hb2 hj hk hx] at z; cases z
    rcases hne with ⟨z1, z2⟩ | ⟨z1, z2⟩
    · exact ⟨0, j, k, by decide, hj, hk, hf 0 (by decide) z2, by unfold gUp; rw [z1]; simp⟩
    · exact ⟨1, j, k, by decide, hj, hk, hf 1 (by decide) z2, by unfold gUp; rw [z1, show Nat.beq 1 0 = false from rfl]; simp⟩
theorem flI.grow2 {D D' : Nat → Nat → Nat → Prop} {m : Int32} {a : xmi} {g : Nat → Nat → Nat → Bool} {j k : Nat} {p q : Bool} (h : flI n K T rdb Rg mi0 g0 D m a) (hT : TG g a) (hgg : m = 0 → g = g0) (hj : j < 64) (hk : k ≤ 16) {y : Int32} (hy : y = lv2 p q) {t : Nat} (ht : t = tix j k) (hg : (a 40 t ||| y) = a 40 t)
    (hD : m = 0 → ∀ b j' k', b < 2 → j' < 64 → k' ≤ 16 → D' b j' k' → D b j' k' ∨ (j' = j ∧ k' = k ∧ (bif Nat.beq b 0 then p else q) = true)) : xU a 40 t (a 40 t ||| y) = a ∧ flI n K T rdb Rg mi0 g0 D' m a := by
  refine ⟨by rw [hg, xU_id], h.1, ?_⟩
  rcases h.2 with ⟨z1, z2, z3⟩ | z
  · refine Or.inl ⟨z1, z2, fun b j' k' hb2 h1 h2 hx => ?_⟩
    rcases hD z1 b j' k' hb2 h1 h2 hx with w | ⟨rfl, rfl, w⟩
    · exact z3 b j' k' hb2 h1 h2 w
    · subst hy; subst ht
      rw [hT j' k' hj hk, lv2_or] at hg
      have e := lv2_inj hg
      rw [hgg z1] at e
      rcases (show b = 0 ∨ b = 1 by omega) with rfl | rfl
      · have w : p = true := w
        rw [w] at e; simpa using e.1
      · have w : q = true := w
        rw [w] at e; simpa using e.2
  · exact Or.inr z
end FL
theorem tkG_iff {K : Nat → Nat} {g : Nat → Nat → Nat → Bool} {b i h : Nat} (hi : i < 64) (h16 : h ≤ 16) (htk : tk (K i) ≤ h) : tkG K g b i h = true ↔ TKN K (gS g b) i h := by
  unfold tkG
  rw [anyr_iff]
  exact ⟨fun ⟨k, h1, h2, h3⟩ => ⟨k, h1, by omega, hi, by omega, h3⟩, fun ⟨k, h1, h2, h3⟩ => ⟨k, h1, by omega, h3.2.2⟩⟩
theorem TKN.mono {K : Nat → Nat} {X Y : Nat → Nat → Prop} {i h : Nat} (hx : ∀ j k, X j k → Y j k) (t : TKN K X i h) : TKN K Y i h := by
  obtain ⟨k, a, b, c⟩ := t; exact ⟨k, a, b, hx _ _ c⟩
