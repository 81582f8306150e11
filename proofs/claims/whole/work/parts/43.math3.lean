/-! the least levels found in rounds: for the class and for the reference -/
def gS (f : Nat → Nat → Nat → Bool) (b j k : Nat) : Prop := j < 64 ∧ k ≤ 16 ∧ f b j k = true
def cB (f : Nat → Nat → Nat → Bool) (x : Nat) : Bool := f (x / 1088) (x % 1088 / 17) (x % 17)
theorem cB_ix {b j k : Nat} (hj : j < 64) (hk : k ≤ 16) (f : Nat → Nat → Nat → Bool) : cB f (1088 * b + (17 * j + k)) = f b j k := by
  unfold cB
  have h1 : (1088 * b + (17 * j + k)) / 1088 = b := by omega
  have h2 : (1088 * b + (17 * j + k)) % 1088 = 17 * j + k := by omega
  have h3 : (1088 * b + (17 * j + k)) % 17 = k := by omega
  rw [h1, h2, h3, show (17 * j + k) / 17 = j by omega]
theorem cB_mono {f g : Nat → Nat → Nat → Bool} (h : ∀ b j k, b < 2 → j < 64 → k ≤ 16 → f b j k = true → g b j k = true) : ∀ x, x < 2176 → cB f x = true → cB g x = true := fun x hx => h _ _ _ (by omega) (by omega) (by omega)
theorem cB_le {f g : Nat → Nat → Nat → Bool} (h : ∀ b j k, b < 2 → j < 64 → k ≤ 16 → f b j k = true → g b j k = true) : cnt (cB f) 2176 ≤ cnt (cB g) 2176 := cnt_mono (cB_mono h)
theorem cB_lt {f g : Nat → Nat → Nat → Bool} (h : ∀ b j k, b < 2 → j < 64 → k ≤ 16 → f b j k = true → g b j k = true) (hn : ∃ b j k, b < 2 ∧ j < 64 ∧ k ≤ 16 ∧ f b j k = false ∧ g b j k = true) : cnt (cB f) 2176 < cnt (cB g) 2176 := by
  obtain ⟨b, j, k, hb2, hj, hk, h1, h2⟩ := hn
  exact cnt_lt (j := 1088 * b + (17 * j + k)) (cB_mono h) (by omega) (by rw [cB_ix hj hk, h1]) (by rw [cB_ix hj hk, h2])
section TI
variable (n : Nat) (K T : Nat → Nat) (rdb : Nat → Nat → Bool) (Rg : Nat → Nat → Prop)
def tSo (f : Nat → Nat → Nat → Bool) : Prop := ∀ b j k, b < 2 → gS f b j k → TY n K T (rdb b) Rg j k
def tCl (f : Nat → Nat → Nat → Bool) (p : Nat) : Prop := ∀ h, Rh n K T p h → ∀ b, b < 2 → ∀ j k, DVi K T (rdb b) Rg p h (gS f b) j k → gS f b j k
def tI (f : Nat → Nat → Nat → Bool) (g : Int32) (r i : Nat) : Prop := tSo n K T rdb Rg f ∧ ((g = 1 ∧ r + 1 ≤ cnt (cB f) 2176) ∨ (g = 0 ∧ r ≤ cnt (cB f) 2176 ∧ ∀ p, p < i → tCl n K T rdb Rg f p))
def tO (f : Nat → Nat → Nat → Bool) (g : Int32) (r : Nat) : Prop := tSo n K T rdb Rg f ∧ ((g = 1 ∧ r ≤ cnt (cB f) 2176) ∨ (g = 0 ∧ ∀ b j k, b < 2 → (TY n K T (rdb b) Rg j k ↔ gS f b j k)))
variable {n K T rdb Rg}
theorem tI.skip {f : Nat → Nat → Nat → Bool} {g : Int32} {r i : Nat} (h : tI n K T rdb Rg f g r i) (hm : ¬ ∃ h, Rh n K T i h) : tI n K T rdb Rg f g r (i + 1) := by
  refine ⟨h.1, h.2.imp id (fun ⟨a, b, c⟩ => ⟨a, b, fun p hp => ?_⟩)⟩
  by_cases e : p = i
  · subst e; exact fun h hr => absurd ⟨h, hr⟩ hm
  · exact c p (by omega)
theorem gS.congr {f f' : Nat → Nat → Nat → Bool} {b : Nat} (hb2 : b < 2) (h : ∀ b j k, b < 2 → j < 64 → k ≤ 16 → f' b j k = f b j k) : gS f' b = gS f b := by
  funext j k
  refine propext ⟨fun ⟨a, c, d⟩ => ⟨a, c, by rw [← h b j k hb2 a c]; exact d⟩, fun ⟨a, c, d⟩ => ⟨a, c, by rw [h b j k hb2 a c]; exact d⟩⟩
theorem tI.step {f f' : Nat → Nat → Nat → Bool} {g g' : Int32} {r i : Nat} (h : tI n K T rdb Rg f g r i) (hs : tSo n K T rdb Rg f') (hm : ∀ b j k, b < 2 → j < 64 → k ≤ 16 → f b j k = true → f' b j k = true)
    (hg : (g' = g ∧ (∀ b j k, b < 2 → j < 64 → k ≤ 16 → f' b j k = f b j k) ∧ tCl n K T rdb Rg f' i) ∨ (g' = 1 ∧ ∃ b j k, b < 2 ∧ j < 64 ∧ k ≤ 16 ∧ f b j k = false ∧ f' b j k = true)) : tI n K T rdb Rg f' g' r (i + 1) := by
  refine ⟨hs, ?_⟩
  rcases hg with ⟨rfl, he, hc⟩ | ⟨rfl, hx⟩
  · rcases h.2 with ⟨a, b⟩ | ⟨a, b, c⟩
    · exact Or.inl ⟨a, Nat.le_trans b (cB_le hm)⟩
    · refine Or.inr ⟨a, Nat.le_trans b (cB_le hm), fun p hp => ?_⟩
      by_cases e : p = i
      · subst e; exact hc
      · intro h hr b hb2
        rw [gS.congr hb2 he]
        exact c p (by omega) h hr b hb2
  · refine Or.inl ⟨rfl, ?_⟩
    have := cB_lt hm hx
    rcases h.2 with ⟨a, b⟩ | ⟨a, b, c⟩ <;> omega
theorem tI.begin {f : Nat → Nat → Nat → Bool} {r : Nat} (h : tO n K T rdb Rg f 1 r) : tI n K T rdb Rg f 0 r 0 ∧ r ≤ 2176 := by
  rcases h.2 with ⟨-, a⟩ | ⟨a, -⟩
  · exact ⟨⟨h.1, Or.inr ⟨rfl, a, fun p hp => absurd hp (Nat.not_lt_zero _)⟩⟩, Nat.le_trans a (cnt_le _ _)⟩
  · cases a
theorem tI.end {f : Nat → Nat → Nat → Bool} {g : Int32} {r : Nat} (hw : WF n K T) (h : tI n K T rdb Rg f g r n) : tO n K T rdb Rg f g (r + 1) := by
  refine ⟨h.1, ?_⟩
  rcases h.2 with ⟨a, b⟩ | ⟨a, b, c⟩
  · exact Or.inl ⟨a, b⟩
  · exact Or.inr ⟨a, fun b j k hb2 => ⟨fun ht => ht (gS f b) (fun i h hr => c i (hw.1 i h hr).1 h hr b hb2), h.1 b j k hb2⟩⟩
theorem tO.zero {f : Nat → Nat → Nat → Bool} (h : ∀ b j k, b < 2 → j < 64 → k ≤ 16 → f b j k = false) : tO n K T rdb Rg f 1 0 :=
  ⟨(fun b j k hb2 ⟨h1, h2, h3⟩ => by rw [h b j k hb2 h1 h2] at h3; cases h3), Or.inl ⟨rfl, Nat.zero_le _⟩⟩
theorem tO.end {f : Nat → Nat → Nat → Bool} {g : Int32} {r : Nat} (h : tO n K T rdb Rg f g r) (hx : g = 0 ∨ 2177 ≤ r) : ∀ b j k, b < 2 → (TY n K T (rdb b) Rg j k ↔ gS f b j k) := by
  rcases h.2 with ⟨a, b⟩ | ⟨-, c⟩
  · have := cnt_le (cB f) 2176
    rcases hx with x | x
    · rw [x] at a; cases a
    · omega
  · exact c
end TI
/-! the class's step -/
def tb2 (ml : xml) (b j k : Nat) : Bool := bif Nat.blt k 16 then hb (ml 17 j) (2 * k + b) else hb (ml 16 (5 + b)) j
theorem gS_tS {ml : xml} {b j k : Nat} (hj : j < 64) : gS (tb2 ml) b j k ↔ tS ml b j k := by
  unfold gS tS tb2
  rcases Nat.lt_or_ge k 16 with h | h
  · have e : Nat.blt k 16 = true := Nat.blt_eq.mpr h
    rw [e]; simp only [cond_true]
    exact ⟨fun z => Or.inl ⟨h, z.2.2⟩, fun z => z.elim (fun w => ⟨hj, by omega, w.2⟩) (fun w => by omega)⟩
  · have e : Nat.blt k 16 = false := by
      cases e : Nat.blt k 16 with
      | false => rfl
      | true => have := Nat.blt_eq.mp e; omega
    rw [e]; simp only [cond_false]
    exact ⟨fun z => Or.inr ⟨by omega, z.2.2⟩, fun z => z.elim (fun w => by omega) (fun w => ⟨hj, by omega, w.2⟩)⟩
theorem tb2_tS {ml : xml} {b j k : Nat} (hj : j < 64) (hk : k ≤ 16) : tb2 ml b j k = true ↔ tS ml b j k := by
  rw [← gS_tS hj]; exact ⟨fun h => ⟨hj, hk, h⟩, fun h => h.2.2⟩
theorem DVi.cg {K T : Nat → Nat} {rdb : Nat → Bool} {Rg : Nat → Nat → Prop} {i h j k : Nat} {X Y : Nat → Nat → Prop} (hXY : ∀ k, X i k ↔ Y i k) : DVi K T rdb Rg i h X j k ↔ DVi K T rdb Rg i h Y j k := by
  unfold DVi TKN
  simp only [hXY]
theorem gpm_flag {mi : xmi} {ml : xml} {o : Option Nat} {left : Int64} : (gpm mi ml o left = mi ∧ gpl ml o left = ml) ∨ (gpm mi ml o left = xU mi 16 7 1 ∧ ∃ q x, o = some q ∧ x < 64 ∧ hb left x = true ∧ hb (ml 17 q) x = false) := by
  cases o with
  | none => exact Or.inl ⟨rfl, rfl⟩
  | some q =>
    by_cases h : left &&& (ml 17 q ^^^ (-1)) = 0
    · refine Or.inl ⟨if_pos h, ?_⟩
      show xU ml 17 q (ml 17 q ||| left) = ml
      rw [or_sub h, xU_id]
    · refine Or.inr ⟨if_neg h, ?_⟩
      obtain ⟨x, hx, h2⟩ := hb_ne h
      rw [hb_and, hb_not _ hx, Bool.and_eq_true] at h2
      exact ⟨q, x, rfl, hx, h2.1, by simpa using h2.2⟩
theorem gsm_flag {mi : xmi} {ml : xml} {R : Int64} {p q : Bool} : (gsm mi ml R p q = mi ∧ gsl ml R p q = ml) ∨ (gsm mi ml R p q = xU mi 16 7 1 ∧ ∃ b j, b < 2 ∧ j < 64 ∧ hb (ml 16 (5 + b)) j = false ∧ hb (gsl ml R p q 16 (5 + b)) j = true) := by
  by_cases h : gsA (ml 16 5) R p ||| gsA (ml 16 6) R q = 0
  · refine Or.inl ⟨if_pos h, ?_⟩
    obtain ⟨h1, h2⟩ := or_0 h
    unfold gsl
    rw [h1, h2, or_z, or_z, xU_id ml 16 5, xU_id]
  · refine Or.inr ⟨if_neg h, ?_⟩
    obtain ⟨j, hj, h2⟩ := hb_ne h
    rw [hb_or, Bool.or_eq_true] at h2
    rcases h2 with h2 | h2
    · refine ⟨0, j, by decide, hj, ?_⟩
      rw [gsl_16 (by decide) hj]
      cases p with
      | false => unfold gsA at h2; simp only [cond_false] at h2; rw [hb_0] at h2; cases h2
      | true =>
        unfold gsA at h2; simp only [cond_true] at h2
        rw [hb_and, hb_not _ hj, Bool.and_eq_true] at h2
        exact ⟨by simpa using h2.2, by simp [h2.1]⟩
    · refine ⟨1, j, by decide, hj, ?_⟩
      rw [gsl_16 (by decide) hj]
      cases q with
      | false => unfold gsA at h2; simp only [cond_false] at h2; rw [hb_0] at h2; cases h2
      | true =>
        unfold gsA at h2; simp only [cond_true] at h2
        rw [hb_and, hb_not _ hj, Bool.and_eq_true] at h2
        exact ⟨by simpa using h2.2, by rw [h2.1, show Nat.beq 1 0 = false from rfl]; simp⟩
theorem SPR.flag {n : Nat} {K T : Nat → Nat} {rd0 rd1 : Bool} {mi a : xmi} {ml b' : xml} {i h : Nat} (h16 : h ≤ 16) (hg : h - tk (K i) + pt (K i) ≤ 16) (hfo : ∀ c, Fo K T i c → c < 64) (hs : SPR K T rd0 rd1 mi ml i h a b') :
    (a = mi ∧ b' = ml) ∨ ((a = xU mi 16 7 1) ∧ ∃ b j k, b < 2 ∧ j < 64 ∧ k ≤ 16 ∧ tb2 ml b j k = false ∧ tb2 b' b j k = true) := by
  obtain ⟨left, hl, rfl, rfl⟩ := hs
  have hsp17 : sp1l K ml i h 17 = ml 17 := by unfold sp1l; split; exact gsl_row (by decide); rfl
  have hlx : ∀ x, x < 64 → hb left x = true → x < 32 := fun x hx hb => by
    rw [hl x hx] at hb
    simp only [lfx, Bool.or_eq_true, Bool.and_eq_true, decide_eq_true_eq] at hb
    omega
  have new : ∀ (m1 m2 : xml) (q x : Nat) , q < 64 → x < 64 → hb left x = true → hb (m1 17 q) x = false → hb (m2 17 q) x = true → ∃ b j k, b < 2 ∧ j < 64 ∧ k ≤ 16 ∧ tb2 m1 b j k = false ∧ tb2 m2 b j k = true := fun m1 m2 q x hq hx h1 h2 h3 => by
    have h32 := hlx x hx h1
    refine ⟨x % 2, q, x / 2, by omega, hq, by omega, ?_⟩
    unfold tb2
    rw [Nat.blt_eq.mpr (show x / 2 < 16 by omega)]
    simp only [cond_true]
    rw [show 2 * (x / 2) + x % 2 = x by omega]
    exact ⟨h2, h3⟩
  have h1f : ∀ c, fo1 K T i = some c → c < 64 := fun c hc => hfo c (Fo_iff.mpr (Or.inl hc))
  have h2f : ∀ c, fo2 K T i = some c → c < 64 := fun c hc => hfo c (Fo_iff.mpr (Or.inr hc))
  have key : ∀ (m0 : xmi) (l0 : xml), l0 17 = ml 17 → (gpm (gpm m0 l0 (fo1 K T i) left) (gpl l0 (fo1 K T i) left) (fo2 K T i) left = m0 ∧ gpl (gpl l0 (fo1 K T i) left) (fo2 K T i) left = l0) ∨ (gpm (gpm m0 l0 (fo1 K T i) left) (gpl l0 (fo1 K T i) left) (fo2 K T i) left = xU m0 16 7 1 ∧ ∃ q x, q < 64 ∧ x < 64 ∧ hb left x = true ∧ hb (ml 17 q) x = false ∧ hb (gpl (gpl l0 (fo1 K T i) left) (fo2 K T i) left 17 q) x = true) := fun m0 l0 e => by
    rcases gpm_flag (mi := m0) (ml := l0) (o := fo1 K T i) (left := left) with ⟨a1, a2⟩ | ⟨a1, q, x, a2, a3, a4, a5⟩
    · rw [a1, a2]
      rcases gpm_flag (mi := m0) (ml := l0) (o := fo2 K T i) (left := left) with ⟨b1, b2⟩ | ⟨b1, q, x, b2, b3, b4, b5⟩
      · exact Or.inl ⟨b1, b2⟩
      · refine Or.inr ⟨b1, q, x, h2f q b2, b3, b4, by rw [← e]; exact b5, ?_⟩
        rw [gpl_17, b2, b4]; simp
    · have : gpm (gpm m0 l0 (fo1 K T i) left) (gpl l0 (fo1 K T i) left) (fo2 K T i) left = xU m0 16 7 1 := by
        rw [a1]
        rcases gpm_flag (mi := xU m0 16 7 1) (ml := gpl l0 (fo1 K T i) left) (o := fo2 K T i) (left := left) with ⟨b1, b2⟩ | ⟨b1, -⟩
        · exact b1
        · rw [b1, xU_uu]
      refine Or.inr ⟨this, q, x, h1f q a2, a3, a4, by rw [← e]; exact a5, ?_⟩
      rw [gpl_17, gpl_17, a2, a4]; simp
  rcases key (sp1m K mi ml i h) (sp1l K ml i h) hsp17 with ⟨k1, k2⟩ | ⟨k1, q, x, k2, k3, k4, k5, k6⟩
  · rw [k1, k2]
    unfold sp1m sp1l
    by_cases h5 : K i = 5
    · rw [if_pos h5, if_pos h5]
      rcases gsm_flag (mi := mi) (ml := ml) (R := ml 15 i) (p := tkn K ml 0 i h) (q := tkn K ml 1 i h) with g | ⟨g1, b, j, g2, g3, g4, g5⟩
      · exact Or.inl g
      · exact Or.inr ⟨g1, b, j, 16, g2, g3, Nat.le_refl _, g4, g5⟩
    · rw [if_neg h5, if_neg h5]; exact Or.inl ⟨rfl, rfl⟩
  · refine Or.inr ⟨?_, new ml _ q x k2 k3 k4 k5 k6⟩
    rw [k1]
    unfold sp1m
    by_cases h5 : K i = 5
    · rw [if_pos h5]
      rcases gsm_flag (mi := mi) (ml := ml) (R := ml 15 i) (p := tkn K ml 0 i h) (q := tkn K ml 1 i h) with ⟨g, -⟩ | ⟨g, -⟩
      · rw [g]
      · rw [g, xU_uu]
    · rw [if_neg h5]
theorem SPR.step {n : Nat} {K T : Nat → Nat} {rdb : Nat → Nat → Bool} {mi a : xmi} {ml b' : xml} {i h r : Nat} {Rg : Nat → Nat → Prop} (hn : n ≤ 64) (hw : WF n K T) (hr : Rh n K T i h) (hRg : ∀ j, hb (ml 15 i) j = true ↔ Rg i j) (hs : SPR K T (rdb 0 i) (rdb 1 i) mi ml i h a b')
    (hI : tI n K T rdb Rg (tb2 ml) (mi 16 7) r i) : tI n K T rdb Rg (tb2 b') (a 16 7) r (i + 1) ∧ (∀ x, x ≠ 16 → a x = mi x) ∧ (∀ y, y ≠ 7 → a 16 y = mi 16 y) ∧ (∀ x, x ≠ 16 → x ≠ 17 → b' x = ml x) := by
  obtain ⟨w1, w2, w3⟩ := hw.1 i h hr
  have h16 : h ≤ 16 := by
    have : ∀ i h, Rh n K T i h → h ≤ 16 := fun i h hr => by
      have := hr (fun i h => h ≤ 16) (Nat.zero_le _) (fun i h j _ _ _ g _ => g)
      exact this
    exact this i h hr
  have hfo : ∀ c, Fo K T i c → c < 64 := fun c hc => Nat.lt_of_lt_of_le (hw.fo ⟨h, hr⟩ hc).1 hn
  have hbits := fun b j k (hb2 : b < 2) (hj : j < 64) (hk : k ≤ 16) => SPR.bits (n := n) h16 w2 w3 hs hb2 hj hk
  have hD : ∀ b j k, DVi K T (rdb b) (fun i j => hb (ml 15 i) j = true) i h (tS ml b) j k ↔ DVi K T (rdb b) Rg i h (gS (tb2 ml) b) j k := fun b j k => by
    rw [DVi.cg (Y := gS (tb2 ml) b) (fun k => (gS_tS (by omega)).symm)]
    unfold DVi
    simp only [hRg]
  have hD64 : ∀ b j k, DVi K T (rdb b) Rg i h (gS (tb2 ml) b) j k → j < 64 ∧ k ≤ 16 := fun b j k hd => by
    rcases hd with ⟨hf, ⟨h1, -⟩ | ⟨h1, h2, -⟩⟩ | ⟨-, -, h3, h4⟩
    · exact ⟨hfo j hf, by omega⟩
    · exact ⟨hfo j hf, by omega⟩
    · refine ⟨?_, by omega⟩
      rcases Nat.lt_or_ge j 64 with z | z
      · exact z
      · have := (hRg j).mpr h3; rw [hb_big z] at this; cases this
  have hmono : ∀ b j k, b < 2 → j < 64 → k ≤ 16 → tb2 ml b j k = true → tb2 b' b j k = true := fun b j k hb2 hj hk g => by
    rw [tb2_tS hj hk] at g ⊢
    exact (hbits b j k hb2 hj hk).mpr (Or.inl g)
  refine ⟨hI.step ?_ hmono ?_, ?_, ?_, ?_⟩
  · rintro b j k hb2 ⟨hj, hk, g⟩
    rw [tb2_tS hj hk, hbits b j k hb2 hj hk, hD] at g
    rcases g with g | g
    · exact hI.1 b j k hb2 ((gS_tS hj).mpr g)
    · exact TY.mk hr (g.mono (fun j k z => hI.1 b j k hb2 z))
  · rcases SPR.flag (n := n) h16 w3 hfo hs with ⟨e1, e2⟩ | ⟨e1, e2⟩
    · subst e2
      refine Or.inl ⟨by rw [e1], fun _ _ _ _ _ _ => rfl, fun h2 hr2 b hb2 j k hd => ?_⟩
      obtain rfl := hw.2 i h2 h hr2 hr
      obtain ⟨hj, hk⟩ := hD64 b j k hd
      rw [gS_tS hj]
      exact (hbits b j k hb2 hj hk).mpr (Or.inr ((hD b j k).mpr hd))
    · exact Or.inr ⟨by rw [e1, xU_self], e2⟩
  · rcases SPR.flag (n := n) h16 w3 hfo hs with ⟨e1, e2⟩ | ⟨e1, e2⟩
    · intro x hx; rw [e1]
    · intro x hx; rw [e1, xU_ne hx]
  · rcases SPR.flag (n := n) h16 w3 hfo hs with ⟨e1, e2⟩ | ⟨e1, e2⟩
    · intro x hx; rw [e1]
    · intro x hx; rw [e1, xU_at, va_up_ne _ _ hx]
  · intro x hx hx2
    obtain ⟨left, -, -, e⟩ := hs
    rw [e, gpl_row hx2, gpl_row hx2]
    unfold sp1l; split
    · exact gsl_row hx
    · rfl
