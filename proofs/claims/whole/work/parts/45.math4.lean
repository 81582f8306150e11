/-! junctions and regions in the document's terms; the class's, the reference's -/
/-- from i a HALT can be come to, over no place of q -/
def HW (K T : Nat → Nat) (q : Nat → Prop) (i : Nat) : Prop := ∀ X : Nat → Prop, (∀ i, ¬ q i → K i = 9 → X i) → (∀ i j, ¬ q i → Fo K T i j → X j → X i) → X i
def HA (K T : Nat → Nat) (i : Nat) : Prop := HW K T (fun _ => False) i
def HQ (K T : Nat → Nat) (q i : Nat) : Prop := HW K T (fun x => x = q) i
section HW
variable {n : Nat} {K T : Nat → Nat} {q : Nat → Prop} {i j : Nat}
theorem HW.halt (h : ¬ q i) (h9 : K i = 9) : HW K T q i := fun _ a _ => a i h h9
theorem HW.go (h : ¬ q i) (hf : Fo K T i j) (hj : HW K T q j) : HW K T q i := fun X a b => b i j h hf (hj X a b)
theorem HW.nin (h : HW K T q i) : ¬ q i := h (fun i => ¬ q i) (fun _ h _ => h) (fun _ _ h _ _ => h)
theorem HW.inv (h : HW K T q i) : K i = 9 ∨ ∃ j, Fo K T i j ∧ HW K T q j := by
  have := h (fun i => HW K T q i ∧ (K i = 9 ∨ ∃ j, Fo K T i j ∧ HW K T q j)) (fun i a b => ⟨HW.halt a b, Or.inl b⟩) (fun i j a f ⟨c, _⟩ => ⟨HW.go a f c, Or.inr ⟨j, f, c⟩⟩)
  exact this.2
theorem HW.all (h : HW K T q i) : HA K T i := h (fun i => HA K T i) (fun _ _ b => HW.halt (fun z => z) b) (fun _ _ _ f c => HW.go (fun z => z) f c)
end HW
def PD (K T : Nat → Nat) (p q : Nat) : Prop := HA K T p ∧ p ≠ q ∧ ¬ HQ K T q p
def NR (K T : Nat → Nat) (p q : Nat) : Prop := PD K T p q ∧ ∀ q', PD K T p q' → PD K T q q' ∨ q = q'
def JN (n : Nat) (K T : Nat → Nat) (p : Nat) (v : Int32) : Prop := (¬ HA K T p ∧ v = -1) ∨ (HA K T p ∧ ∃ q, q < n ∧ v = nI q ∧ NR K T p q) ∨ (HA K T p ∧ v = nI n ∧ ¬ ∃ q, NR K T p q)
def met (n : Nat) (K T : Nat → Nat) (i : Nat) : Prop := ∃ h, Rh n K T i h
theorem PD.mm {n : Nat} {K T : Nat → Nat} {p q : Nat} (hw : WF n K T) (hp : met n K T p) (h : PD K T p q) : met n K T q := by
  refine Classical.byContradiction fun hq => h.2.2 ?_
  have := h.1 (fun i => met n K T i → HQ K T q i) (fun i _ h9 hm => HW.halt (fun z => hq (z ▸ hm)) h9) (fun i j _ hf hx hm => HW.go (fun z => hq (z ▸ hm)) hf (hx (hw.fo hm hf).2))
  exact this hp
theorem PD.ha {K T : Nat → Nat} {p q : Nat} (h : PD K T p q) : HA K T q := by
  refine Classical.byContradiction fun hq => h.2.2 ?_
  have := h.1 (fun i => HQ K T q i ∨ HA K T q) (fun i _ h9 => by
    by_cases e : i = q
    · subst e; exact Or.inr (HW.halt (fun z => z) h9)
    · exact Or.inl (HW.halt e h9)) (fun i j _ hf hx => by
    rcases hx with hx | hx
    · by_cases e : i = q
      · subst e; exact Or.inr (HW.go (fun z => z) hf hx.all)
      · exact Or.inl (HW.go e hf hx)
    · exact Or.inr hx)
  exact this.resolve_right hq
theorem NR.uq {K T : Nat → Nat} {p a b : Nat} (ha : NR K T p a) (hb : NR K T p b) : a = b := by
  refine Classical.byContradiction fun hne => ?_
  have h1 : PD K T a b := (ha.2 b hb.1).resolve_right hne
  have h2 : PD K T b a := (hb.2 a ha.1).resolve_right (fun z => hne z.symm)
  have := h1.1 (fun i => HW K T (fun x => x = a ∨ x = b) i ∨ HQ K T b a ∨ HQ K T a b) (fun i _ h9 => by
      by_cases e : i = a
      · subst e; exact Or.inr (Or.inl (HW.halt hne h9))
      · by_cases e2 : i = b
        · subst e2; exact Or.inr (Or.inr (HW.halt e h9))
        · exact Or.inl (HW.halt (fun z => z.elim e e2) h9)) (fun i j _ hf hx => by
      rcases hx with hx | hx
      · have hxa : HQ K T a j := hx (fun i => HQ K T a i) (fun i g h9 => HW.halt (fun z => g (Or.inl z)) h9) (fun i j g f c => HW.go (fun z => g (Or.inl z)) f c)
        have hxb : HQ K T b j := hx (fun i => HQ K T b i) (fun i g h9 => HW.halt (fun z => g (Or.inr z)) h9) (fun i j g f c => HW.go (fun z => g (Or.inr z)) f c)
        by_cases e : i = a
        · subst e; exact Or.inr (Or.inl (HW.go hne hf hxb))
        · by_cases e2 : i = b
          · subst e2; exact Or.inr (Or.inr (HW.go e hf hxa))
          · exact Or.inl (HW.go (fun z => z.elim e e2) hf hx)
      · exact Or.inr hx)
  rcases this with z | z | z
  · exact z.nin (Or.inl rfl)
  · exact h1.2.2 z
  · exact h2.2.2 z
theorem JN.uq {n : Nat} {K T : Nat → Nat} {p : Nat} {v w : Int32} (h1 : JN n K T p v) (h2 : JN n K T p w) : v = w := by
  rcases h1 with ⟨a, b⟩ | ⟨a, q, c, d, e⟩ | ⟨a, b, c⟩ <;> rcases h2 with ⟨a', b'⟩ | ⟨a', q', c', d', e'⟩ | ⟨a', b', c'⟩
  · rw [b, b']
  · exact absurd a' a
  · exact absurd a' a
  · exact absurd a a'
  · rw [d, d', e.uq e']
  · exact absurd ⟨q, e⟩ c'
  · exact absurd a a'
  · exact absurd ⟨q', e'⟩ c
  · rw [b, b']
/-- the region: what can be come to behind p before the junction v -/
def RGv (K T : Nat → Nat) (p : Nat) (v : Int32) (j : Nat) : Prop := ∀ X : Nat → Prop, (∀ j, Fo K T p j → nI j ≠ v → X j) → (∀ i j, X i → Fo K T i j → nI j ≠ v → X j) → X j
theorem RGv.zero {K T : Nat → Nat} {p j : Nat} {v : Int32} (h : Fo K T p j) (hv : nI j ≠ v) : RGv K T p v j := fun _ a _ => a j h hv
theorem RGv.next {K T : Nat → Nat} {p i j : Nat} {v : Int32} (h : RGv K T p v i) (hf : Fo K T i j) (hv : nI j ≠ v) : RGv K T p v j := fun X a b => b i j (h X a b) hf hv
def RG (n : Nat) (K T : Nat → Nat) (p j : Nat) : Prop := ∃ v, JN n K T p v ∧ RGv K T p v j
theorem RG.iff {n : Nat} {K T : Nat → Nat} {p j : Nat} {v : Int32} (h : JN n K T p v) : RG n K T p j ↔ RGv K T p v j :=
  ⟨fun ⟨w, a, b⟩ => by rw [h.uq a]; exact b, fun g => ⟨v, h, g⟩⟩
theorem RGv.mm {n : Nat} {K T : Nat → Nat} {p j : Nat} {v : Int32} (hw : WF n K T) (hp : met n K T p) (h : RGv K T p v j) : met n K T j := h (fun j => met n K T j) (fun j hf _ => (hw.fo hp hf).2) (fun i j hm hf _ => (hw.fo hm hf).2)
/-! the class -/
theorem hRE_HW {n : Nat} {K T : Nat → Nat} {a : xmi} {b : xml} (hn : n ≤ 64) (hw : WF n K T) (hJ : JCT n K T a b) {al : Nat → Bool} {q : Nat → Prop} (hq : ∀ i, i < 64 → (al i = true ↔ ¬ q i)) {j : Nat} (hj : met n K T j) : hRE b al j ↔ HW K T q j := by
  obtain ⟨j1, j2, j3, -⟩ := hJ
  have h64 : ∀ i, met n K T i → i < 64 := fun i hi => Nat.lt_of_lt_of_le (hw.lt hi) hn
  constructor
  · intro h
    exact h (fun i => HW K T q i) (fun i hi h1 h2 => HW.halt ((hq i hi).mp h2) ((j3 i hi).mp h1).2) (fun i j hx hi hj h1 h2 => HW.go ((hq j hj).mp h2) ((j2 j i hj hi).mp h1).2 hx)
  · intro h
    refine h (fun j => met n K T j → hRE b al j) (fun i h1 h9 hm => ?_) (fun i j h1 hf hx hm => ?_) hj
    · exact RE.zero (h64 i hm) ((j3 i (h64 i hm)).mpr ⟨hm, h9⟩) ((hq i (h64 i hm)).mpr h1)
    · have hmj := (hw.fo hm hf).2
      exact RE.next (hx hmj) (h64 j hmj) (h64 i hm) ((j2 i j (h64 i hm) (h64 j hmj)).mpr ⟨hm, hf⟩) ((hq i (h64 i hm)).mpr h1)
theorem hRE_met {n : Nat} {K T : Nat → Nat} {a : xmi} {b : xml} (hJ : JCT n K T a b) {al : Nat → Bool} {j : Nat} (h : hRE b al j) : met n K T j := by
  obtain ⟨j1, j2, j3, -⟩ := hJ
  exact h (fun j => met n K T j) (fun i hi h1 _ => ((j3 i hi).mp h1).1) (fun i j _ hi hj h1 _ => ((j2 j i hj hi).mp h1).1)
theorem jct_ha {n : Nat} {K T : Nat → Nat} {a : xmi} {b : xml} (hn : n ≤ 64) (hw : WF n K T) (hJ : JCT n K T a b) {j : Nat} (hj : j < 64) : hb (b 10 8) j = true ↔ met n K T j ∧ HA K T j := by
  rw [hJ.2.2.2.1 j hj]
  have hq : ∀ i, i < 64 → (hb (-1) i = true ↔ ¬ (fun _ : Nat => False) i) := fun i hi => by rw [hb_m1 hi]; simp
  exact ⟨fun h => ⟨hRE_met hJ h, (hRE_HW hn hw hJ hq (hRE_met hJ h)).mp h⟩, fun h => (hRE_HW hn hw hJ hq h.1).mpr h.2⟩
theorem jct_pd {n : Nat} {K T : Nat → Nat} {a : xmi} {b : xml} (hn : n ≤ 64) (hw : WF n K T) (hJ : JCT n K T a b) {q j : Nat} (hq : q < n) (hj : j < 64) : hb (b 13 q) j = true ↔ met n K T j ∧ PD K T j q := by
  rw [hJ.2.2.2.2.1 q hq j hj, jct_ha hn hw hJ hj]
  have hq2 : ∀ i, i < 64 → (hb (oth q) i = true ↔ ¬ (fun x : Nat => x = q) i) := fun i hi => by rw [hb_oth (by omega) hi]; simp
  constructor
  · rintro ⟨⟨h1, h2⟩, h3, h4⟩
    exact ⟨h1, h2, h3, fun z => h4 ((hRE_HW hn hw hJ hq2 h1).mpr z)⟩
  · rintro ⟨h1, h2, h3, h4⟩
    exact ⟨⟨h1, h2⟩, h3, fun z => h4 ((hRE_HW hn hw hJ hq2 h1).mp z)⟩
theorem jct_jn {n : Nat} {K T : Nat → Nat} {a : xmi} {b : xml} (hn : n ≤ 64) (hw : WF n K T) (hJ : JCT n K T a b) {p : Nat} {v : Int32} (hp : met n K T p) (h : NF n b p v) : JN n K T p v := by
  have hp64 : p < 64 := Nat.lt_of_lt_of_le (hw.lt hp) hn
  rcases h with ⟨h1, h2⟩ | ⟨h1, N, hN, h2⟩
  · refine Or.inl ⟨fun z => ?_, h2⟩
    rw [(jct_ha hn hw hJ hp64).mpr ⟨hp, z⟩] at h1; cases h1
  · have hA := ((jct_ha hn hw hJ hp64).mp h1).2
    have key : ∀ x, x < 64 → (hb N x = true ↔ NR K T p x) := fun x hx => by
      rw [hN x hx]
      constructor
      · rintro ⟨⟨g1, g2⟩, g3⟩
        refine ⟨((jct_pd hn hw hJ g1 hp64).mp g2).2, fun q' hq' => ?_⟩
        have hq'n := hw.lt (hq'.mm hw hp)
        rcases g3 q' hq'n ((jct_pd hn hw hJ hq'n hp64).mpr ⟨hp, hq'⟩) with z | z
        · exact Or.inl ((jct_pd hn hw hJ hq'n hx).mp z).2
        · exact Or.inr z
      · rintro ⟨g1, g2⟩
        have hxm := g1.mm hw hp
        refine ⟨⟨hw.lt hxm, (jct_pd hn hw hJ (hw.lt hxm) hp64).mpr ⟨hp, g1⟩⟩, fun q hq g3 => ?_⟩
        exact (g2 q ((jct_pd hn hw hJ hq hp64).mp g3).2).imp (fun z => (jct_pd hn hw hJ hq hx).mpr ⟨hxm, z⟩) id
    rcases h2 with ⟨g1, g2⟩ | ⟨g1, g2⟩
    · refine Or.inr (Or.inr ⟨hA, g2, fun ⟨q, hq⟩ => ?_⟩)
      have hq64 : q < 64 := Nat.lt_of_lt_of_le (hw.lt (hq.1.mm hw hp)) hn
      have := (key q hq64).mpr hq
      rw [g1, hb_0] at this; cases this
    · obtain ⟨l1, l2, -⟩ := xlow_spec g1
      have hq := (key _ l1).mp l2
      exact Or.inr (Or.inl ⟨hA, _, hw.lt (hq.1.mm hw hp), g2, hq⟩)
theorem hb_xbit {v : Int32} {j : Nat} (hj : j < 64) : hb (xbit v) j = true ↔ nI j = v := by
  rcases pk_ix v (show (64 : Nat) < 2 ^ 31 by decide) with z | z | ⟨k, h1, h2⟩
  · rw [xbit_out (Or.inl z), hb_0]
    exact ⟨fun h => (by cases h), fun h => by rw [← h] at z; exact absurd z (nI_pos (by omega))⟩
  · rw [xbit_out (Or.inr z), hb_0]
    refine ⟨fun h => (by cases h), fun h => ?_⟩
    rw [← h] at z
    have := (nI_leI (by decide) (by omega)).mp z
    omega
  · subst h2
    rw [hb_bit h1, decide_eq_true_iff, nI_eq (by omega) (by omega)]
theorem jct_rg {n : Nat} {K T : Nat → Nat} {a : xmi} {b : xml} (hn : n ≤ 64) (hw : WF n K T) (hJ : JCT n K T a b) {p : Nat} {v : Int32} (hp : met n K T p) {j : Nat} (hj : j < 64) : RE (hb (b 11 p)) (fun i => hb (b 11 i)) (hb (xbit v ^^^ (-1))) j ↔ RGv K T p v j := by
  have hp64 : p < 64 := Nat.lt_of_lt_of_le (hw.lt hp) hn
  have hal : ∀ j, j < 64 → (hb (xbit v ^^^ (-1)) j = true ↔ nI j ≠ v) := fun j hj => by
    rw [hb_not _ hj, Bool.not_eq_true', Ne, ← hb_xbit hj]
    cases hb (xbit v) j <;> simp
  constructor
  · intro h
    exact h (fun j => RGv K T p v j) (fun i hi h1 h2 => RGv.zero ((hJ.1 p i hp64 hi).mp h1).2 ((hal i hi).mp h2)) (fun i j hx hi hj h1 h2 => hx.next ((hJ.1 i j hi hj).mp h1).2 ((hal j hj).mp h2))
  · intro h
    have := h (fun j => met n K T j ∧ RE (hb (b 11 p)) (fun i => hb (b 11 i)) (hb (xbit v ^^^ (-1))) j) (fun j hf hv => by
        have hm := (hw.fo hp hf).2
        have hj64 : j < 64 := Nat.lt_of_lt_of_le (hw.lt hm) hn
        exact ⟨hm, RE.zero hj64 ((hJ.1 p j hp64 hj64).mpr ⟨hp, hf⟩) ((hal j hj64).mpr hv)⟩)
      (fun i j ⟨hm, hx⟩ hf hv => by
        have hmj := (hw.fo hm hf).2
        have hi64 : i < 64 := Nat.lt_of_lt_of_le (hw.lt hm) hn
        have hj64 : j < 64 := Nat.lt_of_lt_of_le (hw.lt hmj) hn
        exact ⟨hmj, hx.next hi64 hj64 ((hJ.1 i j hi64 hj64).mpr ⟨hm, hf⟩) ((hal j hj64).mpr hv)⟩)
    exact this.2
/-- the junction of any place -/
def JX (n : Nat) (K T : Nat → Nat) (p : Nat) (v : Int32) : Prop := (met n K T p ∧ K p = 5 → JN n K T p v) ∧ (¬ (met n K T p ∧ K p = 5) → v = -1)
theorem JX.uq {n : Nat} {K T : Nat → Nat} {p : Nat} {v w : Int32} (h1 : JX n K T p v) (h2 : JX n K T p w) : v = w := by
  by_cases h : met n K T p ∧ K p = 5
  · exact (h1.1 h).uq (h2.1 h)
  · rw [h1.2 h, h2.2 h]
def JC (n : Nat) (K T : Nat → Nat) (a : xmi) (b : xml) : Prop := ∀ p, p < n → JX n K T p (a 14 p) ∧ (met n K T p → K p = 5 → ∀ j, j < 64 → (hb (b 15 p) j = true ↔ RG n K T p j))
theorem JCT.jc {n : Nat} {K T : Nat → Nat} {a : xmi} {b : xml} (hn : n ≤ 64) (hw : WF n K T) (hJ : JCT n K T a b) : JC n K T a b := fun p hp => by
  have h := hJ.2.2.2.2.2 p hp
  refine ⟨⟨fun z => jct_jn hn hw hJ z.1 (h.1 z).1, fun z => (h.2 z).1⟩, fun hm h5 j hj => ?_⟩
  have hz := h.1 ⟨hm, h5⟩
  rw [hz.2 j hj, jct_rg hn hw hJ hm hj, RG.iff (jct_jn hn hw hJ hm hz.1)]
theorem TY.cg {n : Nat} {K T : Nat → Nat} {rdb : Nat → Bool} {R1 R2 : Nat → Nat → Prop} (h : ∀ i, met n K T i → K i = 5 → ∀ j, R1 i j ↔ R2 i j) {j k : Nat} : TY n K T rdb R1 j k ↔ TY n K T rdb R2 j k := by
  have : ∀ i h2, Rh n K T i h2 → ∀ X j k, DVi K T rdb R1 i h2 X j k ↔ DVi K T rdb R2 i h2 X j k := fun i h2 hr X j k => by
    unfold DVi
    refine or_congr Iff.rfl ⟨fun ⟨a, b, c, d⟩ => ⟨a, b, (h i ⟨h2, hr⟩ a j).mp c, d⟩, fun ⟨a, b, c, d⟩ => ⟨a, b, (h i ⟨h2, hr⟩ a j).mpr c, d⟩⟩
  exact ⟨fun g X hX => g X (fun i h2 hr j k hd => hX i h2 hr j k ((this i h2 hr X j k).mp hd)), fun g X hX => g X (fun i h2 hr j k hd => hX i h2 hr j k ((this i h2 hr X j k).mpr hd))⟩
/-! the reference -/
def RW (n : Nat) (K T : Nat → Nat) (st wl : Nat → Prop) (j : Nat) : Prop := ∀ X : Nat → Prop, (∀ i, st i → X i) → (∀ i, X i → i < n → ¬ wl i → X (nxm n K T i) ∧ X (otm n K T i)) → X j
theorem RW.zero {n : Nat} {K T : Nat → Nat} {st wl : Nat → Prop} {i : Nat} (h : st i) : RW n K T st wl i := fun _ a _ => a i h
theorem RW.nx {n : Nat} {K T : Nat → Nat} {st wl : Nat → Prop} {i : Nat} (h : RW n K T st wl i) (hi : i < n) (hq : ¬ wl i) : RW n K T st wl (nxm n K T i) ∧ RW n K T st wl (otm n K T i) := ⟨fun X a b => (b i (h X a b) hi hq).1, fun X a b => (b i (h X a b) hi hq).2⟩
theorem RW.fo {n : Nat} {K T : Nat → Nat} {st wl : Nat → Prop} {i j : Nat} (h : RW n K T st wl i) (hi : i < n) (hq : ¬ wl i) (hf : Fo K T i j) : RW n K T st wl j := by
  rcases Fo_nxm (n := n) hf with rfl | rfl
  · exact (h.nx hi hq).1
  · exact (h.nx hi hq).2
/-- induction over marks of a well formed program: each is met, or is the end behind a HALT -/
theorem RW.ind {n : Nat} {K T : Nat → Nat} {st wl : Nat → Prop} (hw : WF n K T) (P : Nat → Prop) (h0 : ∀ i, st i → met n K T i ∧ P i) (h1 : ∀ i j, met n K T i → P i → ¬ wl i → Fo K T i j → P j) {j : Nat} (h : RW n K T st wl j) : (met n K T j ∧ P j) ∨ (j = n ∧ ∃ i, met n K T i ∧ P i ∧ ¬ wl i ∧ K i = 9) := by
  refine h (fun j => (met n K T j ∧ P j) ∨ (j = n ∧ ∃ i, met n K T i ∧ P i ∧ ¬ wl i ∧ K i = 9)) (fun i hi => Or.inl (h0 i hi)) (fun i hx hi hq => ?_)
  rcases hx with ⟨hm, hp⟩ | ⟨e, -⟩
  · by_cases h9 : K i = 9
    · have e1 : nxm n K T i = n := by unfold nxm; rw [if_neg (by omega), if_pos h9]
      have e2 : otm n K T i = n := by unfold otm; rw [if_neg (by omega), e1]
      exact ⟨Or.inr ⟨e1, i, hm, hp, hq, h9⟩, Or.inr ⟨e2, i, hm, hp, hq, h9⟩⟩
    · have f1 := nxm_Fo (n := n) (T := T) h9
      have f2 := otm_Fo (n := n) (T := T) h9
      exact ⟨Or.inl ⟨(hw.fo hm f1).2, h1 i _ hm hp hq f1⟩, Or.inl ⟨(hw.fo hm f2).2, h1 i _ hm hp hq f2⟩⟩
  · omega
theorem RW.lead {n : Nat} {K T : Nat → Nat} {wl : Nat → Prop} (hw : WF n K T) {p : Nat} (hp : met n K T p) : RW n K T (fun x => x = p) wl n ↔ HW K T wl p := by
  constructor
  · intro h
    rcases RW.ind (st := fun x => x = p) (wl := wl) hw (fun i => HW K T wl i → HW K T wl p) (fun i hi => ⟨by rw [hi]; exact hp, fun z => by rw [← hi]; exact z⟩) (fun i j _ g hq hf z => g (HW.go hq hf z)) h with ⟨hm, -⟩ | ⟨-, i, hm, g, hq, h9⟩
    · have := hw.lt hm; omega
    · exact g (HW.halt hq h9)
  · intro h
    refine h (fun i => met n K T i → RW n K T (fun x => x = p) wl i → RW n K T (fun x => x = p) wl n) (fun i hq h9 hm hr => ?_) (fun i j hq hf hx hm hr => hx (hw.fo hm hf).2 (hr.fo (hw.lt hm) hq hf)) hp (RW.zero rfl)
    have := (hr.nx (hw.lt hm) hq).1
    unfold nxm at this
    rwa [if_neg (by omega), if_pos h9] at this
theorem RW.near {n : Nat} {K T : Nat → Nat} {wl : Nat → Prop} (hw : WF n K T) {p q : Nat} (hp : met n K T p) (h5 : K p = 5) (hwl : ∀ i, i < n → (wl i ↔ PD K T p i)) (hq : q < n) (h : RW n K T (fun x => x = nxm n K T p ∨ x = otm n K T p) wl q) (hpd : PD K T p q) : NR K T p q := by
  refine ⟨hpd, fun q' hq' => ?_⟩
  by_cases e : q = q'
  · exact Or.inr e
  · refine Or.inl ⟨hpd.ha, e, fun z => hq'.2.2 ?_⟩
    have f1 := nxm_Fo (n := n) (T := T) (show K p ≠ 9 by omega)
    have f2 := otm_Fo (n := n) (T := T) (show K p ≠ 9 by omega)
    have hind := RW.ind (st := fun x => x = nxm n K T p ∨ x = otm n K T p) (wl := wl) hw (fun i => HQ K T q' i → HQ K T q' p)
      (fun i hi => by
        rcases hi with rfl | rfl
        · exact ⟨(hw.fo hp f1).2, fun z => HW.go hq'.2.1 f1 z⟩
        · exact ⟨(hw.fo hp f2).2, fun z => HW.go hq'.2.1 f2 z⟩)
      (fun i j hm g hq2 hf z => g (HW.go (fun e => hq2 ((hwl i (hw.lt hm)).mpr (by rw [show i = q' from e]; exact hq'))) hf z)) h
    rcases hind with ⟨-, g⟩ | ⟨g, -⟩
    · exact g z
    · omega
theorem RW.some {n : Nat} {K T : Nat → Nat} {wl : Nat → Prop} (hw : WF n K T) {p q : Nat} (hp : met n K T p) (h5 : K p = 5) (hwl : ∀ i, i < n → (wl i ↔ PD K T p i)) (hq : NR K T p q) : ∃ x, x < n ∧ RW n K T (fun x => x = nxm n K T p ∨ x = otm n K T p) wl x ∧ wl x := by
  refine Classical.byContradiction fun hno => hq.1.2.2 ?_
  have hno : ∀ x, x < n → RW n K T (fun x => x = nxm n K T p ∨ x = otm n K T p) wl x → ¬ wl x := fun x h1 h2 h3 => hno ⟨x, h1, h2, h3⟩
  have hA := hq.1.1
  rcases hA.inv with z | ⟨j, hf, hj⟩
  · omega
  have hst : RW n K T (fun x => x = nxm n K T p ∨ x = otm n K T p) wl j := RW.zero (Fo_nxm hf)
  have key : ∀ i, HA K T i → RW n K T (fun x => x = nxm n K T p ∨ x = otm n K T p) wl i → met n K T i → HQ K T q i := fun i hi => by
    refine hi (fun i => RW n K T (fun x => x = nxm n K T p ∨ x = otm n K T p) wl i → met n K T i → HQ K T q i) (fun i _ h9 hr hm => ?_) (fun i j _ hf hx hr hm => ?_)
    · refine HW.halt (fun e => hno i (hw.lt hm) hr ((hwl i (hw.lt hm)).mpr (e ▸ hq.1))) h9
    · refine HW.go (fun e => hno i (hw.lt hm) hr ((hwl i (hw.lt hm)).mpr (e ▸ hq.1))) hf (hx (hr.fo (hw.lt hm) (hno i (hw.lt hm) hr) hf) (hw.fo hm hf).2)
  exact HW.go hq.1.2.1 hf (key j hj hst (hw.fo hp hf).2)
theorem RW.region {n : Nat} {K T : Nat → Nat} {wl : Nat → Prop} {v : Int32} (hw : WF n K T) {p i : Nat} (hp : met n K T p) (h5 : K p = 5) (hwl : ∀ i, i < n → (wl i ↔ nI i = v)) (hi : i < n) : (RW n K T (fun x => x = nxm n K T p ∨ x = otm n K T p) wl i ∧ ¬ wl i) ↔ RGv K T p v i := by
  have f1 := nxm_Fo (n := n) (T := T) (show K p ≠ 9 by omega)
  have f2 := otm_Fo (n := n) (T := T) (show K p ≠ 9 by omega)
  constructor
  · rintro ⟨h, hq⟩
    have hind := RW.ind (st := fun x => x = nxm n K T p ∨ x = otm n K T p) (wl := wl) hw (fun i => nI i ≠ v → RGv K T p v i)
      (fun i hi => by
        rcases hi with rfl | rfl
        · exact ⟨(hw.fo hp f1).2, fun z => RGv.zero f1 z⟩
        · exact ⟨(hw.fo hp f2).2, fun z => RGv.zero f2 z⟩)
      (fun i j hm g hq2 hf z => (g (fun z => hq2 ((hwl i (hw.lt hm)).mpr z))).next hf z) h
    rcases hind with ⟨-, g⟩ | ⟨g, -⟩
    · exact g (fun z => hq ((hwl i hi).mpr z))
    · omega
  · intro h
    have := h (fun i => met n K T i ∧ RW n K T (fun x => x = nxm n K T p ∨ x = otm n K T p) wl i ∧ nI i ≠ v) (fun j hf hv => ⟨(hw.fo hp hf).2, RW.zero (Fo_nxm hf), hv⟩) (fun i j ⟨hm, hr, hv⟩ hf hv2 => ⟨(hw.fo hm hf).2, hr.fo (hw.lt hm) (fun z => hv ((hwl i (hw.lt hm)).mp z)) hf, hv2⟩)
    exact ⟨this.2.1, fun z => this.2.2 ((hwl i hi).mp z)⟩
