/-! Junctions: edges -/
def edg (ml : xml) (i : Nat) (o : Option Nat) : xml := match o with
  | some q => xU (xU ml 11 i (ml 11 i ||| xbit (nI q))) 12 q (ml 12 q ||| xbit (nI i))
  | none => ml
def eOk (mi : xmi) (n : Nat) (x : Int32) (o : Option Nat) : Prop := match o with
  | some q => q < n ∧ x = nI q
  | none => ¬ (0 ≤ x ∧ x < mi 1 2)
set_option maxRecDepth 100000 in
theorem c_isMet (d L : Nat) (mi : xmi) (ml : xml) (x : Int32)  : xFv (d + 2) 51 [.ref 8, .int x] L mi ml (.int (xb (0 ≤ x ∧ x < 64 ∧ hb (ml 8 2) x.toNatClampNeg = true))) mi ml := by
  refine xF.mk mX6_isMet rfl rfl ?_
  refine xB.go 3 (5, [(0, .ref 8), (1, .int x)], [.int x, .long (ml 8 2)], XM L mi ml) rfl ?_
  refine xB.c1 89 [.long (ml 8 2), .int x] [] (c_holds _ L mi ml (ml 8 2) x ) rfl ?_
  refine xB.rz (xb (0 ≤ x ∧ x < 64 ∧ hb (ml 8 2) x.toNatClampNeg = true)) mi ml rfl xz_xb ?_
  exact ⟨rfl, rfl, rfl⟩
set_option maxRecDepth 100000 in
theorem c_heightAt (d L : Nat) (mi : xmi) (ml : xml) (x : Int32)  : xFv (d + 2) 52 [.ref 8, .int x] L mi ml (.int (if 0 ≤ x ∧ x < 64 ∧ hb (ml 8 2) x.toNatClampNeg = true then mi 9 x.toNatClampNeg else 0)) mi ml := by
  refine xF.mk mX6_heightAt rfl rfl ?_
  refine xB.go 3 (5, [(0, .ref 8), (1, .int x)], [.int x, .long (ml 8 2)], XM L mi ml) rfl ?_
  refine xB.c1 89 [.long (ml 8 2), .int x] [] (c_holds _ L mi ml (ml 8 2) x ) rfl ?_
  refine xB.bz (0 ≤ x ∧ x < 64 ∧ hb (ml 8 2) x.toNatClampNeg = true) (20, [(0, .ref 8), (1, .int x)], [], XM L mi ml) (11, [(0, .ref 8), (1, .int x)], [], XM L mi ml) rfl (fun h1 => ?_) (fun h1 => ?_)
  · refine xB.go 1 (21, [(0, .ref 8), (1, .int x)], [.int 0], XM L mi ml) rfl ?_
    refine xB.rt (some (.int 0)) mi ml rfl ?_
    exact ⟨by rw [if_neg h1], rfl, rfl⟩
  · refine xB.go 3 (16, [(0, .ref 8), (1, .int x)], [.int x, .ref 9], XM L mi ml) rfl ?_
    refine xB.ck (xin x 64) (17, [(0, .ref 8), (1, .int x)], [.int (mi 9 x.toNatClampNeg)], XM L mi ml) rfl (xin_iff (by decide) (i_nlt.mpr h1.1) h1.2.1) ?_
    refine xB.go 1 (21, [(0, .ref 8), (1, .int x)], [.int (mi 9 x.toNatClampNeg)], XM L mi ml) rfl ?_
    refine xB.rt (some (.int (mi 9 x.toNatClampNeg))) mi ml rfl ?_
    exact ⟨by rw [if_pos h1], rfl, rfl⟩
theorem c_isMetN (d L : Nat) (mi : xmi) (ml : xml) {i : Nat} (hi : i < 64) : xFv (d + 2) 51 [.ref 8, .int (nI i)] L mi ml (.int (xb (hb (ml 8 2) i = true))) mi ml := by
  have h := c_isMet d L mi ml (nI i)
  have e : xb (0 ≤ (nI i) ∧ (nI i) < 64 ∧ hb (ml 8 2) (nI i).toNatClampNeg = true) = xb (hb (ml 8 2) i = true) := by
    unfold xb
    by_cases z : hb (ml 8 2) i = true
    · rw [if_pos z, if_pos ((hb_P hi).mpr z)]
    · rw [if_neg z, if_neg (fun w => z ((hb_P hi).mp w))]
  rwa [e] at h
set_option maxRecDepth 100000 in
set_option maxHeartbeats 1000000 in
theorem c_addEdge (d L : Nat) (mi : xmi) (ml : xml) {n : Nat} {K T : Nat → Nat} (hP : PRG mi n K T) {i : Nat} (hi : i < 64) (x : Int32) (o : Option Nat) (ho : eOk mi n x o) : xFn (d + 2) 5 [.ref 10, .int (nI i), .int x] L mi ml mi (edg ml i o) := by
  refine xF.mk mX0_addEdge rfl rfl ?_
  refine xB.go 3 (5, [(0, .ref 10), (1, .int (nI i)), (2, .int x)], [.int x, .ref 1], XM L mi ml) rfl ?_
  refine xB.c1 41 [.ref 1, .int x] [] (c_has _ L mi ml x ) rfl ?_
  refine xB.bz (0 ≤ x ∧ x < mi 1 2) (37, [(0, .ref 10), (1, .int (nI i)), (2, .int x)], [], XM L mi ml) (11, [(0, .ref 10), (1, .int (nI i)), (2, .int x)], [], XM L mi ml) rfl (fun h1 => ?_) (fun h1 => ?_)
  · refine xB.rt none mi ml rfl ?_
    refine ⟨rfl, rfl, ?_⟩
    cases o with
    | none => rfl
    | some q =>
      obtain ⟨o1, o2⟩ := ho
      subst o2
      exact absurd ((hP.has (by have := hP.2.1; omega)).mpr o1) h1
  · refine xB.go 4 (17, [(0, .ref 10), (1, .int (nI i)), (2, .int x)], [.int (nI i), .ref 11, .int (nI i), .ref 11], XM L mi ml) rfl ?_
    refine xB.ck (xin (nI i) 64) (18, [(0, .ref 10), (1, .int (nI i)), (2, .int x)], [.long (ml 11 (nI i).toNatClampNeg), .int (nI i), .ref 11], XM L mi ml) rfl (xin_of hi (by decide) rfl) ?_
    refine xB.go 1 (19, [(0, .ref 10), (1, .int (nI i)), (2, .int x)], [.int x, .long (ml 11 (nI i).toNatClampNeg), .int (nI i), .ref 11], XM L mi ml) rfl ?_
    refine xB.c1 88 [.int x] [.long (ml 11 (nI i).toNatClampNeg), .int (nI i), .ref 11] (c_bit _ L mi ml x ) rfl ?_
    refine xB.go 1 (23, [(0, .ref 10), (1, .int (nI i)), (2, .int x)], [.long ((ml 11 (nI i).toNatClampNeg) ||| (xbit x)), .int (nI i), .ref 11], XM L mi ml) rfl ?_
    refine xB.ck (xin (nI i) 64) (24, [(0, .ref 10), (1, .int (nI i)), (2, .int x)], [], XM L mi (xU ml 11 (nI i).toNatClampNeg ((ml 11 (nI i).toNatClampNeg) ||| (xbit x)))) rfl (xin_of hi (by decide) rfl) ?_
    refine xB.go 4 (30, [(0, .ref 10), (1, .int (nI i)), (2, .int x)], [.int x, .ref 12, .int x, .ref 12], XM L mi (xU ml 11 (nI i).toNatClampNeg ((ml 11 (nI i).toNatClampNeg) ||| (xbit x)))) rfl ?_
    refine xB.ck (xin x 64) (31, [(0, .ref 10), (1, .int (nI i)), (2, .int x)], [.long (ml 12 x.toNatClampNeg), .int x, .ref 12], XM L mi (xU ml 11 (nI i).toNatClampNeg ((ml 11 (nI i).toNatClampNeg) ||| (xbit x)))) rfl (xck hP.1 hP.2.1 h1) ?_
    refine xB.go 1 (32, [(0, .ref 10), (1, .int (nI i)), (2, .int x)], [.int (nI i), .long (ml 12 x.toNatClampNeg), .int x, .ref 12], XM L mi (xU ml 11 (nI i).toNatClampNeg ((ml 11 (nI i).toNatClampNeg) ||| (xbit x)))) rfl ?_
    refine xB.c1 88 [.int (nI i)] [.long (ml 12 x.toNatClampNeg), .int x, .ref 12] (c_bit _ L mi (xU ml 11 (nI i).toNatClampNeg ((ml 11 (nI i).toNatClampNeg) ||| (xbit x))) (nI i) ) rfl ?_
    refine xB.go 1 (36, [(0, .ref 10), (1, .int (nI i)), (2, .int x)], [.long ((ml 12 x.toNatClampNeg) ||| (xbit (nI i))), .int x, .ref 12], XM L mi (xU ml 11 (nI i).toNatClampNeg ((ml 11 (nI i).toNatClampNeg) ||| (xbit x)))) rfl ?_
    refine xB.ck (xin x 64) (37, [(0, .ref 10), (1, .int (nI i)), (2, .int x)], [], XM L mi (xU (xU ml 11 (nI i).toNatClampNeg ((ml 11 (nI i).toNatClampNeg) ||| (xbit x))) 12 x.toNatClampNeg ((ml 12 x.toNatClampNeg) ||| (xbit (nI i))))) rfl (xck hP.1 hP.2.1 h1) ?_
    refine xB.rt none mi (xU (xU ml 11 (nI i).toNatClampNeg ((ml 11 (nI i).toNatClampNeg) ||| (xbit x))) 12 x.toNatClampNeg ((ml 12 x.toNatClampNeg) ||| (xbit (nI i)))) rfl ?_
    refine ⟨rfl, rfl, ?_⟩
    cases o with
    | none => exact absurd h1 ho
    | some q =>
      obtain ⟨o1, o2⟩ := ho
      subst o2
      rw [nI_clamp (by omega), nI_clamp (by have := hP.2.1; omega)]
      rfl
/-- the edges of the first i places -/
def fE (K T : Nat → Nat) (met : Nat → Prop) (ml b : xml) (i : Nat) : Prop := (∀ x, x ≠ 10 → x ≠ 11 → x ≠ 12 → b x = ml x) ∧ (∀ a c, a < 64 → c < 64 → (hb (b 11 a) c = true ↔ a < i ∧ met a ∧ Fo K T a c)) ∧ (∀ a c, a < 64 → c < 64 → (hb (b 12 c) a = true ↔ a < i ∧ met a ∧ Fo K T a c)) ∧ (∀ a, a < 64 → (hb (b 10 7) a = true ↔ a < i ∧ met a ∧ K a = 9))
theorem edg_frame (b : xml) (i : Nat) (o : Option Nat) : (∀ x, x ≠ 11 → x ≠ 12 → edg b i o x = b x) := by
  intro x h1 h2
  cases o with
  | none => rfl
  | some q =>
    show xU (xU b 11 i (b 11 i ||| xbit (nI q))) 12 q (b 12 q ||| xbit (nI i)) x = b x
    rw [xU_ne h2, xU_ne h1]
theorem edg_f {b : xml} {i : Nat} {o : Option Nat} (ho : ∀ q, o = some q → q < 64) {a c : Nat} (hc : c < 64) : hb (edg b i o 11 a) c = true ↔ hb (b 11 a) c = true ∨ (a = i ∧ o = some c) := by
  cases o with
  | none => unfold edg; simp
  | some q =>
    have hq := ho q rfl
    unfold edg
    show hb (xU (xU b 11 i (b 11 i ||| xbit (nI q))) 12 q (b 12 q ||| xbit (nI i)) 11 a) c = true ↔ _
    rw [xU_ne (by decide), xU_at]
    by_cases z : a = i
    · subst z
      rw [va_up_self, hb_or, hb_bit hq]
      by_cases w : c = q
      · subst w; simp
      · have : ¬ q = c := fun e => w e.symm
        simp [w, this]
    · rw [va_up_ne _ _ z]; simp [z]
theorem edg_l {b : xml} {i : Nat} {o : Option Nat} (hi : i < 64) {a c : Nat} (ha : a < 64) : hb (edg b i o 12 c) a = true ↔ hb (b 12 c) a = true ∨ (a = i ∧ o = some c) := by
  cases o with
  | none => unfold edg; simp
  | some q =>
    unfold edg
    show hb (xU (xU b 11 i (b 11 i ||| xbit (nI q))) 12 q (b 12 q ||| xbit (nI i)) 12 c) a = true ↔ _
    rw [xU_at]
    by_cases z : c = q
    · subst z
      rw [va_up_self, hb_or, hb_bit hi]; simp
    · have : ¬ q = c := fun e => z e.symm
      rw [va_up_ne _ _ z, xU_ne (by decide)]; simp [this]
theorem fE.skip {K T : Nat → Nat} {met : Nat → Prop} {ml b : xml} {i : Nat} (h : fE K T met ml b i) (hm : ¬ met i) : fE K T met ml b (i + 1) := by
  obtain ⟨h1, h2, h3, h4⟩ := h
  have key : ∀ a, met a → (a < i + 1 ↔ a < i) := fun a g => ⟨fun z => by
    rcases Nat.lt_or_ge a i with w | w
    · exact w
    · have : a = i := by omega
      subst this; exact absurd g hm, fun z => by omega⟩
  refine ⟨h1, fun a c ha hc => ?_, fun a c ha hc => ?_, fun a ha => ?_⟩
  · rw [h2 a c ha hc]; exact ⟨fun g => ⟨(key a g.2.1).mpr g.1, g.2⟩, fun g => ⟨(key a g.2.1).mp g.1, g.2⟩⟩
  · rw [h3 a c ha hc]; exact ⟨fun g => ⟨(key a g.2.1).mpr g.1, g.2⟩, fun g => ⟨(key a g.2.1).mp g.1, g.2⟩⟩
  · rw [h4 a ha]; exact ⟨fun g => ⟨(key a g.2.1).mpr g.1, g.2⟩, fun g => ⟨(key a g.2.1).mp g.1, g.2⟩⟩
theorem fE.next {K T : Nat → Nat} {met : Nat → Prop} {ml b b1 : xml} {i : Nat} {o1 o2 : Option Nat} (h : fE K T met ml b i) (hm : met i) (hi : i < 64) (hb1 : (∀ x, x ≠ 10 → b1 x = b x) ∧ ∀ a, a < 64 → (hb (b1 10 7) a = true ↔ hb (b 10 7) a = true ∨ (a = i ∧ K i = 9))) (h64 : (∀ q, o1 = some q → q < 64) ∧ ∀ q, o2 = some q → q < 64) (hF : ∀ c, Fo K T i c ↔ o1 = some c ∨ o2 = some c) : fE K T met ml (edg (edg b1 i o1) i o2) (i + 1) := by
  obtain ⟨h1, h2, h3, h4⟩ := h
  refine ⟨fun x x1 x2 x3 => by rw [edg_frame _ _ _ x x2 x3, edg_frame _ _ _ x x2 x3, hb1.1 x x1]; exact h1 x x1 x2 x3, fun a c ha hc => ?_, fun a c ha hc => ?_, fun a ha => ?_⟩
  · rw [edg_f h64.2 hc, edg_f h64.1 hc, hb1.1 11 (by decide), h2 a c ha hc]
    constructor
    · rintro ((g | ⟨rfl, g⟩) | ⟨rfl, g⟩)
      · exact ⟨by omega, g.2⟩
      · exact ⟨by omega, hm, (hF c).mpr (Or.inl g)⟩
      · exact ⟨by omega, hm, (hF c).mpr (Or.inr g)⟩
    · rintro ⟨g1, g2, g3⟩
      by_cases z : a = i
      · subst z; rcases (hF c).mp g3 with w | w
        · exact Or.inl (Or.inr ⟨rfl, w⟩)
        · exact Or.inr ⟨rfl, w⟩
      · exact Or.inl (Or.inl ⟨by omega, g2, g3⟩)
  · rw [edg_l hi ha, edg_l hi ha, hb1.1 12 (by decide), h3 a c ha hc]
    constructor
    · rintro ((g | ⟨rfl, g⟩) | ⟨rfl, g⟩)
      · exact ⟨by omega, g.2⟩
      · exact ⟨by omega, hm, (hF c).mpr (Or.inl g)⟩
      · exact ⟨by omega, hm, (hF c).mpr (Or.inr g)⟩
    · rintro ⟨g1, g2, g3⟩
      by_cases z : a = i
      · subst z; rcases (hF c).mp g3 with w | w
        · exact Or.inl (Or.inr ⟨rfl, w⟩)
        · exact Or.inr ⟨rfl, w⟩
      · exact Or.inl (Or.inl ⟨by omega, g2, g3⟩)
  · rw [edg_frame _ _ _ 10 (by decide) (by decide), edg_frame _ _ _ 10 (by decide) (by decide), hb1.2 a ha, h4 a ha]
    constructor
    · rintro (g | ⟨rfl, g⟩)
      · exact ⟨by omega, g.2⟩
      · exact ⟨by omega, hm, g⟩
    · rintro ⟨g1, g2, g3⟩
      by_cases z : a = i
      · subst z; exact Or.inr ⟨rfl, g3⟩
      · exact Or.inl ⟨by omega, g2, g3⟩
/-- the two followers of a place, for addEdge -/
def fo1 (K T : Nat → Nat) (i : Nat) : Option Nat := if K i = 9 then none else some (if K i = 4 then T i else i + 1)
def fo2 (K T : Nat → Nat) (i : Nat) : Option Nat := if K i = 5 then some (T i) else none
theorem Fo_iff {K T : Nat → Nat} {i c : Nat} : Fo K T i c ↔ fo1 K T i = some c ∨ fo2 K T i = some c := by
  unfold Fo fo1 fo2
  by_cases h9 : K i = 9
  · have h5 : ¬ K i = 5 := by rw [h9]; decide
    simp [h9]
  · rw [if_neg h9]
    by_cases h5 : K i = 5
    · rw [if_pos h5]
      exact ⟨fun h => h.2.elim (fun z => Or.inl (by rw [z])) (fun z => Or.inr (by rw [z.2])), fun h => ⟨h9, h.elim (fun z => Or.inl (Option.some.inj z).symm) (fun z => Or.inr ⟨h5, (Option.some.inj z).symm⟩)⟩⟩
    · rw [if_neg h5]
      exact ⟨fun h => h.2.elim (fun z => Or.inl (by rw [z])) (fun z => absurd z.1 h5), fun h => ⟨h9, h.elim (fun z => Or.inl (Option.some.inj z).symm) (fun z => by cases z)⟩⟩
theorem eOk1 {mi : xmi} {n i : Nat} {K T : Nat → Nat} (hP : PRG mi n K T) (hi : i < n) (hw : ∀ c, Fo K T i c → c < n) : eOk mi n (sl_pf mi (nI i)) (fo1 K T i) := by
  have hk := (hP.2.2.1 i hi).2
  unfold fo1
  by_cases h9 : K i = 9
  · rw [if_pos h9]
    show ¬ _
    have e : sl_pf mi (nI i) = -1 := by unfold sl_pf; rw [hP.kind hi, if_pos (by rw [h9]; rfl)]
    rw [e]
    exact fun z => absurd z.1 (by decide)
  · rw [if_neg h9]
    exact ⟨hw _ ⟨h9, Or.inl rfl⟩, hP.pf hi h9⟩
theorem eOk2 {mi : xmi} {n i : Nat} {K T : Nat → Nat} (hP : PRG mi n K T) (hi : i < n) (hw : ∀ c, Fo K T i c → c < n) : eOk mi n (sl_of mi (nI i)) (fo2 K T i) := by
  have hk := (hP.2.2.1 i hi).2
  unfold fo2
  by_cases h5 : K i = 5
  · rw [if_pos h5]
    exact ⟨hw _ ⟨by rw [h5]; decide, Or.inr ⟨h5, rfl⟩⟩, hP.ofr hi h5⟩
  · rw [if_neg h5]
    show ¬ _
    have e : sl_of mi (nI i) = -1 := by unfold sl_of; rw [hP.kind hi, if_neg (show ¬ nI (K i) = 5 from fun z => h5 (k_eq hk (c := 5) (by decide) z))]
    rw [e]
    exact fun z => absurd z.1 (by decide)
theorem WF.fo {n i c : Nat} {K T : Nat → Nat} (hw : WF n K T) (hm : ∃ h, Rh n K T i h) (hf : Fo K T i c) : c < n ∧ ∃ h, Rh n K T c h := by
  obtain ⟨h, hr⟩ := hm
  obtain ⟨g1, g2, g3⟩ := hw.1 i h hr
  have := hr.next g1 g2 g3 hf
  exact ⟨(hw.1 _ _ this).1, _, this⟩
theorem WF.lt {n i : Nat} {K T : Nat → Nat} (hw : WF n K T) (hm : ∃ h, Rh n K T i h) : i < n := by
  obtain ⟨h, hr⟩ := hm; exact (hw.1 i h hr).1
set_option maxRecDepth 100000 in
set_option maxHeartbeats 1000000 in
theorem findEdges_23 (d L : Nat) (mi : xmi) (ml : xml) {n : Nat} {K T : Nat → Nat} (hP : PRG mi n K T) (hw : WF n K T) (hm : ∀ i, i < 64 → (hb (ml 8 2) i = true ↔ ∃ h, Rh n K T i h)) : ∀ (f i : Nat), i ≤ n → n - i < f → ∀ b : xml, fE K T (fun i => ∃ h, Rh n K T i h) ml b i → xB (d + 3) mX0_findEdges L (fun rr a b => rr = none ∧ a = mi ∧ fE K T (fun i => ∃ h, Rh n K T i h) ml b n) (23, [(0, .ref 10), (1, .int (nI i))], [], XM L mi b) := by
  have hn64 := hP.2.1
  intro f
  induction f with
  | zero => intro i h1 h2; omega
  | succ f ih =>
    intro i hle hlt b hE
    refine xB.go 3 (28, [(0, .ref 10), (1, .int (nI i))], [.ref 1, .int (nI i)], XM L mi b) rfl ?_
    refine xB.c1 40 [.ref 1] [.int (nI i)] (c_size _ L _ _) rfl ?_
    refine xB.cg (31, [(0, .ref 10), (1, .int (nI i))], [.int (nI n), .int (nI i)], XM L mi b) (by rw [hP.1]) ?_
    refine xB.bp ((nI n) ≤ (nI i)) (106, [(0, .ref 10), (1, .int (nI i))], [], XM L mi b) (34, [(0, .ref 10), (1, .int (nI i))], [], XM L mi b) rfl (fun h1 => ?_) (fun h1 => ?_)
    · refine xB.rt none mi b rfl ?_
      have hge : n ≤ i := (nI_leI (by omega) (by omega)).mp h1
      obtain rfl : i = n := by omega
      exact ⟨rfl, rfl, hE⟩
    · have hin : i < n := (nI_ltI (by omega) (by omega)).mp (i_nle.mp h1)
      have hk := (hP.2.2.1 i hin).2
      have hi64 : i < 64 := by omega
      have hmb : hb (b 8 2) i = true ↔ ∃ h, Rh n K T i h := by rw [hE.1 8 (by decide) (by decide) (by decide)]; exact hm i hi64
      refine xB.go 3 (39, [(0, .ref 10), (1, .int (nI i))], [.int (nI i), .ref 8], XM L mi b) rfl ?_
      refine xB.c1 51 [.ref 8, .int (nI i)] [] (c_isMetN _ L mi b hi64) rfl ?_
      refine xB.bn (hb (b 8 2) i = true) (48, [(0, .ref 10), (1, .int (nI i))], [], XM L mi b) (45, [(0, .ref 10), (1, .int (nI i))], [], XM L mi b) rfl (fun h2 => ?_) (fun h2 => ?_)
      · have hmm := hmb.mp h2
        have hwf : ∀ c, Fo K T i c → c < n := fun c hc => (hw.fo hmm hc).1
        refine xB.go 3 (53, [(0, .ref 10), (1, .int (nI i))], [.int (nI i), .ref 1], XM L mi b) rfl ?_
        refine xB.c1 42 [.ref 1, .int (nI i)] [] (c_kindN _ L _ _ hP hin) rfl ?_
        refine xB.go 1 (58, [(0, .ref 10), (1, .int (nI i))], [.int 9, .int (nI (K i))], XM L mi b) rfl ?_
        refine xB.bp (¬ (nI (K i)) = 9) (74, [(0, .ref 10), (1, .int (nI i))], [], XM L mi b) (61, [(0, .ref 10), (1, .int (nI i))], [], XM L mi b) rfl (fun h3 => ?_) (fun h3 => ?_)
        · refine xB.go 5 (81, [(0, .ref 10), (1, .int (nI i))], [.int (nI i), .ref 1, .int (nI i), .ref 10], XM L mi b) rfl ?_
          refine xB.c1 46 [.ref 1, .int (nI i)] [.int (nI i), .ref 10] (c_plainFollower _ L _ _ (nI i) hP.1 hP.2.1) rfl ?_
          refine xB.c0 5 [.ref 10, .int (nI i), .int (sl_pf mi (nI i))] [] (c_addEdge _ L _ _ hP hi64 _ (fo1 K T i) (eOk1 hP hin hwf)) rfl ?_
          refine xB.go 5 (94, [(0, .ref 10), (1, .int (nI i))], [.int (nI i), .ref 1, .int (nI i), .ref 10], XM L mi (edg b i (fo1 K T i))) rfl ?_
          refine xB.c1 47 [.ref 1, .int (nI i)] [.int (nI i), .ref 10] (c_otherFollower _ L _ _ (nI i) hP.1 hP.2.1) rfl ?_
          refine xB.c0 5 [.ref 10, .int (nI i), .int (sl_of mi (nI i))] [] (c_addEdge _ L _ _ hP hi64 _ (fo2 K T i) (eOk2 hP hin hwf)) rfl ?_
          refine xB.go 2 (23, [(0, .ref 10), (1, .int ((nI i) + 1))], [], XM L mi (edg (edg b i (fo1 K T i)) i (fo2 K T i))) rfl ?_
          rw [nI_1]
          refine ih (i + 1) (by omega) (by omega) _ (hE.next hmm hi64 ⟨?_, ?_⟩ ⟨fun q hq => Nat.lt_of_lt_of_le (hwf q (Fo_iff.mpr (Or.inl hq))) hn64, fun q hq => Nat.lt_of_lt_of_le (hwf q (Fo_iff.mpr (Or.inr hq))) hn64⟩ (fun c => Fo_iff))
          · intro x _; rfl
          · intro a ha
            have g9 := k_ne (c := 9) h3
            simp [g9]
        · refine xB.go 4 (67, [(0, .ref 10), (1, .int (nI i))], [.int (nI i), .long (b 10 7), .ref 10], XM L mi b) rfl ?_
          refine xB.c1 88 [.int (nI i)] [.long (b 10 7), .ref 10] (c_bit _ L mi b (nI i) ) rfl ?_
          refine xB.go 7 (81, [(0, .ref 10), (1, .int (nI i))], [.int (nI i), .ref 1, .int (nI i), .ref 10], XM L mi (xU b 10 7 ((b 10 7) ||| (xbit (nI i))))) rfl ?_
          refine xB.c1 46 [.ref 1, .int (nI i)] [.int (nI i), .ref 10] (c_plainFollower _ L _ _ (nI i) hP.1 hP.2.1) rfl ?_
          refine xB.c0 5 [.ref 10, .int (nI i), .int (sl_pf mi (nI i))] [] (c_addEdge _ L _ _ hP hi64 _ (fo1 K T i) (eOk1 hP hin hwf)) rfl ?_
          refine xB.go 5 (94, [(0, .ref 10), (1, .int (nI i))], [.int (nI i), .ref 1, .int (nI i), .ref 10], XM L mi (edg (xU b 10 7 ((b 10 7) ||| (xbit (nI i)))) i (fo1 K T i))) rfl ?_
          refine xB.c1 47 [.ref 1, .int (nI i)] [.int (nI i), .ref 10] (c_otherFollower _ L _ _ (nI i) hP.1 hP.2.1) rfl ?_
          refine xB.c0 5 [.ref 10, .int (nI i), .int (sl_of mi (nI i))] [] (c_addEdge _ L _ _ hP hi64 _ (fo2 K T i) (eOk2 hP hin hwf)) rfl ?_
          refine xB.go 2 (23, [(0, .ref 10), (1, .int ((nI i) + 1))], [], XM L mi (edg (edg (xU b 10 7 ((b 10 7) ||| (xbit (nI i)))) i (fo1 K T i)) i (fo2 K T i))) rfl ?_
          rw [nI_1]
          refine ih (i + 1) (by omega) (by omega) _ (hE.next hmm hi64 ⟨?_, ?_⟩ ⟨fun q hq => Nat.lt_of_lt_of_le (hwf q (Fo_iff.mpr (Or.inl hq))) hn64, fun q hq => Nat.lt_of_lt_of_le (hwf q (Fo_iff.mpr (Or.inr hq))) hn64⟩ (fun c => Fo_iff))
          · intro x hx; rw [xU_ne hx]
          · intro a ha
            have g9 := k_eq hk (c := 9) (by decide) (Classical.not_not.mp h3)
            show hb (b 10 7 ||| xbit (nI i)) a = true ↔ _
            rw [hb_or, hb_bit hi64]
            simp [g9]
      · refine xB.go 3 (23, [(0, .ref 10), (1, .int ((nI i) + 1))], [], XM L mi b) rfl ?_
        rw [nI_1]
        exact ih (i + 1) (by omega) (by omega) b (hE.skip (fun z => h2 (hmb.mpr z)))
set_option maxRecDepth 100000 in
set_option maxHeartbeats 1000000 in
theorem c_findEdges (d L : Nat) (mi : xmi) (ml : xml) {n : Nat} {K T : Nat → Nat} (hP : PRG mi n K T) (hw : WF n K T) (hm : ∀ i, i < 64 → (hb (ml 8 2) i = true ↔ ∃ h, Rh n K T i h)) : xF (d + 4) 4 [.ref 10] L mi ml (fun rr a b => rr = none ∧ a = mi ∧ fE K T (fun i => ∃ h, Rh n K T i h) ml b n) := by
  refine xF.mk mX0_findEdges rfl rfl ?_
  refine xB.go 3 (5, [(0, .ref 10)], [.long 0, .ref 11], XM L mi ml) rfl ?_
  refine xB.c0 137 [.ref 11, .long 0] [] (c_fill11 _ L _ _ 0) rfl ?_
  refine xB.go 3 (13, [(0, .ref 10)], [.long 0, .ref 12], XM L mi (va_up ml 11 (sl_fill (ml 11) 0 64))) rfl ?_
  refine xB.c0 137 [.ref 12, .long 0] [] (c_fill12 _ L _ _ 0) rfl ?_
  refine xB.go 5 (23, [(0, .ref 10), (1, .int 0)], [], XM L mi (xU (va_up (va_up ml 11 (sl_fill (ml 11) 0 64)) 12 (sl_fill ((va_up ml 11 (sl_fill (ml 11) 0 64)) 12) 0 64)) 10 7 0)) rfl ?_
  refine findEdges_23 d L mi ml hP hw hm (n + 1) 0 (Nat.zero_le _) (by omega) _ ⟨fun x x1 x2 x3 => ?_, fun a c ha hc => ?_, fun a c ha hc => ?_, fun a ha => ?_⟩
  · rw [xU_ne x1, va_up_ne _ _ x3, va_up_ne _ _ x2]
  · rw [xU_ne (by decide), va_up_ne _ _ (by decide), va_up_self]
    unfold sl_fill
    rw [if_pos ha, hb_0]
    exact ⟨(fun z => by cases z), fun z => absurd z.1 (Nat.not_lt_zero _)⟩
  · rw [xU_ne (by decide), va_up_self]
    unfold sl_fill
    rw [if_pos hc, hb_0]
    exact ⟨(fun z => by cases z), fun z => absurd z.1 (Nat.not_lt_zero _)⟩
  · show hb 0 a = true ↔ _
    rw [hb_0]
    exact ⟨(fun z => by cases z), fun z => absurd z.1 (Nat.not_lt_zero _)⟩
