/-! what can be come to: the class's reach over sets of places -/
def RE (st : Nat → Bool) (ed : Nat → Nat → Bool) (al : Nat → Bool) (j : Nat) : Prop := ∀ X : Nat → Prop, (∀ i, i < 64 → st i = true → al i = true → X i) → (∀ i j, X i → i < 64 → j < 64 → ed i j = true → al j = true → X j) → X j
theorem RE.zero {st : Nat → Bool} {ed : Nat → Nat → Bool} {al : Nat → Bool} {i : Nat} (h : i < 64) (h1 : st i = true) (h2 : al i = true) : RE st ed al i := fun _ a _ => a i h h1 h2
theorem RE.next {st : Nat → Bool} {ed : Nat → Nat → Bool} {al : Nat → Bool} {i j : Nat} (h : RE st ed al i) (h1 : i < 64) (h2 : j < 64) (h3 : ed i j = true) (h4 : al j = true) : RE st ed al j := fun X a b => b i j (h X a b) h1 h2 h3 h4
def rI (st : Nat → Bool) (ed : Nat → Nat → Bool) (al : Nat → Bool) (r : Nat) (R O : Int64) : Prop :=
  (∀ j, j < 64 → hb R j = true ∨ hb O j = true → RE st ed al j) ∧ (∀ j, j < 64 → hb O j = true → hb R j = false ∧ al j = true) ∧ (∀ j, j < 64 → st j = true → al j = true → hb R j = true ∨ hb O j = true) ∧
  (∀ i, i < 64 → hb R i = true → ∀ j, j < 64 → ed i j = true → al j = true → hb R j = true ∨ hb O j = true) ∧ r ≤ cnt (hb R) 64
theorem rI.done {st : Nat → Bool} {ed : Nat → Nat → Bool} {al : Nat → Bool} {r : Nat} {R O : Int64} (h : rI st ed al r R O) (ho : ∀ j, j < 64 → hb O j = false) : ∀ j, j < 64 → (hb R j = true ↔ RE st ed al j) := by
  obtain ⟨h1, h2, h3, h4, h5⟩ := h
  have hor : ∀ j, j < 64 → hb R j = true ∨ hb O j = true → hb R j = true := fun j hj z => z.elim id (fun w => by rw [ho j hj] at w; cases w)
  refine fun j hj => ⟨fun g => h1 j hj (Or.inl g), fun g => ?_⟩
  exact (g (fun j => j < 64 → hb R j = true) (fun i hi g1 g2 _ => hor i hi (h3 i hi g1 g2)) (fun i j g1 g2 g3 g4 g5 _ => hor j g3 (h4 i g2 (g1 g2) j g3 g4 g5))) hj
theorem rI.next {st : Nat → Bool} {al E : Int64} {ed : Nat → Nat → Bool} {r p : Nat} {R O : Int64} (h : rI st ed (hb al) r R O) (hp : p < 64) (ho : hb O p = true) (hE : ∀ j, j < 64 → hb E j = ed p j) : rI st ed (hb al) (r + 1) (R ||| xbit (nI p)) (((O ||| E) &&& al) &&& ((R ||| xbit (nI p)) ^^^ (-1))) := by
  obtain ⟨h1, h2, h3, h4, h5⟩ := h
  have eR : ∀ j, hb (R ||| xbit (nI p)) j = (hb R j || decide (j = p)) := fun j => by rw [hb_or, hb_bit hp]
  have eO : ∀ j, j < 64 → hb (((O ||| E) &&& al) &&& ((R ||| xbit (nI p)) ^^^ (-1))) j = (((hb O j || ed p j) && hb al j) && !(hb R j || decide (j = p))) := fun j hj => by rw [hb_and, hb_and, hb_or, hb_not _ hj, eR, hE j hj]
  have hRp := (h2 p hp ho).1
  have hREp : RE st ed (hb al) p := h1 p hp (Or.inr ho)
  have hcase : ∀ j, j < 64 → hb R j = true ∨ hb O j = true ∨ (ed p j = true ∧ hb al j = true) → hb (R ||| xbit (nI p)) j = true ∨ hb (((O ||| E) &&& al) &&& ((R ||| xbit (nI p)) ^^^ (-1))) j = true := fun j hj g => by
    rw [eR, eO j hj]
    by_cases z : j = p
    · left; simp [z]
    · cases hr : hb R j with
      | true => left; rfl
      | false =>
        right
        rcases g with g | g | ⟨g1, g2⟩
        · rw [hr] at g; cases g
        · simp [g, (h2 j hj g).2, z]
        · simp [g1, g2, z]
  refine ⟨fun j hj g => ?_, fun j hj g => ?_, fun j hj g1 g2 => ?_, fun i hi g j hj g1 g2 => ?_, ?_⟩
  · rw [eR, eO j hj] at g
    rcases g with g | g
    · rcases Bool.or_eq_true_iff.mp g with g | g
      · exact h1 j hj (Or.inl g)
      · have : j = p := by simpa using g
        subst this; exact hREp
    · simp only [Bool.and_eq_true, Bool.or_eq_true] at g
      obtain ⟨⟨g1 | g1, g2⟩, -⟩ := g
      · exact h1 j hj (Or.inr g1)
      · exact hREp.next hp hj g1 g2
  · rw [eO j hj] at g
    rw [eR]
    simp only [Bool.and_eq_true, Bool.not_eq_true'] at g
    exact ⟨g.2, g.1.2⟩
  · exact hcase j hj ((h3 j hj g1 g2).elim Or.inl (fun z => Or.inr (Or.inl z)))
  · rw [eR] at g
    by_cases z : i = p
    · subst z; exact hcase j hj (Or.inr (Or.inr ⟨g1, g2⟩))
    · have g : hb R i = true := by simpa [z] using g
      exact hcase j hj ((h4 i hi g j hj g1 g2).elim Or.inl (fun z => Or.inr (Or.inl z)))
  · refine Nat.lt_of_le_of_lt h5 (cnt_lt (j := p) (fun j _ g => ?_) hp hRp ?_)
    · rw [eR, g]; rfl
    · rw [eR]; simp
set_option maxRecDepth 100000 in
set_option maxHeartbeats 1000000 in
theorem reach_11_11 (d L : Nat) (mi : xmi) (ml : xml) (s al : Int64) : ∀ (f r : Nat), r ≤ 64 → 64 - r < f → ∀ (Rr O : Int64), rI (hb s) (fun i => hb (ml 11 i)) (hb al) r Rr O → xB (d + 2) mX0_reach L (fun rr a b => a = mi ∧ b = ml ∧ ∃ R, rr = some (.long R) ∧ ∀ j, j < 64 → (hb R j = true ↔ RE (hb s) (fun i => hb (ml 11 i)) (hb al) j)) (11, [(0, .long s), (2, .ref 11), (3, .long al), (5, .long Rr), (7, .long O), (9, .int (nI r))], [], XM L mi ml) := by
  intro f
  induction f with
  | zero => intro r h1 h2; omega
  | succ f ih =>
    intro r hle hlt Rr O hI
    refine xB.go 2 (15, [(0, .long s), (2, .ref 11), (3, .long al), (5, .long Rr), (7, .long O), (9, .int (nI r))], [.int 64, .int (nI r)], XM L mi ml) rfl ?_
    refine xB.bp (64 ≤ (nI r)) (66, [(0, .long s), (2, .ref 11), (3, .long al), (5, .long Rr), (7, .long O), (9, .int (nI r))], [], XM L mi ml) (18, [(0, .long s), (2, .ref 11), (3, .long al), (5, .long Rr), (7, .long O), (9, .int (nI r))], [], XM L mi ml) rfl (fun h1 => ?_) (fun h1 => ?_)
    · refine xB.go 1 (68, [(0, .long s), (2, .ref 11), (3, .long al), (5, .long Rr), (7, .long O), (9, .int (nI r))], [.long Rr], XM L mi ml) rfl ?_
      refine xB.rt (some (.long Rr)) mi ml rfl ?_
      refine ⟨rfl, rfl, Rr, rfl, hI.done (fun j hj => ?_)⟩
      have hr64 : 64 ≤ r := (nI_leI (by decide) (by omega)).mp h1
      have := cnt_full (Nat.le_trans hr64 hI.2.2.2.2) j hj
      cases hz : hb O j with
      | false => rfl
      | true => rw [(hI.2.1 j hj hz).1] at this; cases this
    · refine xB.go 3 (22, [(0, .long s), (2, .ref 11), (3, .long al), (5, .long Rr), (7, .long O), (9, .int (nI r))], [.int (lg_cmp O 0)], XM L mi ml) rfl ?_
      refine xB.lz O 0 (66, [(0, .long s), (2, .ref 11), (3, .long al), (5, .long Rr), (7, .long O), (9, .int (nI r))], [], XM L mi ml) (25, [(0, .long s), (2, .ref 11), (3, .long al), (5, .long Rr), (7, .long O), (9, .int (nI r))], [], XM L mi ml) rfl (fun h2 => ?_) (fun h2 => ?_)
      · refine xB.go 1 (68, [(0, .long s), (2, .ref 11), (3, .long al), (5, .long Rr), (7, .long O), (9, .int (nI r))], [.long Rr], XM L mi ml) rfl ?_
        refine xB.rt (some (.long Rr)) mi ml rfl ?_
        exact ⟨rfl, rfl, Rr, rfl, hI.done (fun j hj => by rw [h2, hb_0])⟩
      · have hlo := xlow_spec h2
        have hr64 : r < 64 := Nat.lt_of_not_le (fun z => h1 (nI_le z (by omega)))
        refine xB.go 1 (27, [(0, .long s), (2, .ref 11), (3, .long al), (5, .long Rr), (7, .long O), (9, .int (nI r))], [.long O], XM L mi ml) rfl ?_
        refine xB.c1 90 [.long O] [] (c_lowest _ L mi ml O ) rfl ?_
        refine xB.cg (30, [(0, .long s), (2, .ref 11), (3, .long al), (5, .long Rr), (7, .long O), (9, .int (nI r))], [.int (nI (xlow O))], XM L mi ml) (by rw [xbc_of h2]) ?_
        refine xB.go 3 (36, [(0, .long s), (2, .ref 11), (3, .long al), (5, .long Rr), (7, .long O), (9, .int (nI r)), (10, .int (nI (xlow O)))], [.int (nI (xlow O)), .long Rr], XM L mi ml) rfl ?_
        refine xB.c1 88 [.int (nI (xlow O))] [.long Rr] (c_bit _ L mi ml (nI (xlow O)) ) rfl ?_
        refine xB.go 5 (47, [(0, .long s), (2, .ref 11), (3, .long al), (5, .long (Rr ||| (xbit (nI (xlow O))))), (7, .long O), (9, .int (nI r)), (10, .int (nI (xlow O)))], [.int (nI (xlow O)), .ref 11, .long O], XM L mi ml) rfl ?_
        refine xB.ck (xin (nI (xlow O)) 64) (48, [(0, .long s), (2, .ref 11), (3, .long al), (5, .long (Rr ||| (xbit (nI (xlow O))))), (7, .long O), (9, .int (nI r)), (10, .int (nI (xlow O)))], [.long (ml 11 (nI (xlow O)).toNatClampNeg), .long O], XM L mi ml) rfl (xin_of hlo.1 (by decide) rfl) ?_
        refine xB.go 10 (11, [(0, .long s), (2, .ref 11), (3, .long al), (5, .long (Rr ||| (xbit (nI (xlow O))))), (7, .long (((O ||| (ml 11 (nI (xlow O)).toNatClampNeg)) &&& al) &&& ((Rr ||| (xbit (nI (xlow O)))) ^^^ (-1)))), (9, .int ((nI r) + 1)), (10, .int (nI (xlow O)))], [], XM L mi ml) rfl ?_
        refine xB.fo [(0, .long s), (2, .ref 11), (3, .long al), (5, .long (Rr ||| (xbit (nI (xlow O))))), (7, .long (((O ||| (ml 11 (nI (xlow O)).toNatClampNeg)) &&& al) &&& ((Rr ||| (xbit (nI (xlow O)))) ^^^ (-1)))), (9, .int (nI r + 1))] (by simp) ?_
        rw [nI_1, nI_clamp (by omega)]
        exact ih (r + 1) (by omega) (by omega) _ _ (hI.next hlo.1 hlo.2.1 (fun j _ => rfl))
set_option maxRecDepth 100000 in
set_option maxHeartbeats 1000000 in
theorem c_reach11 (d L : Nat) (mi : xmi) (ml : xml) (s al : Int64) : xF (d + 3) 8 [.long s, .ref 11, .long al] L mi ml (fun rr a b => a = mi ∧ b = ml ∧ ∃ R, rr = some (.long R) ∧ ∀ j, j < 64 → (hb R j = true ↔ RE (hb s) (fun i => hb (ml 11 i)) (hb al) j)) := by
  refine xF.mk mX0_reach rfl rfl ?_
  refine xB.go 8 (11, [(0, .long s), (2, .ref 11), (3, .long al), (5, .long 0), (7, .long (s &&& al)), (9, .int 0)], [], XM L mi ml) rfl ?_
  refine reach_11_11 d L mi ml s al 65 0 (by omega) (by omega) 0 _ ⟨fun j hj g => ?_, fun j hj g => ?_, fun j hj g1 g2 => Or.inr (by rw [hb_and, g1, g2]; rfl), (fun i _ g => by rw [hb_0] at g; cases g), Nat.zero_le _⟩
  · rw [hb_0, hb_and] at g
    rcases g with g | g
    · cases g
    · rw [Bool.and_eq_true] at g; exact RE.zero hj g.1 g.2
  · rw [hb_and, Bool.and_eq_true] at g; exact ⟨hb_0 j, g.2⟩
set_option maxRecDepth 100000 in
set_option maxHeartbeats 1000000 in
theorem reach_12_11 (d L : Nat) (mi : xmi) (ml : xml) (s al : Int64) : ∀ (f r : Nat), r ≤ 64 → 64 - r < f → ∀ (Rr O : Int64), rI (hb s) (fun i => hb (ml 12 i)) (hb al) r Rr O → xB (d + 2) mX0_reach L (fun rr a b => a = mi ∧ b = ml ∧ ∃ R, rr = some (.long R) ∧ ∀ j, j < 64 → (hb R j = true ↔ RE (hb s) (fun i => hb (ml 12 i)) (hb al) j)) (11, [(0, .long s), (2, .ref 12), (3, .long al), (5, .long Rr), (7, .long O), (9, .int (nI r))], [], XM L mi ml) := by
  intro f
  induction f with
  | zero => intro r h1 h2; omega
  | succ f ih =>
    intro r hle hlt Rr O hI
    refine xB.go 2 (15, [(0, .long s), (2, .ref 12), (3, .long al), (5, .long Rr), (7, .long O), (9, .int (nI r))], [.int 64, .int (nI r)], XM L mi ml) rfl ?_
    refine xB.bp (64 ≤ (nI r)) (66, [(0, .long s), (2, .ref 12), (3, .long al), (5, .long Rr), (7, .long O), (9, .int (nI r))], [], XM L mi ml) (18, [(0, .long s), (2, .ref 12), (3, .long al), (5, .long Rr), (7, .long O), (9, .int (nI r))], [], XM L mi ml) rfl (fun h1 => ?_) (fun h1 => ?_)
    · refine xB.go 1 (68, [(0, .long s), (2, .ref 12), (3, .long al), (5, .long Rr), (7, .long O), (9, .int (nI r))], [.long Rr], XM L mi ml) rfl ?_
      refine xB.rt (some (.long Rr)) mi ml rfl ?_
      refine ⟨rfl, rfl, Rr, rfl, hI.done (fun j hj => ?_)⟩
      have hr64 : 64 ≤ r := (nI_leI (by decide) (by omega)).mp h1
      have := cnt_full (Nat.le_trans hr64 hI.2.2.2.2) j hj
      cases hz : hb O j with
      | false => rfl
      | true => rw [(hI.2.1 j hj hz).1] at this; cases this
    · refine xB.go 3 (22, [(0, .long s), (2, .ref 12), (3, .long al), (5, .long Rr), (7, .long O), (9, .int (nI r))], [.int (lg_cmp O 0)], XM L mi ml) rfl ?_
      refine xB.lz O 0 (66, [(0, .long s), (2, .ref 12), (3, .long al), (5, .long Rr), (7, .long O), (9, .int (nI r))], [], XM L mi ml) (25, [(0, .long s), (2, .ref 12), (3, .long al), (5, .long Rr), (7, .long O), (9, .int (nI r))], [], XM L mi ml) rfl (fun h2 => ?_) (fun h2 => ?_)
      · refine xB.go 1 (68, [(0, .long s), (2, .ref 12), (3, .long al), (5, .long Rr), (7, .long O), (9, .int (nI r))], [.long Rr], XM L mi ml) rfl ?_
        refine xB.rt (some (.long Rr)) mi ml rfl ?_
        exact ⟨rfl, rfl, Rr, rfl, hI.done (fun j hj => by rw [h2, hb_0])⟩
      · have hlo := xlow_spec h2
        have hr64 : r < 64 := Nat.lt_of_not_le (fun z => h1 (nI_le z (by omega)))
        refine xB.go 1 (27, [(0, .long s), (2, .ref 12), (3, .long al), (5, .long Rr), (7, .long O), (9, .int (nI r))], [.long O], XM L mi ml) rfl ?_
        refine xB.c1 90 [.long O] [] (c_lowest _ L mi ml O ) rfl ?_
        refine xB.cg (30, [(0, .long s), (2, .ref 12), (3, .long al), (5, .long Rr), (7, .long O), (9, .int (nI r))], [.int (nI (xlow O))], XM L mi ml) (by rw [xbc_of h2]) ?_
        refine xB.go 3 (36, [(0, .long s), (2, .ref 12), (3, .long al), (5, .long Rr), (7, .long O), (9, .int (nI r)), (10, .int (nI (xlow O)))], [.int (nI (xlow O)), .long Rr], XM L mi ml) rfl ?_
        refine xB.c1 88 [.int (nI (xlow O))] [.long Rr] (c_bit _ L mi ml (nI (xlow O)) ) rfl ?_
        refine xB.go 5 (47, [(0, .long s), (2, .ref 12), (3, .long al), (5, .long (Rr ||| (xbit (nI (xlow O))))), (7, .long O), (9, .int (nI r)), (10, .int (nI (xlow O)))], [.int (nI (xlow O)), .ref 12, .long O], XM L mi ml) rfl ?_
        refine xB.ck (xin (nI (xlow O)) 64) (48, [(0, .long s), (2, .ref 12), (3, .long al), (5, .long (Rr ||| (xbit (nI (xlow O))))), (7, .long O), (9, .int (nI r)), (10, .int (nI (xlow O)))], [.long (ml 12 (nI (xlow O)).toNatClampNeg), .long O], XM L mi ml) rfl (xin_of hlo.1 (by decide) rfl) ?_
        refine xB.go 10 (11, [(0, .long s), (2, .ref 12), (3, .long al), (5, .long (Rr ||| (xbit (nI (xlow O))))), (7, .long (((O ||| (ml 12 (nI (xlow O)).toNatClampNeg)) &&& al) &&& ((Rr ||| (xbit (nI (xlow O)))) ^^^ (-1)))), (9, .int ((nI r) + 1)), (10, .int (nI (xlow O)))], [], XM L mi ml) rfl ?_
        refine xB.fo [(0, .long s), (2, .ref 12), (3, .long al), (5, .long (Rr ||| (xbit (nI (xlow O))))), (7, .long (((O ||| (ml 12 (nI (xlow O)).toNatClampNeg)) &&& al) &&& ((Rr ||| (xbit (nI (xlow O)))) ^^^ (-1)))), (9, .int (nI r + 1))] (by simp) ?_
        rw [nI_1, nI_clamp (by omega)]
        exact ih (r + 1) (by omega) (by omega) _ _ (hI.next hlo.1 hlo.2.1 (fun j _ => rfl))
set_option maxRecDepth 100000 in
set_option maxHeartbeats 1000000 in
theorem c_reach12 (d L : Nat) (mi : xmi) (ml : xml) (s al : Int64) : xF (d + 3) 8 [.long s, .ref 12, .long al] L mi ml (fun rr a b => a = mi ∧ b = ml ∧ ∃ R, rr = some (.long R) ∧ ∀ j, j < 64 → (hb R j = true ↔ RE (hb s) (fun i => hb (ml 12 i)) (hb al) j)) := by
  refine xF.mk mX0_reach rfl rfl ?_
  refine xB.go 8 (11, [(0, .long s), (2, .ref 12), (3, .long al), (5, .long 0), (7, .long (s &&& al)), (9, .int 0)], [], XM L mi ml) rfl ?_
  refine reach_12_11 d L mi ml s al 65 0 (by omega) (by omega) 0 _ ⟨fun j hj g => ?_, fun j hj g => ?_, fun j hj g1 g2 => Or.inr (by rw [hb_and, g1, g2]; rfl), (fun i _ g => by rw [hb_0] at g; cases g), Nat.zero_le _⟩
  · rw [hb_0, hb_and] at g
    rcases g with g | g
    · cases g
    · rw [Bool.and_eq_true] at g; exact RE.zero hj g.1 g.2
  · rw [hb_and, Bool.and_eq_true] at g; exact ⟨hb_0 j, g.2⟩
set_option maxRecDepth 100000 in
set_option maxHeartbeats 1000000 in
theorem fill11_6 (d L : Nat) (mi : xmi) (ml : xml) (v : Int64) : ∀ (f i : Nat), i ≤ 64 → 64 - i < f → xB d mJ7_fill_d0a16 L (fun rr a b => rr = none ∧ a = mi ∧ b = va_up ml 11 (sl_fill (ml 11) v 64)) (6, [(0, .ref 11), (1, .long v), (3, .int (nI i)), (4, .int 64)], [], XM L mi (va_up ml 11 (sl_fill (ml 11) v i))) := by
  intro f
  induction f with
  | zero => intro i h1 h2; omega
  | succ f ih =>
    intro i hle hlt
    refine xB.go 2 (9, [(0, .ref 11), (1, .long v), (3, .int (nI i)), (4, .int 64)], [.int 64, .int (nI i)], XM L mi (va_up ml 11 (sl_fill (ml 11) v i))) rfl ?_
    refine xB.bp (64 ≤ (nI i)) (22, [(0, .ref 11), (1, .long v), (3, .int (nI i)), (4, .int 64)], [], XM L mi (va_up ml 11 (sl_fill (ml 11) v i))) (12, [(0, .ref 11), (1, .long v), (3, .int (nI i)), (4, .int 64)], [], XM L mi (va_up ml 11 (sl_fill (ml 11) v i))) rfl (fun h1 => ?_) (fun h1 => ?_)
    · refine xB.rt none mi (va_up ml 11 (sl_fill (ml 11) v i)) rfl ?_
      have hge : 64 ≤ i := (nI_leI (by decide) (by omega)).mp h1
      obtain rfl : i = 64 := by omega
      exact ⟨rfl, rfl, rfl⟩
    · refine xB.go 3 (15, [(0, .ref 11), (1, .long v), (3, .int (nI i)), (4, .int 64)], [.long v, .int (nI i), .ref 11], XM L mi (va_up ml 11 (sl_fill (ml 11) v i))) rfl ?_
      refine xB.ck (xin (nI i) 64) (16, [(0, .ref 11), (1, .long v), (3, .int (nI i)), (4, .int 64)], [], XM L mi (xU (va_up ml 11 (sl_fill (ml 11) v i)) 11 (nI i).toNatClampNeg v)) rfl (xin_of (show i < 64 from Nat.lt_of_not_le (fun z => h1 (nI_le z (by omega)))) (by decide) rfl) ?_
      refine xB.go 2 (6, [(0, .ref 11), (1, .long v), (3, .int ((nI i) + 1)), (4, .int 64)], [], XM L mi (xU (va_up ml 11 (sl_fill (ml 11) v i)) 11 (nI i).toNatClampNeg v)) rfl ?_
      have hlt2 : i < 64 := Nat.lt_of_not_le (fun z => h1 (nI_le z (by omega)))
      rw [nI_1, nI_clamp (by omega), sl_fill_s]
      exact ih (i + 1) (by omega) (by omega)
set_option maxRecDepth 100000 in
set_option maxHeartbeats 1000000 in
theorem c_fill11 (d L : Nat) (mi : xmi) (ml : xml) (v : Int64) : xFn (d + 1) 137 [.ref 11, .long v] L mi ml mi (va_up ml 11 (sl_fill (ml 11) v 64)) := by
  refine xF.mk mJ7_fill_d0a16 rfl rfl ?_
  refine xB.go 5 (6, [(0, .ref 11), (1, .long v), (3, .int 0), (4, .int 64)], [], XM L mi ml) rfl ?_
  refine xB.cg (6, [(0, .ref 11), (1, .long v), (3, .int (nI 0)), (4, .int 64)], [], XM L mi (va_up ml 11 (sl_fill (ml 11) v 0))) (by rw [sl_fill_0]; rfl) ?_
  exact fill11_6 _ L mi ml v 65 0 (by omega) (by omega)
set_option maxRecDepth 100000 in
set_option maxHeartbeats 1000000 in
theorem fill12_6 (d L : Nat) (mi : xmi) (ml : xml) (v : Int64) : ∀ (f i : Nat), i ≤ 64 → 64 - i < f → xB d mJ7_fill_d0a16 L (fun rr a b => rr = none ∧ a = mi ∧ b = va_up ml 12 (sl_fill (ml 12) v 64)) (6, [(0, .ref 12), (1, .long v), (3, .int (nI i)), (4, .int 64)], [], XM L mi (va_up ml 12 (sl_fill (ml 12) v i))) := by
  intro f
  induction f with
  | zero => intro i h1 h2; omega
  | succ f ih =>
    intro i hle hlt
    refine xB.go 2 (9, [(0, .ref 12), (1, .long v), (3, .int (nI i)), (4, .int 64)], [.int 64, .int (nI i)], XM L mi (va_up ml 12 (sl_fill (ml 12) v i))) rfl ?_
    refine xB.bp (64 ≤ (nI i)) (22, [(0, .ref 12), (1, .long v), (3, .int (nI i)), (4, .int 64)], [], XM L mi (va_up ml 12 (sl_fill (ml 12) v i))) (12, [(0, .ref 12), (1, .long v), (3, .int (nI i)), (4, .int 64)], [], XM L mi (va_up ml 12 (sl_fill (ml 12) v i))) rfl (fun h1 => ?_) (fun h1 => ?_)
    · refine xB.rt none mi (va_up ml 12 (sl_fill (ml 12) v i)) rfl ?_
      have hge : 64 ≤ i := (nI_leI (by decide) (by omega)).mp h1
      obtain rfl : i = 64 := by omega
      exact ⟨rfl, rfl, rfl⟩
    · refine xB.go 3 (15, [(0, .ref 12), (1, .long v), (3, .int (nI i)), (4, .int 64)], [.long v, .int (nI i), .ref 12], XM L mi (va_up ml 12 (sl_fill (ml 12) v i))) rfl ?_
      refine xB.ck (xin (nI i) 64) (16, [(0, .ref 12), (1, .long v), (3, .int (nI i)), (4, .int 64)], [], XM L mi (xU (va_up ml 12 (sl_fill (ml 12) v i)) 12 (nI i).toNatClampNeg v)) rfl (xin_of (show i < 64 from Nat.lt_of_not_le (fun z => h1 (nI_le z (by omega)))) (by decide) rfl) ?_
      refine xB.go 2 (6, [(0, .ref 12), (1, .long v), (3, .int ((nI i) + 1)), (4, .int 64)], [], XM L mi (xU (va_up ml 12 (sl_fill (ml 12) v i)) 12 (nI i).toNatClampNeg v)) rfl ?_
      have hlt2 : i < 64 := Nat.lt_of_not_le (fun z => h1 (nI_le z (by omega)))
      rw [nI_1, nI_clamp (by omega), sl_fill_s]
      exact ih (i + 1) (by omega) (by omega)
set_option maxRecDepth 100000 in
set_option maxHeartbeats 1000000 in
theorem c_fill12 (d L : Nat) (mi : xmi) (ml : xml) (v : Int64) : xFn (d + 1) 137 [.ref 12, .long v] L mi ml mi (va_up ml 12 (sl_fill (ml 12) v 64)) := by
  refine xF.mk mJ7_fill_d0a16 rfl rfl ?_
  refine xB.go 5 (6, [(0, .ref 12), (1, .long v), (3, .int 0), (4, .int 64)], [], XM L mi ml) rfl ?_
  refine xB.cg (6, [(0, .ref 12), (1, .long v), (3, .int (nI 0)), (4, .int 64)], [], XM L mi (va_up ml 12 (sl_fill (ml 12) v 0))) (by rw [sl_fill_0]; rfl) ?_
  exact fill12_6 _ L mi ml v 65 0 (by omega) (by omega)
set_option maxRecDepth 100000 in
set_option maxHeartbeats 1000000 in
theorem fill17_6 (d L : Nat) (mi : xmi) (ml : xml) (v : Int64) : ∀ (f i : Nat), i ≤ 64 → 64 - i < f → xB d mJ7_fill_d0a16 L (fun rr a b => rr = none ∧ a = mi ∧ b = va_up ml 17 (sl_fill (ml 17) v 64)) (6, [(0, .ref 17), (1, .long v), (3, .int (nI i)), (4, .int 64)], [], XM L mi (va_up ml 17 (sl_fill (ml 17) v i))) := by
  intro f
  induction f with
  | zero => intro i h1 h2; omega
  | succ f ih =>
    intro i hle hlt
    refine xB.go 2 (9, [(0, .ref 17), (1, .long v), (3, .int (nI i)), (4, .int 64)], [.int 64, .int (nI i)], XM L mi (va_up ml 17 (sl_fill (ml 17) v i))) rfl ?_
    refine xB.bp (64 ≤ (nI i)) (22, [(0, .ref 17), (1, .long v), (3, .int (nI i)), (4, .int 64)], [], XM L mi (va_up ml 17 (sl_fill (ml 17) v i))) (12, [(0, .ref 17), (1, .long v), (3, .int (nI i)), (4, .int 64)], [], XM L mi (va_up ml 17 (sl_fill (ml 17) v i))) rfl (fun h1 => ?_) (fun h1 => ?_)
    · refine xB.rt none mi (va_up ml 17 (sl_fill (ml 17) v i)) rfl ?_
      have hge : 64 ≤ i := (nI_leI (by decide) (by omega)).mp h1
      obtain rfl : i = 64 := by omega
      exact ⟨rfl, rfl, rfl⟩
    · refine xB.go 3 (15, [(0, .ref 17), (1, .long v), (3, .int (nI i)), (4, .int 64)], [.long v, .int (nI i), .ref 17], XM L mi (va_up ml 17 (sl_fill (ml 17) v i))) rfl ?_
      refine xB.ck (xin (nI i) 64) (16, [(0, .ref 17), (1, .long v), (3, .int (nI i)), (4, .int 64)], [], XM L mi (xU (va_up ml 17 (sl_fill (ml 17) v i)) 17 (nI i).toNatClampNeg v)) rfl (xin_of (show i < 64 from Nat.lt_of_not_le (fun z => h1 (nI_le z (by omega)))) (by decide) rfl) ?_
      refine xB.go 2 (6, [(0, .ref 17), (1, .long v), (3, .int ((nI i) + 1)), (4, .int 64)], [], XM L mi (xU (va_up ml 17 (sl_fill (ml 17) v i)) 17 (nI i).toNatClampNeg v)) rfl ?_
      have hlt2 : i < 64 := Nat.lt_of_not_le (fun z => h1 (nI_le z (by omega)))
      rw [nI_1, nI_clamp (by omega), sl_fill_s]
      exact ih (i + 1) (by omega) (by omega)
set_option maxRecDepth 100000 in
set_option maxHeartbeats 1000000 in
theorem c_fill17 (d L : Nat) (mi : xmi) (ml : xml) (v : Int64) : xFn (d + 1) 137 [.ref 17, .long v] L mi ml mi (va_up ml 17 (sl_fill (ml 17) v 64)) := by
  refine xF.mk mJ7_fill_d0a16 rfl rfl ?_
  refine xB.go 5 (6, [(0, .ref 17), (1, .long v), (3, .int 0), (4, .int 64)], [], XM L mi ml) rfl ?_
  refine xB.cg (6, [(0, .ref 17), (1, .long v), (3, .int (nI 0)), (4, .int 64)], [], XM L mi (va_up ml 17 (sl_fill (ml 17) v 0))) (by rw [sl_fill_0]; rfl) ?_
  exact fill17_6 _ L mi ml v 65 0 (by omega) (by omega)
