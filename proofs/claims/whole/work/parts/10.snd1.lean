/-! SOUNDNESS: what the pure machine does, the JVM does. -/
def xr (B : Nat) (fx : Nat → Nat) (a : Nat) : Nat := if a < 1000 then B + a else fx (a - 1000)
def xv (r : Nat → Nat) : Value → Value
  | .ref a => .ref (r a)
  | v => v
def xvl (r : Nat → Nat) (l : xL) : List (Nat × Value) := l.map (fun q => (q.1, xv r q.2))
def xE (r : Nat → Nat) (dA : Nat → ClassId) (M : xM) (a : Nat) (q : Nat × Nat) : va_E :=
  if q.1 = 20 then .inl (dA 0, q.2, .inl (M.2.2.1 a))
  else if q.1 = 21 then .inl (dA 1, q.2, .inr (.inl (M.2.2.2 a)))
  else if q.1 = 22 then .inl (dA 2, q.2, .inl (M.2.2.1 a))
  else if q.1 = 23 then .inl (dA 3, q.2, .inr (.inr (.inr (.inr (fun i => (M.2.1 a i).map r)))))
  else if q.1 = 24 then .inl (dA 4, q.2, .inr (.inr (.inr (.inr (fun i => (M.2.1 a i).map r)))))
  else .inr (q.1, (List.range (xN q.1)).map (fun k => xv r (xfv (xty q.1 k) M a k)))
/-- what is fixed: where the new cells begin, the arrays that nobody writes (place, length, contents), the classes -/
abbrev xG : Type := Nat × (Nat → Nat) × (Nat → Nat) × (Nat → Nat → Int32) × va_G × (Nat → ClassId)
def xGr (G : xG) : Nat → Nat := xr G.1 G.2.1
def xHp (G : xG) (M : xM) (H : Heap) : Prop := H.size = G.1 + M.1.length ∧ M.1.length ≤ 1000 ∧
  (∀ (a : Nat) (q : Nat × Nat), M.1[a]? = some q → va_at G.2.2.2.2.1 xcl (G.1 + a, xE (xGr G) G.2.2.2.2.2 M a q) H) ∧
  (∀ k, k < 4 → M.2.1 1000 k = some (G.2.2.1 k) ∧ ∀ i, M.2.2.1 (1000 + k) i = G.2.2.2.1 k i)
def xnest : Jvm.Cond → Bool
  | .methodLinkNest .. => true
  | .fieldLinkNest .. => true
  | _ => false
def xtys (G : xG) : List (ClassId × FieldType) := [(G.2.2.2.2.2 0, .int), (G.2.2.2.2.2 1, .long), (G.2.2.2.2.2 2, .boolean), (G.2.2.2.2.2 3, .object (xnm (xcomp 23))), (G.2.2.2.2.2 4, .object (xnm (xcomp 24)))]
def xKs (G : xG) (U : State) : Prop := va_K G.2.2.2.2.1 xcl (xtys G) U ∧ (∀ w ∈ lw_tbl, xnest w = true → va_Nw w U) ∧ (va_AO (xnm (xcomp 23)) U ∧ va_AO (xnm (xcomp 24)) U) ∧
  (∀ k, k < 4 → va_T .int (G.2.1 k) (G.2.2.1 k) (fun i => .int (G.2.2.2.1 k i)) (fun q => G.1 ≤ q) U U.heap) ∧ (∀ k, 1 ≤ k → k < 4 → va_Z "SecretLoom" (xsn k) "[I" (.ref (G.2.1 k)) (fun q => G.1 ≤ q) U U.heap)
theorem xKs.moved {G : xG} {s U : State} (h : xKs G s) (hW : s.WarmedH U.vm) (hH : ∀ q : Nat, q < G.1 → U.heap[q]? = s.heap[q]?) : xKs G U := by
  obtain ⟨h1, h2, h3, h4, h5⟩ := h
  have hk : ∀ a : Nat, a < s.heap.size → ¬ (G.1 ≤ a) → U.heap[a]? = s.heap[a]? := fun a _ g => hH a (Nat.not_le.mp g)
  refine ⟨h1.moved hW.alike, fun w hw hn => ?_, ⟨h3.1.moved hW.alike, h3.2.moved hW.alike⟩, fun k hk4 => ((h4 k hk4).kept hk).moved hW.alike, fun k k1 k4 => ((h5 k k1 k4).kept hk).moved hW.alike⟩
  have g := h2 w hw hn
  cases w <;> first | exact va_Nw.warmM hW g | exact va_Nw.warmF hW g | (simp [xnest] at hn)
/-- the words that every method takes along -/
def gws : List Jvm.Cond := lw_tbl.filter goodWord
theorem gws_in {w : Jvm.Cond} (h : w ∈ lw_tbl) (g : goodWord w = true) : w ∈ gws := List.mem_filter.mpr ⟨h, g⟩
theorem gws_good (y : Jvm.Cond) (hy : y ∈ gws) : GoodIn gws (y :: gws) := by
  have h : ∀ w ∈ gws, w ∈ gws ∧ ((w.onTables && w.keeps) = true ∨ ∃ ty, w = .arrayClass ty) := fun w hw => ⟨hw, good_of_word (List.mem_filter.mp hw).2⟩
  intro w hw
  rcases List.mem_cons.mp hw with rfl | hw
  · exact h _ hy
  · exact h w hw
theorem xv_cat (r : Nat → Nat) (v : Value) : (xv r v).category = v.category := by cases v <;> rfl
theorem xwide_cat (v : Value) : xwide v = decide (v.category = 2) := by cases v <;> rfl
theorem xget_mem {l : xL} {i : Nat} {v : Value} (h : xget l i = some v) : (i, v) ∈ l := by
  induction l with
  | nil => cases h
  | cons q t ih =>
    obtain ⟨j, w⟩ := q
    simp only [xget] at h
    cases hb : Nat.beq j i with
    | true => rw [hb] at h; cases h; have := Nat.eq_of_beq_eq_true hb; subst this; exact List.mem_cons_self
    | false => rw [hb] at h; exact List.mem_cons_of_mem _ (ih h)
theorem xput_mem {l : xL} {i : Nat} {v : Value} {q : Nat × Value} (h : q ∈ xput l i v) : q = (i, v) ∨ q ∈ l := by
  induction l with
  | nil => simp only [xput, List.mem_singleton] at h; exact Or.inl h
  | cons p t ih =>
    obtain ⟨j, w⟩ := p
    simp only [xput] at h
    cases hb : Nat.blt i j with
    | true =>
      rw [hb] at h
      rcases List.mem_cons.mp h with e | e
      · exact Or.inl e
      · exact Or.inr e
    | false =>
      rw [hb] at h
      rcases List.mem_cons.mp h with e | e
      · exact Or.inr (e ▸ List.mem_cons_self)
      · rcases ih e with e | e
        · exact Or.inl e
        · exact Or.inr (List.mem_cons_of_mem _ e)
theorem xdel1_mem {l : xL} {i : Nat} {q : Nat × Value} (h : q ∈ xdel1 l i) : q ∈ l ∧ (!(q.1 == i) && !(q.1 + 1 == i && q.2.category == 2)) = true := by
  induction l with
  | nil => cases h
  | cons p t ih =>
    obtain ⟨j, w⟩ := p
    simp only [xdel1] at h
    cases hb : (Nat.beq j i || (Nat.beq (j + 1) i && xwide w)) with
    | true => rw [hb] at h; exact ⟨List.mem_cons_of_mem _ (ih h).1, (ih h).2⟩
    | false =>
      rw [hb] at h
      rcases List.mem_cons.mp h with e | e
      · subst e
        refine ⟨List.mem_cons_self, ?_⟩
        simp only [Bool.or_eq_false_iff, Bool.and_eq_false_iff] at hb
        have h1 : ¬ j = i := fun e => by rw [e] at hb; simp at hb
        rw [xwide_cat] at hb
        simp only [Bool.and_eq_true, Bool.not_eq_true', beq_eq_false_iff_ne, ne_eq, Bool.and_eq_false_iff]
        refine ⟨h1, ?_⟩
        rcases hb.2 with z | z
        · exact Or.inl (fun e => by rw [e] at z; simp at z)
        · exact Or.inr (by simpa using z)
      · exact ⟨List.mem_cons_of_mem _ (ih e).1, (ih e).2⟩
theorem xdel2_mem {l : xL} {i : Nat} {q : Nat × Value} (h : q ∈ xdel2 l i) : q ∈ l ∧ (!(q.1 == i) && (!(q.1 == i + 1) && !(q.1 + 1 == i && q.2.category == 2))) = true := by
  induction l with
  | nil => cases h
  | cons p t ih =>
    obtain ⟨j, w⟩ := p
    simp only [xdel2] at h
    cases hb : (Nat.beq j i || (Nat.beq j (i + 1) || (Nat.beq (j + 1) i && xwide w))) with
    | true => rw [hb] at h; exact ⟨List.mem_cons_of_mem _ (ih h).1, (ih h).2⟩
    | false =>
      rw [hb] at h
      rcases List.mem_cons.mp h with e | e
      · subst e
        refine ⟨List.mem_cons_self, ?_⟩
        simp only [Bool.or_eq_false_iff, Bool.and_eq_false_iff] at hb
        have h1 : ¬ j = i := fun e => by rw [e] at hb; simp at hb
        have h2 : ¬ j = i + 1 := fun e => by rw [e] at hb; simp at hb
        rw [xwide_cat] at hb
        simp only [Bool.and_eq_true, Bool.not_eq_true', beq_eq_false_iff_ne, ne_eq, Bool.and_eq_false_iff]
        refine ⟨h1, h2, ?_⟩
        rcases hb.2.2 with z | z
        · exact Or.inl (fun e => by rw [e] at z; simp at z)
        · exact Or.inr (by simpa using z)
      · exact ⟨List.mem_cons_of_mem _ (ih e).1, (ih e).2⟩
theorem lv_less {ls : Array Slot} {nL : Nat} {l l' : List (Nat × Value)} (h : lv_has ls nL l) (hs : ∀ q ∈ l', q ∈ l) : lv_has ls nL l' := ⟨h.1, h.2.1, fun q hq => h.2.2 q (hs q hq)⟩
theorem xset1_has {r : Nat → Nat} {ls : Array Slot} {nL : Nat} {l : xL} {i : Nat} {v : Value} (h : lv_has ls nL ((i, xv r v) :: (xvl r l).filter (fun q => !(q.1 == i) && !(q.1 + 1 == i && q.2.category == 2)))) : lv_has ls nL (xvl r (xset1 l i v)) := by
  refine lv_less h fun q hq => ?_
  obtain ⟨q0, h0, rfl⟩ := List.mem_map.mp hq
  rcases xput_mem h0 with rfl | h1
  · exact List.mem_cons_self
  · obtain ⟨h2, h3⟩ := xdel1_mem h1
    refine List.mem_cons_of_mem _ (List.mem_filter.mpr ⟨List.mem_map.mpr ⟨q0, h2, rfl⟩, ?_⟩)
    simpa only [xv_cat] using h3
theorem xset2_has {r : Nat → Nat} {ls : Array Slot} {nL : Nat} {l : xL} {i : Nat} {v : Value} (h : lv_has ls nL ((i, xv r v) :: (xvl r l).filter (fun q => !(q.1 == i) && (!(q.1 == i + 1) && !(q.1 + 1 == i && q.2.category == 2))))) : lv_has ls nL (xvl r (xset2 l i v)) := by
  refine lv_less h fun q hq => ?_
  obtain ⟨q0, h0, rfl⟩ := List.mem_map.mp hq
  rcases xput_mem h0 with rfl | h1
  · exact List.mem_cons_self
  · obtain ⟨h2, h3⟩ := xdel2_mem h1
    refine List.mem_cons_of_mem _ (List.mem_filter.mpr ⟨List.mem_map.mpr ⟨q0, h2, rfl⟩, ?_⟩)
    simpa only [xv_cat] using h3
theorem xvl_get {r : Nat → Nat} {ls : Array Slot} {nL : Nat} {l : xL} {i : Nat} {v : Value} (h : lv_has ls nL (xvl r l)) (hg : xget l i = some v) : ls[i]? = some (.val (xv r v)) := h.2.2 (i, xv r v) (List.mem_map.mpr ⟨(i, v), xget_mem hg, rfl⟩)
theorem xargs_eq (i : Nat) (vs : List Value) : xargs i vs = lv_args i vs := by
  induction vs generalizing i with
  | nil => rfl
  | cons v t ih =>
    simp only [xargs, lv_args, ih, xwide_cat]
    by_cases h : v.category = 2 <;> simp [h]
theorem xargs_map (r : Nat → Nat) (i : Nat) (vs : List Value) : xvl r (xargs i vs) = lv_args i (vs.map (xv r)) := by
  rw [xargs_eq]
  induction vs generalizing i with
  | nil => rfl
  | cons v t ih =>
    simp only [lv_args, List.map_cons, xv_cat]
    exact congrArg _ (ih _)
theorem xwords_eq (r : Nat → Nat) (vs : List Value) : (lg_sl (vs.map (xv r))).length = xwords vs := by
  induction vs with
  | nil => rfl
  | cons v t ih =>
    simp only [lg_sl, List.map_cons, List.flatMap_cons, List.length_append, xwords, xwide_cat, xv_cat] at ih ⊢
    by_cases h : v.category = 2 <;> simp [h, ih]
theorem xroom_sum {n : Nat} {vs : List Value} (r : Nat → Nat) (h : xroom n vs = true) : ((vs.map (xv r)).map fun v => v.category).sum ≤ n := by
  induction vs generalizing n with
  | nil => exact Nat.zero_le _
  | cons v t ih =>
    cases n with
    | zero => simp [xroom] at h
    | succ n =>
      unfold xroom at h
      simp only [List.map_cons, List.sum_cons, xv_cat]
      cases hw : xwide v with
      | true =>
        rw [hw] at h
        have hc : v.category = 2 := by simpa [xwide_cat] using hw
        cases n with
        | zero => simp at h
        | succ n => have := ih (n := n) (by simpa using h); omega
      | false =>
        rw [hw] at h
        have hc : v.category = 1 := by
          rcases lv_cat v with z | z
          · exact z
          · rw [xwide_cat, z] at hw; simp at hw
        have := ih (n := n) (by simpa using h)
        omega
theorem xin_in {i : Int32} {n : Nat} (h : xin i n = true) : ¬ (i < 0 ∨ n ≤ i.toNatClampNeg) := by
  simp only [xin, Bool.not_eq_true', Bool.or_eq_false_iff, decide_eq_false_iff_not] at h
  rintro (g | g)
  · exact h.1 g
  · have := Nat.ble_eq_true_of_le g; rw [this] at h; exact absurd h.2 (by decide)
theorem xpop_eq {n : Nat} {acc st as rest : List Value} (h : xpop n acc st = some (as, rest)) : ∃ t : List Value, t.length = n ∧ as = t.reverse ++ acc ∧ st = t ++ rest := by
  induction n generalizing acc st with
  | zero => cases h; exact ⟨[], rfl, rfl, rfl⟩
  | succ n ih =>
    cases st with
    | nil => cases h
    | cons v st =>
      obtain ⟨t, h1, h2, h3⟩ := ih h
      exact ⟨v :: t, by simp [h1], by simp [h2], by simp [h3]⟩
