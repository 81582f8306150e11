/-! the memory once both objects are made: what the cells are, which refer to which; then bodies and calls over it -/
def xLAY : List (Nat × Nat) := [(8, 10), (5, 3), (20, 64), (20, 64), (1, 3), (20, 8), (20, 2), (20, 4), (6, 5), (20, 64), (0, 9), (21, 64), (21, 64), (21, 64), (20, 64), (21, 64), (7, 8), (21, 64), (2, 3), (20, 16), (23, 2), (24, 2), (3, 1), (20, 24), (4, 5), (20, 64), (20, 64), (3, 1), (20, 24), (4, 5), (20, 64), (20, 64), (9, 21), (20, 64), (20, 64), (20, 14), (20, 48), (20, 64), (20, 64), (22, 4096), (20, 1088), (22, 65), (22, 65), (22, 2), (22, 2), (20, 2), (20, 128), (20, 128), (20, 16), (22, 65)]
def xMRT : List (List Nat) := [[1, 4, 8, 10, 16, 18, 20, 21], [2, 3], [], [], [5, 6, 7], [], [], [], [1, 9], [], [1, 8, 11, 12, 13, 14, 15], [], [], [], [], [], [1, 4, 8, 10, 17], [], [1, 19], [], [22, 27], [24, 29], [23], [], [25, 26], [], [], [28], [], [30, 31], [], [], [33, 34, 0, 35, 36, 0, 0, 37, 38, 39, 0, 40, 41, 42, 43, 44, 45, 46, 47, 48, 49], [], [], [], [], [], [], [], [], [], [], [], [], [], [], [], [], []]
def xMR (L a k : Nat) : Option Nat := bif Nat.beq a 1000 then xmr0 L 1000 k else (match (xMRT.getD a []).getD k 0 with
  | 0 => none
  | b + 1 => some (b + 1))
abbrev xmi : Type := Nat → Nat → Int32
abbrev xml : Type := Nat → Nat → Int64
abbrev XM (L : Nat) (mi : xmi) (ml : xml) : xM := (xLAY, xMR L, mi, ml)
abbrev xlim : Nat × Nat := (50, 6963)
/-- method j, called with as over mi, ml, comes back with Q -/
def xF (d j : Nat) (as : List Value) (L : Nat) (mi : xmi) (ml : xml) (Q : Option Value → xmi → xml → Prop) : Prop := xC d j as (XM L mi ml) 0 0 (fun r M => ∃ a b, M = XM L a b ∧ Q r a b)
/-- a body -/
def xB (d : Nat) (mt : xMt) (L : Nat) (Q : Option Value → xmi → xml → Prop) (s : xS) : Prop := xR (xC d) mt xlim (fun r M => ∃ a b, M = XM L a b ∧ Q r a b) s
theorem xF.mk {d j : Nat} {as : List Value} {L : Nat} {mi : xmi} {ml : xml} {Q : Option Value → xmi → xml → Prop} (mt : xMt) (hj : xtab[j]? = some mt) (hw : Nat.ble (xwords as) mt.2.2.2.2.2.1 = true) (h : xB d mt L Q (0, xargs 0 as, [], XM L mi ml)) : xF (d + 1) j as L mi ml Q := by
  refine ⟨mt, hj, Nat.le_of_ble_eq_true hw, xR.po h (fun r M q => ⟨q, ?_, ?_⟩)⟩
  · obtain ⟨a, b, rfl, -⟩ := q; rfl
  · obtain ⟨a, b, rfl, -⟩ := q; rfl
theorem xF.po {d j : Nat} {as : List Value} {L : Nat} {mi : xmi} {ml : xml} {Q Q' : Option Value → xmi → xml → Prop} (h : xF d j as L mi ml Q) (k : ∀ r a b, Q r a b → Q' r a b) : xF d j as L mi ml Q' := xC.po h (fun r M ⟨a, b, e, q⟩ => ⟨a, b, e, k r a b q⟩)
section XB
variable {d : Nat} {mt : xMt} {L : Nat} {Q : Option Value → xmi → xml → Prop} {s : xS}
theorem xB.go (n : Nat) (s' : xS) (h : xmany mt xlim n s = some s') (k : xB d mt L Q s') : xB d mt L Q s := xR.go n s' h k
theorem xB.bp (c : Prop) [inst : Decidable c] (s1 s2 : xS) (h : xstep mt xlim s = bif decide c then some s1 else some s2) (k1 : c → xB d mt L Q s1) (k2 : ¬ c → xB d mt L Q s2) : xB d mt L Q s := xR.br (decide c) s1 s2 h (fun h => k1 (of_decide_eq_true h)) (fun h => k2 (of_decide_eq_false h))
theorem xb_eq0 {p : Prop} [Decidable p] : xb p = 0 ↔ ¬ p := by
  unfold xb; split
  · rename_i h; exact ⟨fun z => absurd z (by decide), fun z => absurd h z⟩
  · rename_i h; exact ⟨fun _ => h, fun _ => rfl⟩
theorem xb_t {p : Prop} [Decidable p] (h : p) : xb p = 1 := if_pos h
theorem xb_f {p : Prop} [Decidable p] (h : ¬ p) : xb p = 0 := if_neg h
theorem xz_xb {p : Prop} [Decidable p] : xz (xb p) = true := by unfold xb; split <;> rfl
/-- ifeq over a truth value: to s1 if it is false -/
theorem xB.bz (p : Prop) [Decidable p] (s1 s2 : xS) (h : xstep mt xlim s = bif decide (xb p = 0) then some s1 else some s2) (k1 : ¬ p → xB d mt L Q s1) (k2 : p → xB d mt L Q s2) : xB d mt L Q s := xB.bp (xb p = 0) s1 s2 h (fun h => k1 (xb_eq0.mp h)) (fun h => k2 (Decidable.byContradiction (fun z => h (xb_eq0.mpr z))))
/-- ifne over a truth value: to s1 if it is true -/
theorem xB.bn (p : Prop) [Decidable p] (s1 s2 : xS) (h : xstep mt xlim s = bif decide (¬ xb p = 0) then some s1 else some s2) (k1 : p → xB d mt L Q s1) (k2 : ¬ p → xB d mt L Q s2) : xB d mt L Q s := xB.bp (¬ xb p = 0) s1 s2 h (fun h => k1 (Decidable.byContradiction (fun z => h (xb_eq0.mpr z)))) (fun h => k2 (xb_eq0.mp (Decidable.not_not.mp h)))
theorem xB.ck (c : Bool) (s' : xS) (h : xstep mt xlim s = bif c then some s' else none) (hc : c = true) (k : xB d mt L Q s') : xB d mt L Q s := xR.ck c s' h hc k
theorem xB.fo (ls : xL) {pc : Nat} {ls0 : xL} {st : List Value} {M : xM} (h : ∀ q ∈ ls, q ∈ ls0) (k : xB d mt L Q (pc, ls, st, M)) : xB d mt L Q (pc, ls0, st, M) := xR.fo ls h k
theorem xB.rt (r : Option Value) (mi : xmi) (ml : xml) (h : xret mt s = some (r, XM L mi ml)) (k : Q r mi ml) : xB d mt L Q s := xR.rt r _ h ⟨mi, ml, rfl, k⟩
theorem xB.rz (v : Int32) (mi : xmi) (ml : xml) (h : xret mt s = bif xz v then some (some (.int v), XM L mi ml) else none) (hz : xz v = true) (k : Q (some (.int v)) mi ml) : xB d mt L Q s := xR.rt (some (.int v)) (XM L mi ml) (by rw [h, hz]; rfl) ⟨mi, ml, rfl, k⟩
theorem xB.ca (j : Nat) (as rest : List Value) {pc : Nat} {ls : xL} {st : List Value} {mi : xmi} {ml : xml} {Q' : Option Value → xmi → xml → Prop} (hF : xF d j as L mi ml Q') (h : xcall mt (pc, ls, st, XM L mi ml) = some (j, as, rest)) (k : ∀ r a b, Q' r a b → xB d mt L Q (xback (pc, ls, st, XM L mi ml) rest r (XM L a b))) : xB d mt L Q (pc, ls, st, XM L mi ml) :=
  xR.ca j as rest 0 0 h (Nat.le_refl _) (Nat.le_refl _) hF (fun r M ⟨a, b, e, q⟩ => by subst e; exact k r a b q)
/-- a call whose end is known: an answer -/
theorem xB.c1 (j : Nat) (as rest : List Value) {pc : Nat} {ls : xL} {st : List Value} {mi : xmi} {ml : xml} {v : Value} {a : xmi} {b : xml} (hF : xF d j as L mi ml (fun r x y => r = some v ∧ x = a ∧ y = b)) (h : xcall mt (pc, ls, st, XM L mi ml) = some (j, as, rest)) (k : xB d mt L Q (pc + 3, ls, v :: rest, XM L a b)) : xB d mt L Q (pc, ls, st, XM L mi ml) :=
  xB.ca j as rest hF h (fun r x y ⟨h1, h2, h3⟩ => by subst h1; subst h2; subst h3; exact k)
/-- a call whose end is known: no answer -/
theorem xB.c0 (j : Nat) (as rest : List Value) {pc : Nat} {ls : xL} {st : List Value} {mi : xmi} {ml : xml} {a : xmi} {b : xml} (hF : xF d j as L mi ml (fun r x y => r = none ∧ x = a ∧ y = b)) (h : xcall mt (pc, ls, st, XM L mi ml) = some (j, as, rest)) (k : xB d mt L Q (pc + 3, ls, rest, XM L a b)) : xB d mt L Q (pc, ls, st, XM L mi ml) :=
  xB.ca j as rest hF h (fun r x y ⟨h1, h2, h3⟩ => by subst h1; subst h2; subst h3; exact k)
end XB
/-- a method that answers and changes nothing -/
abbrev xFr (d j : Nat) (as : List Value) (L : Nat) (mi : xmi) (ml : xml) (v : Value) : Prop := xF d j as L mi ml (fun r x y => r = some v ∧ x = mi ∧ y = ml)
abbrev xFv (d j : Nat) (as : List Value) (L : Nat) (mi : xmi) (ml : xml) (v : Value) (a : xmi) (b : xml) : Prop := xF d j as L mi ml (fun r x y => r = some v ∧ x = a ∧ y = b)
abbrev xFn (d j : Nat) (as : List Value) (L : Nat) (mi : xmi) (ml : xml) (a : xmi) (b : xml) : Prop := xF d j as L mi ml (fun r x y => r = none ∧ x = a ∧ y = b)
