/-! THE LAW'S BODY behind the two constructors -/
abbrev xlL : Nat × Nat := (600000, 7302250)
def xBL (L : Nat) (s : xS) : Prop := xR (xC 10) mL_law xlL (fun r M => ∃ a b, M = XM L a b ∧ r = some (.int 1)) s
section XBL
variable {L : Nat} {s : xS}
theorem xBL.go (n : Nat) (s' : xS) (h : xmany mL_law xlL n s = some s') (k : xBL L s') : xBL L s := xR.go n s' h k
theorem xBL.bp (c : Prop) [inst : Decidable c] (s1 s2 : xS) (h : xstep mL_law xlL s = bif decide c then some s1 else some s2) (k1 : c → xBL L s1) (k2 : ¬ c → xBL L s2) : xBL L s := xR.br (decide c) s1 s2 h (fun h => k1 (of_decide_eq_true h)) (fun h => k2 (of_decide_eq_false h))
theorem xBL.ck (c : Bool) (s' : xS) (h : xstep mL_law xlL s = bif c then some s' else none) (hc : c = true) (k : xBL L s') : xBL L s := xR.ck c s' h hc k
theorem xBL.st (s' : xS) (h : xstep mL_law xlL s = some s') (k : xBL L s') : xBL L s := xR.st s' h k
theorem xBL.tp {x y : Int32} {pc : Nat} {ls : xL} {st : List Value} {M : xM} (h : x = y) (k : xBL L (pc, ls, .int y :: st, M)) : xBL L (pc, ls, .int x :: st, M) := h ▸ k
theorem xBL.cg (s' : xS) (h : s = s') (k : xBL L s') : xBL L s := h ▸ k
theorem xBL.ca (j : Nat) (as rest : List Value) {pc : Nat} {ls : xL} {st : List Value} {mi : xmi} {ml : xml} {Q' : Option Value → xmi → xml → Prop} (hF : xF 10 j as L mi ml Q') (h : xcall mL_law (pc, ls, st, XM L mi ml) = some (j, as, rest)) (k : ∀ r a b, Q' r a b → xBL L (xback (pc, ls, st, XM L mi ml) rest r (XM L a b))) : xBL L (pc, ls, st, XM L mi ml) :=
  xR.ca j as rest 0 0 h (by show xLAY.length + 0 ≤ 600000; decide) (by show xsuml xLAY + 0 ≤ 7302250; decide) hF (fun r M ⟨a, b, e, q⟩ => by subst e; exact k r a b q)
theorem xswL {mt : xMt} {lim : Nat × Nat} {pc len op t : Nat} {dd lo hi : Int} {offs : Array Int} {x : Int32} {ls : xL} {st : List Value} {M : xM} (hat : xat mt pc = some (.tableswitch dd lo hi offs, len, op)) (hx : x.toInt < lo ∨ hi < x.toInt) (ht : (pc : Int) + dd = Int.ofNat t) : xstep mt lim (pc, ls, .int x :: st, M) = some (t, ls, st, M) := by
  have hb : (decide (x.toInt < lo) || decide (hi < x.toInt)) = true := by simpa using hx
  simp only [xstep, hat, xins, hb, cond_true, xto, ht]
end XBL
theorem law_in {L i : Nat} (c : Nat) (hL : L ≤ 2560) (h : i + c < L) : xin (nI i + nI c) L = true := xin_of h (by omega) (nI_addX i c)
theorem law_rd {L i : Nat} (c : Nat) {mi : xmi} {xs : Nat → Int32} (hL : L ≤ 2560) (h : i + c < L) (h0 : mi 1000 = xs) : mi 1000 (nI i + nI c).toNatClampNeg = xs (i + c) := by rw [nI_addX, nI_clamp (by omega), h0]
theorem law_t {L i : Nat} (hL : L ≤ 2560) (hi : i ≤ L) (h : ¬ (Int32.ofNat L - 5 < nI i)) : i + 5 ≤ L := by
  by_cases h5 : 5 ≤ L
  · rw [show Int32.ofNat L - 5 = nI (L - 5) from nI_subeq (t := 5) h5] at h
    have := nI_nltX (by omega) (by omega) h
    omega
  · exfalso; apply h
    have g : Int32.ofNat L - 5 < 0 := (nI_subneg (h := L) (t := 5) (by omega) (by omega)).mpr (by omega)
    rw [Int32.lt_iff_toInt_lt, Int32.toInt_zero] at g
    rw [Int32.lt_iff_toInt_lt, nI_toInt (by omega)]
    omega
set_option maxRecDepth 100000 in
theorem law_0 {L i : Nat} {xs : Nat → Int32} {mi : xmi} {ml : xml} (hL : L ≤ 2560) (hi : i + 5 ≤ L) (hI : INV xs mi ml) (ih : ∀ a b, INV xs a b → xBL L (544, [(0, .ref 1000), (1, .ref 0), (2, .ref 32), (3, .int (nI i))], [], XM L a b)) : xBL L (104, [(0, .ref 1000), (1, .ref 0), (2, .ref 32), (3, .int (nI i))], [], XM L mi ml) := by
  obtain ⟨MID, f1, f2⟩ := p_instruction (L := L) hI (xs (i + 1)) (xs (i + 2))
  refine xBL.go 5 (109, [(0, .ref 1000), (1, .ref 0), (2, .ref 32), (3, .int (nI i))], [.int (nI i + 1), .ref 1000, .ref 0], XM L mi ml) rfl ?_
  refine xBL.ck (xin (nI i + 1) L) (110, [(0, .ref 1000), (1, .ref 0), (2, .ref 32), (3, .int (nI i))], [.int (mi 1000 (nI i + 1).toNatClampNeg), .ref 0], XM L mi ml) rfl (law_in 1 hL (by omega)) ?_
  refine xBL.tp (law_rd 1 hL (by omega) hI.scr) ?_
  refine xBL.go 4 (114, [(0, .ref 1000), (1, .ref 0), (2, .ref 32), (3, .int (nI i))], [.int (nI i + 2), .ref 1000, .int (xs (i + 1)), .ref 0], XM L mi ml) rfl ?_
  refine xBL.ck (xin (nI i + 2) L) (115, [(0, .ref 1000), (1, .ref 0), (2, .ref 32), (3, .int (nI i))], [.int (mi 1000 (nI i + 2).toNatClampNeg), .int (xs (i + 1)), .ref 0], XM L mi ml) rfl (law_in 2 hL (by omega)) ?_
  refine xBL.tp (law_rd 2 hL (by omega) hI.scr) ?_
  refine xBL.ca 68 [.ref 0, .int (xs (i + 1)), .int (xs (i + 2))] [] f1 rfl ?_
  rintro r a b ⟨v, rfl, hm⟩
  obtain ⟨ha, f3⟩ := f2 v a b hm
  refine xBL.go 5 (123, [(0, .ref 1000), (1, .ref 0), (2, .ref 32), (3, .int (nI i))], [.int (nI i + 1), .ref 1000, .ref 32, .int v], XM L a b) rfl ?_
  refine xBL.ck (xin (nI i + 1) L) (124, [(0, .ref 1000), (1, .ref 0), (2, .ref 32), (3, .int (nI i))], [.int (a 1000 (nI i + 1).toNatClampNeg), .ref 32, .int v], XM L a b) rfl (law_in 1 hL (by omega)) ?_
  refine xBL.tp (law_rd 1 hL (by omega) ha) ?_
  refine xBL.go 4 (128, [(0, .ref 1000), (1, .ref 0), (2, .ref 32), (3, .int (nI i))], [.int (nI i + 2), .ref 1000, .int (xs (i + 1)), .ref 32, .int v], XM L a b) rfl ?_
  refine xBL.ck (xin (nI i + 2) L) (129, [(0, .ref 1000), (1, .ref 0), (2, .ref 32), (3, .int (nI i))], [.int (a 1000 (nI i + 2).toNatClampNeg), .int (xs (i + 1)), .ref 32, .int v], XM L a b) rfl (law_in 2 hL (by omega)) ?_
  refine xBL.tp (law_rd 2 hL (by omega) ha) ?_
  refine xBL.ca 94 [.ref 32, .int (xs (i + 1)), .int (xs (i + 2))] [.int v] f3 rfl ?_
  rintro r a' b' ⟨rfl, hJ⟩
  refine xBL.bp (v = v) (544, [(0, .ref 1000), (1, .ref 0), (2, .ref 32), (3, .int (nI i))], [], XM L a' b') (135, [(0, .ref 1000), (1, .ref 0), (2, .ref 32), (3, .int (nI i))], [], XM L a' b') rfl (fun _ => ih a' b' hJ) (fun z => absurd rfl z)
set_option maxRecDepth 100000 in
theorem law_1 {L i : Nat} {xs : Nat → Int32} {mi : xmi} {ml : xml} (hL : L ≤ 2560) (hi : i + 5 ≤ L) (hI : INV xs mi ml) (ih : ∀ a b, INV xs a b → xBL L (544, [(0, .ref 1000), (1, .ref 0), (2, .ref 32), (3, .int (nI i))], [], XM L a b)) : xBL L (137, [(0, .ref 1000), (1, .ref 0), (2, .ref 32), (3, .int (nI i))], [], XM L mi ml) := by
  obtain ⟨MID, f1, f2⟩ := p_clear (L := L) hI 
  refine xBL.go 1 (138, [(0, .ref 1000), (1, .ref 0), (2, .ref 32), (3, .int (nI i))], [.ref 0], XM L mi ml) rfl ?_
  refine xBL.ca 69 [.ref 0] [] f1 rfl ?_
  rintro r a b ⟨rfl, hm⟩
  obtain ⟨ha, f3⟩ := f2 a b hm
  refine xBL.go 1 (142, [(0, .ref 1000), (1, .ref 0), (2, .ref 32), (3, .int (nI i))], [.ref 32], XM L a b) rfl ?_
  refine xBL.ca 95 [.ref 32] [] f3 rfl ?_
  rintro r a' b' ⟨rfl, hJ⟩
  refine xBL.go 1 (544, [(0, .ref 1000), (1, .ref 0), (2, .ref 32), (3, .int (nI i))], [], XM L a' b') rfl ?_
  exact ih a' b' hJ
set_option maxRecDepth 100000 in
theorem law_2 {L i : Nat} {xs : Nat → Int32} {mi : xmi} {ml : xml} (hL : L ≤ 2560) (hi : i + 5 ≤ L) (hI : INV xs mi ml) (ih : ∀ a b, INV xs a b → xBL L (544, [(0, .ref 1000), (1, .ref 0), (2, .ref 32), (3, .int (nI i))], [], XM L a b)) : xBL L (148, [(0, .ref 1000), (1, .ref 0), (2, .ref 32), (3, .int (nI i))], [], XM L mi ml) := by
  obtain ⟨MID, f1, f2⟩ := p_level (L := L) hI (xs (i + 1)) (xs (i + 2)) (xs (i + 3))
  refine xBL.go 5 (153, [(0, .ref 1000), (1, .ref 0), (2, .ref 32), (3, .int (nI i))], [.int (nI i + 1), .ref 1000, .ref 0], XM L mi ml) rfl ?_
  refine xBL.ck (xin (nI i + 1) L) (154, [(0, .ref 1000), (1, .ref 0), (2, .ref 32), (3, .int (nI i))], [.int (mi 1000 (nI i + 1).toNatClampNeg), .ref 0], XM L mi ml) rfl (law_in 1 hL (by omega)) ?_
  refine xBL.tp (law_rd 1 hL (by omega) hI.scr) ?_
  refine xBL.go 4 (158, [(0, .ref 1000), (1, .ref 0), (2, .ref 32), (3, .int (nI i))], [.int (nI i + 2), .ref 1000, .int (xs (i + 1)), .ref 0], XM L mi ml) rfl ?_
  refine xBL.ck (xin (nI i + 2) L) (159, [(0, .ref 1000), (1, .ref 0), (2, .ref 32), (3, .int (nI i))], [.int (mi 1000 (nI i + 2).toNatClampNeg), .int (xs (i + 1)), .ref 0], XM L mi ml) rfl (law_in 2 hL (by omega)) ?_
  refine xBL.tp (law_rd 2 hL (by omega) hI.scr) ?_
  refine xBL.go 4 (163, [(0, .ref 1000), (1, .ref 0), (2, .ref 32), (3, .int (nI i))], [.int (nI i + 3), .ref 1000, .int (xs (i + 2)), .int (xs (i + 1)), .ref 0], XM L mi ml) rfl ?_
  refine xBL.ck (xin (nI i + 3) L) (164, [(0, .ref 1000), (1, .ref 0), (2, .ref 32), (3, .int (nI i))], [.int (mi 1000 (nI i + 3).toNatClampNeg), .int (xs (i + 2)), .int (xs (i + 1)), .ref 0], XM L mi ml) rfl (law_in 3 hL (by omega)) ?_
  refine xBL.tp (law_rd 3 hL (by omega) hI.scr) ?_
  refine xBL.ca 70 [.ref 0, .int (xs (i + 1)), .int (xs (i + 2)), .int (xs (i + 3))] [] f1 rfl ?_
  rintro r a b ⟨v, rfl, hm⟩
  obtain ⟨ha, f3⟩ := f2 v a b hm
  refine xBL.go 5 (172, [(0, .ref 1000), (1, .ref 0), (2, .ref 32), (3, .int (nI i))], [.int (nI i + 1), .ref 1000, .ref 32, .int v], XM L a b) rfl ?_
  refine xBL.ck (xin (nI i + 1) L) (173, [(0, .ref 1000), (1, .ref 0), (2, .ref 32), (3, .int (nI i))], [.int (a 1000 (nI i + 1).toNatClampNeg), .ref 32, .int v], XM L a b) rfl (law_in 1 hL (by omega)) ?_
  refine xBL.tp (law_rd 1 hL (by omega) ha) ?_
  refine xBL.go 4 (177, [(0, .ref 1000), (1, .ref 0), (2, .ref 32), (3, .int (nI i))], [.int (nI i + 2), .ref 1000, .int (xs (i + 1)), .ref 32, .int v], XM L a b) rfl ?_
  refine xBL.ck (xin (nI i + 2) L) (178, [(0, .ref 1000), (1, .ref 0), (2, .ref 32), (3, .int (nI i))], [.int (a 1000 (nI i + 2).toNatClampNeg), .int (xs (i + 1)), .ref 32, .int v], XM L a b) rfl (law_in 2 hL (by omega)) ?_
  refine xBL.tp (law_rd 2 hL (by omega) ha) ?_
  refine xBL.go 4 (182, [(0, .ref 1000), (1, .ref 0), (2, .ref 32), (3, .int (nI i))], [.int (nI i + 3), .ref 1000, .int (xs (i + 2)), .int (xs (i + 1)), .ref 32, .int v], XM L a b) rfl ?_
  refine xBL.ck (xin (nI i + 3) L) (183, [(0, .ref 1000), (1, .ref 0), (2, .ref 32), (3, .int (nI i))], [.int (a 1000 (nI i + 3).toNatClampNeg), .int (xs (i + 2)), .int (xs (i + 1)), .ref 32, .int v], XM L a b) rfl (law_in 3 hL (by omega)) ?_
  refine xBL.tp (law_rd 3 hL (by omega) ha) ?_
  refine xBL.ca 96 [.ref 32, .int (xs (i + 1)), .int (xs (i + 2)), .int (xs (i + 3))] [.int v] f3 rfl ?_
  rintro r a' b' ⟨rfl, hJ⟩
  refine xBL.bp (v = v) (544, [(0, .ref 1000), (1, .ref 0), (2, .ref 32), (3, .int (nI i))], [], XM L a' b') (189, [(0, .ref 1000), (1, .ref 0), (2, .ref 32), (3, .int (nI i))], [], XM L a' b') rfl (fun _ => ih a' b' hJ) (fun z => absurd rfl z)
set_option maxRecDepth 100000 in
theorem law_3 {L i : Nat} {xs : Nat → Int32} {mi : xmi} {ml : xml} (hL : L ≤ 2560) (hi : i + 5 ≤ L) (hI : INV xs mi ml) (ih : ∀ a b, INV xs a b → xBL L (544, [(0, .ref 1000), (1, .ref 0), (2, .ref 32), (3, .int (nI i))], [], XM L a b)) : xBL L (191, [(0, .ref 1000), (1, .ref 0), (2, .ref 32), (3, .int (nI i))], [], XM L mi ml) := by
  obtain ⟨MID, f1, f2⟩ := p_check (L := L) hI 
  refine xBL.go 1 (192, [(0, .ref 1000), (1, .ref 0), (2, .ref 32), (3, .int (nI i))], [.ref 0], XM L mi ml) rfl ?_
  refine xBL.ca 71 [.ref 0] [] f1 rfl ?_
  rintro r a b ⟨v, rfl, hm⟩
  obtain ⟨ha, f3⟩ := f2 v a b hm
  refine xBL.go 1 (196, [(0, .ref 1000), (1, .ref 0), (2, .ref 32), (3, .int (nI i))], [.ref 32, .int v], XM L a b) rfl ?_
  refine xBL.ca 117 [.ref 32] [.int v] f3 rfl ?_
  rintro r a' b' ⟨rfl, hJ⟩
  refine xBL.bp (v = v) (544, [(0, .ref 1000), (1, .ref 0), (2, .ref 32), (3, .int (nI i))], [], XM L a' b') (202, [(0, .ref 1000), (1, .ref 0), (2, .ref 32), (3, .int (nI i))], [], XM L a' b') rfl (fun _ => ih a' b' hJ) (fun z => absurd rfl z)
set_option maxRecDepth 100000 in
theorem law_4 {L i : Nat} {xs : Nat → Int32} {mi : xmi} {ml : xml} (hL : L ≤ 2560) (hi : i + 5 ≤ L) (hI : INV xs mi ml) (ih : ∀ a b, INV xs a b → xBL L (544, [(0, .ref 1000), (1, .ref 0), (2, .ref 32), (3, .int (nI i))], [], XM L a b)) : xBL L (204, [(0, .ref 1000), (1, .ref 0), (2, .ref 32), (3, .int (nI i))], [], XM L mi ml) := by
  obtain ⟨MID, f1, f2⟩ := p_surrounding (L := L) hI (xs (i + 1))
  refine xBL.go 5 (209, [(0, .ref 1000), (1, .ref 0), (2, .ref 32), (3, .int (nI i))], [.int (nI i + 1), .ref 1000, .ref 0], XM L mi ml) rfl ?_
  refine xBL.ck (xin (nI i + 1) L) (210, [(0, .ref 1000), (1, .ref 0), (2, .ref 32), (3, .int (nI i))], [.int (mi 1000 (nI i + 1).toNatClampNeg), .ref 0], XM L mi ml) rfl (law_in 1 hL (by omega)) ?_
  refine xBL.tp (law_rd 1 hL (by omega) hI.scr) ?_
  refine xBL.ca 72 [.ref 0, .int (xs (i + 1))] [] f1 rfl ?_
  rintro r a b ⟨v, rfl, hm⟩
  obtain ⟨ha, f3⟩ := f2 v a b hm
  refine xBL.go 5 (218, [(0, .ref 1000), (1, .ref 0), (2, .ref 32), (3, .int (nI i))], [.int (nI i + 1), .ref 1000, .ref 32, .int v], XM L a b) rfl ?_
  refine xBL.ck (xin (nI i + 1) L) (219, [(0, .ref 1000), (1, .ref 0), (2, .ref 32), (3, .int (nI i))], [.int (a 1000 (nI i + 1).toNatClampNeg), .ref 32, .int v], XM L a b) rfl (law_in 1 hL (by omega)) ?_
  refine xBL.tp (law_rd 1 hL (by omega) ha) ?_
  refine xBL.ca 118 [.ref 32, .int (xs (i + 1))] [.int v] f3 rfl ?_
  rintro r a' b' ⟨rfl, hJ⟩
  refine xBL.bp (v = v) (544, [(0, .ref 1000), (1, .ref 0), (2, .ref 32), (3, .int (nI i))], [], XM L a' b') (225, [(0, .ref 1000), (1, .ref 0), (2, .ref 32), (3, .int (nI i))], [], XM L a' b') rfl (fun _ => ih a' b' hJ) (fun z => absurd rfl z)
set_option maxRecDepth 100000 in
theorem law_5 {L i : Nat} {xs : Nat → Int32} {mi : xmi} {ml : xml} (hL : L ≤ 2560) (hi : i + 5 ≤ L) (hI : INV xs mi ml) (ih : ∀ a b, INV xs a b → xBL L (544, [(0, .ref 1000), (1, .ref 0), (2, .ref 32), (3, .int (nI i))], [], XM L a b)) : xBL L (227, [(0, .ref 1000), (1, .ref 0), (2, .ref 32), (3, .int (nI i))], [], XM L mi ml) := by
  obtain ⟨MID, f1, f2⟩ := p_pile (L := L) hI (xs (i + 1)) (xs (i + 2))
  refine xBL.go 5 (232, [(0, .ref 1000), (1, .ref 0), (2, .ref 32), (3, .int (nI i))], [.int (nI i + 1), .ref 1000, .ref 0], XM L mi ml) rfl ?_
  refine xBL.ck (xin (nI i + 1) L) (233, [(0, .ref 1000), (1, .ref 0), (2, .ref 32), (3, .int (nI i))], [.int (mi 1000 (nI i + 1).toNatClampNeg), .ref 0], XM L mi ml) rfl (law_in 1 hL (by omega)) ?_
  refine xBL.tp (law_rd 1 hL (by omega) hI.scr) ?_
  refine xBL.go 4 (237, [(0, .ref 1000), (1, .ref 0), (2, .ref 32), (3, .int (nI i))], [.int (nI i + 2), .ref 1000, .int (xs (i + 1)), .ref 0], XM L mi ml) rfl ?_
  refine xBL.ck (xin (nI i + 2) L) (238, [(0, .ref 1000), (1, .ref 0), (2, .ref 32), (3, .int (nI i))], [.int (mi 1000 (nI i + 2).toNatClampNeg), .int (xs (i + 1)), .ref 0], XM L mi ml) rfl (law_in 2 hL (by omega)) ?_
  refine xBL.tp (law_rd 2 hL (by omega) hI.scr) ?_
  refine xBL.ca 73 [.ref 0, .int (xs (i + 1)), .int (xs (i + 2))] [] f1 rfl ?_
  rintro r a b ⟨v, rfl, hm⟩
  obtain ⟨ha, f3⟩ := f2 v a b hm
  refine xBL.go 5 (246, [(0, .ref 1000), (1, .ref 0), (2, .ref 32), (3, .int (nI i))], [.int (nI i + 1), .ref 1000, .ref 32, .int v], XM L a b) rfl ?_
  refine xBL.ck (xin (nI i + 1) L) (247, [(0, .ref 1000), (1, .ref 0), (2, .ref 32), (3, .int (nI i))], [.int (a 1000 (nI i + 1).toNatClampNeg), .ref 32, .int v], XM L a b) rfl (law_in 1 hL (by omega)) ?_
  refine xBL.tp (law_rd 1 hL (by omega) ha) ?_
  refine xBL.go 4 (251, [(0, .ref 1000), (1, .ref 0), (2, .ref 32), (3, .int (nI i))], [.int (nI i + 2), .ref 1000, .int (xs (i + 1)), .ref 32, .int v], XM L a b) rfl ?_
  refine xBL.ck (xin (nI i + 2) L) (252, [(0, .ref 1000), (1, .ref 0), (2, .ref 32), (3, .int (nI i))], [.int (a 1000 (nI i + 2).toNatClampNeg), .int (xs (i + 1)), .ref 32, .int v], XM L a b) rfl (law_in 2 hL (by omega)) ?_
  refine xBL.tp (law_rd 2 hL (by omega) ha) ?_
  refine xBL.ca 119 [.ref 32, .int (xs (i + 1)), .int (xs (i + 2))] [.int v] f3 rfl ?_
  rintro r a' b' ⟨rfl, hJ⟩
  refine xBL.bp (v = v) (544, [(0, .ref 1000), (1, .ref 0), (2, .ref 32), (3, .int (nI i))], [], XM L a' b') (258, [(0, .ref 1000), (1, .ref 0), (2, .ref 32), (3, .int (nI i))], [], XM L a' b') rfl (fun _ => ih a' b' hJ) (fun z => absurd rfl z)
set_option maxRecDepth 100000 in
theorem law_6 {L i : Nat} {xs : Nat → Int32} {mi : xmi} {ml : xml} (hL : L ≤ 2560) (hi : i + 5 ≤ L) (hI : INV xs mi ml) (ih : ∀ a b, INV xs a b → xBL L (544, [(0, .ref 1000), (1, .ref 0), (2, .ref 32), (3, .int (nI i))], [], XM L a b)) : xBL L (260, [(0, .ref 1000), (1, .ref 0), (2, .ref 32), (3, .int (nI i))], [], XM L mi ml) := by
  obtain ⟨MID, f1, f2⟩ := p_junction (L := L) hI (xs (i + 1))
  refine xBL.go 5 (265, [(0, .ref 1000), (1, .ref 0), (2, .ref 32), (3, .int (nI i))], [.int (nI i + 1), .ref 1000, .ref 0], XM L mi ml) rfl ?_
  refine xBL.ck (xin (nI i + 1) L) (266, [(0, .ref 1000), (1, .ref 0), (2, .ref 32), (3, .int (nI i))], [.int (mi 1000 (nI i + 1).toNatClampNeg), .ref 0], XM L mi ml) rfl (law_in 1 hL (by omega)) ?_
  refine xBL.tp (law_rd 1 hL (by omega) hI.scr) ?_
  refine xBL.ca 74 [.ref 0, .int (xs (i + 1))] [] f1 rfl ?_
  rintro r a b ⟨v, rfl, hm⟩
  obtain ⟨ha, f3⟩ := f2 v a b hm
  refine xBL.go 5 (274, [(0, .ref 1000), (1, .ref 0), (2, .ref 32), (3, .int (nI i))], [.int (nI i + 1), .ref 1000, .ref 32, .int v], XM L a b) rfl ?_
  refine xBL.ck (xin (nI i + 1) L) (275, [(0, .ref 1000), (1, .ref 0), (2, .ref 32), (3, .int (nI i))], [.int (a 1000 (nI i + 1).toNatClampNeg), .ref 32, .int v], XM L a b) rfl (law_in 1 hL (by omega)) ?_
  refine xBL.tp (law_rd 1 hL (by omega) ha) ?_
  refine xBL.ca 120 [.ref 32, .int (xs (i + 1))] [.int v] f3 rfl ?_
  rintro r a' b' ⟨rfl, hJ⟩
  refine xBL.bp (v = v) (544, [(0, .ref 1000), (1, .ref 0), (2, .ref 32), (3, .int (nI i))], [], XM L a' b') (281, [(0, .ref 1000), (1, .ref 0), (2, .ref 32), (3, .int (nI i))], [], XM L a' b') rfl (fun _ => ih a' b' hJ) (fun z => absurd rfl z)
set_option maxRecDepth 100000 in
theorem law_7 {L i : Nat} {xs : Nat → Int32} {mi : xmi} {ml : xml} (hL : L ≤ 2560) (hi : i + 5 ≤ L) (hI : INV xs mi ml) (ih : ∀ a b, INV xs a b → xBL L (544, [(0, .ref 1000), (1, .ref 0), (2, .ref 32), (3, .int (nI i))], [], XM L a b)) : xBL L (283, [(0, .ref 1000), (1, .ref 0), (2, .ref 32), (3, .int (nI i))], [], XM L mi ml) := by
  obtain ⟨MID, f1, f2⟩ := p_let (L := L) hI (xs (i + 1)) (xs (i + 2)) (xs (i + 3))
  refine xBL.go 5 (288, [(0, .ref 1000), (1, .ref 0), (2, .ref 32), (3, .int (nI i))], [.int (nI i + 1), .ref 1000, .ref 0], XM L mi ml) rfl ?_
  refine xBL.ck (xin (nI i + 1) L) (289, [(0, .ref 1000), (1, .ref 0), (2, .ref 32), (3, .int (nI i))], [.int (mi 1000 (nI i + 1).toNatClampNeg), .ref 0], XM L mi ml) rfl (law_in 1 hL (by omega)) ?_
  refine xBL.tp (law_rd 1 hL (by omega) hI.scr) ?_
  refine xBL.go 4 (293, [(0, .ref 1000), (1, .ref 0), (2, .ref 32), (3, .int (nI i))], [.int (nI i + 2), .ref 1000, .int (xs (i + 1)), .ref 0], XM L mi ml) rfl ?_
  refine xBL.ck (xin (nI i + 2) L) (294, [(0, .ref 1000), (1, .ref 0), (2, .ref 32), (3, .int (nI i))], [.int (mi 1000 (nI i + 2).toNatClampNeg), .int (xs (i + 1)), .ref 0], XM L mi ml) rfl (law_in 2 hL (by omega)) ?_
  refine xBL.tp (law_rd 2 hL (by omega) hI.scr) ?_
  refine xBL.go 4 (298, [(0, .ref 1000), (1, .ref 0), (2, .ref 32), (3, .int (nI i))], [.int (nI i + 3), .ref 1000, .int (xs (i + 2)), .int (xs (i + 1)), .ref 0], XM L mi ml) rfl ?_
  refine xBL.ck (xin (nI i + 3) L) (299, [(0, .ref 1000), (1, .ref 0), (2, .ref 32), (3, .int (nI i))], [.int (mi 1000 (nI i + 3).toNatClampNeg), .int (xs (i + 2)), .int (xs (i + 1)), .ref 0], XM L mi ml) rfl (law_in 3 hL (by omega)) ?_
  refine xBL.tp (law_rd 3 hL (by omega) hI.scr) ?_
  refine xBL.ca 75 [.ref 0, .int (xs (i + 1)), .int (xs (i + 2)), .int (xs (i + 3))] [] f1 rfl ?_
  rintro r a b ⟨v, rfl, hm⟩
  obtain ⟨ha, f3⟩ := f2 v a b hm
  refine xBL.go 5 (307, [(0, .ref 1000), (1, .ref 0), (2, .ref 32), (3, .int (nI i))], [.int (nI i + 1), .ref 1000, .ref 32, .int v], XM L a b) rfl ?_
  refine xBL.ck (xin (nI i + 1) L) (308, [(0, .ref 1000), (1, .ref 0), (2, .ref 32), (3, .int (nI i))], [.int (a 1000 (nI i + 1).toNatClampNeg), .ref 32, .int v], XM L a b) rfl (law_in 1 hL (by omega)) ?_
  refine xBL.tp (law_rd 1 hL (by omega) ha) ?_
  refine xBL.go 4 (312, [(0, .ref 1000), (1, .ref 0), (2, .ref 32), (3, .int (nI i))], [.int (nI i + 2), .ref 1000, .int (xs (i + 1)), .ref 32, .int v], XM L a b) rfl ?_
  refine xBL.ck (xin (nI i + 2) L) (313, [(0, .ref 1000), (1, .ref 0), (2, .ref 32), (3, .int (nI i))], [.int (a 1000 (nI i + 2).toNatClampNeg), .int (xs (i + 1)), .ref 32, .int v], XM L a b) rfl (law_in 2 hL (by omega)) ?_
  refine xBL.tp (law_rd 2 hL (by omega) ha) ?_
  refine xBL.go 4 (317, [(0, .ref 1000), (1, .ref 0), (2, .ref 32), (3, .int (nI i))], [.int (nI i + 3), .ref 1000, .int (xs (i + 2)), .int (xs (i + 1)), .ref 32, .int v], XM L a b) rfl ?_
  refine xBL.ck (xin (nI i + 3) L) (318, [(0, .ref 1000), (1, .ref 0), (2, .ref 32), (3, .int (nI i))], [.int (a 1000 (nI i + 3).toNatClampNeg), .int (xs (i + 2)), .int (xs (i + 1)), .ref 32, .int v], XM L a b) rfl (law_in 3 hL (by omega)) ?_
  refine xBL.tp (law_rd 3 hL (by omega) ha) ?_
  refine xBL.ca 121 [.ref 32, .int (xs (i + 1)), .int (xs (i + 2)), .int (xs (i + 3))] [.int v] f3 rfl ?_
  rintro r a' b' ⟨rfl, hJ⟩
  refine xBL.bp (v = v) (544, [(0, .ref 1000), (1, .ref 0), (2, .ref 32), (3, .int (nI i))], [], XM L a' b') (324, [(0, .ref 1000), (1, .ref 0), (2, .ref 32), (3, .int (nI i))], [], XM L a' b') rfl (fun _ => ih a' b' hJ) (fun z => absurd rfl z)
set_option maxRecDepth 100000 in
theorem law_8 {L i : Nat} {xs : Nat → Int32} {mi : xmi} {ml : xml} (hL : L ≤ 2560) (hi : i + 5 ≤ L) (hI : INV xs mi ml) (ih : ∀ a b, INV xs a b → xBL L (544, [(0, .ref 1000), (1, .ref 0), (2, .ref 32), (3, .int (nI i))], [], XM L a b)) : xBL L (326, [(0, .ref 1000), (1, .ref 0), (2, .ref 32), (3, .int (nI i))], [], XM L mi ml) := by
  obtain ⟨MID, f1, f2⟩ := p_lay (L := L) hI (xs (i + 1)) (xs (i + 2)) (xs (i + 3)) (xs (i + 4))
  refine xBL.go 5 (331, [(0, .ref 1000), (1, .ref 0), (2, .ref 32), (3, .int (nI i))], [.int (nI i + 1), .ref 1000, .ref 0], XM L mi ml) rfl ?_
  refine xBL.ck (xin (nI i + 1) L) (332, [(0, .ref 1000), (1, .ref 0), (2, .ref 32), (3, .int (nI i))], [.int (mi 1000 (nI i + 1).toNatClampNeg), .ref 0], XM L mi ml) rfl (law_in 1 hL (by omega)) ?_
  refine xBL.tp (law_rd 1 hL (by omega) hI.scr) ?_
  refine xBL.go 4 (336, [(0, .ref 1000), (1, .ref 0), (2, .ref 32), (3, .int (nI i))], [.int (nI i + 2), .ref 1000, .int (xs (i + 1)), .ref 0], XM L mi ml) rfl ?_
  refine xBL.ck (xin (nI i + 2) L) (337, [(0, .ref 1000), (1, .ref 0), (2, .ref 32), (3, .int (nI i))], [.int (mi 1000 (nI i + 2).toNatClampNeg), .int (xs (i + 1)), .ref 0], XM L mi ml) rfl (law_in 2 hL (by omega)) ?_
  refine xBL.tp (law_rd 2 hL (by omega) hI.scr) ?_
  refine xBL.go 4 (341, [(0, .ref 1000), (1, .ref 0), (2, .ref 32), (3, .int (nI i))], [.int (nI i + 3), .ref 1000, .int (xs (i + 2)), .int (xs (i + 1)), .ref 0], XM L mi ml) rfl ?_
  refine xBL.ck (xin (nI i + 3) L) (342, [(0, .ref 1000), (1, .ref 0), (2, .ref 32), (3, .int (nI i))], [.int (mi 1000 (nI i + 3).toNatClampNeg), .int (xs (i + 2)), .int (xs (i + 1)), .ref 0], XM L mi ml) rfl (law_in 3 hL (by omega)) ?_
  refine xBL.tp (law_rd 3 hL (by omega) hI.scr) ?_
  refine xBL.go 4 (346, [(0, .ref 1000), (1, .ref 0), (2, .ref 32), (3, .int (nI i))], [.int (nI i + 4), .ref 1000, .int (xs (i + 3)), .int (xs (i + 2)), .int (xs (i + 1)), .ref 0], XM L mi ml) rfl ?_
  refine xBL.ck (xin (nI i + 4) L) (347, [(0, .ref 1000), (1, .ref 0), (2, .ref 32), (3, .int (nI i))], [.int (mi 1000 (nI i + 4).toNatClampNeg), .int (xs (i + 3)), .int (xs (i + 2)), .int (xs (i + 1)), .ref 0], XM L mi ml) rfl (law_in 4 hL (by omega)) ?_
  refine xBL.tp (law_rd 4 hL (by omega) hI.scr) ?_
  refine xBL.ca 76 [.ref 0, .int (xs (i + 1)), .int (xs (i + 2)), .int (xs (i + 3)), .int (xs (i + 4))] [] f1 rfl ?_
  rintro r a b ⟨v, rfl, hm⟩
  obtain ⟨ha, f3⟩ := f2 v a b hm
  refine xBL.go 5 (355, [(0, .ref 1000), (1, .ref 0), (2, .ref 32), (3, .int (nI i))], [.int (nI i + 1), .ref 1000, .ref 32, .int v], XM L a b) rfl ?_
  refine xBL.ck (xin (nI i + 1) L) (356, [(0, .ref 1000), (1, .ref 0), (2, .ref 32), (3, .int (nI i))], [.int (a 1000 (nI i + 1).toNatClampNeg), .ref 32, .int v], XM L a b) rfl (law_in 1 hL (by omega)) ?_
  refine xBL.tp (law_rd 1 hL (by omega) ha) ?_
  refine xBL.go 4 (360, [(0, .ref 1000), (1, .ref 0), (2, .ref 32), (3, .int (nI i))], [.int (nI i + 2), .ref 1000, .int (xs (i + 1)), .ref 32, .int v], XM L a b) rfl ?_
  refine xBL.ck (xin (nI i + 2) L) (361, [(0, .ref 1000), (1, .ref 0), (2, .ref 32), (3, .int (nI i))], [.int (a 1000 (nI i + 2).toNatClampNeg), .int (xs (i + 1)), .ref 32, .int v], XM L a b) rfl (law_in 2 hL (by omega)) ?_
  refine xBL.tp (law_rd 2 hL (by omega) ha) ?_
  refine xBL.go 4 (365, [(0, .ref 1000), (1, .ref 0), (2, .ref 32), (3, .int (nI i))], [.int (nI i + 3), .ref 1000, .int (xs (i + 2)), .int (xs (i + 1)), .ref 32, .int v], XM L a b) rfl ?_
  refine xBL.ck (xin (nI i + 3) L) (366, [(0, .ref 1000), (1, .ref 0), (2, .ref 32), (3, .int (nI i))], [.int (a 1000 (nI i + 3).toNatClampNeg), .int (xs (i + 2)), .int (xs (i + 1)), .ref 32, .int v], XM L a b) rfl (law_in 3 hL (by omega)) ?_
  refine xBL.tp (law_rd 3 hL (by omega) ha) ?_
  refine xBL.go 4 (370, [(0, .ref 1000), (1, .ref 0), (2, .ref 32), (3, .int (nI i))], [.int (nI i + 4), .ref 1000, .int (xs (i + 3)), .int (xs (i + 2)), .int (xs (i + 1)), .ref 32, .int v], XM L a b) rfl ?_
  refine xBL.ck (xin (nI i + 4) L) (371, [(0, .ref 1000), (1, .ref 0), (2, .ref 32), (3, .int (nI i))], [.int (a 1000 (nI i + 4).toNatClampNeg), .int (xs (i + 3)), .int (xs (i + 2)), .int (xs (i + 1)), .ref 32, .int v], XM L a b) rfl (law_in 4 hL (by omega)) ?_
  refine xBL.tp (law_rd 4 hL (by omega) ha) ?_
  refine xBL.ca 122 [.ref 32, .int (xs (i + 1)), .int (xs (i + 2)), .int (xs (i + 3)), .int (xs (i + 4))] [.int v] f3 rfl ?_
  rintro r a' b' ⟨rfl, hJ⟩
  refine xBL.bp (v = v) (544, [(0, .ref 1000), (1, .ref 0), (2, .ref 32), (3, .int (nI i))], [], XM L a' b') (377, [(0, .ref 1000), (1, .ref 0), (2, .ref 32), (3, .int (nI i))], [], XM L a' b') rfl (fun _ => ih a' b' hJ) (fun z => absurd rfl z)
set_option maxRecDepth 100000 in
theorem law_9 {L i : Nat} {xs : Nat → Int32} {mi : xmi} {ml : xml} (hL : L ≤ 2560) (hi : i + 5 ≤ L) (hI : INV xs mi ml) (ih : ∀ a b, INV xs a b → xBL L (544, [(0, .ref 1000), (1, .ref 0), (2, .ref 32), (3, .int (nI i))], [], XM L a b)) : xBL L (379, [(0, .ref 1000), (1, .ref 0), (2, .ref 32), (3, .int (nI i))], [], XM L mi ml) := by
  obtain ⟨MID, f1, f2⟩ := p_run (L := L) hI (xs (i + 1)) (xs (i + 2))
  refine xBL.go 5 (384, [(0, .ref 1000), (1, .ref 0), (2, .ref 32), (3, .int (nI i))], [.int (nI i + 1), .ref 1000, .ref 0], XM L mi ml) rfl ?_
  refine xBL.ck (xin (nI i + 1) L) (385, [(0, .ref 1000), (1, .ref 0), (2, .ref 32), (3, .int (nI i))], [.int (mi 1000 (nI i + 1).toNatClampNeg), .ref 0], XM L mi ml) rfl (law_in 1 hL (by omega)) ?_
  refine xBL.tp (law_rd 1 hL (by omega) hI.scr) ?_
  refine xBL.go 4 (389, [(0, .ref 1000), (1, .ref 0), (2, .ref 32), (3, .int (nI i))], [.int (nI i + 2), .ref 1000, .int (xs (i + 1)), .ref 0], XM L mi ml) rfl ?_
  refine xBL.ck (xin (nI i + 2) L) (390, [(0, .ref 1000), (1, .ref 0), (2, .ref 32), (3, .int (nI i))], [.int (mi 1000 (nI i + 2).toNatClampNeg), .int (xs (i + 1)), .ref 0], XM L mi ml) rfl (law_in 2 hL (by omega)) ?_
  refine xBL.tp (law_rd 2 hL (by omega) hI.scr) ?_
  refine xBL.ca 77 [.ref 0, .int (xs (i + 1)), .int (xs (i + 2))] [] f1 rfl ?_
  rintro r a b ⟨v, rfl, hm⟩
  obtain ⟨ha, f3⟩ := f2 v a b hm
  refine xBL.go 5 (398, [(0, .ref 1000), (1, .ref 0), (2, .ref 32), (3, .int (nI i))], [.int (nI i + 1), .ref 1000, .ref 32, .int v], XM L a b) rfl ?_
  refine xBL.ck (xin (nI i + 1) L) (399, [(0, .ref 1000), (1, .ref 0), (2, .ref 32), (3, .int (nI i))], [.int (a 1000 (nI i + 1).toNatClampNeg), .ref 32, .int v], XM L a b) rfl (law_in 1 hL (by omega)) ?_
  refine xBL.tp (law_rd 1 hL (by omega) ha) ?_
  refine xBL.go 4 (403, [(0, .ref 1000), (1, .ref 0), (2, .ref 32), (3, .int (nI i))], [.int (nI i + 2), .ref 1000, .int (xs (i + 1)), .ref 32, .int v], XM L a b) rfl ?_
  refine xBL.ck (xin (nI i + 2) L) (404, [(0, .ref 1000), (1, .ref 0), (2, .ref 32), (3, .int (nI i))], [.int (a 1000 (nI i + 2).toNatClampNeg), .int (xs (i + 1)), .ref 32, .int v], XM L a b) rfl (law_in 2 hL (by omega)) ?_
  refine xBL.tp (law_rd 2 hL (by omega) ha) ?_
  refine xBL.ca 127 [.ref 32, .int (xs (i + 1)), .int (xs (i + 2))] [.int v] f3 rfl ?_
  rintro r a' b' ⟨rfl, hJ⟩
  refine xBL.bp (v = v) (544, [(0, .ref 1000), (1, .ref 0), (2, .ref 32), (3, .int (nI i))], [], XM L a' b') (410, [(0, .ref 1000), (1, .ref 0), (2, .ref 32), (3, .int (nI i))], [], XM L a' b') rfl (fun _ => ih a' b' hJ) (fun z => absurd rfl z)
set_option maxRecDepth 100000 in
theorem law_10 {L i : Nat} {xs : Nat → Int32} {mi : xmi} {ml : xml} (hL : L ≤ 2560) (hi : i + 5 ≤ L) (hI : INV xs mi ml) (ih : ∀ a b, INV xs a b → xBL L (544, [(0, .ref 1000), (1, .ref 0), (2, .ref 32), (3, .int (nI i))], [], XM L a b)) : xBL L (412, [(0, .ref 1000), (1, .ref 0), (2, .ref 32), (3, .int (nI i))], [], XM L mi ml) := by
  obtain ⟨MID, f1, f2⟩ := p_ran (L := L) hI (xs (i + 1)) (xs (i + 2))
  refine xBL.go 5 (417, [(0, .ref 1000), (1, .ref 0), (2, .ref 32), (3, .int (nI i))], [.int (nI i + 1), .ref 1000, .ref 0], XM L mi ml) rfl ?_
  refine xBL.ck (xin (nI i + 1) L) (418, [(0, .ref 1000), (1, .ref 0), (2, .ref 32), (3, .int (nI i))], [.int (mi 1000 (nI i + 1).toNatClampNeg), .ref 0], XM L mi ml) rfl (law_in 1 hL (by omega)) ?_
  refine xBL.tp (law_rd 1 hL (by omega) hI.scr) ?_
  refine xBL.go 4 (422, [(0, .ref 1000), (1, .ref 0), (2, .ref 32), (3, .int (nI i))], [.int (nI i + 2), .ref 1000, .int (xs (i + 1)), .ref 0], XM L mi ml) rfl ?_
  refine xBL.ck (xin (nI i + 2) L) (423, [(0, .ref 1000), (1, .ref 0), (2, .ref 32), (3, .int (nI i))], [.int (mi 1000 (nI i + 2).toNatClampNeg), .int (xs (i + 1)), .ref 0], XM L mi ml) rfl (law_in 2 hL (by omega)) ?_
  refine xBL.tp (law_rd 2 hL (by omega) hI.scr) ?_
  refine xBL.ca 78 [.ref 0, .int (xs (i + 1)), .int (xs (i + 2))] [] f1 rfl ?_
  rintro r a b ⟨v, rfl, hm⟩
  obtain ⟨ha, f3⟩ := f2 v a b hm
  refine xBL.go 5 (431, [(0, .ref 1000), (1, .ref 0), (2, .ref 32), (3, .int (nI i))], [.int (nI i + 1), .ref 1000, .ref 32, .int v], XM L a b) rfl ?_
  refine xBL.ck (xin (nI i + 1) L) (432, [(0, .ref 1000), (1, .ref 0), (2, .ref 32), (3, .int (nI i))], [.int (a 1000 (nI i + 1).toNatClampNeg), .ref 32, .int v], XM L a b) rfl (law_in 1 hL (by omega)) ?_
  refine xBL.tp (law_rd 1 hL (by omega) ha) ?_
  refine xBL.go 4 (436, [(0, .ref 1000), (1, .ref 0), (2, .ref 32), (3, .int (nI i))], [.int (nI i + 2), .ref 1000, .int (xs (i + 1)), .ref 32, .int v], XM L a b) rfl ?_
  refine xBL.ck (xin (nI i + 2) L) (437, [(0, .ref 1000), (1, .ref 0), (2, .ref 32), (3, .int (nI i))], [.int (a 1000 (nI i + 2).toNatClampNeg), .int (xs (i + 1)), .ref 32, .int v], XM L a b) rfl (law_in 2 hL (by omega)) ?_
  refine xBL.tp (law_rd 2 hL (by omega) ha) ?_
  refine xBL.ca 128 [.ref 32, .int (xs (i + 1)), .int (xs (i + 2))] [.int v] f3 rfl ?_
  rintro r a' b' ⟨rfl, hJ⟩
  refine xBL.bp (v = v) (544, [(0, .ref 1000), (1, .ref 0), (2, .ref 32), (3, .int (nI i))], [], XM L a' b') (443, [(0, .ref 1000), (1, .ref 0), (2, .ref 32), (3, .int (nI i))], [], XM L a' b') rfl (fun _ => ih a' b' hJ) (fun z => absurd rfl z)
set_option maxRecDepth 100000 in
theorem law_11 {L i : Nat} {xs : Nat → Int32} {mi : xmi} {ml : xml} (hL : L ≤ 2560) (hi : i + 5 ≤ L) (hI : INV xs mi ml) (ih : ∀ a b, INV xs a b → xBL L (544, [(0, .ref 1000), (1, .ref 0), (2, .ref 32), (3, .int (nI i))], [], XM L a b)) : xBL L (445, [(0, .ref 1000), (1, .ref 0), (2, .ref 32), (3, .int (nI i))], [], XM L mi ml) := by
  obtain ⟨MID, f1, f2⟩ := p_out (L := L) hI (xs (i + 1)) (xs (i + 2)) (xs (i + 3))
  refine xBL.go 5 (450, [(0, .ref 1000), (1, .ref 0), (2, .ref 32), (3, .int (nI i))], [.int (nI i + 1), .ref 1000, .ref 0], XM L mi ml) rfl ?_
  refine xBL.ck (xin (nI i + 1) L) (451, [(0, .ref 1000), (1, .ref 0), (2, .ref 32), (3, .int (nI i))], [.int (mi 1000 (nI i + 1).toNatClampNeg), .ref 0], XM L mi ml) rfl (law_in 1 hL (by omega)) ?_
  refine xBL.tp (law_rd 1 hL (by omega) hI.scr) ?_
  refine xBL.go 4 (455, [(0, .ref 1000), (1, .ref 0), (2, .ref 32), (3, .int (nI i))], [.int (nI i + 2), .ref 1000, .int (xs (i + 1)), .ref 0], XM L mi ml) rfl ?_
  refine xBL.ck (xin (nI i + 2) L) (456, [(0, .ref 1000), (1, .ref 0), (2, .ref 32), (3, .int (nI i))], [.int (mi 1000 (nI i + 2).toNatClampNeg), .int (xs (i + 1)), .ref 0], XM L mi ml) rfl (law_in 2 hL (by omega)) ?_
  refine xBL.tp (law_rd 2 hL (by omega) hI.scr) ?_
  refine xBL.go 4 (460, [(0, .ref 1000), (1, .ref 0), (2, .ref 32), (3, .int (nI i))], [.int (nI i + 3), .ref 1000, .int (xs (i + 2)), .int (xs (i + 1)), .ref 0], XM L mi ml) rfl ?_
  refine xBL.ck (xin (nI i + 3) L) (461, [(0, .ref 1000), (1, .ref 0), (2, .ref 32), (3, .int (nI i))], [.int (mi 1000 (nI i + 3).toNatClampNeg), .int (xs (i + 2)), .int (xs (i + 1)), .ref 0], XM L mi ml) rfl (law_in 3 hL (by omega)) ?_
  refine xBL.tp (law_rd 3 hL (by omega) hI.scr) ?_
  refine xBL.ca 79 [.ref 0, .int (xs (i + 1)), .int (xs (i + 2)), .int (xs (i + 3))] [] f1 rfl ?_
  rintro r a b ⟨v, rfl, hm⟩
  obtain ⟨ha, f3⟩ := f2 v a b hm
  refine xBL.go 5 (469, [(0, .ref 1000), (1, .ref 0), (2, .ref 32), (3, .int (nI i))], [.int (nI i + 1), .ref 1000, .ref 32, .int v], XM L a b) rfl ?_
  refine xBL.ck (xin (nI i + 1) L) (470, [(0, .ref 1000), (1, .ref 0), (2, .ref 32), (3, .int (nI i))], [.int (a 1000 (nI i + 1).toNatClampNeg), .ref 32, .int v], XM L a b) rfl (law_in 1 hL (by omega)) ?_
  refine xBL.tp (law_rd 1 hL (by omega) ha) ?_
  refine xBL.go 4 (474, [(0, .ref 1000), (1, .ref 0), (2, .ref 32), (3, .int (nI i))], [.int (nI i + 2), .ref 1000, .int (xs (i + 1)), .ref 32, .int v], XM L a b) rfl ?_
  refine xBL.ck (xin (nI i + 2) L) (475, [(0, .ref 1000), (1, .ref 0), (2, .ref 32), (3, .int (nI i))], [.int (a 1000 (nI i + 2).toNatClampNeg), .int (xs (i + 1)), .ref 32, .int v], XM L a b) rfl (law_in 2 hL (by omega)) ?_
  refine xBL.tp (law_rd 2 hL (by omega) ha) ?_
  refine xBL.go 4 (479, [(0, .ref 1000), (1, .ref 0), (2, .ref 32), (3, .int (nI i))], [.int (nI i + 3), .ref 1000, .int (xs (i + 2)), .int (xs (i + 1)), .ref 32, .int v], XM L a b) rfl ?_
  refine xBL.ck (xin (nI i + 3) L) (480, [(0, .ref 1000), (1, .ref 0), (2, .ref 32), (3, .int (nI i))], [.int (a 1000 (nI i + 3).toNatClampNeg), .int (xs (i + 2)), .int (xs (i + 1)), .ref 32, .int v], XM L a b) rfl (law_in 3 hL (by omega)) ?_
  refine xBL.tp (law_rd 3 hL (by omega) ha) ?_
  refine xBL.ca 129 [.ref 32, .int (xs (i + 1)), .int (xs (i + 2)), .int (xs (i + 3))] [.int v] f3 rfl ?_
  rintro r a' b' ⟨rfl, hJ⟩
  refine xBL.bp (v = v) (544, [(0, .ref 1000), (1, .ref 0), (2, .ref 32), (3, .int (nI i))], [], XM L a' b') (486, [(0, .ref 1000), (1, .ref 0), (2, .ref 32), (3, .int (nI i))], [], XM L a' b') rfl (fun _ => ih a' b' hJ) (fun z => absurd rfl z)
set_option maxRecDepth 100000 in
theorem law_12 {L i : Nat} {xs : Nat → Int32} {mi : xmi} {ml : xml} (hL : L ≤ 2560) (hi : i + 5 ≤ L) (hI : INV xs mi ml) (ih : ∀ a b, INV xs a b → xBL L (544, [(0, .ref 1000), (1, .ref 0), (2, .ref 32), (3, .int (nI i))], [], XM L a b)) : xBL L (488, [(0, .ref 1000), (1, .ref 0), (2, .ref 32), (3, .int (nI i))], [], XM L mi ml) := by
  obtain ⟨MID, f1, f2⟩ := p_same (L := L) hI (xs (i + 1))
  refine xBL.go 5 (493, [(0, .ref 1000), (1, .ref 0), (2, .ref 32), (3, .int (nI i))], [.int (nI i + 1), .ref 1000, .ref 0], XM L mi ml) rfl ?_
  refine xBL.ck (xin (nI i + 1) L) (494, [(0, .ref 1000), (1, .ref 0), (2, .ref 32), (3, .int (nI i))], [.int (mi 1000 (nI i + 1).toNatClampNeg), .ref 0], XM L mi ml) rfl (law_in 1 hL (by omega)) ?_
  refine xBL.tp (law_rd 1 hL (by omega) hI.scr) ?_
  refine xBL.ca 80 [.ref 0, .int (xs (i + 1))] [] f1 rfl ?_
  rintro r a b ⟨v, rfl, hm⟩
  obtain ⟨ha, f3⟩ := f2 v a b hm
  refine xBL.go 5 (502, [(0, .ref 1000), (1, .ref 0), (2, .ref 32), (3, .int (nI i))], [.int (nI i + 1), .ref 1000, .ref 32, .int v], XM L a b) rfl ?_
  refine xBL.ck (xin (nI i + 1) L) (503, [(0, .ref 1000), (1, .ref 0), (2, .ref 32), (3, .int (nI i))], [.int (a 1000 (nI i + 1).toNatClampNeg), .ref 32, .int v], XM L a b) rfl (law_in 1 hL (by omega)) ?_
  refine xBL.tp (law_rd 1 hL (by omega) ha) ?_
  refine xBL.ca 132 [.ref 32, .int (xs (i + 1))] [.int v] f3 rfl ?_
  rintro r a' b' ⟨rfl, hJ⟩
  refine xBL.bp (v = v) (544, [(0, .ref 1000), (1, .ref 0), (2, .ref 32), (3, .int (nI i))], [], XM L a' b') (509, [(0, .ref 1000), (1, .ref 0), (2, .ref 32), (3, .int (nI i))], [], XM L a' b') rfl (fun _ => ih a' b' hJ) (fun z => absurd rfl z)
set_option maxRecDepth 100000 in
theorem law_13 {L i : Nat} {xs : Nat → Int32} {mi : xmi} {ml : xml} (hL : L ≤ 2560) (hi : i + 5 ≤ L) (hI : INV xs mi ml) (ih : ∀ a b, INV xs a b → xBL L (544, [(0, .ref 1000), (1, .ref 0), (2, .ref 32), (3, .int (nI i))], [], XM L a b)) : xBL L (511, [(0, .ref 1000), (1, .ref 0), (2, .ref 32), (3, .int (nI i))], [], XM L mi ml) := by
  obtain ⟨MID, f1, f2⟩ := p_memory (L := L) hI (xs (i + 1)) (xs (i + 2))
  refine xBL.go 5 (516, [(0, .ref 1000), (1, .ref 0), (2, .ref 32), (3, .int (nI i))], [.int (nI i + 1), .ref 1000, .ref 0], XM L mi ml) rfl ?_
  refine xBL.ck (xin (nI i + 1) L) (517, [(0, .ref 1000), (1, .ref 0), (2, .ref 32), (3, .int (nI i))], [.int (mi 1000 (nI i + 1).toNatClampNeg), .ref 0], XM L mi ml) rfl (law_in 1 hL (by omega)) ?_
  refine xBL.tp (law_rd 1 hL (by omega) hI.scr) ?_
  refine xBL.go 4 (521, [(0, .ref 1000), (1, .ref 0), (2, .ref 32), (3, .int (nI i))], [.int (nI i + 2), .ref 1000, .int (xs (i + 1)), .ref 0], XM L mi ml) rfl ?_
  refine xBL.ck (xin (nI i + 2) L) (522, [(0, .ref 1000), (1, .ref 0), (2, .ref 32), (3, .int (nI i))], [.int (mi 1000 (nI i + 2).toNatClampNeg), .int (xs (i + 1)), .ref 0], XM L mi ml) rfl (law_in 2 hL (by omega)) ?_
  refine xBL.tp (law_rd 2 hL (by omega) hI.scr) ?_
  refine xBL.ca 81 [.ref 0, .int (xs (i + 1)), .int (xs (i + 2))] [] f1 rfl ?_
  rintro r a b ⟨v, rfl, hm⟩
  obtain ⟨ha, f3⟩ := f2 v a b hm
  refine xBL.go 5 (530, [(0, .ref 1000), (1, .ref 0), (2, .ref 32), (3, .int (nI i))], [.int (nI i + 1), .ref 1000, .ref 32, .int v], XM L a b) rfl ?_
  refine xBL.ck (xin (nI i + 1) L) (531, [(0, .ref 1000), (1, .ref 0), (2, .ref 32), (3, .int (nI i))], [.int (a 1000 (nI i + 1).toNatClampNeg), .ref 32, .int v], XM L a b) rfl (law_in 1 hL (by omega)) ?_
  refine xBL.tp (law_rd 1 hL (by omega) ha) ?_
  refine xBL.go 4 (535, [(0, .ref 1000), (1, .ref 0), (2, .ref 32), (3, .int (nI i))], [.int (nI i + 2), .ref 1000, .int (xs (i + 1)), .ref 32, .int v], XM L a b) rfl ?_
  refine xBL.ck (xin (nI i + 2) L) (536, [(0, .ref 1000), (1, .ref 0), (2, .ref 32), (3, .int (nI i))], [.int (a 1000 (nI i + 2).toNatClampNeg), .int (xs (i + 1)), .ref 32, .int v], XM L a b) rfl (law_in 2 hL (by omega)) ?_
  refine xBL.tp (law_rd 2 hL (by omega) ha) ?_
  refine xBL.ca 133 [.ref 32, .int (xs (i + 1)), .int (xs (i + 2))] [.int v] f3 rfl ?_
  rintro r a' b' ⟨rfl, hJ⟩
  refine xBL.bp (v = v) (544, [(0, .ref 1000), (1, .ref 0), (2, .ref 32), (3, .int (nI i))], [], XM L a' b') (542, [(0, .ref 1000), (1, .ref 0), (2, .ref 32), (3, .int (nI i))], [], XM L a' b') rfl (fun _ => ih a' b' hJ) (fun z => absurd rfl z)
set_option maxRecDepth 100000 in
theorem law_lp {L : Nat} {xs : Nat → Int32} (hL : L ≤ 2560) : ∀ (f i : Nat) (mi : xmi) (ml : xml), i ≤ L → L < i + f → INV xs mi ml → xBL L (18, [(0, .ref 1000), (1, .ref 0), (2, .ref 32), (3, .int (nI i))], [], XM L mi ml) := by
  intro f
  induction f with
  | zero => intro i mi ml h1 h2; omega
  | succ f ih0 =>
    intro i mi ml h1 h2 hI
    refine xBL.go 5 (23, [(0, .ref 1000), (1, .ref 0), (2, .ref 32), (3, .int (nI i))], [.int (Int32.ofNat L - 5), .int (nI i)], XM L mi ml) rfl ?_
    refine xBL.bp (Int32.ofNat L - 5 < nI i) (550, [(0, .ref 1000), (1, .ref 0), (2, .ref 32), (3, .int (nI i))], [], XM L mi ml) (26, [(0, .ref 1000), (1, .ref 0), (2, .ref 32), (3, .int (nI i))], [], XM L mi ml) rfl (fun _ => ?_) (fun h3 => ?_)
    · refine xBL.go 1 (551, [(0, .ref 1000), (1, .ref 0), (2, .ref 32), (3, .int (nI i))], [.int 1], XM L mi ml) rfl ?_
      exact xR.rt (some (.int 1)) (XM L mi ml) rfl ⟨mi, ml, rfl, rfl⟩
    · have hi := law_t hL h1 h3
      have ih : ∀ a b, INV xs a b → xBL L (544, [(0, .ref 1000), (1, .ref 0), (2, .ref 32), (3, .int (nI i))], [], XM L a b) := fun a b hJ => by
        refine xBL.go 2 (18, [(0, .ref 1000), (1, .ref 0), (2, .ref 32), (3, .int (nI i + 5))], [], XM L a b) rfl ?_
        refine xBL.cg (18, [(0, .ref 1000), (1, .ref 0), (2, .ref 32), (3, .int (nI (i + 5)))], [], XM L a b) (by rw [show nI i + 5 = nI (i + 5) from nI_addX i 5]) ?_
        exact ih0 (i + 5) a b hi (by omega) hJ
      refine xBL.go 2 (28, [(0, .ref 1000), (1, .ref 0), (2, .ref 32), (3, .int (nI i))], [.int (nI i), .ref 1000], XM L mi ml) rfl ?_
      refine xBL.ck (xin (nI i) L) (29, [(0, .ref 1000), (1, .ref 0), (2, .ref 32), (3, .int (nI i))], [.int (mi 1000 (nI i).toNatClampNeg)], XM L mi ml) rfl (xin_of (show i < L by omega) (by omega) rfl) ?_
      refine xBL.go 2 (32, [(0, .ref 1000), (1, .ref 0), (2, .ref 32), (3, .int (nI i))], [.int (mi 1000 (nI i).toNatClampNeg &&& 15)], XM L mi ml) rfl ?_
      by_cases g0 : mi 1000 (nI i).toNatClampNeg &&& 15 = 0
      · refine xBL.tp g0 ?_
        refine xBL.go 1 (104, [(0, .ref 1000), (1, .ref 0), (2, .ref 32), (3, .int (nI i))], [], XM L mi ml) rfl ?_
        exact law_0 hL hi hI ih
      by_cases g1 : mi 1000 (nI i).toNatClampNeg &&& 15 = 1
      · refine xBL.tp g1 ?_
        refine xBL.go 1 (137, [(0, .ref 1000), (1, .ref 0), (2, .ref 32), (3, .int (nI i))], [], XM L mi ml) rfl ?_
        exact law_1 hL hi hI ih
      by_cases g2 : mi 1000 (nI i).toNatClampNeg &&& 15 = 2
      · refine xBL.tp g2 ?_
        refine xBL.go 1 (148, [(0, .ref 1000), (1, .ref 0), (2, .ref 32), (3, .int (nI i))], [], XM L mi ml) rfl ?_
        exact law_2 hL hi hI ih
      by_cases g3 : mi 1000 (nI i).toNatClampNeg &&& 15 = 3
      · refine xBL.tp g3 ?_
        refine xBL.go 1 (191, [(0, .ref 1000), (1, .ref 0), (2, .ref 32), (3, .int (nI i))], [], XM L mi ml) rfl ?_
        exact law_3 hL hi hI ih
      by_cases g4 : mi 1000 (nI i).toNatClampNeg &&& 15 = 4
      · refine xBL.tp g4 ?_
        refine xBL.go 1 (204, [(0, .ref 1000), (1, .ref 0), (2, .ref 32), (3, .int (nI i))], [], XM L mi ml) rfl ?_
        exact law_4 hL hi hI ih
      by_cases g5 : mi 1000 (nI i).toNatClampNeg &&& 15 = 5
      · refine xBL.tp g5 ?_
        refine xBL.go 1 (227, [(0, .ref 1000), (1, .ref 0), (2, .ref 32), (3, .int (nI i))], [], XM L mi ml) rfl ?_
        exact law_5 hL hi hI ih
      by_cases g6 : mi 1000 (nI i).toNatClampNeg &&& 15 = 6
      · refine xBL.tp g6 ?_
        refine xBL.go 1 (260, [(0, .ref 1000), (1, .ref 0), (2, .ref 32), (3, .int (nI i))], [], XM L mi ml) rfl ?_
        exact law_6 hL hi hI ih
      by_cases g7 : mi 1000 (nI i).toNatClampNeg &&& 15 = 7
      · refine xBL.tp g7 ?_
        refine xBL.go 1 (283, [(0, .ref 1000), (1, .ref 0), (2, .ref 32), (3, .int (nI i))], [], XM L mi ml) rfl ?_
        exact law_7 hL hi hI ih
      by_cases g8 : mi 1000 (nI i).toNatClampNeg &&& 15 = 8
      · refine xBL.tp g8 ?_
        refine xBL.go 1 (326, [(0, .ref 1000), (1, .ref 0), (2, .ref 32), (3, .int (nI i))], [], XM L mi ml) rfl ?_
        exact law_8 hL hi hI ih
      by_cases g9 : mi 1000 (nI i).toNatClampNeg &&& 15 = 9
      · refine xBL.tp g9 ?_
        refine xBL.go 1 (379, [(0, .ref 1000), (1, .ref 0), (2, .ref 32), (3, .int (nI i))], [], XM L mi ml) rfl ?_
        exact law_9 hL hi hI ih
      by_cases g10 : mi 1000 (nI i).toNatClampNeg &&& 15 = 10
      · refine xBL.tp g10 ?_
        refine xBL.go 1 (412, [(0, .ref 1000), (1, .ref 0), (2, .ref 32), (3, .int (nI i))], [], XM L mi ml) rfl ?_
        exact law_10 hL hi hI ih
      by_cases g11 : mi 1000 (nI i).toNatClampNeg &&& 15 = 11
      · refine xBL.tp g11 ?_
        refine xBL.go 1 (445, [(0, .ref 1000), (1, .ref 0), (2, .ref 32), (3, .int (nI i))], [], XM L mi ml) rfl ?_
        exact law_11 hL hi hI ih
      by_cases g12 : mi 1000 (nI i).toNatClampNeg &&& 15 = 12
      · refine xBL.tp g12 ?_
        refine xBL.go 1 (488, [(0, .ref 1000), (1, .ref 0), (2, .ref 32), (3, .int (nI i))], [], XM L mi ml) rfl ?_
        exact law_12 hL hi hI ih
      by_cases g13 : mi 1000 (nI i).toNatClampNeg &&& 15 = 13
      · refine xBL.tp g13 ?_
        refine xBL.go 1 (511, [(0, .ref 1000), (1, .ref 0), (2, .ref 32), (3, .int (nI i))], [], XM L mi ml) rfl ?_
        exact law_13 hL hi hI ih
      refine xBL.st (544, [(0, .ref 1000), (1, .ref 0), (2, .ref 32), (3, .int (nI i))], [], XM L mi ml) (xswL (mt := mL_law) rfl (xsw_ne 14 (by decide) (fun k hk => by rcases (show k = 0 ∨ k = 1 ∨ k = 2 ∨ k = 3 ∨ k = 4 ∨ k = 5 ∨ k = 6 ∨ k = 7 ∨ k = 8 ∨ k = 9 ∨ k = 10 ∨ k = 11 ∨ k = 12 ∨ k = 13 by omega) with rfl | rfl | rfl | rfl | rfl | rfl | rfl | rfl | rfl | rfl | rfl | rfl | rfl | rfl; exact g0; exact g1; exact g2; exact g3; exact g4; exact g5; exact g6; exact g7; exact g8; exact g9; exact g10; exact g11; exact g12; exact g13)) rfl) ?_
      exact ih mi ml hI
