/-! Types: one place spreads -/
def NUM (mi : xmi) (n : Nat) (K T : Nat → Nat) : Prop := ∀ i, i < n → (K i = 1 ∨ K i = 2 → mi 3 i = nI (T i) ∧ T i < 8) ∧ (K i = 6 ∨ K i = 7 → mi 3 i = nI (T i) ∧ T i < 2) ∧ (K i = 8 → mi 3 i = nI (T i) ∧ T i < 4) ∧ (K i = 3 → mi 3 i = nI (T i) ∧ T i < 7)
def LEV (mi : xmi) (vL aL cL : Nat → Nat → Bool) : Prop := (∀ x, x < 8 → mi 5 x = lv2 (vL 0 x) (vL 1 x)) ∧ (∀ x, x < 2 → mi 6 x = lv2 (aL 0 x) (aL 1 x)) ∧ (∀ x, x < 4 → mi 7 x = lv2 (cL 0 x) (cL 1 x))
def rd (K T : Nat → Nat) (vL aL : Nat → Nat → Bool) (b i : Nat) : Bool := (decide (K i = 1) && vL b (T i)) || (decide (K i = 6) && aL b (T i))
theorem sl_lvN {mi : xmi} {a m t : Nat} (hm : m < 2 ^ 31) (ht : t < m) : sl_lv mi a (nI m) (nI t) = mi a t := by
  unfold sl_lv; rw [if_pos ((nI_rng hm (by omega)).mpr ht), nI_clamp (by omega)]
theorem c_numberN (d L : Nat) (mi : xmi) (ml : xml) {n : Nat} {K T : Nat → Nat} (hP : PRG mi n K T) {i : Nat} (hi : i < n) : xFv (d + 2) 43 [.ref 1, .int (nI i)] L mi ml (.int (mi 3 i)) mi ml := by
  have h := c_numberAt d L mi ml (nI i) hP.1 hP.2.1
  rwa [hP.num hi] at h
set_option maxRecDepth 100000 in
set_option maxHeartbeats 1000000 in
theorem c_readBy (d L : Nat) (mi : xmi) (ml : xml) {n : Nat} {K T : Nat → Nat} {vL aL cL : Nat → Nat → Bool} (hP : PRG mi n K T) (hN : NUM mi n K T) (hV : LEV mi vL aL cL) {i : Nat} (hin : i < n) : xFv (d + 3) 64 [.ref 16, .int (nI i)] L mi ml (.int (lv2 (rd K T vL aL 0 i) (rd K T vL aL 1 i))) mi ml := by
  have hk := (hP.2.2.1 i hin).2
  refine xF.mk mX7_readBy rfl rfl ?_
  refine xB.go 3 (5, [(0, .ref 16), (1, .int (nI i))], [.int (nI i), .ref 1], XM L mi ml) rfl ?_
  refine xB.c1 43 [.ref 1, .int (nI i)] [] (c_numberN _ L _ _ hP hin) rfl ?_
  refine xB.go 4 (14, [(0, .ref 16), (1, .int (nI i)), (2, .int (mi 3 i))], [.int (nI i), .ref 1], XM L mi ml) rfl ?_
  refine xB.c1 42 [.ref 1, .int (nI i)] [] (c_kindN _ L _ _ hP hin) rfl ?_
  by_cases h1 : (nI (K i)) = 1
  · refine xB.tp h1 ?_
    refine xB.go 1 (44, [(0, .ref 16), (1, .int (nI i)), (2, .int (mi 3 i))], [], XM L mi ml) rfl ?_
    refine xB.go 3 (49, [(0, .ref 16), (1, .int (nI i)), (2, .int (mi 3 i))], [.int (mi 3 i), .ref 4], XM L mi ml) rfl ?_
    refine xB.c1 11 [.ref 4, .int (mi 3 i)] [] (c_ofVariable _ L mi ml (mi 3 i) ) rfl ?_
    refine xB.rt (some (.int (sl_lv mi 5 8 (mi 3 i)))) mi ml rfl ?_
    have g := k_eq hk (c := 1) (by decide) h1
    have g2 := (hN i hin).1 (Or.inl g)
    exact ⟨by rw [g2.1, show (8 : Int32) = nI 8 from rfl, sl_lvN (by decide) g2.2, hV.1 _ g2.2]; simp [rd, g], rfl, rfl⟩
  by_cases h2 : (nI (K i)) = 6
  · refine xB.tp h2 ?_
    refine xB.go 1 (53, [(0, .ref 16), (1, .int (nI i)), (2, .int (mi 3 i))], [], XM L mi ml) rfl ?_
    refine xB.go 3 (58, [(0, .ref 16), (1, .int (nI i)), (2, .int (mi 3 i))], [.int (mi 3 i), .ref 4], XM L mi ml) rfl ?_
    refine xB.c1 12 [.ref 4, .int (mi 3 i)] [] (c_ofArray _ L mi ml (mi 3 i) ) rfl ?_
    refine xB.rt (some (.int (sl_lv mi 6 2 (mi 3 i)))) mi ml rfl ?_
    have g := k_eq hk (c := 6) (by decide) h2
    have g2 := (hN i hin).2.1 (Or.inl g)
    exact ⟨by rw [g2.1, show (2 : Int32) = nI 2 from rfl, sl_lvN (by decide) g2.2, hV.2.1 _ g2.2]; simp [rd, g], rfl, rfl⟩
  refine xB.st (62, [(0, .ref 16), (1, .int (nI i)), (2, .int (mi 3 i))], [], XM L mi ml) (xls_d (mt := mX7_readBy) rfl rfl (xlk_2 (xne_toInt (k := 1) (by decide) h1) (xne_toInt (k := 6) (by decide) h2)) rfl) ?_
  refine xB.go 1 (63, [(0, .ref 16), (1, .int (nI i)), (2, .int (mi 3 i))], [.int 0], XM L mi ml) rfl ?_
  refine xB.rt (some (.int 0)) mi ml rfl ?_
  have g1 := k_ne (c := 1) h1
  have g6 := k_ne (c := 6) h2
  exact ⟨by simp [rd, g1, g6, lv2], rfl, rfl⟩
theorem xU_id {α : Type} (f : Nat → Nat → α) (a k : Nat) : xU f a k (f a k) = f := by
  unfold xU; funext x
  by_cases h : x = a
  · subst h; rw [va_up_self]; funext y
    by_cases h2 : y = k
    · subst h2; rw [va_up_self]
    · rw [va_up_ne _ _ h2]
  · rw [va_up_ne _ _ h]
theorem or_sub {x y : Int64} (h : y &&& (x ^^^ (-1)) = 0) : x ||| y = x := by
  refine hb_ext fun i hi => ?_
  have := (hb_eq0.mp h) i hi
  rw [hb_and, hb_not _ hi] at this
  rw [hb_or]
  cases hx : hb x i <;> cases hy : hb y i <;> simp_all
/-- a pile grows: what holds behind it, whether there was growth -/
def gpl (ml : xml) (o : Option Nat) (left : Int64) : xml := match o with
  | some q => xU ml 17 q (ml 17 q ||| left)
  | none => ml
def gpm (mi : xmi) (ml : xml) (o : Option Nat) (left : Int64) : xmi := match o with
  | some q => if left &&& (ml 17 q ^^^ (-1)) = 0 then mi else xU mi 16 7 1
  | none => mi
set_option maxRecDepth 100000 in
set_option maxHeartbeats 1000000 in
theorem c_growPile (d L : Nat) (mi : xmi) (ml : xml) {n : Nat} {K T : Nat → Nat} (hP : PRG mi n K T) (x : Int32) (left : Int64) (o : Option Nat) (ho : eOk mi n x o) : xFn (d + 2) 65 [.ref 16, .int x, .long left] L mi ml (gpm mi ml o left) (gpl ml o left) := by
  refine xF.mk mX7_growPile rfl rfl ?_
  refine xB.go 3 (5, [(0, .ref 16), (1, .int x), (2, .long left)], [.int x, .ref 1], XM L mi ml) rfl ?_
  refine xB.c1 41 [.ref 1, .int x] [] (c_has _ L mi ml x ) rfl ?_
  refine xB.bz (0 ≤ x ∧ x < mi 1 2) (43, [(0, .ref 16), (1, .int x), (2, .long left)], [], XM L mi ml) (11, [(0, .ref 16), (1, .int x), (2, .long left)], [], XM L mi ml) rfl (fun h1 => ?_) (fun h1 => ?_)
  · refine xB.rt none mi ml rfl ?_
    cases o with
    | none => exact ⟨rfl, rfl, rfl⟩
    | some q =>
      obtain ⟨o1, o2⟩ := ho
      subst o2
      exact absurd ((hP.has (by have := hP.2.1; omega)).mpr o1) h1
  · refine xB.go 4 (17, [(0, .ref 16), (1, .int x), (2, .long left)], [.int x, .ref 17, .long left], XM L mi ml) rfl ?_
    refine xB.ck (xin x 64) (18, [(0, .ref 16), (1, .int x), (2, .long left)], [.long (ml 17 x.toNatClampNeg), .long left], XM L mi ml) rfl (xck hP.1 hP.2.1 h1) ?_
    refine xB.go 5 (25, [(0, .ref 16), (1, .int x), (2, .long left)], [.int (lg_cmp (left &&& ((ml 17 x.toNatClampNeg) ^^^ (-1))) 0)], XM L mi ml) rfl ?_
    refine xB.lz (left &&& ((ml 17 x.toNatClampNeg) ^^^ (-1))) 0 (43, [(0, .ref 16), (1, .int x), (2, .long left)], [], XM L mi ml) (28, [(0, .ref 16), (1, .int x), (2, .long left)], [], XM L mi ml) rfl (fun h2 => ?_) (fun h2 => ?_)
    · refine xB.rt none mi ml rfl ?_
      cases o with
      | none => exact absurd h1 ho
      | some q =>
        obtain ⟨o1, o2⟩ := ho
        subst o2
        rw [nI_clamp (by have := hP.2.1; omega)] at h2
        refine ⟨rfl, ?_, ?_⟩
        · show mi = if left &&& (ml 17 q ^^^ (-1)) = 0 then mi else xU mi 16 7 1
          rw [if_pos h2]
        · show ml = xU ml 17 q (ml 17 q ||| left)
          rw [or_sub h2, xU_id]
    · refine xB.go 4 (34, [(0, .ref 16), (1, .int x), (2, .long left)], [.int x, .ref 17, .int x, .ref 17], XM L mi ml) rfl ?_
      refine xB.ck (xin x 64) (35, [(0, .ref 16), (1, .int x), (2, .long left)], [.long (ml 17 x.toNatClampNeg), .int x, .ref 17], XM L mi ml) rfl (xck hP.1 hP.2.1 h1) ?_
      refine xB.go 2 (37, [(0, .ref 16), (1, .int x), (2, .long left)], [.long ((ml 17 x.toNatClampNeg) ||| left), .int x, .ref 17], XM L mi ml) rfl ?_
      refine xB.ck (xin x 64) (38, [(0, .ref 16), (1, .int x), (2, .long left)], [], XM L mi (xU ml 17 x.toNatClampNeg ((ml 17 x.toNatClampNeg) ||| left))) rfl (xck hP.1 hP.2.1 h1) ?_
      refine xB.go 3 (43, [(0, .ref 16), (1, .int x), (2, .long left)], [], XM L (xU mi 16 7 1) (xU ml 17 x.toNatClampNeg ((ml 17 x.toNatClampNeg) ||| left))) rfl ?_
      refine xB.rt none (xU mi 16 7 1) (xU ml 17 x.toNatClampNeg ((ml 17 x.toNatClampNeg) ||| left)) rfl ?_
      cases o with
      | none => exact absurd h1 ho
      | some q =>
        obtain ⟨o1, o2⟩ := ho
        subst o2
        rw [nI_clamp (by have := hP.2.1; omega)] at h2
        refine ⟨rfl, ?_, ?_⟩
        · show xU mi 16 7 1 = if left &&& (ml 17 q ^^^ (-1)) = 0 then mi else xU mi 16 7 1
          rw [if_neg h2]
        · rw [nI_clamp (by have := hP.2.1; omega)]; rfl
/-- the surroundings of a region grow by a level -/
def gsA (x R : Int64) (p : Bool) : Int64 := bif p then R &&& (x ^^^ (-1)) else 0
def gsl (ml : xml) (R : Int64) (p q : Bool) : xml := xU (xU ml 16 5 (ml 16 5 ||| gsA (ml 16 5) R p)) 16 6 (ml 16 6 ||| gsA (ml 16 6) R q)
def gsm (mi : xmi) (ml : xml) (R : Int64) (p q : Bool) : xmi := if gsA (ml 16 5) R p ||| gsA (ml 16 6) R q = 0 then mi else xU mi 16 7 1
theorem below1 : ∀ p q : Bool, (1 : Int32) &&& (lv2 p q ^^^ (-1)) = 0 ↔ p = true := by decide +kernel
theorem below2 : ∀ p q : Bool, (2 : Int32) &&& (lv2 p q ^^^ (-1)) = 0 ↔ q = true := by decide +kernel
theorem or_0 {x y : Int64} (h : x ||| y = 0) : x = 0 ∧ y = 0 := by
  have h := hb_eq0.mp h
  refine ⟨hb_eq0.mpr fun i hi => ?_, hb_eq0.mpr fun i hi => ?_⟩
  · have := h i hi; rw [hb_or, Bool.or_eq_false_iff] at this; exact this.1
  · have := h i hi; rw [hb_or, Bool.or_eq_false_iff] at this; exact this.2
theorem or_z (x : Int64) : x ||| 0 = x := hb_ext fun i _ => by rw [hb_or, hb_0, Bool.or_false]
set_option maxRecDepth 100000 in
set_option maxHeartbeats 1000000 in
theorem c_growSurroundings (d L : Nat) (mi : xmi) (ml : xml) (Rg : Int64) (p q : Bool) : xFn (d + 2) 66 [.ref 16, .long Rg, .int (lv2 p q)] L mi ml (gsm mi ml Rg p q) (gsl ml Rg p q) := by
  refine xF.mk mX7_growSurroundings rfl rfl ?_
  refine xB.go 2 (2, [(0, .ref 16), (1, .long Rg), (3, .int (lv2 p q))], [.int (lv2 p q), .int 1], XM L mi ml) rfl ?_
  refine xB.c1 87 [.int 1, .int (lv2 p q)] [] (c_isBelow _ L mi ml 1 (lv2 p q) ) rfl ?_
  refine xB.bz (1 &&& ((lv2 p q) ^^^ (-1)) = 0) (21, [(0, .ref 16), (1, .long Rg), (3, .int (lv2 p q))], [], XM L mi ml) (8, [(0, .ref 16), (1, .long Rg), (3, .int (lv2 p q))], [], XM L mi ml) rfl (fun h1 => ?_) (fun h1 => ?_)
  · refine xB.go 4 (26, [(0, .ref 16), (1, .long Rg), (3, .int (lv2 p q)), (4, .long 0)], [.int (lv2 p q), .int 2], XM L mi ml) rfl ?_
    refine xB.c1 87 [.int 2, .int (lv2 p q)] [] (c_isBelow _ L mi ml 2 (lv2 p q) ) rfl ?_
    refine xB.bz (2 &&& ((lv2 p q) ^^^ (-1)) = 0) (45, [(0, .ref 16), (1, .long Rg), (3, .int (lv2 p q)), (4, .long 0)], [], XM L mi ml) (32, [(0, .ref 16), (1, .long Rg), (3, .int (lv2 p q)), (4, .long 0)], [], XM L mi ml) rfl (fun h2 => ?_) (fun h2 => ?_)
    · refine xB.go 7 (55, [(0, .ref 16), (1, .long Rg), (3, .int (lv2 p q)), (4, .long 0), (6, .long 0)], [.int (lg_cmp (0 ||| 0) 0)], XM L mi ml) rfl ?_
      refine xB.lz (0 ||| 0) 0 (85, [(0, .ref 16), (1, .long Rg), (3, .int (lv2 p q)), (4, .long 0), (6, .long 0)], [], XM L mi ml) (58, [(0, .ref 16), (1, .long Rg), (3, .int (lv2 p q)), (4, .long 0), (6, .long 0)], [], XM L mi ml) rfl (fun h3 => ?_) (fun h3 => ?_)
      · refine xB.rt none mi ml rfl ?_
        have ep : p = false := by cases p with | false => rfl | true => exact absurd ((below1 true q).mpr rfl) h1
        have eq : q = false := by cases q with | false => rfl | true => exact absurd ((below2 p true).mpr rfl) h2
        subst ep; subst eq
        obtain ⟨z1, z2⟩ := or_0 h3
        refine ⟨rfl, ?_, ?_⟩
        · unfold gsm gsA; simp only [cond_true, cond_false]; rw [if_pos h3]
        · unfold gsl gsA; simp only [cond_true, cond_false]; simp only [ or_z]; rw [xU_id ml 16 5, xU_id]
      · refine xB.go 15 (85, [(0, .ref 16), (1, .long Rg), (3, .int (lv2 p q)), (4, .long 0), (6, .long 0)], [], XM L (xU mi 16 7 1) (xU (xU ml 16 5 ((ml 16 5) ||| 0)) 16 6 ((ml 16 6) ||| 0))) rfl ?_
        refine xB.rt none (xU mi 16 7 1) (xU (xU ml 16 5 ((ml 16 5) ||| 0)) 16 6 ((ml 16 6) ||| 0)) rfl ?_
        have ep : p = false := by cases p with | false => rfl | true => exact absurd ((below1 true q).mpr rfl) h1
        have eq : q = false := by cases q with | false => rfl | true => exact absurd ((below2 p true).mpr rfl) h2
        subst ep; subst eq
        refine ⟨rfl, ?_, ?_⟩
        · unfold gsm gsA; simp only [cond_true, cond_false]; rw [if_neg h3]
        · rfl
    · refine xB.go 13 (55, [(0, .ref 16), (1, .long Rg), (3, .int (lv2 p q)), (4, .long 0), (6, .long (Rg &&& ((ml 16 6) ^^^ (-1))))], [.int (lg_cmp (0 ||| (Rg &&& ((ml 16 6) ^^^ (-1)))) 0)], XM L mi ml) rfl ?_
      refine xB.lz (0 ||| (Rg &&& ((ml 16 6) ^^^ (-1)))) 0 (85, [(0, .ref 16), (1, .long Rg), (3, .int (lv2 p q)), (4, .long 0), (6, .long (Rg &&& ((ml 16 6) ^^^ (-1))))], [], XM L mi ml) (58, [(0, .ref 16), (1, .long Rg), (3, .int (lv2 p q)), (4, .long 0), (6, .long (Rg &&& ((ml 16 6) ^^^ (-1))))], [], XM L mi ml) rfl (fun h4 => ?_) (fun h4 => ?_)
      · refine xB.rt none mi ml rfl ?_
        have ep : p = false := by cases p with | false => rfl | true => exact absurd ((below1 true q).mpr rfl) h1
        have eq : q = true := by exact (below2 p q).mp h2
        subst ep; subst eq
        obtain ⟨z1, z2⟩ := or_0 h4
        refine ⟨rfl, ?_, ?_⟩
        · unfold gsm gsA; simp only [cond_true, cond_false]; rw [if_pos h4]
        · unfold gsl gsA; simp only [cond_true, cond_false]; simp only [z2,  or_z]; rw [xU_id ml 16 5, xU_id]
      · refine xB.go 15 (85, [(0, .ref 16), (1, .long Rg), (3, .int (lv2 p q)), (4, .long 0), (6, .long (Rg &&& ((ml 16 6) ^^^ (-1))))], [], XM L (xU mi 16 7 1) (xU (xU ml 16 5 ((ml 16 5) ||| 0)) 16 6 ((ml 16 6) ||| (Rg &&& ((ml 16 6) ^^^ (-1)))))) rfl ?_
        refine xB.rt none (xU mi 16 7 1) (xU (xU ml 16 5 ((ml 16 5) ||| 0)) 16 6 ((ml 16 6) ||| (Rg &&& ((ml 16 6) ^^^ (-1))))) rfl ?_
        have ep : p = false := by cases p with | false => rfl | true => exact absurd ((below1 true q).mpr rfl) h1
        have eq : q = true := by exact (below2 p q).mp h2
        subst ep; subst eq
        refine ⟨rfl, ?_, ?_⟩
        · unfold gsm gsA; simp only [cond_true, cond_false]; rw [if_neg h4]
        · rfl
  · refine xB.go 10 (26, [(0, .ref 16), (1, .long Rg), (3, .int (lv2 p q)), (4, .long (Rg &&& ((ml 16 5) ^^^ (-1))))], [.int (lv2 p q), .int 2], XM L mi ml) rfl ?_
    refine xB.c1 87 [.int 2, .int (lv2 p q)] [] (c_isBelow _ L mi ml 2 (lv2 p q) ) rfl ?_
    refine xB.bz (2 &&& ((lv2 p q) ^^^ (-1)) = 0) (45, [(0, .ref 16), (1, .long Rg), (3, .int (lv2 p q)), (4, .long (Rg &&& ((ml 16 5) ^^^ (-1))))], [], XM L mi ml) (32, [(0, .ref 16), (1, .long Rg), (3, .int (lv2 p q)), (4, .long (Rg &&& ((ml 16 5) ^^^ (-1))))], [], XM L mi ml) rfl (fun h5 => ?_) (fun h5 => ?_)
    · refine xB.go 7 (55, [(0, .ref 16), (1, .long Rg), (3, .int (lv2 p q)), (4, .long (Rg &&& ((ml 16 5) ^^^ (-1)))), (6, .long 0)], [.int (lg_cmp ((Rg &&& ((ml 16 5) ^^^ (-1))) ||| 0) 0)], XM L mi ml) rfl ?_
      refine xB.lz ((Rg &&& ((ml 16 5) ^^^ (-1))) ||| 0) 0 (85, [(0, .ref 16), (1, .long Rg), (3, .int (lv2 p q)), (4, .long (Rg &&& ((ml 16 5) ^^^ (-1)))), (6, .long 0)], [], XM L mi ml) (58, [(0, .ref 16), (1, .long Rg), (3, .int (lv2 p q)), (4, .long (Rg &&& ((ml 16 5) ^^^ (-1)))), (6, .long 0)], [], XM L mi ml) rfl (fun h6 => ?_) (fun h6 => ?_)
      · refine xB.rt none mi ml rfl ?_
        have ep : p = true := by exact (below1 p q).mp h1
        have eq : q = false := by cases q with | false => rfl | true => exact absurd ((below2 p true).mpr rfl) h5
        subst ep; subst eq
        obtain ⟨z1, z2⟩ := or_0 h6
        refine ⟨rfl, ?_, ?_⟩
        · unfold gsm gsA; simp only [cond_true, cond_false]; rw [if_pos h6]
        · unfold gsl gsA; simp only [cond_true, cond_false]; simp only [z1,  or_z]; rw [xU_id ml 16 5, xU_id]
      · refine xB.go 15 (85, [(0, .ref 16), (1, .long Rg), (3, .int (lv2 p q)), (4, .long (Rg &&& ((ml 16 5) ^^^ (-1)))), (6, .long 0)], [], XM L (xU mi 16 7 1) (xU (xU ml 16 5 ((ml 16 5) ||| (Rg &&& ((ml 16 5) ^^^ (-1))))) 16 6 ((ml 16 6) ||| 0))) rfl ?_
        refine xB.rt none (xU mi 16 7 1) (xU (xU ml 16 5 ((ml 16 5) ||| (Rg &&& ((ml 16 5) ^^^ (-1))))) 16 6 ((ml 16 6) ||| 0)) rfl ?_
        have ep : p = true := by exact (below1 p q).mp h1
        have eq : q = false := by cases q with | false => rfl | true => exact absurd ((below2 p true).mpr rfl) h5
        subst ep; subst eq
        refine ⟨rfl, ?_, ?_⟩
        · unfold gsm gsA; simp only [cond_true, cond_false]; rw [if_neg h6]
        · rfl
    · refine xB.go 13 (55, [(0, .ref 16), (1, .long Rg), (3, .int (lv2 p q)), (4, .long (Rg &&& ((ml 16 5) ^^^ (-1)))), (6, .long (Rg &&& ((ml 16 6) ^^^ (-1))))], [.int (lg_cmp ((Rg &&& ((ml 16 5) ^^^ (-1))) ||| (Rg &&& ((ml 16 6) ^^^ (-1)))) 0)], XM L mi ml) rfl ?_
      refine xB.lz ((Rg &&& ((ml 16 5) ^^^ (-1))) ||| (Rg &&& ((ml 16 6) ^^^ (-1)))) 0 (85, [(0, .ref 16), (1, .long Rg), (3, .int (lv2 p q)), (4, .long (Rg &&& ((ml 16 5) ^^^ (-1)))), (6, .long (Rg &&& ((ml 16 6) ^^^ (-1))))], [], XM L mi ml) (58, [(0, .ref 16), (1, .long Rg), (3, .int (lv2 p q)), (4, .long (Rg &&& ((ml 16 5) ^^^ (-1)))), (6, .long (Rg &&& ((ml 16 6) ^^^ (-1))))], [], XM L mi ml) rfl (fun h7 => ?_) (fun h7 => ?_)
      · refine xB.rt none mi ml rfl ?_
        have ep : p = true := by exact (below1 p q).mp h1
        have eq : q = true := by exact (below2 p q).mp h5
        subst ep; subst eq
        obtain ⟨z1, z2⟩ := or_0 h7
        refine ⟨rfl, ?_, ?_⟩
        · unfold gsm gsA; simp only [cond_true, cond_false]; rw [if_pos h7]
        · unfold gsl gsA; simp only [cond_true, cond_false]; simp only [z1, z2,  or_z]; rw [xU_id ml 16 5, xU_id]
      · refine xB.go 15 (85, [(0, .ref 16), (1, .long Rg), (3, .int (lv2 p q)), (4, .long (Rg &&& ((ml 16 5) ^^^ (-1)))), (6, .long (Rg &&& ((ml 16 6) ^^^ (-1))))], [], XM L (xU mi 16 7 1) (xU (xU ml 16 5 ((ml 16 5) ||| (Rg &&& ((ml 16 5) ^^^ (-1))))) 16 6 ((ml 16 6) ||| (Rg &&& ((ml 16 6) ^^^ (-1)))))) rfl ?_
        refine xB.rt none (xU mi 16 7 1) (xU (xU ml 16 5 ((ml 16 5) ||| (Rg &&& ((ml 16 5) ^^^ (-1))))) 16 6 ((ml 16 6) ||| (Rg &&& ((ml 16 6) ^^^ (-1))))) rfl ?_
        have ep : p = true := by exact (below1 p q).mp h1
        have eq : q = true := by exact (below2 p q).mp h5
        subst ep; subst eq
        refine ⟨rfl, ?_, ?_⟩
        · unfold gsm gsA; simp only [cond_true, cond_false]; rw [if_neg h7]
        · rfl
set_option maxRecDepth 100000 in
set_option maxHeartbeats 1000000 in
theorem c_regionOf (d L : Nat) (mi : xmi) (ml : xml) {n : Nat} {K T : Nat → Nat} (hP : PRG mi n K T) {i : Nat} (hin : i < n) : xFv (d + 2) 2 [.ref 10, .int (nI i)] L mi ml (.long (ml 15 i)) mi ml := by
  refine xF.mk mX0_regionOf rfl rfl ?_
  refine xB.go 3 (5, [(0, .ref 10), (1, .int (nI i))], [.int (nI i), .ref 1], XM L mi ml) rfl ?_
  refine xB.c1 41 [.ref 1, .int (nI i)] [] (c_has _ L mi ml (nI i) ) rfl ?_
  refine xB.bz (0 ≤ (nI i) ∧ (nI i) < mi 1 2) (20, [(0, .ref 10), (1, .int (nI i))], [], XM L mi ml) (11, [(0, .ref 10), (1, .int (nI i))], [], XM L mi ml) rfl (fun h1 => ?_) (fun h1 => ?_)
  · refine xB.go 1 (21, [(0, .ref 10), (1, .int (nI i))], [.long 0], XM L mi ml) rfl ?_
    refine xB.rt (some (.long 0)) mi ml rfl ?_
    exact absurd ((hP.has (by have := hP.2.1; omega)).mpr hin) h1
  · refine xB.go 3 (16, [(0, .ref 10), (1, .int (nI i))], [.int (nI i), .ref 15], XM L mi ml) rfl ?_
    refine xB.ck (xin (nI i) 64) (17, [(0, .ref 10), (1, .int (nI i))], [.long (ml 15 (nI i).toNatClampNeg)], XM L mi ml) rfl (xck hP.1 hP.2.1 h1) ?_
    refine xB.go 1 (21, [(0, .ref 10), (1, .int (nI i))], [.long (ml 15 (nI i).toNatClampNeg)], XM L mi ml) rfl ?_
    refine xB.rt (some (.long (ml 15 (nI i).toNatClampNeg))) mi ml rfl ?_
    exact ⟨by rw [nI_clamp (by have := hP.2.1; omega)], rfl, rfl⟩
theorem ofst : ∀ s, s < 17 → ∀ x, x < 64 → hb (((1 : Int64) <<< (Int32.toInt64 (2 * nI s) &&& 63)) - 1) x = decide (x < 2 * s) := by decide +kernel
theorem each : ∀ p q : Bool, ∀ x, x < 64 → hb (Int32.toInt64 (lv2 p q) * 1431655765) x = (decide (x < 32) && (bif Nat.beq (x % 2) 0 then p else q)) := by decide +kernel
theorem putb : ∀ p q : Bool, ∀ s, s < 16 → ∀ x, x < 64 → hb (Int32.toInt64 (lv2 p q) <<< (Int32.toInt64 (2 * nI s) &&& 63)) x = ((decide (x = 2 * s) && p) || (decide (x = 2 * s + 1) && q)) := by decide +kernel
/-- what a place leaves on its followers' piles -/
def lfx (K : Nat → Nat) (ml : xml) (rd0 rd1 : Bool) (i h x : Nat) : Bool := (decide (x < 2 * (h - tk (K i))) && (hb (ml 17 i) x || (decide (K i = 5) && (bif Nat.beq (x % 2) 0 then tkn K ml 0 i h else tkn K ml 1 i h)))) ||
  (decide (pt (K i) = 1) && ((decide (x = 2 * (h - tk (K i))) && (tkn K ml 0 i h || hb (ml 16 5) i || rd0)) || (decide (x = 2 * (h - tk (K i)) + 1) && (tkn K ml 1 i h || hb (ml 16 6) i || rd1))))
