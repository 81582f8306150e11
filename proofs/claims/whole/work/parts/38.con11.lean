/-! Junctions.find -/
theorem NF.congr {n p : Nat} {ml b : xml} {v : Int32} (h10 : b 10 = ml 10) (h13 : b 13 = ml 13) (h : NF n b p v) : NF n ml p v := by
  unfold NF at h ⊢; rw [h10, h13] at h; exact h
def jAt (n : Nat) (K : Nat → Nat) (met : Nat → Prop) (ml : xml) (p : Nat) (v : Int32) (R : Int64) : Prop := (met p ∧ K p = 5 → NF n ml p v ∧ ∀ j, j < 64 → (hb R j = true ↔ RE (hb (ml 11 p)) (fun i => hb (ml 11 i)) (hb (xbit v ^^^ (-1))) j)) ∧ (¬ (met p ∧ K p = 5) → v = -1 ∧ R = 0)
def fJ (n : Nat) (K : Nat → Nat) (met : Nat → Prop) (mi : xmi) (ml : xml) (i : Nat) (a : xmi) (b : xml) : Prop := (∀ x, x ≠ 14 → a x = mi x) ∧ (∀ x, x ≠ 15 → b x = ml x) ∧ ∀ p, p < i → jAt n K met ml p (a 14 p) (b 15 p)
theorem fJ.next {n i : Nat} {K : Nat → Nat} {met : Nat → Prop} {mi a : xmi} {ml b : xml} {v : Int32} {R : Int64} (h : fJ n K met mi ml i a b) (hj : jAt n K met ml i v R) : fJ n K met mi ml (i + 1) (xU a 14 i v) (xU b 15 i R) := by
  obtain ⟨h1, h2, h3⟩ := h
  refine ⟨fun x hx => by rw [xU_ne hx]; exact h1 x hx, fun x hx => by rw [xU_ne hx]; exact h2 x hx, fun p hp => ?_⟩
  rw [xU_at, xU_at]
  by_cases z : p = i
  · subst z; rw [va_up_self, va_up_self]; exact hj
  · rw [va_up_ne _ _ z, va_up_ne _ _ z]; exact h3 p (by omega)
theorem xU_self {α : Type} {f : Nat → Nat → α} {a k : Nat} {v : α} : xU f a k v a k = v := by rw [xU_at, va_up_self]
theorem xU_uu {α : Type} {f : Nat → Nat → α} {a k : Nat} {v w : α} : xU (xU f a k v) a k w = xU f a k w := by
  unfold xU
  funext x
  by_cases h : x = a
  · subst h; rw [va_up_self, va_up_self, va_up_self]
    funext y
    by_cases h2 : y = k
    · subst h2; rw [va_up_self, va_up_self]
    · rw [va_up_ne _ _ h2, va_up_ne _ _ h2, va_up_ne _ _ h2]
  · rw [va_up_ne _ _ h, va_up_ne _ _ h, va_up_ne _ _ h]
set_option maxRecDepth 100000 in
set_option maxHeartbeats 1000000 in
theorem jfind_10 (d L : Nat) (mi : xmi) (ml : xml) {n : Nat} {K T : Nat → Nat} (hP : PRG mi n K T) (hw : WF n K T) (hm : ∀ i, i < 64 → (hb (ml 8 2) i = true ↔ ∃ h, Rh n K T i h)) : ∀ (f i : Nat), i ≤ n → n - i < f → ∀ (a : xmi) (b : xml), fJ n K (fun i => ∃ h, Rh n K T i h) mi ml i a b → xB (d + 4) mX0_find L (fun rr a b => rr = none ∧ fJ n K (fun i => ∃ h, Rh n K T i h) mi ml n a b) (10, [(0, .ref 10), (1, .int (nI i))], [], XM L a b) := by
  have hn64 := hP.2.1
  intro f
  induction f with
  | zero => intro i h1 h2; omega
  | succ f ih =>
    intro i hle hlt a b hJ
    have hPa : PRG a n K T := hP.frame (hJ.1 1 (by decide)) (hJ.1 2 (by decide)) (hJ.1 3 (by decide)) (hJ.1 1002 (by decide)) (hJ.1 1003 (by decide))
    refine xB.go 3 (15, [(0, .ref 10), (1, .int (nI i))], [.ref 1, .int (nI i)], XM L a b) rfl ?_
    refine xB.c1 40 [.ref 1] [.int (nI i)] (c_size _ L _ _) rfl ?_
    refine xB.cg (18, [(0, .ref 10), (1, .int (nI i))], [.int (nI n), .int (nI i)], XM L a b) (by rw [hPa.1]) ?_
    refine xB.bp ((nI n) ≤ (nI i)) (107, [(0, .ref 10), (1, .int (nI i))], [], XM L a b) (21, [(0, .ref 10), (1, .int (nI i))], [], XM L a b) rfl (fun h1 => ?_) (fun h1 => ?_)
    · refine xB.rt none a b rfl ?_
      have hge : n ≤ i := (nI_leI (by omega) (by omega)).mp h1
      obtain rfl : i = n := by omega
      exact ⟨rfl, hJ⟩
    · have hin : i < n := (nI_ltI (by omega) (by omega)).mp (i_nle.mp h1)
      have hk := (hP.2.2.1 i hin).2
      have hi64 : i < 64 := by omega
      have hmb : hb (b 8 2) i = true ↔ ∃ h, Rh n K T i h := by rw [hJ.2.1 8 (by decide)]; exact hm i hi64
      have hPa1 : ∀ {y : Int32} {z : Nat}, PRG (xU a 14 z y) n K T := fun {y z} => hPa.frame (xU_ne (by decide)) (xU_ne (by decide)) (xU_ne (by decide)) (xU_ne (by decide)) (xU_ne (by decide))
      refine xB.go 4 (27, [(0, .ref 10), (1, .int (nI i))], [.int (-1), .int (nI i), .ref 14], XM L a b) rfl ?_
      refine xB.ck (xin (nI i) 64) (28, [(0, .ref 10), (1, .int (nI i))], [], XM L (xU a 14 (nI i).toNatClampNeg (-1)) b) rfl (xin_of hi64 (by decide) rfl) ?_
      refine xB.go 4 (34, [(0, .ref 10), (1, .int (nI i))], [.long 0, .int (nI i), .ref 15], XM L (xU a 14 (nI i).toNatClampNeg (-1)) b) rfl ?_
      refine xB.ck (xin (nI i) 64) (35, [(0, .ref 10), (1, .int (nI i))], [], XM L (xU a 14 (nI i).toNatClampNeg (-1)) (xU b 15 (nI i).toNatClampNeg 0)) rfl (xin_of hi64 (by decide) rfl) ?_
      refine xB.go 3 (40, [(0, .ref 10), (1, .int (nI i))], [.int (nI i), .ref 8], XM L (xU a 14 (nI i).toNatClampNeg (-1)) (xU b 15 (nI i).toNatClampNeg 0)) rfl ?_
      refine xB.c1 51 [.ref 8, .int (nI i)] [] (c_isMetN _ L _ _ hi64) rfl ?_
      refine xB.bz (hb (b 8 2) i = true) (101, [(0, .ref 10), (1, .int (nI i))], [], XM L (xU a 14 (nI i).toNatClampNeg (-1)) (xU b 15 (nI i).toNatClampNeg 0)) (46, [(0, .ref 10), (1, .int (nI i))], [], XM L (xU a 14 (nI i).toNatClampNeg (-1)) (xU b 15 (nI i).toNatClampNeg 0)) rfl (fun h2 => ?_) (fun h2 => ?_)
      · refine xB.go 2 (10, [(0, .ref 10), (1, .int ((nI i) + 1))], [], XM L (xU a 14 (nI i).toNatClampNeg (-1)) (xU b 15 (nI i).toNatClampNeg 0)) rfl ?_
        rw [nI_1, nI_clamp (by omega)]
        exact ih (i + 1) (by omega) (by omega) _ _ (hJ.next ⟨fun z => absurd (hmb.mpr z.1) h2, fun _ => ⟨rfl, rfl⟩⟩)
      · refine xB.go 3 (51, [(0, .ref 10), (1, .int (nI i))], [.int (nI i), .ref 1], XM L (xU a 14 (nI i).toNatClampNeg (-1)) (xU b 15 (nI i).toNatClampNeg 0)) rfl ?_
        refine xB.c1 42 [.ref 1, .int (nI i)] [] (c_kindN _ L _ _ hPa1 hin) rfl ?_
        refine xB.go 1 (55, [(0, .ref 10), (1, .int (nI i))], [.int 5, .int (nI (K i))], XM L (xU a 14 (nI i).toNatClampNeg (-1)) (xU b 15 (nI i).toNatClampNeg 0)) rfl ?_
        refine xB.bp (¬ (nI (K i)) = 5) (101, [(0, .ref 10), (1, .int (nI i))], [], XM L (xU a 14 (nI i).toNatClampNeg (-1)) (xU b 15 (nI i).toNatClampNeg 0)) (58, [(0, .ref 10), (1, .int (nI i))], [], XM L (xU a 14 (nI i).toNatClampNeg (-1)) (xU b 15 (nI i).toNatClampNeg 0)) rfl (fun h3 => ?_) (fun h3 => ?_)
        · refine xB.go 2 (10, [(0, .ref 10), (1, .int ((nI i) + 1))], [], XM L (xU a 14 (nI i).toNatClampNeg (-1)) (xU b 15 (nI i).toNatClampNeg 0)) rfl ?_
          rw [nI_1, nI_clamp (by omega)]
          exact ih (i + 1) (by omega) (by omega) _ _ (hJ.next ⟨fun z => absurd z.2 (k_ne (c := 5) h3), fun _ => ⟨rfl, rfl⟩⟩)
        · refine xB.go 5 (65, [(0, .ref 10), (1, .int (nI i))], [.int (nI i), .ref 10, .int (nI i), .ref 14], XM L (xU a 14 (nI i).toNatClampNeg (-1)) (xU b 15 (nI i).toNatClampNeg 0)) rfl ?_
          refine xB.ca 7 [.ref 10, .int (nI i)] [.int (nI i), .ref 14] (c_nearestFor _ L _ _ hPa1 hi64) rfl ?_
          intro rr a0 b0 hq0
          obtain ⟨ha0, hb0, v, rfl, hNF⟩ := hq0
          rw [ha0, hb0]
          show xB _ _ L _ (68, [(0, .ref 10), (1, .int (nI i))], [.int v, .int (nI i), .ref 14], XM L (xU a 14 (nI i).toNatClampNeg (-1)) (xU b 15 (nI i).toNatClampNeg 0))
          refine xB.ck (xin (nI i) 64) (69, [(0, .ref 10), (1, .int (nI i))], [], XM L (xU (xU a 14 (nI i).toNatClampNeg (-1)) 14 (nI i).toNatClampNeg v) (xU b 15 (nI i).toNatClampNeg 0)) rfl (xin_of hi64 (by decide) rfl) ?_
          refine xB.go 6 (79, [(0, .ref 10), (1, .int (nI i))], [.int (nI i), .ref 11, .int (nI i), .ref 15], XM L (xU (xU a 14 (nI i).toNatClampNeg (-1)) 14 (nI i).toNatClampNeg v) (xU b 15 (nI i).toNatClampNeg 0)) rfl ?_
          refine xB.ck (xin (nI i) 64) (80, [(0, .ref 10), (1, .int (nI i))], [.long (b 11 (nI i).toNatClampNeg), .int (nI i), .ref 15], XM L (xU (xU a 14 (nI i).toNatClampNeg (-1)) 14 (nI i).toNatClampNeg v) (xU b 15 (nI i).toNatClampNeg 0)) rfl (xin_of hi64 (by decide) rfl) ?_
          refine xB.go 5 (89, [(0, .ref 10), (1, .int (nI i))], [.int (nI i), .ref 14, .ref 11, .long (b 11 (nI i).toNatClampNeg), .int (nI i), .ref 15], XM L (xU (xU a 14 (nI i).toNatClampNeg (-1)) 14 (nI i).toNatClampNeg v) (xU b 15 (nI i).toNatClampNeg 0)) rfl ?_
          refine xB.ck (xin (nI i) 64) (90, [(0, .ref 10), (1, .int (nI i))], [.int ((xU (xU a 14 (nI i).toNatClampNeg (-1)) 14 (nI i).toNatClampNeg v) 14 (nI i).toNatClampNeg), .ref 11, .long (b 11 (nI i).toNatClampNeg), .int (nI i), .ref 15], XM L (xU (xU a 14 (nI i).toNatClampNeg (-1)) 14 (nI i).toNatClampNeg v) (xU b 15 (nI i).toNatClampNeg 0)) rfl (xin_of hi64 (by decide) rfl) ?_
          refine xB.cg (90, [(0, .ref 10), (1, .int (nI i))], [.int v, .ref 11, .long (b 11 (nI i).toNatClampNeg), .int (nI i), .ref 15], XM L (xU (xU a 14 (nI i).toNatClampNeg (-1)) 14 (nI i).toNatClampNeg v) (xU b 15 (nI i).toNatClampNeg 0)) (by rw [xU_self]) ?_
          refine xB.c1 88 [.int v] [.ref 11, .long (b 11 (nI i).toNatClampNeg), .int (nI i), .ref 15] (c_bit _ L (xU (xU a 14 (nI i).toNatClampNeg (-1)) 14 (nI i).toNatClampNeg v) (xU b 15 (nI i).toNatClampNeg 0) v ) rfl ?_
          refine xB.go 2 (97, [(0, .ref 10), (1, .int (nI i))], [.long ((xbit v) ^^^ (-1)), .ref 11, .long (b 11 (nI i).toNatClampNeg), .int (nI i), .ref 15], XM L (xU (xU a 14 (nI i).toNatClampNeg (-1)) 14 (nI i).toNatClampNeg v) (xU b 15 (nI i).toNatClampNeg 0)) rfl ?_
          refine xB.ca 8 [.long (b 11 (nI i).toNatClampNeg), .ref 11, .long ((xbit v) ^^^ (-1))] [.int (nI i), .ref 15] (c_reach11 _ L _ _ _ _) rfl ?_
          intro rr a9 b9 hq9
          obtain ⟨ha9, hb9, Rr, rfl, hR⟩ := hq9
          rw [ha9, hb9]
          show xB _ _ L _ (100, [(0, .ref 10), (1, .int (nI i))], [.long Rr, .int (nI i), .ref 15], XM L (xU (xU a 14 (nI i).toNatClampNeg (-1)) 14 (nI i).toNatClampNeg v) (xU b 15 (nI i).toNatClampNeg 0))
          refine xB.ck (xin (nI i) 64) (101, [(0, .ref 10), (1, .int (nI i))], [], XM L (xU (xU a 14 (nI i).toNatClampNeg (-1)) 14 (nI i).toNatClampNeg v) (xU (xU b 15 (nI i).toNatClampNeg 0) 15 (nI i).toNatClampNeg Rr)) rfl (xin_of hi64 (by decide) rfl) ?_
          refine xB.go 2 (10, [(0, .ref 10), (1, .int ((nI i) + 1))], [], XM L (xU (xU a 14 (nI i).toNatClampNeg (-1)) 14 (nI i).toNatClampNeg v) (xU (xU b 15 (nI i).toNatClampNeg 0) 15 (nI i).toNatClampNeg Rr)) rfl ?_
          rw [nI_1, nI_clamp (by omega)]
          rw [xU_uu, xU_uu]
          refine ih (i + 1) (by omega) (by omega) _ _ (hJ.next ⟨fun _ => ⟨?_, fun j hj => ?_⟩, fun z => absurd ⟨hmb.mp h2, k_eq hk (c := 5) (by decide) (Classical.not_not.mp h3)⟩ z⟩)
          · exact NF.congr (b := xU b 15 i 0) (by rw [xU_ne (by decide), hJ.2.1 10 (by decide)]) (by rw [xU_ne (by decide), hJ.2.1 13 (by decide)]) (by rw [nI_clamp (by omega)] at hNF; exact hNF)
          · rw [hR j hj, nI_clamp (by omega)]
            rw [← hJ.2.1 11 (by decide)]
            exact Iff.rfl
/-- what is known behind Junctions.find -/
def JCT (n : Nat) (K T : Nat → Nat) (a : xmi) (b : xml) : Prop := (∀ i j, i < 64 → j < 64 → (hb (b 11 i) j = true ↔ (∃ h, Rh n K T i h) ∧ Fo K T i j)) ∧ (∀ i j, i < 64 → j < 64 → (hb (b 12 j) i = true ↔ (∃ h, Rh n K T i h) ∧ Fo K T i j)) ∧ (∀ i, i < 64 → (hb (b 10 7) i = true ↔ (∃ h, Rh n K T i h) ∧ K i = 9)) ∧
  (∀ j, j < 64 → (hb (b 10 8) j = true ↔ hRE b (hb (-1)) j)) ∧ (∀ q, q < n → ∀ j, j < 64 → (hb (b 13 q) j = true ↔ hb (b 10 8) j = true ∧ j ≠ q ∧ ¬ hRE b (hb (oth q)) j)) ∧ ∀ p, p < n → jAt n K (fun i => ∃ h, Rh n K T i h) b p (a 14 p) (b 15 p)
theorem hRE.congr {b ml : xml} {al : Nat → Bool} {j : Nat} (h10 : b 10 7 = ml 10 7) (h12 : b 12 = ml 12) : hRE b al j = hRE ml al j := by unfold hRE; rw [h10, h12]
theorem jAt.congr {n p : Nat} {K : Nat → Nat} {met : Nat → Prop} {ml b : xml} {v : Int32} {R : Int64} (h : jAt n K met ml p v R) (h10 : b 10 = ml 10) (h13 : b 13 = ml 13) (h11 : b 11 = ml 11) : jAt n K met b p v R := by
  unfold jAt at h ⊢
  refine ⟨fun z => ⟨NF.congr h10.symm h13.symm (h.1 z).1, ?_⟩, h.2⟩
  rw [h11]; exact (h.1 z).2
theorem JCT_of {n : Nat} {K T : Nat → Nat} {mi a : xmi} {ml ml1 ml2 b : xml} (hw : WF n K T) (hE : fE K T (fun i => ∃ h, Rh n K T i h) ml ml1 n) (hF : fP ml1 ml2 n) (hJ : fJ n K (fun i => ∃ h, Rh n K T i h) mi ml2 n a b) : JCT n K T a b ∧ (∀ x, x ≠ 10 → x ≠ 11 → x ≠ 12 → x ≠ 13 → x ≠ 15 → b x = ml x) := by
  obtain ⟨e1, e2, e3, e4⟩ := hE
  obtain ⟨p1, p2, p3, p4⟩ := hF
  obtain ⟨j1, j2, j3⟩ := hJ
  have b11 : b 11 = ml1 11 := by rw [j2 11 (by decide), p1 11 (by decide) (by decide)]
  have b12 : b 12 = ml1 12 := by rw [j2 12 (by decide), p1 12 (by decide) (by decide)]
  have b10 : b 10 = ml2 10 := j2 10 (by decide)
  have b107 : b 10 7 = ml1 10 7 := by rw [b10, p2]
  refine ⟨⟨fun i j hi hj => ?_, fun i j hi hj => ?_, fun i hi => ?_, fun j hj => ?_, fun q hq j hj => ?_, fun p hp => ?_⟩, fun x x1 x2 x3 x4 x5 => by rw [j2 x x5, p1 x x4 x1, e1 x x1 x2 x3]⟩
  · rw [b11, e2 i j hi hj]; exact ⟨fun g => g.2, fun g => ⟨hw.lt g.1, g⟩⟩
  · rw [b12, e3 i j hi hj]; exact ⟨fun g => g.2, fun g => ⟨hw.lt g.1, g⟩⟩
  · rw [b107, e4 i hi]; exact ⟨fun g => g.2, fun g => ⟨hw.lt g.1, g⟩⟩
  · rw [hRE.congr b107 b12, b10]; exact p3 j hj
  · rw [hRE.congr b107 b12, b10, j2 13 (by decide)]; exact p4 q hq j hj
  · exact (j3 p hp).congr b10 (j2 13 (by decide)) (j2 11 (by decide))
set_option maxRecDepth 100000 in
set_option maxHeartbeats 1000000 in
theorem c_jfind (d L : Nat) (mi : xmi) (ml : xml) {n : Nat} {K T : Nat → Nat} (hP : PRG mi n K T) (hw : WF n K T) (hm : ∀ i, i < 64 → (hb (ml 8 2) i = true ↔ ∃ h, Rh n K T i h)) : xF (d + 5) 3 [.ref 10] L mi ml (fun rr a b => rr = none ∧ (∀ x, x ≠ 14 → a x = mi x) ∧ (∀ x, x ≠ 10 → x ≠ 11 → x ≠ 12 → x ≠ 13 → x ≠ 15 → b x = ml x) ∧ JCT n K T a b) := by
  refine xF.mk mX0_find rfl rfl ?_
  refine xB.go 1 (1, [(0, .ref 10)], [.ref 10], XM L mi ml) rfl ?_
  refine xB.ca 4 [.ref 10] [] (c_findEdges _ L _ _ hP hw hm) rfl ?_
  intro r1 a1 ml1 hq1
  obtain ⟨rfl, ha1, hE⟩ := hq1
  rw [ha1]
  show xB _ _ L _ (4, [(0, .ref 10)], [], XM L mi ml1)
  refine xB.go 1 (5, [(0, .ref 10)], [.ref 10], XM L mi ml1) rfl ?_
  refine xB.ca 6 [.ref 10] [] (c_findPassing _ L _ _ hP) rfl ?_
  intro r2 a2 ml2 hq2
  obtain ⟨rfl, ha2, hF⟩ := hq2
  rw [ha2]
  show xB _ _ L _ (8, [(0, .ref 10)], [], XM L mi ml2)
  refine xB.go 2 (10, [(0, .ref 10), (1, .int 0)], [], XM L mi ml2) rfl ?_
  have e8 : ml2 8 = ml 8 := by rw [hF.1 8 (by decide) (by decide), hE.1 8 (by decide) (by decide) (by decide)]
  have hx := jfind_10 d L mi ml2 hP hw (fun i hi => by rw [e8]; exact hm i hi) (n + 1) 0 (Nat.zero_le _) (by omega) mi ml2 ⟨fun _ _ => rfl, fun _ _ => rfl, fun p hp => absurd hp (Nat.not_lt_zero _)⟩
  refine xR.po hx (fun r M hq => ?_)
  obtain ⟨a, b, e, h1, hJ⟩ := hq
  have hZ := JCT_of hw hE hF hJ
  exact ⟨a, b, e, h1, hJ.1, hZ.2, hZ.1⟩
