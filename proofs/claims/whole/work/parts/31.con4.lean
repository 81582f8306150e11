/-! the shape -/
def CT (n : Nat) (mi : xmi) (ml : xml) (q h : Nat) (a : xmi) (b : xml) : Prop :=
  (¬ q < n ∧ a = xU mi 8 4 0 ∧ b = ml) ∨ (q < n ∧ hb (ml 8 2) q = false ∧ a = xU mi 9 q (nI h) ∧ b = xU (xU ml 8 2 (ml 8 2 ||| xbit (nI q))) 8 3 (ml 8 3 ||| xbit (nI q))) ∨
  (q < n ∧ hb (ml 8 2) q = true ∧ ¬ mi 9 q = nI h ∧ a = xU mi 8 4 0 ∧ b = ml) ∨ (q < n ∧ hb (ml 8 2) q = true ∧ mi 9 q = nI h ∧ a = mi ∧ b = ml)
theorem PRG.has {mi : xmi} {n : Nat} {K T : Nat → Nat} (hP : PRG mi n K T) {q : Nat} (hq : q < 2 ^ 31) : (0 ≤ nI q ∧ nI q < mi 1 2) ↔ q < n := by rw [hP.1]; exact nI_rng (by have := hP.2.1; omega) hq
theorem hb_P {s : Int64} {q : Nat} (hq : q < 64) : (0 ≤ nI q ∧ nI q < 64 ∧ hb s (nI q).toNatClampNeg = true) ↔ hb s q = true := by
  rw [nI_clamp (by omega)]
  exact ⟨fun h => h.2.2, fun h => ⟨nI_pos' (by omega), nI_lt hq (by decide), h⟩⟩
theorem xU_64 {α : Type} {f : Nat → Nat → α} {a q : Nat} {v : α} (hq : q < 2 ^ 31) : xU f a (nI q).toNatClampNeg v = xU f a q v := by rw [nI_clamp hq]
set_option maxRecDepth 100000 in
set_option maxHeartbeats 1000000 in
theorem c_comeTo (d L : Nat) (mi : xmi) (ml : xml) {n : Nat} {K T : Nat → Nat} (hP : PRG mi n K T) (q h : Nat) (hq : q < 2 ^ 31) : xF (d + 2) 55 [.ref 8, .int (nI q), .int (nI h)] L mi ml (fun r a b => r = none ∧ CT n mi ml q h a b) := by
  refine xF.mk mX6_comeTo rfl rfl ?_
  refine xB.go 3 (5, [(0, .ref 8), (1, .int (nI q)), (2, .int (nI h))], [.int (nI q), .ref 1], XM L mi ml) rfl ?_
  refine xB.c1 41 [.ref 1, .int (nI q)] [] (c_has _ L mi ml (nI q) ) rfl ?_
  refine xB.bn (0 ≤ (nI q) ∧ (nI q) < mi 1 2) (19, [(0, .ref 8), (1, .int (nI q)), (2, .int (nI h))], [], XM L mi ml) (11, [(0, .ref 8), (1, .int (nI q)), (2, .int (nI h))], [], XM L mi ml) rfl (fun h1 => ?_) (fun h1 => ?_)
  · refine xB.go 3 (24, [(0, .ref 8), (1, .int (nI q)), (2, .int (nI h))], [.int (nI q), .long (ml 8 2)], XM L mi ml) rfl ?_
    refine xB.c1 89 [.long (ml 8 2), .int (nI q)] [] (c_holds _ L mi ml (ml 8 2) (nI q) ) rfl ?_
    refine xB.bn (0 ≤ (nI q) ∧ (nI q) < 64 ∧ hb (ml 8 2) (nI q).toNatClampNeg = true) (66, [(0, .ref 8), (1, .int (nI q)), (2, .int (nI h))], [], XM L mi ml) (30, [(0, .ref 8), (1, .int (nI q)), (2, .int (nI h))], [], XM L mi ml) rfl (fun h2 => ?_) (fun h2 => ?_)
    · refine xB.go 3 (71, [(0, .ref 8), (1, .int (nI q)), (2, .int (nI h))], [.int (nI q), .ref 9], XM L mi ml) rfl ?_
      refine xB.ck (xin (nI q) 64) (72, [(0, .ref 8), (1, .int (nI q)), (2, .int (nI h))], [.int (mi 9 (nI q).toNatClampNeg)], XM L mi ml) rfl (xck hP.1 hP.2.1 h1) ?_
      refine xB.go 1 (73, [(0, .ref 8), (1, .int (nI q)), (2, .int (nI h))], [.int (nI h), .int (mi 9 (nI q).toNatClampNeg)], XM L mi ml) rfl ?_
      refine xB.bp ((mi 9 (nI q).toNatClampNeg) = (nI h)) (81, [(0, .ref 8), (1, .int (nI q)), (2, .int (nI h))], [], XM L mi ml) (76, [(0, .ref 8), (1, .int (nI q)), (2, .int (nI h))], [], XM L mi ml) rfl (fun h3 => ?_) (fun h3 => ?_)
      · refine xB.rt none mi ml rfl ?_
        have g1 := (hP.has hq).mp h1
        have g64 : q < 64 := Nat.lt_of_lt_of_le g1 hP.2.1
        have g2 := (hb_P g64).mp h2
        rw [nI_clamp hq] at h3
        exact ⟨rfl, Or.inr (Or.inr (Or.inr ⟨g1, g2, h3, rfl, rfl⟩))⟩
      · refine xB.go 3 (81, [(0, .ref 8), (1, .int (nI q)), (2, .int (nI h))], [], XM L (xU mi 8 4 0) ml) rfl ?_
        refine xB.rt none (xU mi 8 4 0) ml rfl ?_
        have g1 := (hP.has hq).mp h1
        have g64 : q < 64 := Nat.lt_of_lt_of_le g1 hP.2.1
        have g2 := (hb_P g64).mp h2
        rw [nI_clamp hq] at h3
        exact ⟨rfl, Or.inr (Or.inr (Or.inl ⟨g1, g2, h3, rfl, rfl⟩))⟩
    · refine xB.go 4 (36, [(0, .ref 8), (1, .int (nI q)), (2, .int (nI h))], [.int (nI q), .long (ml 8 2), .ref 8], XM L mi ml) rfl ?_
      refine xB.c1 88 [.int (nI q)] [.long (ml 8 2), .ref 8] (c_bit _ L mi ml (nI q) ) rfl ?_
      refine xB.go 6 (49, [(0, .ref 8), (1, .int (nI q)), (2, .int (nI h))], [.int (nI q), .long (ml 8 3), .ref 8], XM L mi (xU ml 8 2 ((ml 8 2) ||| (xbit (nI q))))) rfl ?_
      refine xB.c1 88 [.int (nI q)] [.long (ml 8 3), .ref 8] (c_bit _ L mi (xU ml 8 2 ((ml 8 2) ||| (xbit (nI q)))) (nI q) ) rfl ?_
      refine xB.go 6 (62, [(0, .ref 8), (1, .int (nI q)), (2, .int (nI h))], [.int (nI h), .int (nI q), .ref 9], XM L mi (xU (xU ml 8 2 ((ml 8 2) ||| (xbit (nI q)))) 8 3 ((ml 8 3) ||| (xbit (nI q))))) rfl ?_
      refine xB.ck (xin (nI q) 64) (63, [(0, .ref 8), (1, .int (nI q)), (2, .int (nI h))], [], XM L (xU mi 9 (nI q).toNatClampNeg (nI h)) (xU (xU ml 8 2 ((ml 8 2) ||| (xbit (nI q)))) 8 3 ((ml 8 3) ||| (xbit (nI q))))) rfl (xck hP.1 hP.2.1 h1) ?_
      refine xB.go 1 (81, [(0, .ref 8), (1, .int (nI q)), (2, .int (nI h))], [], XM L (xU mi 9 (nI q).toNatClampNeg (nI h)) (xU (xU ml 8 2 ((ml 8 2) ||| (xbit (nI q)))) 8 3 ((ml 8 3) ||| (xbit (nI q))))) rfl ?_
      refine xB.rt none (xU mi 9 (nI q).toNatClampNeg (nI h)) (xU (xU ml 8 2 ((ml 8 2) ||| (xbit (nI q)))) 8 3 ((ml 8 3) ||| (xbit (nI q)))) rfl ?_
      have g1 := (hP.has hq).mp h1
      have g64 : q < 64 := Nat.lt_of_lt_of_le g1 hP.2.1
      have g2 : hb (ml 8 2) q = false := by cases hz : hb (ml 8 2) q with | false => rfl | true => exact absurd ((hb_P g64).mpr hz) h2
      exact ⟨rfl, Or.inr (Or.inl ⟨g1, g2, xU_64 hq, rfl⟩)⟩
  · refine xB.go 4 (81, [(0, .ref 8), (1, .int (nI q)), (2, .int (nI h))], [], XM L (xU mi 8 4 0) ml) rfl ?_
    refine xB.rt none (xU mi 8 4 0) ml rfl ?_
    exact ⟨rfl, Or.inl ⟨fun z => h1 ((hP.has hq).mpr z), rfl, rfl⟩⟩
theorem c_kindN (d L : Nat) (mi : xmi) (ml : xml) {n : Nat} {K T : Nat → Nat} (hP : PRG mi n K T) {i : Nat} (hi : i < n) : xFv (d + 2) 42 [.ref 1, .int (nI i)] L mi ml (.int (nI (K i))) mi ml := by
  have h := c_kindAt d L mi ml (nI i) hP.1 hP.2.1
  rwa [hP.kind hi] at h
theorem c_pfN (d L : Nat) (mi : xmi) (ml : xml) {n : Nat} {K T : Nat → Nat} (hP : PRG mi n K T) {i : Nat} (hi : i < n) (h9 : K i ≠ 9) : xFv (d + 3) 46 [.ref 1, .int (nI i)] L mi ml (.int (nI (if K i = 4 then T i else i + 1))) mi ml := by
  have h := c_plainFollower d L mi ml (nI i) hP.1 hP.2.1
  rwa [hP.pf hi h9] at h
theorem c_ofN (d L : Nat) (mi : xmi) (ml : xml) {n : Nat} {K T : Nat → Nat} (hP : PRG mi n K T) {i : Nat} (hi : i < n) (h5 : K i = 5) : xFv (d + 3) 47 [.ref 1, .int (nI i)] L mi ml (.int (nI (T i))) mi ml := by
  have h := c_otherFollower d L mi ml (nI i) hP.1 hP.2.1
  rwa [hP.ofr hi h5] at h
theorem PRG.frame {mi a : xmi} {n : Nat} {K T : Nat → Nat} (hP : PRG mi n K T) (h1 : a 1 = mi 1) (h2 : a 2 = mi 2) (h3 : a 3 = mi 3) (h4 : a 1002 = mi 1002) (h5 : a 1003 = mi 1003) : PRG a n K T := by
  unfold PRG; rw [h1, h2, h3, h4, h5]; exact hP
theorem CT.frame {n q h : Nat} {mi a : xmi} {ml b : xml} (hc : CT n mi ml q h a b) : (∀ x, x ≠ 8 → x ≠ 9 → a x = mi x) ∧ (∀ x, x ≠ 8 → b x = ml x) := by
  rcases hc with ⟨-, rfl, rfl⟩ | ⟨-, -, rfl, rfl⟩ | ⟨-, -, -, rfl, rfl⟩ | ⟨-, -, -, rfl, rfl⟩
  · exact ⟨fun x h8 _ => xU_ne h8, fun _ _ => rfl⟩
  · exact ⟨fun x _ h9 => xU_ne h9, fun x h8 => by rw [xU_ne h8, xU_ne h8]⟩
  · exact ⟨fun x h8 _ => xU_ne h8, fun _ _ => rfl⟩
  · exact ⟨fun _ _ _ => rfl, fun _ _ => rfl⟩
theorem CT.prg {n n' q h : Nat} {K T : Nat → Nat} {mi a : xmi} {ml b : xml} (hc : CT n' mi ml q h a b) (hP : PRG mi n K T) : PRG a n K T := by
  obtain ⟨h1, -⟩ := hc.frame
  exact hP.frame (h1 1 (by decide) (by decide)) (h1 2 (by decide) (by decide)) (h1 3 (by decide) (by decide)) (h1 1002 (by decide) (by decide)) (h1 1003 (by decide) (by decide))
/-- what goOnFrom does at i, with h ints on the pile -/
def GO (n : Nat) (K T : Nat → Nat) (mi : xmi) (ml : xml) (i h : Nat) (a : xmi) (b : xml) : Prop :=
  (¬ (tk (K i) ≤ h ∧ h - tk (K i) + pt (K i) ≤ 16) ∧ a = xU mi 8 4 0 ∧ b = ml) ∨
  ((tk (K i) ≤ h ∧ h - tk (K i) + pt (K i) ≤ 16) ∧ ((K i = 9 ∧ a = mi ∧ b = ml) ∨ (K i ≠ 9 ∧ K i ≠ 5 ∧ CT n mi ml (if K i = 4 then T i else i + 1) (h - tk (K i) + pt (K i)) a b) ∨
    (K i = 5 ∧ ∃ a1 b1, CT n mi ml (i + 1) (h - tk (K i) + pt (K i)) a1 b1 ∧ CT n a1 b1 (T i) (h - tk (K i) + pt (K i)) a b)))
theorem nI_subneg {h t : Nat} (hh : h < 2 ^ 30) (ht : t < 2 ^ 30) : nI h - nI t < 0 ↔ h < t := by
  rw [Int32.lt_iff_toInt_lt, pk_sub_toInt hh ht, Int32.toInt_zero]; omega
theorem nI_subeq {h t : Nat} (h1 : t ≤ h) : nI h - nI t = nI (h - t) := pk_sub h1
theorem go_le {h : Nat} {k : Nat} (h16 : h ≤ 16) (hk : k < 10) (g : ¬ nI h - nI (tk k) < 0) : tk k ≤ h := by
  have := (tk_le k hk).1
  rw [nI_subneg (by omega) (by omega)] at g
  omega
theorem go_n9 {k : Nat} (hk : k < 10) (g : ¬ nI k = 9) : k ≠ 9 := fun z => g (by rw [z]; rfl)
theorem go_5 {k : Nat} (hk : k < 10) (g : ¬ ¬ nI k = 5) : k = 5 := by
  have g := Classical.not_not.mp g
  rw [show (5 : Int32) = nI 5 from rfl, nI_eq (by omega) (by omega)] at g
  exact g
theorem go_n5 {k : Nat} (hk : k < 10) (g : ¬ nI k = 5) : k ≠ 5 := fun z => g (by rw [z]; rfl)
theorem go_9 {k : Nat} (hk : k < 10) (g : nI k = 9) : k = 9 := by
  rw [show (9 : Int32) = nI 9 from rfl, nI_eq (by omega) (by omega)] at g
  exact g
theorem go_lt {mi : xmi} {n : Nat} {K T : Nat → Nat} (hP : PRG mi n K T) {i : Nat} (hi : i < n) (hk : K i < 10) : (if K i = 4 then T i else i + 1) < 2 ^ 31 := by
  have := hP.2.1
  by_cases h : K i = 4
  · rw [if_pos h]; have := (hP.2.2.2.1 i hi (Or.inl h)).2; omega
  · rw [if_neg h]; omega
theorem go_lt5 {mi : xmi} {n : Nat} {K T : Nat → Nat} (hP : PRG mi n K T) {i : Nat} (hi : i < n) (h : K i = 5) : T i < 2 ^ 31 := by
  have := (hP.2.2.2.1 i hi (Or.inr h)).2; omega
set_option maxRecDepth 100000 in
set_option maxHeartbeats 1000000 in
theorem c_goOnFrom (d L : Nat) (mi : xmi) (ml : xml) {n : Nat} {K T : Nat → Nat} (hP : PRG mi n K T) {i h : Nat} (hi : i < n) (hh : mi 9 i = nI h) (h16 : h ≤ 16) : xF (d + 4) 54 [.ref 8, .int (nI i)] L mi ml (fun r a b => r = none ∧ GO n K T mi ml i h a b) := by
  have hk := (hP.2.2.1 i hi).2
  have hi31 : i < 2 ^ 31 := by have := hP.2.1; omega
  have hk31 : K i < 2 ^ 31 := by omega
  refine xF.mk mX6_goOnFrom rfl rfl ?_
  refine xB.go 3 (5, [(0, .ref 8), (1, .int (nI i))], [.int (nI i), .ref 1], XM L mi ml) rfl ?_
  refine xB.c1 42 [.ref 1, .int (nI i)] [] (c_kindN _ L _ _ hP hi) rfl ?_
  refine xB.go 4 (14, [(0, .ref 8), (1, .int (nI i)), (2, .int (nI (K i)))], [.int (nI i), .ref 9], XM L mi ml) rfl ?_
  refine xB.ck (xin (nI i) 64) (15, [(0, .ref 8), (1, .int (nI i)), (2, .int (nI (K i)))], [.int (mi 9 (nI i).toNatClampNeg)], XM L mi ml) rfl (xin_of (show i < 64 from Nat.lt_of_lt_of_le hi hP.2.1) (by decide) rfl) ?_
  refine xB.cg (15, [(0, .ref 8), (1, .int (nI i)), (2, .int (nI (K i)))], [.int (nI h)], XM L mi ml) (by rw [nI_clamp hi31, hh]) ?_
  refine xB.go 2 (19, [(0, .ref 8), (1, .int (nI i)), (2, .int (nI (K i)))], [.int (nI (K i)), .ref 1002, .int (nI h)], XM L mi ml) rfl ?_
  refine xB.ck (xin (nI (K i)) 10) (20, [(0, .ref 8), (1, .int (nI i)), (2, .int (nI (K i)))], [.int (mi 1002 (nI (K i)).toNatClampNeg), .int (nI h)], XM L mi ml) rfl (xin_of hk (by decide) rfl) ?_
  refine xB.cg (20, [(0, .ref 8), (1, .int (nI i)), (2, .int (nI (K i)))], [.int (nI (tk (K i))), .int (nI h)], XM L mi ml) (by rw [nI_clamp hk31, hP.2.2.2.2.1, (tk_le _ hk).2]) ?_
  refine xB.go 5 (27, [(0, .ref 8), (1, .int (nI i)), (2, .int (nI (K i))), (3, .int ((nI h) - (nI (tk (K i)))))], [.int (nI (K i)), .ref 1003, .int ((nI h) - (nI (tk (K i))))], XM L mi ml) rfl ?_
  refine xB.ck (xin (nI (K i)) 10) (28, [(0, .ref 8), (1, .int (nI i)), (2, .int (nI (K i))), (3, .int ((nI h) - (nI (tk (K i)))))], [.int (mi 1003 (nI (K i)).toNatClampNeg), .int ((nI h) - (nI (tk (K i))))], XM L mi ml) rfl (xin_of hk (by decide) rfl) ?_
  refine xB.cg (28, [(0, .ref 8), (1, .int (nI i)), (2, .int (nI (K i))), (3, .int ((nI h) - (nI (tk (K i)))))], [.int (nI (pt (K i))), .int ((nI h) - (nI (tk (K i))))], XM L mi ml) (by rw [nI_clamp hk31, hP.2.2.2.2.2, (pt_le _ hk).2]) ?_
  refine xB.go 3 (32, [(0, .ref 8), (1, .int (nI i)), (2, .int (nI (K i))), (3, .int ((nI h) - (nI (tk (K i))))), (4, .int (((nI h) - (nI (tk (K i)))) + (nI (pt (K i)))))], [.int ((nI h) - (nI (tk (K i))))], XM L mi ml) rfl ?_
  refine xB.bp (((nI h) - (nI (tk (K i)))) < 0) (42, [(0, .ref 8), (1, .int (nI i)), (2, .int (nI (K i))), (3, .int ((nI h) - (nI (tk (K i))))), (4, .int (((nI h) - (nI (tk (K i)))) + (nI (pt (K i)))))], [], XM L mi ml) (35, [(0, .ref 8), (1, .int (nI i)), (2, .int (nI (K i))), (3, .int ((nI h) - (nI (tk (K i))))), (4, .int (((nI h) - (nI (tk (K i)))) + (nI (pt (K i)))))], [], XM L mi ml) rfl (fun h1 => ?_) (fun h1 => ?_)
  · refine xB.go 3 (47, [(0, .ref 8), (1, .int (nI i)), (2, .int (nI (K i))), (3, .int ((nI h) - (nI (tk (K i))))), (4, .int (((nI h) - (nI (tk (K i)))) + (nI (pt (K i)))))], [], XM L (xU mi 8 4 0) ml) rfl ?_
    refine xB.rt none (xU mi 8 4 0) ml rfl ?_
    refine ⟨rfl, Or.inl ⟨fun z => ?_, rfl, rfl⟩⟩
    have := (tk_le _ hk).1
    rw [nI_subneg (by omega) (by omega)] at h1
    omega
  · refine xB.cg (35, [(0, .ref 8), (1, .int (nI i)), (2, .int (nI (K i))), (3, .int (nI (h - tk (K i)))), (4, .int ((nI (h - tk (K i))) + (nI (pt (K i)))))], [], XM L mi ml) (by rw [nI_subeq (go_le h16 hk h1)]) ?_
    refine xB.cg (35, [(0, .ref 8), (1, .int (nI i)), (2, .int (nI (K i))), (3, .int (nI (h - tk (K i)))), (4, .int (nI (h - tk (K i) + pt (K i))))], [], XM L mi ml) (by rw [nI_add]) ?_
    refine xB.go 2 (39, [(0, .ref 8), (1, .int (nI i)), (2, .int (nI (K i))), (3, .int (nI (h - tk (K i)))), (4, .int (nI (h - tk (K i) + pt (K i))))], [.int 16, .int (nI (h - tk (K i) + pt (K i)))], XM L mi ml) rfl ?_
    refine xB.bp ((nI (h - tk (K i) + pt (K i))) ≤ 16) (48, [(0, .ref 8), (1, .int (nI i)), (2, .int (nI (K i))), (3, .int (nI (h - tk (K i)))), (4, .int (nI (h - tk (K i) + pt (K i))))], [], XM L mi ml) (42, [(0, .ref 8), (1, .int (nI i)), (2, .int (nI (K i))), (3, .int (nI (h - tk (K i)))), (4, .int (nI (h - tk (K i) + pt (K i))))], [], XM L mi ml) rfl (fun h2 => ?_) (fun h2 => ?_)
    · refine xB.go 2 (51, [(0, .ref 8), (1, .int (nI i)), (2, .int (nI (K i))), (3, .int (nI (h - tk (K i)))), (4, .int (nI (h - tk (K i) + pt (K i))))], [.int 9, .int (nI (K i))], XM L mi ml) rfl ?_
      refine xB.bp ((nI (K i)) = 9) (68, [(0, .ref 8), (1, .int (nI i)), (2, .int (nI (K i))), (3, .int (nI (h - tk (K i)))), (4, .int (nI (h - tk (K i) + pt (K i))))], [], XM L mi ml) (54, [(0, .ref 8), (1, .int (nI i)), (2, .int (nI (K i))), (3, .int (nI (h - tk (K i)))), (4, .int (nI (h - tk (K i) + pt (K i))))], [], XM L mi ml) rfl (fun h3 => ?_) (fun h3 => ?_)
      · refine xB.go 2 (70, [(0, .ref 8), (1, .int (nI i)), (2, .int (nI (K i))), (3, .int (nI (h - tk (K i)))), (4, .int (nI (h - tk (K i) + pt (K i))))], [.int 5, .int (nI (K i))], XM L mi ml) rfl ?_
        refine xB.bp (¬ (nI (K i)) = 5) (87, [(0, .ref 8), (1, .int (nI i)), (2, .int (nI (K i))), (3, .int (nI (h - tk (K i)))), (4, .int (nI (h - tk (K i) + pt (K i))))], [], XM L mi ml) (73, [(0, .ref 8), (1, .int (nI i)), (2, .int (nI (K i))), (3, .int (nI (h - tk (K i)))), (4, .int (nI (h - tk (K i) + pt (K i))))], [], XM L mi ml) rfl (fun h4 => ?_) (fun h4 => ?_)
        · refine xB.rt none mi ml rfl ?_
          have g1 := go_le h16 hk h1
          have g2 : h - tk (K i) + pt (K i) ≤ 16 := by have := (tk_le _ hk).1; have := (pt_le _ hk).1; exact (nI_leI (by omega) (by decide)).mp h2
          exact ⟨rfl, Or.inr ⟨⟨g1, g2⟩, Or.inl ⟨go_9 hk h3, rfl, rfl⟩⟩⟩
        · refine xB.go 4 (79, [(0, .ref 8), (1, .int (nI i)), (2, .int (nI (K i))), (3, .int (nI (h - tk (K i)))), (4, .int (nI (h - tk (K i) + pt (K i))))], [.int (nI i), .ref 1, .ref 8], XM L mi ml) rfl ?_
          refine xB.c1 47 [.ref 1, .int (nI i)] [.ref 8] (c_ofN _ L _ _ hP hi (go_5 hk h4)) rfl ?_
          refine xB.go 1 (84, [(0, .ref 8), (1, .int (nI i)), (2, .int (nI (K i))), (3, .int (nI (h - tk (K i)))), (4, .int (nI (h - tk (K i) + pt (K i))))], [.int (nI (h - tk (K i) + pt (K i))), .int (nI (T i)), .ref 8], XM L mi ml) rfl ?_
          refine xB.ca 55 [.ref 8, .int (nI (T i)), .int (nI (h - tk (K i) + pt (K i)))] [] (c_comeTo _ L _ _ hP (T i) (h - tk (K i) + pt (K i)) (go_lt5 hP hi (go_5 hk h4))) rfl ?_
          intro r1 a1 b1 hq1
          obtain ⟨rfl, hq1⟩ := hq1
          have hP1 := hq1.prg hP
          show xB _ _ L _ (87, [(0, .ref 8), (1, .int (nI i)), (2, .int (nI (K i))), (3, .int (nI (h - tk (K i)))), (4, .int (nI (h - tk (K i) + pt (K i))))], [], XM L a1 b1)
          refine xB.rt none a1 b1 rfl ?_
          exact absurd ((go_5 hk h4).symm.trans (go_9 hk h3)) (by decide)
      · refine xB.go 4 (60, [(0, .ref 8), (1, .int (nI i)), (2, .int (nI (K i))), (3, .int (nI (h - tk (K i)))), (4, .int (nI (h - tk (K i) + pt (K i))))], [.int (nI i), .ref 1, .ref 8], XM L mi ml) rfl ?_
        refine xB.c1 46 [.ref 1, .int (nI i)] [.ref 8] (c_pfN _ L _ _ hP hi (go_n9 hk h3)) rfl ?_
        refine xB.go 1 (65, [(0, .ref 8), (1, .int (nI i)), (2, .int (nI (K i))), (3, .int (nI (h - tk (K i)))), (4, .int (nI (h - tk (K i) + pt (K i))))], [.int (nI (h - tk (K i) + pt (K i))), .int (nI (if K i = 4 then T i else i + 1)), .ref 8], XM L mi ml) rfl ?_
        refine xB.ca 55 [.ref 8, .int (nI (if K i = 4 then T i else i + 1)), .int (nI (h - tk (K i) + pt (K i)))] [] (c_comeTo _ L _ _ hP (if K i = 4 then T i else i + 1) (h - tk (K i) + pt (K i)) (go_lt hP hi hk)) rfl ?_
        intro r1 a1 b1 hq1
        obtain ⟨rfl, hq1⟩ := hq1
        have hP1 := hq1.prg hP
        show xB _ _ L _ (68, [(0, .ref 8), (1, .int (nI i)), (2, .int (nI (K i))), (3, .int (nI (h - tk (K i)))), (4, .int (nI (h - tk (K i) + pt (K i))))], [], XM L a1 b1)
        refine xB.go 2 (70, [(0, .ref 8), (1, .int (nI i)), (2, .int (nI (K i))), (3, .int (nI (h - tk (K i)))), (4, .int (nI (h - tk (K i) + pt (K i))))], [.int 5, .int (nI (K i))], XM L a1 b1) rfl ?_
        refine xB.bp (¬ (nI (K i)) = 5) (87, [(0, .ref 8), (1, .int (nI i)), (2, .int (nI (K i))), (3, .int (nI (h - tk (K i)))), (4, .int (nI (h - tk (K i) + pt (K i))))], [], XM L a1 b1) (73, [(0, .ref 8), (1, .int (nI i)), (2, .int (nI (K i))), (3, .int (nI (h - tk (K i)))), (4, .int (nI (h - tk (K i) + pt (K i))))], [], XM L a1 b1) rfl (fun h5 => ?_) (fun h5 => ?_)
        · refine xB.rt none a1 b1 rfl ?_
          have g1 := go_le h16 hk h1
          have g2 : h - tk (K i) + pt (K i) ≤ 16 := by have := (tk_le _ hk).1; have := (pt_le _ hk).1; exact (nI_leI (by omega) (by decide)).mp h2
          exact ⟨rfl, Or.inr ⟨⟨g1, g2⟩, Or.inr (Or.inl ⟨go_n9 hk h3, go_n5 hk h5, hq1⟩)⟩⟩
        · refine xB.go 4 (79, [(0, .ref 8), (1, .int (nI i)), (2, .int (nI (K i))), (3, .int (nI (h - tk (K i)))), (4, .int (nI (h - tk (K i) + pt (K i))))], [.int (nI i), .ref 1, .ref 8], XM L a1 b1) rfl ?_
          refine xB.c1 47 [.ref 1, .int (nI i)] [.ref 8] (c_ofN _ L _ _ hP1 hi (go_5 hk h5)) rfl ?_
          refine xB.go 1 (84, [(0, .ref 8), (1, .int (nI i)), (2, .int (nI (K i))), (3, .int (nI (h - tk (K i)))), (4, .int (nI (h - tk (K i) + pt (K i))))], [.int (nI (h - tk (K i) + pt (K i))), .int (nI (T i)), .ref 8], XM L a1 b1) rfl ?_
          refine xB.ca 55 [.ref 8, .int (nI (T i)), .int (nI (h - tk (K i) + pt (K i)))] [] (c_comeTo _ L _ _ hP1 (T i) (h - tk (K i) + pt (K i)) (go_lt5 hP hi (go_5 hk h5))) rfl ?_
          intro r2 a2 b2 hq2
          obtain ⟨rfl, hq2⟩ := hq2
          show xB _ _ L _ (87, [(0, .ref 8), (1, .int (nI i)), (2, .int (nI (K i))), (3, .int (nI (h - tk (K i)))), (4, .int (nI (h - tk (K i) + pt (K i))))], [], XM L a2 b2)
          refine xB.rt none a2 b2 rfl ?_
          have g1 := go_le h16 hk h1
          have g2 : h - tk (K i) + pt (K i) ≤ 16 := by have := (tk_le _ hk).1; have := (pt_le _ hk).1; exact (nI_leI (by omega) (by decide)).mp h2
          have g5 := go_5 hk h5
          rw [if_neg (by rw [g5]; decide)] at hq1
          exact ⟨rfl, Or.inr ⟨⟨g1, g2⟩, Or.inr (Or.inr ⟨g5, a1, b1, hq1, hq2⟩)⟩⟩
    · refine xB.go 3 (47, [(0, .ref 8), (1, .int (nI i)), (2, .int (nI (K i))), (3, .int (nI (h - tk (K i)))), (4, .int (nI (h - tk (K i) + pt (K i))))], [], XM L (xU mi 8 4 0) ml) rfl ?_
      refine xB.rt none (xU mi 8 4 0) ml rfl ?_
      refine ⟨rfl, Or.inl ⟨fun z => ?_, rfl, rfl⟩⟩
      have := (tk_le _ hk).1
      have := (pt_le _ hk).1
      exact h2 (nI_le z.2 (by decide))
