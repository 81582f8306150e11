/-! one instruction is done -/
theorem oadd_lt {c : Int32} {cn : Nat} (h : c = nI cn) (hc : cn < 2 ^ 30) : (¬ 64 ≤ c) ↔ cn < 64 := by
  subst h; rw [show (64 : Int32) = nI 64 from rfl, nI_leI (by decide) (by omega)]; omega
set_option maxRecDepth 100000 in
set_option maxHeartbeats 1000000 in
theorem c_doAt22 (d L : Nat) (mi : xmi) (ml : xml) {n : Nat} {K T : Nat → Nat} (hP : PRG mi n K T) (hN : NUM mi n K T) {i h cn : Nat} (hin : i < n) (hh : mi 18 2 = nI h) (h16 : h ≤ 16) (htk : tk (K i) ≤ h) (hg : h - tk (K i) + pt (K i) ≤ 16) (hcn : mi 24 4 = nI cn) (hcb : cn < 2 ^ 30) (hO3 : mi 24 3 = 0) : xF (d + 4) 17 [.ref 18, .int (nI i), .ref 22, .ref 24] L mi ml (fun rr a b => ∃ v, rr = some (.int v) ∧ b = ml ∧ DA 23 24 K T mi i h cn v a) := by
  have hk := (hP.2.2.1 i hin).2
  have hi64 : i < 64 := Nat.lt_of_lt_of_le hin hP.2.1
  refine xF.mk mX2_doAt rfl rfl ?_
  refine xB.go 3 (5, [(0, .ref 18), (1, .int (nI i)), (2, .ref 22), (3, .ref 24)], [.int (nI i), .ref 1], XM L mi ml) rfl ?_
  refine xB.c1 43 [.ref 1, .int (nI i)] [] (c_numberN _ L _ _ hP hin) rfl ?_
  refine xB.go 4 (15, [(0, .ref 18), (1, .int (nI i)), (2, .ref 22), (3, .ref 24), (4, .int (mi 3 i))], [.int (nI i), .ref 1], XM L mi ml) rfl ?_
  refine xB.c1 42 [.ref 1, .int (nI i)] [] (c_kindN _ L _ _ hP hin) rfl ?_
  by_cases h1 : (nI (K i)) = 0
  · refine xB.tp h1 ?_
    refine xB.go 1 (68, [(0, .ref 18), (1, .int (nI i)), (2, .ref 22), (3, .ref 24), (4, .int (mi 3 i))], [], XM L mi ml) rfl ?_
    have g : K i = 0 := k_eq hk (c := 0) (by decide) h1
    have gt : tk (K i) = 0 := by rw [g]; rfl
    have gp : pt (K i) = 1 := by rw [g]; rfl
    refine xB.go 2 (71, [(0, .ref 18), (1, .int (nI i)), (2, .ref 22), (3, .ref 24), (4, .int (mi 3 i))], [.int (mi 3 i), .ref 18], XM L mi ml) rfl ?_
    refine xB.c0 21 [.ref 18, .int (mi 3 i)] [] (c_put _ L _ _ (h := h) _ hh (by omega)) rfl ?_
    refine xB.go 4 (181, [(0, .ref 18), (1, .int (nI i)), (2, .ref 22), (3, .ref 24), (4, .int (mi 3 i))], [.int ((nI i) + 1)], XM L (xU (xU mi 19 h (mi 3 i)) 18 2 (nI (h + 1))) ml) rfl ?_
    refine xB.rt (some (.int ((nI i) + 1))) (xU (xU mi 19 h (mi 3 i)) 18 2 (nI (h + 1))) ml rfl ?_
    refine ⟨_, rfl, rfl, ?_⟩
    unfold DA
    rw [g]
    exact ⟨by rw [nI_1]; rfl, fun x h1 h2 h3 h4 h5 h6 => by simp only [xU_ne h1, xU_ne h2], rfl, rfl, rfl, rfl, hcn, rfl, hO3, rfl⟩
  by_cases h2 : (nI (K i)) = 1
  · refine xB.tp h2 ?_
    refine xB.go 1 (77, [(0, .ref 18), (1, .int (nI i)), (2, .ref 22), (3, .ref 24), (4, .int (mi 3 i))], [], XM L mi ml) rfl ?_
    have g : K i = 1 := k_eq hk (c := 1) (by decide) h2
    have gt : tk (K i) = 0 := by rw [g]; rfl
    have gp : pt (K i) = 1 := by rw [g]; rfl
    have hz := (hN i hin).1 (Or.inl g)
    refine xB.cg (77, [(0, .ref 18), (1, .int (nI i)), (2, .ref 22), (3, .ref 24), (4, .int (nI (T i)))], [], XM L mi ml) (by rw [hz.1]) ?_
    refine xB.go 3 (81, [(0, .ref 18), (1, .int (nI i)), (2, .ref 22), (3, .ref 24), (4, .int (nI (T i)))], [.int (nI (T i)), .ref 22, .ref 18], XM L mi ml) rfl ?_
    refine xB.c1 25 [.ref 22, .int (nI (T i))] [.ref 18] (c_mgetN22 _ L _ _ (j := T i) (by omega)) rfl ?_
    refine xB.c0 21 [.ref 18, .int (mi 23 (T i))] [] (c_put _ L _ _ (h := h) _ hh (by omega)) rfl ?_
    refine xB.go 4 (181, [(0, .ref 18), (1, .int (nI i)), (2, .ref 22), (3, .ref 24), (4, .int (nI (T i)))], [.int ((nI i) + 1)], XM L (xU (xU mi 19 h (mi 23 (T i))) 18 2 (nI (h + 1))) ml) rfl ?_
    refine xB.rt (some (.int ((nI i) + 1))) (xU (xU mi 19 h (mi 23 (T i))) 18 2 (nI (h + 1))) ml rfl ?_
    refine ⟨_, rfl, rfl, ?_⟩
    unfold DA
    rw [g]
    have e : (mi 3 i).toNatClampNeg = T i := by rw [hz.1, nI_clamp (by omega)]
    refine ⟨by rw [nI_1]; rfl, fun x h1 h2 h3 h4 h5 h6 => by simp only [xU_ne h1, xU_ne h2], ?_, rfl, rfl, rfl, hcn, rfl, hO3, rfl⟩
    show _ = va_up (mi 19) h (mi 23 (mi 3 i).toNatClampNeg)
    rw [e]; rfl
  by_cases h3 : (nI (K i)) = 2
  · refine xB.tp h3 ?_
    refine xB.go 1 (90, [(0, .ref 18), (1, .int (nI i)), (2, .ref 22), (3, .ref 24), (4, .int (mi 3 i))], [], XM L mi ml) rfl ?_
    have g : K i = 2 := k_eq hk (c := 2) (by decide) h3
    have gt : tk (K i) = 1 := by rw [g]; rfl
    have gp : pt (K i) = 0 := by rw [g]; rfl
    have hz := (hN i hin).1 (Or.inr g)
    refine xB.cg (90, [(0, .ref 18), (1, .int (nI i)), (2, .ref 22), (3, .ref 24), (4, .int (nI (T i)))], [], XM L mi ml) (by rw [hz.1]) ?_
    refine xB.go 3 (94, [(0, .ref 18), (1, .int (nI i)), (2, .ref 22), (3, .ref 24), (4, .int (nI (T i)))], [.ref 18, .int (nI (T i)), .ref 22], XM L mi ml) rfl ?_
    refine xB.c1 22 [.ref 18] [.int (nI (T i)), .ref 22] (c_take _ L _ _ (h := h) hh (by omega) (by omega)) rfl ?_
    refine xB.c0 26 [.ref 22, .int (nI (T i)), .int (mi 19 (h - 1))] [] (c_msetN22 _ L _ _ (j := T i) _ (by omega)) rfl ?_
    refine xB.go 4 (181, [(0, .ref 18), (1, .int (nI i)), (2, .ref 22), (3, .ref 24), (4, .int (nI (T i)))], [.int ((nI i) + 1)], XM L (xU (xU mi 18 2 (nI (h - 1))) 23 (T i) (mi 19 (h - 1))) ml) rfl ?_
    refine xB.rt (some (.int ((nI i) + 1))) (xU (xU mi 18 2 (nI (h - 1))) 23 (T i) (mi 19 (h - 1))) ml rfl ?_
    refine ⟨_, rfl, rfl, ?_⟩
    unfold DA
    rw [g]
    have e : (mi 3 i).toNatClampNeg = T i := by rw [hz.1, nI_clamp (by omega)]
    refine ⟨by rw [nI_1]; rfl, fun x h1 h2 h3 h4 h5 h6 => by simp only [xU_ne h1, xU_ne h3], rfl, ?_, rfl, rfl, hcn, rfl, hO3, rfl⟩
    show _ = va_up (mi 23) (mi 3 i).toNatClampNeg (mi 19 (h - 1))
    rw [e]; rfl
  by_cases h4 : (nI (K i)) = 3
  · refine xB.tp h4 ?_
    refine xB.go 1 (103, [(0, .ref 18), (1, .int (nI i)), (2, .ref 22), (3, .ref 24), (4, .int (mi 3 i))], [], XM L mi ml) rfl ?_
    have g : K i = 3 := k_eq hk (c := 3) (by decide) h4
    have gt : tk (K i) = 2 := by rw [g]; rfl
    have gp : pt (K i) = 1 := by rw [g]; rfl
    refine xB.go 2 (106, [(0, .ref 18), (1, .int (nI i)), (2, .ref 22), (3, .ref 24), (4, .int (mi 3 i))], [.int (mi 3 i), .ref 18], XM L mi ml) rfl ?_
    refine xB.ca 19 [.ref 18, .int (mi 3 i)] [] (c_dw2 _ L _ _ _ hh (by omega) h16) rfl ?_
    intro r1 a1 b1 hq
    obtain ⟨rfl, hb1, q1, q2, q3⟩ := hq
    rw [hb1]
    show xB _ _ L _ (109, [(0, .ref 18), (1, .int (nI i)), (2, .ref 22), (3, .ref 24), (4, .int (mi 3 i))], [], XM L a1 ml)
    refine xB.go 4 (181, [(0, .ref 18), (1, .int (nI i)), (2, .ref 22), (3, .ref 24), (4, .int (mi 3 i))], [.int ((nI i) + 1)], XM L a1 ml) rfl ?_
    refine xB.rt (some (.int ((nI i) + 1))) a1 ml rfl ?_
    refine ⟨_, rfl, rfl, ?_⟩
    unfold DA
    rw [g]
    refine ⟨by rw [nI_1]; rfl, fun x h1 h2 _ _ _ _ => q1 x h1 h2, ?_, q1 23 (by decide) (by decide), q1 25 (by decide) (by decide), q1 26 (by decide) (by decide), by rw [q1 24 (by decide) (by decide)]; exact hcn, by rw [q1 24 (by decide) (by decide)], by rw [q1 24 (by decide) (by decide)]; exact hO3, ?_⟩
    · rw [q2]; rfl
    · rw [q3]; show _ = nI (h - 2 + 1); rw [show h - 2 + 1 = h - 1 by omega]
  by_cases h5 : (nI (K i)) = 4
  · refine xB.tp h5 ?_
    refine xB.go 1 (112, [(0, .ref 18), (1, .int (nI i)), (2, .ref 22), (3, .ref 24), (4, .int (mi 3 i))], [], XM L mi ml) rfl ?_
    have g : K i = 4 := k_eq hk (c := 4) (by decide) h5
    have gt : tk (K i) = 0 := by rw [g]; rfl
    have gp : pt (K i) = 0 := by rw [g]; rfl
    have hz := hP.2.2.2.1 i hin (Or.inl g)
    refine xB.cg (112, [(0, .ref 18), (1, .int (nI i)), (2, .ref 22), (3, .ref 24), (4, .int (nI (T i)))], [], XM L mi ml) (by rw [hz.1]) ?_
    refine xB.go 1 (114, [(0, .ref 18), (1, .int (nI i)), (2, .ref 22), (3, .ref 24), (4, .int (nI (T i)))], [.int (nI (T i))], XM L mi ml) rfl ?_
    refine xB.rt (some (.int (nI (T i)))) mi ml rfl ?_
    refine ⟨_, rfl, rfl, ?_⟩
    unfold DA
    rw [g]
    exact ⟨rfl, fun _ _ _ _ _ _ _ => rfl, rfl, rfl, rfl, rfl, hcn, rfl, hO3, by rw [hh]; rfl⟩
  by_cases h6 : (nI (K i)) = 5
  · refine xB.tp h6 ?_
    refine xB.go 1 (115, [(0, .ref 18), (1, .int (nI i)), (2, .ref 22), (3, .ref 24), (4, .int (mi 3 i))], [], XM L mi ml) rfl ?_
    have g : K i = 5 := k_eq hk (c := 5) (by decide) h6
    have gt : tk (K i) = 1 := by rw [g]; rfl
    have gp : pt (K i) = 0 := by rw [g]; rfl
    have hz := hP.2.2.2.1 i hin (Or.inr g)
    refine xB.cg (115, [(0, .ref 18), (1, .int (nI i)), (2, .ref 22), (3, .ref 24), (4, .int (nI (T i)))], [], XM L mi ml) (by rw [hz.1]) ?_
    refine xB.go 1 (116, [(0, .ref 18), (1, .int (nI i)), (2, .ref 22), (3, .ref 24), (4, .int (nI (T i)))], [.ref 18], XM L mi ml) rfl ?_
    refine xB.c1 22 [.ref 18] [] (c_take _ L _ _ (h := h) hh (by omega) (by omega)) rfl ?_
    refine xB.bp (¬ (mi 19 (h - 1)) = 0) (127, [(0, .ref 18), (1, .int (nI i)), (2, .ref 22), (3, .ref 24), (4, .int (nI (T i)))], [], XM L (xU mi 18 2 (nI (h - 1))) ml) (122, [(0, .ref 18), (1, .int (nI i)), (2, .ref 22), (3, .ref 24), (4, .int (nI (T i)))], [], XM L (xU mi 18 2 (nI (h - 1))) ml) rfl (fun h7 => ?_) (fun h7 => ?_)
    · refine xB.go 3 (130, [(0, .ref 18), (1, .int (nI i)), (2, .ref 22), (3, .ref 24), (4, .int (nI (T i)))], [.int ((nI i) + 1)], XM L (xU mi 18 2 (nI (h - 1))) ml) rfl ?_
      refine xB.rt (some (.int ((nI i) + 1))) (xU mi 18 2 (nI (h - 1))) ml rfl ?_
      refine ⟨_, rfl, rfl, ?_⟩
      unfold DA
      rw [g]
      refine ⟨?_, fun x h1 h2 h3 h4 h5 h6 => by simp only [xU_ne h1], rfl, rfl, rfl, rfl, hcn, rfl, hO3, rfl⟩
      show _ = nI (if mi 19 (h - 1) = 0 then T i else i + 1)
      rw [if_neg h7, nI_1]
    · refine xB.go 2 (130, [(0, .ref 18), (1, .int (nI i)), (2, .ref 22), (3, .ref 24), (4, .int (nI (T i)))], [.int (nI (T i))], XM L (xU mi 18 2 (nI (h - 1))) ml) rfl ?_
      refine xB.rt (some (.int (nI (T i)))) (xU mi 18 2 (nI (h - 1))) ml rfl ?_
      refine ⟨_, rfl, rfl, ?_⟩
      unfold DA
      rw [g]
      refine ⟨?_, fun x h1 h2 h3 h4 h5 h6 => by simp only [xU_ne h1], rfl, rfl, rfl, rfl, hcn, rfl, hO3, rfl⟩
      show _ = nI (if mi 19 (h - 1) = 0 then T i else i + 1)
      rw [if_pos (Classical.not_not.mp h7)]
  by_cases h8 : (nI (K i)) = 6
  · refine xB.tp h8 ?_
    refine xB.go 1 (131, [(0, .ref 18), (1, .int (nI i)), (2, .ref 22), (3, .ref 24), (4, .int (mi 3 i))], [], XM L mi ml) rfl ?_
    have g : K i = 6 := k_eq hk (c := 6) (by decide) h8
    have gt : tk (K i) = 1 := by rw [g]; rfl
    have gp : pt (K i) = 1 := by rw [g]; rfl
    have hz := (hN i hin).2.1 (Or.inl g)
    have h7 := (and7_ix (mi 19 (h - 1))).2
    refine xB.cg (131, [(0, .ref 18), (1, .int (nI i)), (2, .ref 22), (3, .ref 24), (4, .int (nI (T i)))], [], XM L mi ml) (by rw [hz.1]) ?_
    refine xB.go 4 (136, [(0, .ref 18), (1, .int (nI i)), (2, .ref 22), (3, .ref 24), (4, .int (nI (T i)))], [.ref 18, .int (nI (T i)), .ref 22, .ref 18], XM L mi ml) rfl ?_
    refine xB.c1 22 [.ref 18] [.int (nI (T i)), .ref 22, .ref 18] (c_take _ L _ _ (h := h) hh (by omega) (by omega)) rfl ?_
    refine xB.c1 24 [.int (nI (T i)), .int (mi 19 (h - 1))] [.ref 22, .ref 18] (c_cellOf _ L (xU mi 18 2 (nI (h - 1))) ml (nI (T i)) (mi 19 (h - 1)) ) rfl ?_
    refine xB.cg (142, [(0, .ref 18), (1, .int (nI i)), (2, .ref 22), (3, .ref 24), (4, .int (nI (T i)))], [.int (nI (8 + 8 * T i + ix7 (mi 19 (h - 1)))), .ref 22, .ref 18], XM L (xU mi 18 2 (nI (h - 1))) ml) (by rw [cell_ix hz.2]) ?_
    refine xB.c1 25 [.ref 22, .int (nI (8 + 8 * T i + ix7 (mi 19 (h - 1))))] [.ref 18] (c_mgetN22 _ L _ _ (j := 8 + 8 * T i + ix7 (mi 19 (h - 1))) (by omega)) rfl ?_
    refine xB.c0 21 [.ref 18, .int ((xU mi 18 2 (nI (h - 1))) 23 (8 + 8 * T i + ix7 (mi 19 (h - 1))))] [] (c_put _ L _ _ (h := (h - 1)) _ xU_self (by omega)) rfl ?_
    refine xB.go 4 (181, [(0, .ref 18), (1, .int (nI i)), (2, .ref 22), (3, .ref 24), (4, .int (nI (T i)))], [.int ((nI i) + 1)], XM L (xU (xU (xU mi 18 2 (nI (h - 1))) 19 (h - 1) ((xU mi 18 2 (nI (h - 1))) 23 (8 + 8 * T i + ix7 (mi 19 (h - 1))))) 18 2 (nI ((h - 1) + 1))) ml) rfl ?_
    refine xB.rt (some (.int ((nI i) + 1))) (xU (xU (xU mi 18 2 (nI (h - 1))) 19 (h - 1) ((xU mi 18 2 (nI (h - 1))) 23 (8 + 8 * T i + ix7 (mi 19 (h - 1))))) 18 2 (nI ((h - 1) + 1))) ml rfl ?_
    refine ⟨_, rfl, rfl, ?_⟩
    unfold DA
    rw [g]
    have e : (mi 3 i).toNatClampNeg = T i := by rw [hz.1, nI_clamp (by omega)]
    refine ⟨by rw [nI_1]; rfl, fun x h1 h2 h3 h4 h5 h6 => by simp only [xU_ne h1, xU_ne h2], ?_, rfl, rfl, rfl, hcn, rfl, hO3, ?_⟩
    · show _ = va_up (mi 19) (h - 1) (mi 23 (8 + 8 * (mi 3 i).toNatClampNeg + ix7 (mi 19 (h - 1))))
      rw [e]; rfl
    · rfl
  by_cases h9 : (nI (K i)) = 7
  · refine xB.tp h9 ?_
    refine xB.go 1 (151, [(0, .ref 18), (1, .int (nI i)), (2, .ref 22), (3, .ref 24), (4, .int (mi 3 i))], [], XM L mi ml) rfl ?_
    have g : K i = 7 := k_eq hk (c := 7) (by decide) h9
    have gt : tk (K i) = 2 := by rw [g]; rfl
    have gp : pt (K i) = 0 := by rw [g]; rfl
    have hz := (hN i hin).2.1 (Or.inr g)
    refine xB.cg (151, [(0, .ref 18), (1, .int (nI i)), (2, .ref 22), (3, .ref 24), (4, .int (nI (T i)))], [], XM L mi ml) (by rw [hz.1]) ?_
    refine xB.go 3 (155, [(0, .ref 18), (1, .int (nI i)), (2, .ref 22), (3, .ref 24), (4, .int (nI (T i)))], [.int (nI (T i)), .ref 22, .ref 18], XM L mi ml) rfl ?_
    refine xB.ca 18 [.ref 18, .ref 22, .int (nI (T i))] [] (c_layInto22 _ L _ _ hz.2 hh (by omega) h16) rfl ?_
    intro r1 a1 b1 hq
    obtain ⟨rfl, hb1, q1, q2, q3⟩ := hq
    rw [hb1]
    show xB _ _ L _ (158, [(0, .ref 18), (1, .int (nI i)), (2, .ref 22), (3, .ref 24), (4, .int (nI (T i)))], [], XM L a1 ml)
    refine xB.go 4 (181, [(0, .ref 18), (1, .int (nI i)), (2, .ref 22), (3, .ref 24), (4, .int (nI (T i)))], [.int ((nI i) + 1)], XM L a1 ml) rfl ?_
    refine xB.rt (some (.int ((nI i) + 1))) a1 ml rfl ?_
    refine ⟨_, rfl, rfl, ?_⟩
    unfold DA
    rw [g]
    have e : (mi 3 i).toNatClampNeg = T i := by rw [hz.1, nI_clamp (by omega)]
    refine ⟨by rw [nI_1]; rfl, fun x h1 _ h3 _ _ _ => q1 x h1 h3, q1 19 (by decide) (by decide), ?_, q1 25 (by decide) (by decide), q1 26 (by decide) (by decide), by rw [q1 24 (by decide) (by decide)]; exact hcn, by rw [q1 24 (by decide) (by decide)], by rw [q1 24 (by decide) (by decide)]; exact hO3, ?_⟩
    · rw [q2]; show _ = va_up (mi 23) (8 + 8 * (mi 3 i).toNatClampNeg + ix7 (mi 19 (h - 2))) (mi 19 (h - 1)); rw [e]; rfl
    · rw [q3]; rfl
  by_cases h10 : (nI (K i)) = 8
  · refine xB.tp h10 ?_
    refine xB.go 1 (161, [(0, .ref 18), (1, .int (nI i)), (2, .ref 22), (3, .ref 24), (4, .int (mi 3 i))], [], XM L mi ml) rfl ?_
    have g : K i = 8 := k_eq hk (c := 8) (by decide) h10
    have gt : tk (K i) = 1 := by rw [g]; rfl
    have gp : pt (K i) = 0 := by rw [g]; rfl
    refine xB.go 3 (165, [(0, .ref 18), (1, .int (nI i)), (2, .ref 22), (3, .ref 24), (4, .int (mi 3 i))], [.ref 18, .int (mi 3 i), .ref 24], XM L mi ml) rfl ?_
    refine xB.c1 22 [.ref 18] [.int (mi 3 i), .ref 24] (c_take _ L _ _ (h := h) hh (by omega) (by omega)) rfl ?_
    refine xB.c0 36 [.ref 24, .int (mi 3 i), .int (mi 19 (h - 1))] [] (c_oadd24 _ L _ _ (n := cn) _ _ hcn (by omega)) rfl ?_
    refine xB.go 4 (181, [(0, .ref 18), (1, .int (nI i)), (2, .ref 22), (3, .ref 24), (4, .int (mi 3 i))], [.int ((nI i) + 1)], XM L (if ¬ 64 ≤ (xU mi 18 2 (nI (h - 1))) 24 4 then xU (xU (xU (xU mi 18 2 (nI (h - 1))) 25 ((xU mi 18 2 (nI (h - 1))) 24 4).toNatClampNeg (mi 3 i)) 26 ((xU mi 18 2 (nI (h - 1))) 24 4).toNatClampNeg (mi 19 (h - 1))) 24 4 ((xU mi 18 2 (nI (h - 1))) 24 4 + 1) else xU (xU mi 18 2 (nI (h - 1))) 24 4 ((xU mi 18 2 (nI (h - 1))) 24 4 + 1)) ml) rfl ?_
    refine xB.rt (some (.int ((nI i) + 1))) (if ¬ 64 ≤ (xU mi 18 2 (nI (h - 1))) 24 4 then xU (xU (xU (xU mi 18 2 (nI (h - 1))) 25 ((xU mi 18 2 (nI (h - 1))) 24 4).toNatClampNeg (mi 3 i)) 26 ((xU mi 18 2 (nI (h - 1))) 24 4).toNatClampNeg (mi 19 (h - 1))) 24 4 ((xU mi 18 2 (nI (h - 1))) 24 4 + 1) else xU (xU mi 18 2 (nI (h - 1))) 24 4 ((xU mi 18 2 (nI (h - 1))) 24 4 + 1)) ml rfl ?_
    refine ⟨_, rfl, rfl, ?_⟩
    unfold DA
    rw [g]
    have hcn2 : (xU mi 18 2 (nI (h - 1))) 24 4 = nI cn := hcn
    by_cases hc : cn < 64
    · rw [if_pos ((oadd_lt hcn2 hcb).mpr hc), hcn2, nI_clamp (by omega)]
      have es : stA 8 (mi 3 i) h (mi 19, mi 23, mi (24 + 1), mi (24 + 2), cn) = (mi 19, mi 23, va_up (mi 25) cn (mi 3 i), va_up (mi 26) cn (mi 19 (h - 1)), cn + 1) := if_pos hc
      rw [es, nI_1, nI_1]
      exact ⟨rfl, fun x h1 h2 h3 h4 h5 h6 => by simp only [xU_ne h1, xU_ne h4, xU_ne h5, xU_ne h6], rfl, rfl, rfl, rfl, rfl, rfl, hO3, rfl⟩
    · rw [if_neg (fun z => hc ((oadd_lt hcn2 hcb).mp z)), hcn2]
      have es : stA 8 (mi 3 i) h (mi 19, mi 23, mi (24 + 1), mi (24 + 2), cn) = (mi 19, mi 23, mi 25, mi 26, cn + 1) := if_neg hc
      rw [es, nI_1, nI_1]
      exact ⟨rfl, fun x h1 h2 h3 h4 h5 h6 => by simp only [xU_ne h1, xU_ne h4], rfl, rfl, rfl, rfl, rfl, rfl, hO3, rfl⟩
  refine xB.st (174, [(0, .ref 18), (1, .int (nI i)), (2, .ref 22), (3, .ref 24), (4, .int (mi 3 i))], [], XM L mi ml) (xsw_d (mt := mX2_doAt) rfl (xsw_ne 9 (by decide) (fun k hk => by rcases (show k = 0 ∨ k = 1 ∨ k = 2 ∨ k = 3 ∨ k = 4 ∨ k = 5 ∨ k = 6 ∨ k = 7 ∨ k = 8 by omega) with rfl | rfl | rfl | rfl | rfl | rfl | rfl | rfl | rfl; exact h1; exact h2; exact h3; exact h4; exact h5; exact h6; exact h8; exact h9; exact h10)) rfl) ?_
  have g : K i = 9 := by
    have e0 := k_ne (c := 0) h1
    have e1 := k_ne (c := 1) h2
    have e2 := k_ne (c := 2) h3
    have e3 := k_ne (c := 3) h4
    have e4 := k_ne (c := 4) h5
    have e5 := k_ne (c := 5) h6
    have e6 := k_ne (c := 6) h8
    have e7 := k_ne (c := 7) h9
    have e8 := k_ne (c := 8) h10
    omega
  have gt : tk (K i) = 0 := by rw [g]; rfl
  have gp : pt (K i) = 0 := by rw [g]; rfl
  refine xB.go 1 (175, [(0, .ref 18), (1, .int (nI i)), (2, .ref 22), (3, .ref 24), (4, .int (mi 3 i))], [.ref 24], XM L mi ml) rfl ?_
  refine xB.c0 35 [.ref 24] [] (c_halt24 _ L mi ml  ) rfl ?_
  refine xB.go 3 (181, [(0, .ref 18), (1, .int (nI i)), (2, .ref 22), (3, .ref 24), (4, .int (mi 3 i))], [.int ((nI i) + 1)], XM L (xU mi 24 3 1) ml) rfl ?_
  refine xB.rt (some (.int ((nI i) + 1))) (xU mi 24 3 1) ml rfl ?_
  refine ⟨_, rfl, rfl, ?_⟩
  unfold DA
  rw [g]
  exact ⟨by rw [nI_1]; rfl, fun x h1 h2 h3 h4 h5 h6 => by simp only [xU_ne h4], rfl, rfl, rfl, rfl, hcn, rfl, rfl, by show mi 18 2 = _; rw [hh]; rfl⟩
set_option maxRecDepth 100000 in
set_option maxHeartbeats 1000000 in
theorem c_doAt27 (d L : Nat) (mi : xmi) (ml : xml) {n : Nat} {K T : Nat → Nat} (hP : PRG mi n K T) (hN : NUM mi n K T) {i h cn : Nat} (hin : i < n) (hh : mi 18 2 = nI h) (h16 : h ≤ 16) (htk : tk (K i) ≤ h) (hg : h - tk (K i) + pt (K i) ≤ 16) (hcn : mi 29 4 = nI cn) (hcb : cn < 2 ^ 30) (hO3 : mi 29 3 = 0) : xF (d + 4) 17 [.ref 18, .int (nI i), .ref 27, .ref 29] L mi ml (fun rr a b => ∃ v, rr = some (.int v) ∧ b = ml ∧ DA 28 29 K T mi i h cn v a) := by
  have hk := (hP.2.2.1 i hin).2
  have hi64 : i < 64 := Nat.lt_of_lt_of_le hin hP.2.1
  refine xF.mk mX2_doAt rfl rfl ?_
  refine xB.go 3 (5, [(0, .ref 18), (1, .int (nI i)), (2, .ref 27), (3, .ref 29)], [.int (nI i), .ref 1], XM L mi ml) rfl ?_
  refine xB.c1 43 [.ref 1, .int (nI i)] [] (c_numberN _ L _ _ hP hin) rfl ?_
  refine xB.go 4 (15, [(0, .ref 18), (1, .int (nI i)), (2, .ref 27), (3, .ref 29), (4, .int (mi 3 i))], [.int (nI i), .ref 1], XM L mi ml) rfl ?_
  refine xB.c1 42 [.ref 1, .int (nI i)] [] (c_kindN _ L _ _ hP hin) rfl ?_
  by_cases h1 : (nI (K i)) = 0
  · refine xB.tp h1 ?_
    refine xB.go 1 (68, [(0, .ref 18), (1, .int (nI i)), (2, .ref 27), (3, .ref 29), (4, .int (mi 3 i))], [], XM L mi ml) rfl ?_
    have g : K i = 0 := k_eq hk (c := 0) (by decide) h1
    have gt : tk (K i) = 0 := by rw [g]; rfl
    have gp : pt (K i) = 1 := by rw [g]; rfl
    refine xB.go 2 (71, [(0, .ref 18), (1, .int (nI i)), (2, .ref 27), (3, .ref 29), (4, .int (mi 3 i))], [.int (mi 3 i), .ref 18], XM L mi ml) rfl ?_
    refine xB.c0 21 [.ref 18, .int (mi 3 i)] [] (c_put _ L _ _ (h := h) _ hh (by omega)) rfl ?_
    refine xB.go 4 (181, [(0, .ref 18), (1, .int (nI i)), (2, .ref 27), (3, .ref 29), (4, .int (mi 3 i))], [.int ((nI i) + 1)], XM L (xU (xU mi 19 h (mi 3 i)) 18 2 (nI (h + 1))) ml) rfl ?_
    refine xB.rt (some (.int ((nI i) + 1))) (xU (xU mi 19 h (mi 3 i)) 18 2 (nI (h + 1))) ml rfl ?_
    refine ⟨_, rfl, rfl, ?_⟩
    unfold DA
    rw [g]
    exact ⟨by rw [nI_1]; rfl, fun x h1 h2 h3 h4 h5 h6 => by simp only [xU_ne h1, xU_ne h2], rfl, rfl, rfl, rfl, hcn, rfl, hO3, rfl⟩
  by_cases h2 : (nI (K i)) = 1
  · refine xB.tp h2 ?_
    refine xB.go 1 (77, [(0, .ref 18), (1, .int (nI i)), (2, .ref 27), (3, .ref 29), (4, .int (mi 3 i))], [], XM L mi ml) rfl ?_
    have g : K i = 1 := k_eq hk (c := 1) (by decide) h2
    have gt : tk (K i) = 0 := by rw [g]; rfl
    have gp : pt (K i) = 1 := by rw [g]; rfl
    have hz := (hN i hin).1 (Or.inl g)
    refine xB.cg (77, [(0, .ref 18), (1, .int (nI i)), (2, .ref 27), (3, .ref 29), (4, .int (nI (T i)))], [], XM L mi ml) (by rw [hz.1]) ?_
    refine xB.go 3 (81, [(0, .ref 18), (1, .int (nI i)), (2, .ref 27), (3, .ref 29), (4, .int (nI (T i)))], [.int (nI (T i)), .ref 27, .ref 18], XM L mi ml) rfl ?_
    refine xB.c1 25 [.ref 27, .int (nI (T i))] [.ref 18] (c_mgetN27 _ L _ _ (j := T i) (by omega)) rfl ?_
    refine xB.c0 21 [.ref 18, .int (mi 28 (T i))] [] (c_put _ L _ _ (h := h) _ hh (by omega)) rfl ?_
    refine xB.go 4 (181, [(0, .ref 18), (1, .int (nI i)), (2, .ref 27), (3, .ref 29), (4, .int (nI (T i)))], [.int ((nI i) + 1)], XM L (xU (xU mi 19 h (mi 28 (T i))) 18 2 (nI (h + 1))) ml) rfl ?_
    refine xB.rt (some (.int ((nI i) + 1))) (xU (xU mi 19 h (mi 28 (T i))) 18 2 (nI (h + 1))) ml rfl ?_
    refine ⟨_, rfl, rfl, ?_⟩
    unfold DA
    rw [g]
    have e : (mi 3 i).toNatClampNeg = T i := by rw [hz.1, nI_clamp (by omega)]
    refine ⟨by rw [nI_1]; rfl, fun x h1 h2 h3 h4 h5 h6 => by simp only [xU_ne h1, xU_ne h2], ?_, rfl, rfl, rfl, hcn, rfl, hO3, rfl⟩
    show _ = va_up (mi 19) h (mi 28 (mi 3 i).toNatClampNeg)
    rw [e]; rfl
  by_cases h3 : (nI (K i)) = 2
  · refine xB.tp h3 ?_
    refine xB.go 1 (90, [(0, .ref 18), (1, .int (nI i)), (2, .ref 27), (3, .ref 29), (4, .int (mi 3 i))], [], XM L mi ml) rfl ?_
    have g : K i = 2 := k_eq hk (c := 2) (by decide) h3
    have gt : tk (K i) = 1 := by rw [g]; rfl
    have gp : pt (K i) = 0 := by rw [g]; rfl
    have hz := (hN i hin).1 (Or.inr g)
    refine xB.cg (90, [(0, .ref 18), (1, .int (nI i)), (2, .ref 27), (3, .ref 29), (4, .int (nI (T i)))], [], XM L mi ml) (by rw [hz.1]) ?_
    refine xB.go 3 (94, [(0, .ref 18), (1, .int (nI i)), (2, .ref 27), (3, .ref 29), (4, .int (nI (T i)))], [.ref 18, .int (nI (T i)), .ref 27], XM L mi ml) rfl ?_
    refine xB.c1 22 [.ref 18] [.int (nI (T i)), .ref 27] (c_take _ L _ _ (h := h) hh (by omega) (by omega)) rfl ?_
    refine xB.c0 26 [.ref 27, .int (nI (T i)), .int (mi 19 (h - 1))] [] (c_msetN27 _ L _ _ (j := T i) _ (by omega)) rfl ?_
    refine xB.go 4 (181, [(0, .ref 18), (1, .int (nI i)), (2, .ref 27), (3, .ref 29), (4, .int (nI (T i)))], [.int ((nI i) + 1)], XM L (xU (xU mi 18 2 (nI (h - 1))) 28 (T i) (mi 19 (h - 1))) ml) rfl ?_
    refine xB.rt (some (.int ((nI i) + 1))) (xU (xU mi 18 2 (nI (h - 1))) 28 (T i) (mi 19 (h - 1))) ml rfl ?_
    refine ⟨_, rfl, rfl, ?_⟩
    unfold DA
    rw [g]
    have e : (mi 3 i).toNatClampNeg = T i := by rw [hz.1, nI_clamp (by omega)]
    refine ⟨by rw [nI_1]; rfl, fun x h1 h2 h3 h4 h5 h6 => by simp only [xU_ne h1, xU_ne h3], rfl, ?_, rfl, rfl, hcn, rfl, hO3, rfl⟩
    show _ = va_up (mi 28) (mi 3 i).toNatClampNeg (mi 19 (h - 1))
    rw [e]; rfl
  by_cases h4 : (nI (K i)) = 3
  · refine xB.tp h4 ?_
    refine xB.go 1 (103, [(0, .ref 18), (1, .int (nI i)), (2, .ref 27), (3, .ref 29), (4, .int (mi 3 i))], [], XM L mi ml) rfl ?_
    have g : K i = 3 := k_eq hk (c := 3) (by decide) h4
    have gt : tk (K i) = 2 := by rw [g]; rfl
    have gp : pt (K i) = 1 := by rw [g]; rfl
    refine xB.go 2 (106, [(0, .ref 18), (1, .int (nI i)), (2, .ref 27), (3, .ref 29), (4, .int (mi 3 i))], [.int (mi 3 i), .ref 18], XM L mi ml) rfl ?_
    refine xB.ca 19 [.ref 18, .int (mi 3 i)] [] (c_dw2 _ L _ _ _ hh (by omega) h16) rfl ?_
    intro r1 a1 b1 hq
    obtain ⟨rfl, hb1, q1, q2, q3⟩ := hq
    rw [hb1]
    show xB _ _ L _ (109, [(0, .ref 18), (1, .int (nI i)), (2, .ref 27), (3, .ref 29), (4, .int (mi 3 i))], [], XM L a1 ml)
    refine xB.go 4 (181, [(0, .ref 18), (1, .int (nI i)), (2, .ref 27), (3, .ref 29), (4, .int (mi 3 i))], [.int ((nI i) + 1)], XM L a1 ml) rfl ?_
    refine xB.rt (some (.int ((nI i) + 1))) a1 ml rfl ?_
    refine ⟨_, rfl, rfl, ?_⟩
    unfold DA
    rw [g]
    refine ⟨by rw [nI_1]; rfl, fun x h1 h2 _ _ _ _ => q1 x h1 h2, ?_, q1 28 (by decide) (by decide), q1 30 (by decide) (by decide), q1 31 (by decide) (by decide), by rw [q1 29 (by decide) (by decide)]; exact hcn, by rw [q1 29 (by decide) (by decide)], by rw [q1 29 (by decide) (by decide)]; exact hO3, ?_⟩
    · rw [q2]; rfl
    · rw [q3]; show _ = nI (h - 2 + 1); rw [show h - 2 + 1 = h - 1 by omega]
  by_cases h5 : (nI (K i)) = 4
  · refine xB.tp h5 ?_
    refine xB.go 1 (112, [(0, .ref 18), (1, .int (nI i)), (2, .ref 27), (3, .ref 29), (4, .int (mi 3 i))], [], XM L mi ml) rfl ?_
    have g : K i = 4 := k_eq hk (c := 4) (by decide) h5
    have gt : tk (K i) = 0 := by rw [g]; rfl
    have gp : pt (K i) = 0 := by rw [g]; rfl
    have hz := hP.2.2.2.1 i hin (Or.inl g)
    refine xB.cg (112, [(0, .ref 18), (1, .int (nI i)), (2, .ref 27), (3, .ref 29), (4, .int (nI (T i)))], [], XM L mi ml) (by rw [hz.1]) ?_
    refine xB.go 1 (114, [(0, .ref 18), (1, .int (nI i)), (2, .ref 27), (3, .ref 29), (4, .int (nI (T i)))], [.int (nI (T i))], XM L mi ml) rfl ?_
    refine xB.rt (some (.int (nI (T i)))) mi ml rfl ?_
    refine ⟨_, rfl, rfl, ?_⟩
    unfold DA
    rw [g]
    exact ⟨rfl, fun _ _ _ _ _ _ _ => rfl, rfl, rfl, rfl, rfl, hcn, rfl, hO3, by rw [hh]; rfl⟩
  by_cases h6 : (nI (K i)) = 5
  · refine xB.tp h6 ?_
    refine xB.go 1 (115, [(0, .ref 18), (1, .int (nI i)), (2, .ref 27), (3, .ref 29), (4, .int (mi 3 i))], [], XM L mi ml) rfl ?_
    have g : K i = 5 := k_eq hk (c := 5) (by decide) h6
    have gt : tk (K i) = 1 := by rw [g]; rfl
    have gp : pt (K i) = 0 := by rw [g]; rfl
    have hz := hP.2.2.2.1 i hin (Or.inr g)
    refine xB.cg (115, [(0, .ref 18), (1, .int (nI i)), (2, .ref 27), (3, .ref 29), (4, .int (nI (T i)))], [], XM L mi ml) (by rw [hz.1]) ?_
    refine xB.go 1 (116, [(0, .ref 18), (1, .int (nI i)), (2, .ref 27), (3, .ref 29), (4, .int (nI (T i)))], [.ref 18], XM L mi ml) rfl ?_
    refine xB.c1 22 [.ref 18] [] (c_take _ L _ _ (h := h) hh (by omega) (by omega)) rfl ?_
    refine xB.bp (¬ (mi 19 (h - 1)) = 0) (127, [(0, .ref 18), (1, .int (nI i)), (2, .ref 27), (3, .ref 29), (4, .int (nI (T i)))], [], XM L (xU mi 18 2 (nI (h - 1))) ml) (122, [(0, .ref 18), (1, .int (nI i)), (2, .ref 27), (3, .ref 29), (4, .int (nI (T i)))], [], XM L (xU mi 18 2 (nI (h - 1))) ml) rfl (fun h7 => ?_) (fun h7 => ?_)
    · refine xB.go 3 (130, [(0, .ref 18), (1, .int (nI i)), (2, .ref 27), (3, .ref 29), (4, .int (nI (T i)))], [.int ((nI i) + 1)], XM L (xU mi 18 2 (nI (h - 1))) ml) rfl ?_
      refine xB.rt (some (.int ((nI i) + 1))) (xU mi 18 2 (nI (h - 1))) ml rfl ?_
      refine ⟨_, rfl, rfl, ?_⟩
      unfold DA
      rw [g]
      refine ⟨?_, fun x h1 h2 h3 h4 h5 h6 => by simp only [xU_ne h1], rfl, rfl, rfl, rfl, hcn, rfl, hO3, rfl⟩
      show _ = nI (if mi 19 (h - 1) = 0 then T i else i + 1)
      rw [if_neg h7, nI_1]
    · refine xB.go 2 (130, [(0, .ref 18), (1, .int (nI i)), (2, .ref 27), (3, .ref 29), (4, .int (nI (T i)))], [.int (nI (T i))], XM L (xU mi 18 2 (nI (h - 1))) ml) rfl ?_
      refine xB.rt (some (.int (nI (T i)))) (xU mi 18 2 (nI (h - 1))) ml rfl ?_
      refine ⟨_, rfl, rfl, ?_⟩
      unfold DA
      rw [g]
      refine ⟨?_, fun x h1 h2 h3 h4 h5 h6 => by simp only [xU_ne h1], rfl, rfl, rfl, rfl, hcn, rfl, hO3, rfl⟩
      show _ = nI (if mi 19 (h - 1) = 0 then T i else i + 1)
      rw [if_pos (Classical.not_not.mp h7)]
  by_cases h8 : (nI (K i)) = 6
  · refine xB.tp h8 ?_
    refine xB.go 1 (131, [(0, .ref 18), (1, .int (nI i)), (2, .ref 27), (3, .ref 29), (4, .int (mi 3 i))], [], XM L mi ml) rfl ?_
    have g : K i = 6 := k_eq hk (c := 6) (by decide) h8
    have gt : tk (K i) = 1 := by rw [g]; rfl
    have gp : pt (K i) = 1 := by rw [g]; rfl
    have hz := (hN i hin).2.1 (Or.inl g)
    have h7 := (and7_ix (mi 19 (h - 1))).2
    refine xB.cg (131, [(0, .ref 18), (1, .int (nI i)), (2, .ref 27), (3, .ref 29), (4, .int (nI (T i)))], [], XM L mi ml) (by rw [hz.1]) ?_
    refine xB.go 4 (136, [(0, .ref 18), (1, .int (nI i)), (2, .ref 27), (3, .ref 29), (4, .int (nI (T i)))], [.ref 18, .int (nI (T i)), .ref 27, .ref 18], XM L mi ml) rfl ?_
    refine xB.c1 22 [.ref 18] [.int (nI (T i)), .ref 27, .ref 18] (c_take _ L _ _ (h := h) hh (by omega) (by omega)) rfl ?_
    refine xB.c1 24 [.int (nI (T i)), .int (mi 19 (h - 1))] [.ref 27, .ref 18] (c_cellOf _ L (xU mi 18 2 (nI (h - 1))) ml (nI (T i)) (mi 19 (h - 1)) ) rfl ?_
    refine xB.cg (142, [(0, .ref 18), (1, .int (nI i)), (2, .ref 27), (3, .ref 29), (4, .int (nI (T i)))], [.int (nI (8 + 8 * T i + ix7 (mi 19 (h - 1)))), .ref 27, .ref 18], XM L (xU mi 18 2 (nI (h - 1))) ml) (by rw [cell_ix hz.2]) ?_
    refine xB.c1 25 [.ref 27, .int (nI (8 + 8 * T i + ix7 (mi 19 (h - 1))))] [.ref 18] (c_mgetN27 _ L _ _ (j := 8 + 8 * T i + ix7 (mi 19 (h - 1))) (by omega)) rfl ?_
    refine xB.c0 21 [.ref 18, .int ((xU mi 18 2 (nI (h - 1))) 28 (8 + 8 * T i + ix7 (mi 19 (h - 1))))] [] (c_put _ L _ _ (h := (h - 1)) _ xU_self (by omega)) rfl ?_
    refine xB.go 4 (181, [(0, .ref 18), (1, .int (nI i)), (2, .ref 27), (3, .ref 29), (4, .int (nI (T i)))], [.int ((nI i) + 1)], XM L (xU (xU (xU mi 18 2 (nI (h - 1))) 19 (h - 1) ((xU mi 18 2 (nI (h - 1))) 28 (8 + 8 * T i + ix7 (mi 19 (h - 1))))) 18 2 (nI ((h - 1) + 1))) ml) rfl ?_
    refine xB.rt (some (.int ((nI i) + 1))) (xU (xU (xU mi 18 2 (nI (h - 1))) 19 (h - 1) ((xU mi 18 2 (nI (h - 1))) 28 (8 + 8 * T i + ix7 (mi 19 (h - 1))))) 18 2 (nI ((h - 1) + 1))) ml rfl ?_
    refine ⟨_, rfl, rfl, ?_⟩
    unfold DA
    rw [g]
    have e : (mi 3 i).toNatClampNeg = T i := by rw [hz.1, nI_clamp (by omega)]
    refine ⟨by rw [nI_1]; rfl, fun x h1 h2 h3 h4 h5 h6 => by simp only [xU_ne h1, xU_ne h2], ?_, rfl, rfl, rfl, hcn, rfl, hO3, ?_⟩
    · show _ = va_up (mi 19) (h - 1) (mi 28 (8 + 8 * (mi 3 i).toNatClampNeg + ix7 (mi 19 (h - 1))))
      rw [e]; rfl
    · rfl
  by_cases h9 : (nI (K i)) = 7
  · refine xB.tp h9 ?_
    refine xB.go 1 (151, [(0, .ref 18), (1, .int (nI i)), (2, .ref 27), (3, .ref 29), (4, .int (mi 3 i))], [], XM L mi ml) rfl ?_
    have g : K i = 7 := k_eq hk (c := 7) (by decide) h9
    have gt : tk (K i) = 2 := by rw [g]; rfl
    have gp : pt (K i) = 0 := by rw [g]; rfl
    have hz := (hN i hin).2.1 (Or.inr g)
    refine xB.cg (151, [(0, .ref 18), (1, .int (nI i)), (2, .ref 27), (3, .ref 29), (4, .int (nI (T i)))], [], XM L mi ml) (by rw [hz.1]) ?_
    refine xB.go 3 (155, [(0, .ref 18), (1, .int (nI i)), (2, .ref 27), (3, .ref 29), (4, .int (nI (T i)))], [.int (nI (T i)), .ref 27, .ref 18], XM L mi ml) rfl ?_
    refine xB.ca 18 [.ref 18, .ref 27, .int (nI (T i))] [] (c_layInto27 _ L _ _ hz.2 hh (by omega) h16) rfl ?_
    intro r1 a1 b1 hq
    obtain ⟨rfl, hb1, q1, q2, q3⟩ := hq
    rw [hb1]
    show xB _ _ L _ (158, [(0, .ref 18), (1, .int (nI i)), (2, .ref 27), (3, .ref 29), (4, .int (nI (T i)))], [], XM L a1 ml)
    refine xB.go 4 (181, [(0, .ref 18), (1, .int (nI i)), (2, .ref 27), (3, .ref 29), (4, .int (nI (T i)))], [.int ((nI i) + 1)], XM L a1 ml) rfl ?_
    refine xB.rt (some (.int ((nI i) + 1))) a1 ml rfl ?_
    refine ⟨_, rfl, rfl, ?_⟩
    unfold DA
    rw [g]
    have e : (mi 3 i).toNatClampNeg = T i := by rw [hz.1, nI_clamp (by omega)]
    refine ⟨by rw [nI_1]; rfl, fun x h1 _ h3 _ _ _ => q1 x h1 h3, q1 19 (by decide) (by decide), ?_, q1 30 (by decide) (by decide), q1 31 (by decide) (by decide), by rw [q1 29 (by decide) (by decide)]; exact hcn, by rw [q1 29 (by decide) (by decide)], by rw [q1 29 (by decide) (by decide)]; exact hO3, ?_⟩
    · rw [q2]; show _ = va_up (mi 28) (8 + 8 * (mi 3 i).toNatClampNeg + ix7 (mi 19 (h - 2))) (mi 19 (h - 1)); rw [e]; rfl
    · rw [q3]; rfl
  by_cases h10 : (nI (K i)) = 8
  · refine xB.tp h10 ?_
    refine xB.go 1 (161, [(0, .ref 18), (1, .int (nI i)), (2, .ref 27), (3, .ref 29), (4, .int (mi 3 i))], [], XM L mi ml) rfl ?_
    have g : K i = 8 := k_eq hk (c := 8) (by decide) h10
    have gt : tk (K i) = 1 := by rw [g]; rfl
    have gp : pt (K i) = 0 := by rw [g]; rfl
    refine xB.go 3 (165, [(0, .ref 18), (1, .int (nI i)), (2, .ref 27), (3, .ref 29), (4, .int (mi 3 i))], [.ref 18, .int (mi 3 i), .ref 29], XM L mi ml) rfl ?_
    refine xB.c1 22 [.ref 18] [.int (mi 3 i), .ref 29] (c_take _ L _ _ (h := h) hh (by omega) (by omega)) rfl ?_
    refine xB.c0 36 [.ref 29, .int (mi 3 i), .int (mi 19 (h - 1))] [] (c_oadd29 _ L _ _ (n := cn) _ _ hcn (by omega)) rfl ?_
    refine xB.go 4 (181, [(0, .ref 18), (1, .int (nI i)), (2, .ref 27), (3, .ref 29), (4, .int (mi 3 i))], [.int ((nI i) + 1)], XM L (if ¬ 64 ≤ (xU mi 18 2 (nI (h - 1))) 29 4 then xU (xU (xU (xU mi 18 2 (nI (h - 1))) 30 ((xU mi 18 2 (nI (h - 1))) 29 4).toNatClampNeg (mi 3 i)) 31 ((xU mi 18 2 (nI (h - 1))) 29 4).toNatClampNeg (mi 19 (h - 1))) 29 4 ((xU mi 18 2 (nI (h - 1))) 29 4 + 1) else xU (xU mi 18 2 (nI (h - 1))) 29 4 ((xU mi 18 2 (nI (h - 1))) 29 4 + 1)) ml) rfl ?_
    refine xB.rt (some (.int ((nI i) + 1))) (if ¬ 64 ≤ (xU mi 18 2 (nI (h - 1))) 29 4 then xU (xU (xU (xU mi 18 2 (nI (h - 1))) 30 ((xU mi 18 2 (nI (h - 1))) 29 4).toNatClampNeg (mi 3 i)) 31 ((xU mi 18 2 (nI (h - 1))) 29 4).toNatClampNeg (mi 19 (h - 1))) 29 4 ((xU mi 18 2 (nI (h - 1))) 29 4 + 1) else xU (xU mi 18 2 (nI (h - 1))) 29 4 ((xU mi 18 2 (nI (h - 1))) 29 4 + 1)) ml rfl ?_
    refine ⟨_, rfl, rfl, ?_⟩
    unfold DA
    rw [g]
    have hcn2 : (xU mi 18 2 (nI (h - 1))) 29 4 = nI cn := hcn
    by_cases hc : cn < 64
    · rw [if_pos ((oadd_lt hcn2 hcb).mpr hc), hcn2, nI_clamp (by omega)]
      have es : stA 8 (mi 3 i) h (mi 19, mi 28, mi (29 + 1), mi (29 + 2), cn) = (mi 19, mi 28, va_up (mi 30) cn (mi 3 i), va_up (mi 31) cn (mi 19 (h - 1)), cn + 1) := if_pos hc
      rw [es, nI_1, nI_1]
      exact ⟨rfl, fun x h1 h2 h3 h4 h5 h6 => by simp only [xU_ne h1, xU_ne h4, xU_ne h5, xU_ne h6], rfl, rfl, rfl, rfl, rfl, rfl, hO3, rfl⟩
    · rw [if_neg (fun z => hc ((oadd_lt hcn2 hcb).mp z)), hcn2]
      have es : stA 8 (mi 3 i) h (mi 19, mi 28, mi (29 + 1), mi (29 + 2), cn) = (mi 19, mi 28, mi 30, mi 31, cn + 1) := if_neg hc
      rw [es, nI_1, nI_1]
      exact ⟨rfl, fun x h1 h2 h3 h4 h5 h6 => by simp only [xU_ne h1, xU_ne h4], rfl, rfl, rfl, rfl, rfl, rfl, hO3, rfl⟩
  refine xB.st (174, [(0, .ref 18), (1, .int (nI i)), (2, .ref 27), (3, .ref 29), (4, .int (mi 3 i))], [], XM L mi ml) (xsw_d (mt := mX2_doAt) rfl (xsw_ne 9 (by decide) (fun k hk => by rcases (show k = 0 ∨ k = 1 ∨ k = 2 ∨ k = 3 ∨ k = 4 ∨ k = 5 ∨ k = 6 ∨ k = 7 ∨ k = 8 by omega) with rfl | rfl | rfl | rfl | rfl | rfl | rfl | rfl | rfl; exact h1; exact h2; exact h3; exact h4; exact h5; exact h6; exact h8; exact h9; exact h10)) rfl) ?_
  have g : K i = 9 := by
    have e0 := k_ne (c := 0) h1
    have e1 := k_ne (c := 1) h2
    have e2 := k_ne (c := 2) h3
    have e3 := k_ne (c := 3) h4
    have e4 := k_ne (c := 4) h5
    have e5 := k_ne (c := 5) h6
    have e6 := k_ne (c := 6) h8
    have e7 := k_ne (c := 7) h9
    have e8 := k_ne (c := 8) h10
    omega
  have gt : tk (K i) = 0 := by rw [g]; rfl
  have gp : pt (K i) = 0 := by rw [g]; rfl
  refine xB.go 1 (175, [(0, .ref 18), (1, .int (nI i)), (2, .ref 27), (3, .ref 29), (4, .int (mi 3 i))], [.ref 29], XM L mi ml) rfl ?_
  refine xB.c0 35 [.ref 29] [] (c_halt29 _ L mi ml  ) rfl ?_
  refine xB.go 3 (181, [(0, .ref 18), (1, .int (nI i)), (2, .ref 27), (3, .ref 29), (4, .int (mi 3 i))], [.int ((nI i) + 1)], XM L (xU mi 29 3 1) ml) rfl ?_
  refine xB.rt (some (.int ((nI i) + 1))) (xU mi 29 3 1) ml rfl ?_
  refine ⟨_, rfl, rfl, ?_⟩
  unfold DA
  rw [g]
  exact ⟨by rw [nI_1]; rfl, fun x h1 h2 h3 h4 h5 h6 => by simp only [xU_ne h4], rfl, rfl, rfl, rfl, hcn, rfl, rfl, by show mi 18 2 = _; rw [hh]; rfl⟩
