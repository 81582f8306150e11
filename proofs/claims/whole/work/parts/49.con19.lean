/-! runs in the document's terms; the class's machine -/
/-- pile, memory, channels and ints that came out, how many -/
abbrev RS : Type := (Nat → Int32) × (Nat → Int32) × (Nat → Int32) × (Nat → Int32) × Nat
def stA (k : Nat) (z : Int32) (h : Nat) (s : RS) : RS :=
  if k = 0 then (va_up s.1 h z, s.2)
  else if k = 1 then (va_up s.1 h (s.2.1 z.toNatClampNeg), s.2)
  else if k = 2 then (s.1, va_up s.2.1 z.toNatClampNeg (s.1 (h - 1)), s.2.2)
  else if k = 3 then (va_up s.1 (h - 2) (dnA z (s.1 (h - 2)) (s.1 (h - 1))), s.2)
  else if k = 6 then (va_up s.1 (h - 1) (s.2.1 (8 + 8 * z.toNatClampNeg + ix7 (s.1 (h - 1)))), s.2)
  else if k = 7 then (s.1, va_up s.2.1 (8 + 8 * z.toNatClampNeg + ix7 (s.1 (h - 2))) (s.1 (h - 1)), s.2.2)
  else if k = 8 then (if s.2.2.2.2 < 64 then (s.1, s.2.1, va_up s.2.2.1 s.2.2.2.2 z, va_up s.2.2.2.1 s.2.2.2.2 (s.1 (h - 1)), s.2.2.2.2 + 1) else (s.1, s.2.1, s.2.2.1, s.2.2.2.1, s.2.2.2.2 + 1))
  else s
def nxA (k t i h : Nat) (s : RS) : Nat := if k = 4 then t else if k = 5 then (if s.1 (h - 1) = 0 then t else i + 1) else i + 1
def runA (K T : Nat → Nat) (N : Nat → Int32) : Nat → Nat → Nat → RS → Nat × RS × Bool
  | 0, _, _, s => (0, s, false)
  | f + 1, i, h, s => if K i = 9 then (1, s, true) else ((runA K T N f (nxA (K i) (T i) i h s) (h - tk (K i) + pt (K i)) (stA (K i) (N i) h s)).1 + 1, (runA K T N f (nxA (K i) (T i) i h s) (h - tk (K i) + pt (K i)) (stA (K i) (N i) h s)).2)
def DA (M O : Nat) (K T : Nat → Nat) (mi : xmi) (i h cn : Nat) (v : Int32) (a : xmi) : Prop :=
  v = nI (if K i = 9 then i + 1 else nxA (K i) (T i) i h (mi 19, mi M, mi (O + 1), mi (O + 2), cn)) ∧ (∀ x, x ≠ 18 → x ≠ 19 → x ≠ M → x ≠ O → x ≠ O + 1 → x ≠ O + 2 → a x = mi x) ∧
  a 19 = (stA (K i) (mi 3 i) h (mi 19, mi M, mi (O + 1), mi (O + 2), cn)).1 ∧ a M = (stA (K i) (mi 3 i) h (mi 19, mi M, mi (O + 1), mi (O + 2), cn)).2.1 ∧ a (O + 1) = (stA (K i) (mi 3 i) h (mi 19, mi M, mi (O + 1), mi (O + 2), cn)).2.2.1 ∧ a (O + 2) = (stA (K i) (mi 3 i) h (mi 19, mi M, mi (O + 1), mi (O + 2), cn)).2.2.2.1 ∧ a O 4 = nI (stA (K i) (mi 3 i) h (mi 19, mi M, mi (O + 1), mi (O + 2), cn)).2.2.2.2 ∧
  a O 2 = mi O 2 ∧ a O 3 = (if K i = 9 then 1 else 0) ∧ a 18 2 = nI (h - tk (K i) + pt (K i))
set_option maxRecDepth 100000 in
set_option maxHeartbeats 1000000 in
theorem c_dw2 (d L : Nat) (mi : xmi) (ml : xml) (z : Int32) {h : Nat} (hh : mi 18 2 = nI h) (h2 : 2 ≤ h) (h16 : h ≤ 16) : xF (d + 2) 19 [.ref 18, .int z] L mi ml (fun rr a b => rr = none ∧ b = ml ∧ (∀ x, x ≠ 18 → x ≠ 19 → a x = mi x) ∧ a 19 = va_up (mi 19) (h - 1 - 1) (dnA z (mi 19 (h - 1 - 1)) (mi 19 (h - 1))) ∧ a 18 2 = nI (h - 1)) := by
  refine xF.mk mX2_doWithTwo rfl rfl ?_
  refine xB.go 1 (1, [(0, .ref 18), (1, .int z)], [.ref 18], XM L mi ml) rfl ?_
  refine xB.c1 22 [.ref 18] [] (c_take _ L _ _ (h := h) hh (by omega) (by omega)) rfl ?_
  refine xB.go 2 (6, [(0, .ref 18), (1, .int z), (2, .int (mi 19 (h - 1)))], [.ref 18], XM L (xU mi 18 2 (nI (h - 1))) ml) rfl ?_
  refine xB.c1 22 [.ref 18] [] (c_take _ L _ _ (h := (h - 1)) xU_self (by omega) (by omega)) rfl ?_
  refine xB.go 5 (14, [(0, .ref 18), (1, .int z), (2, .int (mi 19 (h - 1))), (3, .int ((xU mi 18 2 (nI (h - 1))) 19 ((h - 1) - 1)))], [.int (mi 19 (h - 1)), .int ((xU mi 18 2 (nI (h - 1))) 19 ((h - 1) - 1)), .int z, .ref 18], XM L (xU (xU mi 18 2 (nI (h - 1))) 18 2 (nI ((h - 1) - 1))) ml) rfl ?_
  refine xB.c1 20 [.int z, .int ((xU mi 18 2 (nI (h - 1))) 19 ((h - 1) - 1)), .int (mi 19 (h - 1))] [.ref 18] (c_resultOf _ L (xU (xU mi 18 2 (nI (h - 1))) 18 2 (nI ((h - 1) - 1))) ml z ((xU mi 18 2 (nI (h - 1))) 19 ((h - 1) - 1)) (mi 19 (h - 1)) ) rfl ?_
  refine xB.c0 21 [.ref 18, .int (dnA z ((xU mi 18 2 (nI (h - 1))) 19 ((h - 1) - 1)) (mi 19 (h - 1)))] [] (c_put _ L _ _ (h := (h - 1 - 1)) _ xU_self (by omega)) rfl ?_
  refine xB.rt none (xU (xU (xU (xU mi 18 2 (nI (h - 1))) 18 2 (nI ((h - 1) - 1))) 19 (h - 1 - 1) (dnA z ((xU mi 18 2 (nI (h - 1))) 19 ((h - 1) - 1)) (mi 19 (h - 1)))) 18 2 (nI ((h - 1 - 1) + 1))) ml rfl ?_
  refine ⟨rfl, rfl, fun x h1 h2 => by simp only [xU_ne h1, xU_ne h2], ?_, ?_⟩
  · rfl
  · show nI (h - 1 - 1 + 1) = nI (h - 1); rw [show h - 1 - 1 + 1 = h - 1 by omega]
theorem rng24 {j : Nat} (h : j < 24) : 0 ≤ nI j ∧ nI j < 24 := ⟨nI_pos' (by omega), by rw [show (24 : Int32) = nI 24 from rfl, nI_ltI (by omega) (by decide)]; exact h⟩
theorem c_msetN22 (d L : Nat) (mi : xmi) (ml : xml) {j : Nat} (y : Int32) (hj : j < 24) : xFn (d + 2) 26 [.ref 22, .int (nI j), .int y] L mi ml (xU mi 23 j y) ml := by
  have h := c_mset22 d L mi ml (nI j) y
  rwa [if_pos (rng24 hj), nI_clamp (by omega)] at h
theorem c_mgetN22 (d L : Nat) (mi : xmi) (ml : xml) {j : Nat} (hj : j < 24) : xFv (d + 2) 25 [.ref 22, .int (nI j)] L mi ml (.int (mi 23 j)) mi ml := by
  have h := c_mget22 d L mi ml (nI j)
  rwa [show (24 : Int32) = nI 24 from rfl, sl_lvN (by decide) hj] at h
set_option maxRecDepth 100000 in
set_option maxHeartbeats 1000000 in
theorem c_layInto22 (d L : Nat) (mi : xmi) (ml : xml) {t h : Nat} (ht : t < 2) (hh : mi 18 2 = nI h) (h2 : 2 ≤ h) (h16 : h ≤ 16) : xF (d + 3) 18 [.ref 18, .ref 22, .int (nI t)] L mi ml (fun rr a b => rr = none ∧ b = ml ∧ (∀ x, x ≠ 18 → x ≠ 23 → a x = mi x) ∧ a 23 = va_up (mi 23) (8 + 8 * t + ix7 (mi 19 (h - 1 - 1))) (mi 19 (h - 1)) ∧ a 18 2 = nI (h - 1 - 1)) := by
  have hcl : 8 + 8 * t + ix7 (mi 19 (h - 1 - 1)) < 24 := by have := (and7_ix (mi 19 (h - 1 - 1))).2; omega
  refine xF.mk mX2_layInto rfl rfl ?_
  refine xB.go 1 (1, [(0, .ref 18), (1, .ref 22), (2, .int (nI t))], [.ref 18], XM L mi ml) rfl ?_
  refine xB.c1 22 [.ref 18] [] (c_take _ L _ _ (h := h) hh (by omega) (by omega)) rfl ?_
  refine xB.go 2 (6, [(0, .ref 18), (1, .ref 22), (2, .int (nI t)), (3, .int (mi 19 (h - 1)))], [.ref 18], XM L (xU mi 18 2 (nI (h - 1))) ml) rfl ?_
  refine xB.c1 22 [.ref 18] [] (c_take _ L _ _ (h := (h - 1)) xU_self (by omega) (by omega)) rfl ?_
  refine xB.go 4 (15, [(0, .ref 18), (1, .ref 22), (2, .int (nI t)), (3, .int (mi 19 (h - 1))), (4, .int ((xU mi 18 2 (nI (h - 1))) 19 ((h - 1) - 1)))], [.int ((xU mi 18 2 (nI (h - 1))) 19 ((h - 1) - 1)), .int (nI t), .ref 22], XM L (xU (xU mi 18 2 (nI (h - 1))) 18 2 (nI ((h - 1) - 1))) ml) rfl ?_
  refine xB.c1 24 [.int (nI t), .int ((xU mi 18 2 (nI (h - 1))) 19 ((h - 1) - 1))] [.ref 22] (c_cellOf _ L (xU (xU mi 18 2 (nI (h - 1))) 18 2 (nI ((h - 1) - 1))) ml (nI t) ((xU mi 18 2 (nI (h - 1))) 19 ((h - 1) - 1)) ) rfl ?_
  refine xB.cg (18, [(0, .ref 18), (1, .ref 22), (2, .int (nI t)), (3, .int (mi 19 (h - 1))), (4, .int ((xU mi 18 2 (nI (h - 1))) 19 ((h - 1) - 1)))], [.int (nI (8 + 8 * t + ix7 (mi 19 (h - 1 - 1)))), .ref 22], XM L (xU (xU mi 18 2 (nI (h - 1))) 18 2 (nI ((h - 1) - 1))) ml) (by rw [cell_ix ht]; rfl) ?_
  refine xB.go 1 (19, [(0, .ref 18), (1, .ref 22), (2, .int (nI t)), (3, .int (mi 19 (h - 1))), (4, .int ((xU mi 18 2 (nI (h - 1))) 19 ((h - 1) - 1)))], [.int (mi 19 (h - 1)), .int (nI (8 + 8 * t + ix7 (mi 19 (h - 1 - 1)))), .ref 22], XM L (xU (xU mi 18 2 (nI (h - 1))) 18 2 (nI ((h - 1) - 1))) ml) rfl ?_
  refine xB.c0 26 [.ref 22, .int (nI (8 + 8 * t + ix7 (mi 19 (h - 1 - 1)))), .int (mi 19 (h - 1))] [] (c_msetN22 _ L _ _ (j := 8 + 8 * t + ix7 (mi 19 (h - 1 - 1))) _ hcl) rfl ?_
  refine xB.rt none (xU (xU (xU mi 18 2 (nI (h - 1))) 18 2 (nI ((h - 1) - 1))) 23 (8 + 8 * t + ix7 (mi 19 (h - 1 - 1))) (mi 19 (h - 1))) ml rfl ?_
  exact ⟨rfl, rfl, fun x h1 h2 => by simp only [xU_ne h1, xU_ne h2], rfl, rfl⟩
theorem c_msetN27 (d L : Nat) (mi : xmi) (ml : xml) {j : Nat} (y : Int32) (hj : j < 24) : xFn (d + 2) 26 [.ref 27, .int (nI j), .int y] L mi ml (xU mi 28 j y) ml := by
  have h := c_mset27 d L mi ml (nI j) y
  rwa [if_pos (rng24 hj), nI_clamp (by omega)] at h
theorem c_mgetN27 (d L : Nat) (mi : xmi) (ml : xml) {j : Nat} (hj : j < 24) : xFv (d + 2) 25 [.ref 27, .int (nI j)] L mi ml (.int (mi 28 j)) mi ml := by
  have h := c_mget27 d L mi ml (nI j)
  rwa [show (24 : Int32) = nI 24 from rfl, sl_lvN (by decide) hj] at h
set_option maxRecDepth 100000 in
set_option maxHeartbeats 1000000 in
theorem c_layInto27 (d L : Nat) (mi : xmi) (ml : xml) {t h : Nat} (ht : t < 2) (hh : mi 18 2 = nI h) (h2 : 2 ≤ h) (h16 : h ≤ 16) : xF (d + 3) 18 [.ref 18, .ref 27, .int (nI t)] L mi ml (fun rr a b => rr = none ∧ b = ml ∧ (∀ x, x ≠ 18 → x ≠ 28 → a x = mi x) ∧ a 28 = va_up (mi 28) (8 + 8 * t + ix7 (mi 19 (h - 1 - 1))) (mi 19 (h - 1)) ∧ a 18 2 = nI (h - 1 - 1)) := by
  have hcl : 8 + 8 * t + ix7 (mi 19 (h - 1 - 1)) < 24 := by have := (and7_ix (mi 19 (h - 1 - 1))).2; omega
  refine xF.mk mX2_layInto rfl rfl ?_
  refine xB.go 1 (1, [(0, .ref 18), (1, .ref 27), (2, .int (nI t))], [.ref 18], XM L mi ml) rfl ?_
  refine xB.c1 22 [.ref 18] [] (c_take _ L _ _ (h := h) hh (by omega) (by omega)) rfl ?_
  refine xB.go 2 (6, [(0, .ref 18), (1, .ref 27), (2, .int (nI t)), (3, .int (mi 19 (h - 1)))], [.ref 18], XM L (xU mi 18 2 (nI (h - 1))) ml) rfl ?_
  refine xB.c1 22 [.ref 18] [] (c_take _ L _ _ (h := (h - 1)) xU_self (by omega) (by omega)) rfl ?_
  refine xB.go 4 (15, [(0, .ref 18), (1, .ref 27), (2, .int (nI t)), (3, .int (mi 19 (h - 1))), (4, .int ((xU mi 18 2 (nI (h - 1))) 19 ((h - 1) - 1)))], [.int ((xU mi 18 2 (nI (h - 1))) 19 ((h - 1) - 1)), .int (nI t), .ref 27], XM L (xU (xU mi 18 2 (nI (h - 1))) 18 2 (nI ((h - 1) - 1))) ml) rfl ?_
  refine xB.c1 24 [.int (nI t), .int ((xU mi 18 2 (nI (h - 1))) 19 ((h - 1) - 1))] [.ref 27] (c_cellOf _ L (xU (xU mi 18 2 (nI (h - 1))) 18 2 (nI ((h - 1) - 1))) ml (nI t) ((xU mi 18 2 (nI (h - 1))) 19 ((h - 1) - 1)) ) rfl ?_
  refine xB.cg (18, [(0, .ref 18), (1, .ref 27), (2, .int (nI t)), (3, .int (mi 19 (h - 1))), (4, .int ((xU mi 18 2 (nI (h - 1))) 19 ((h - 1) - 1)))], [.int (nI (8 + 8 * t + ix7 (mi 19 (h - 1 - 1)))), .ref 27], XM L (xU (xU mi 18 2 (nI (h - 1))) 18 2 (nI ((h - 1) - 1))) ml) (by rw [cell_ix ht]; rfl) ?_
  refine xB.go 1 (19, [(0, .ref 18), (1, .ref 27), (2, .int (nI t)), (3, .int (mi 19 (h - 1))), (4, .int ((xU mi 18 2 (nI (h - 1))) 19 ((h - 1) - 1)))], [.int (mi 19 (h - 1)), .int (nI (8 + 8 * t + ix7 (mi 19 (h - 1 - 1)))), .ref 27], XM L (xU (xU mi 18 2 (nI (h - 1))) 18 2 (nI ((h - 1) - 1))) ml) rfl ?_
  refine xB.c0 26 [.ref 27, .int (nI (8 + 8 * t + ix7 (mi 19 (h - 1 - 1)))), .int (mi 19 (h - 1))] [] (c_msetN27 _ L _ _ (j := 8 + 8 * t + ix7 (mi 19 (h - 1 - 1))) _ hcl) rfl ?_
  refine xB.rt none (xU (xU (xU mi 18 2 (nI (h - 1))) 18 2 (nI ((h - 1) - 1))) 28 (8 + 8 * t + ix7 (mi 19 (h - 1 - 1))) (mi 19 (h - 1))) ml rfl ?_
  exact ⟨rfl, rfl, fun x h1 h2 => by simp only [xU_ne h1, xU_ne h2], rfl, rfl⟩
