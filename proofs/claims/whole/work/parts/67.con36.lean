/-! the reference: run -/
theorem fuel_lt {x : Int32} {k : Nat} (hk : k < 2 ^ 31) : (nI k < x ∧ nI k < 10000) ↔ k < fuel x := by
  unfold fuel
  by_cases h : x ≤ 10000
  · rw [if_pos h, ← lt_cl hk]
    refine ⟨fun z => z.1, fun z => ⟨z, ?_⟩⟩
    rw [Int32.lt_iff_toInt_lt] at z ⊢
    rw [Int32.le_iff_toInt_le] at h
    omega
  · rw [if_neg h, show (10000 : Int32).toNatClampNeg = 10000 from by decide +kernel]
    rw [i_nle, Int32.lt_iff_toInt_lt] at h
    rw [show (10000 : Int32) = nI 10000 from rfl, nI_ltI hk (by decide)]
    refine ⟨fun z => z.2, fun z => ⟨?_, z⟩⟩
    rw [Int32.lt_iff_toInt_lt, nI_toInt hk]
    have : (10000 : Int32).toInt = 10000 := by decide +kernel
    omega
def FX (w : Nat) (mi a : xmi) : Prop := (∀ x, x ≠ 36 → x ≠ 44 → x ≠ 45 → x ≠ 46 → x ≠ 47 → x ≠ 48 → a x = mi x) ∧ (∀ y, ¬ (24 * w ≤ y ∧ y < 24 * w + 24) → a 36 y = mi 36 y) ∧ (∀ y, y ≠ w → a 45 y = mi 45 y ∧ a 44 y = mi 44 y) ∧ (∀ y, ¬ (64 * w ≤ y ∧ y < 64 * w + 64) → a 46 y = mi 46 y ∧ a 47 y = mi 47 y)
theorem FX.step {w : Nat} {mi a b : xmi} {v : Int32} (h : FX w mi a) (h2 : FW w a b) : FX w mi (xU b 44 w v) :=
  ⟨fun x a1 a2 a3 a4 a5 a6 => by rw [xU_ne a2, h2.1 x a1 a3 a4 a5 a6, h.1 x a1 a2 a3 a4 a5 a6], fun y hy => by rw [xU_ne (by decide), h2.2.1 y hy, h.2.1 y hy], fun y hy => ⟨by rw [xU_ne (by decide), h2.2.2.1 y hy, (h.2.2.1 y hy).1], by rw [xU_at, va_up_ne _ _ hy, h2.1 44 (by decide) (by decide) (by decide) (by decide) (by decide), (h.2.2.1 y hy).2]⟩, fun y hy => ⟨by rw [xU_ne (by decide), (h2.2.2.2 y hy).1, (h.2.2.2 y hy).1], by rw [xU_ne (by decide), (h2.2.2.2 y hy).2, (h.2.2.2 y hy).2]⟩⟩
def RK (w : Nat) (m1 : xmi) (s : RS) (hl : Bool) (c : Nat) (a : xmi) : Prop := AGr w a s ∧ s.2.2.2.2 ≤ c ∧ a 44 w = (bif hl then 1 else 0) ∧ FX w m1 a
theorem RK.le {w : Nat} {m1 a : xmi} {s : RS} {hl : Bool} {c c' : Nat} (h : RK w m1 s hl c a) (hc : c ≤ c') : RK w m1 s hl c' a := ⟨h.1, Nat.le_trans h.2.1 hc, h.2.2⟩
theorem AGr.h {w : Nat} {a : xmi} {s : RS} {v : Int32} (h : AGr w a s) : AGr w (xU a 44 w v) s := ⟨h.1, h.2.1, h.2.2.1, h.2.2.2.1, h.2.2.2.2⟩
theorem nxA_5z {n : Nat} {K T : Nat → Nat} {i h : Nat} {s : RS} (h5 : K i = 5) (hz : s.1 (h - 1) = 0) : nxA (K i) (T i) i h s = otm n K T i := by unfold nxA otm; rw [if_neg (by omega), if_pos h5, if_pos hz, if_pos h5]
theorem nxA_5n {n : Nat} {K T : Nat → Nat} {i h : Nat} {s : RS} (h5 : K i = 5) (hz : ¬ s.1 (h - 1) = 0) : nxA (K i) (T i) i h s = nxm n K T i := by unfold nxA nxm; rw [if_neg (by omega), if_pos h5, if_neg hz, if_neg (by omega), if_neg (by omega)]
theorem nxA_n {n : Nat} {K T : Nat → Nat} {i h : Nat} {s : RS} (h5 : K i ≠ 5) (h9 : K i ≠ 9) : nxA (K i) (T i) i h s = nxm n K T i := by
  unfold nxA nxm
  by_cases h4 : K i = 4
  · rw [if_pos h4, if_pos h4]
  · rw [if_neg h4, if_neg h5, if_neg h4, if_neg h9]
theorem nxm_9 {n : Nat} {K T : Nat → Nat} {i : Nat} (h9 : K i = 9) : nxm n K T i = n := by unfold nxm; rw [if_neg (by omega), if_pos h9]
set_option maxRecDepth 100000 in
set_option maxHeartbeats 1000000 in
theorem run_e0 (d L : Nat) (mi : xmi) (ml : xml) {n : Nat} {K T : Nat → Nat} (hP : PRM mi n K T) (hN : NUMm mi n K T) (hw : WF n K T) (hht : ∀ i h, Rh n K T i h → mi 37 i = nI h) {dn c : Nat} {s : RS} {hl : Bool} {a : xmi} (x : Int32) (hk : RK 0 mi s hl c a) : xB (d + 6) mX9_run L (fun rr a b => b = ml ∧ rr = some (.int (nI (dn))) ∧ RK 0 mi s (hl) c a) (47, [(0, .ref 32), (1, .int 0), (2, .int x), (3, .int (nI n)), (4, .int (nI dn))], [], XM L a ml) := by
  have hn64 := hP.2.1
  refine xB.go 2 (50, [(0, .ref 32), (1, .int 0), (2, .int x), (3, .int (nI n)), (4, .int (nI dn))], [.int x, .int (nI dn)], XM L a ml) rfl ?_
  refine xB.bp (x ≤ (nI dn)) (161, [(0, .ref 32), (1, .int 0), (2, .int x), (3, .int (nI n)), (4, .int (nI dn))], [], XM L a ml) (53, [(0, .ref 32), (1, .int 0), (2, .int x), (3, .int (nI n)), (4, .int (nI dn))], [], XM L a ml) rfl (fun h1 => ?_) (fun h1 => ?_)
  · refine xB.go 1 (163, [(0, .ref 32), (1, .int 0), (2, .int x), (3, .int (nI n)), (4, .int (nI dn))], [.int (nI dn)], XM L a ml) rfl ?_
    refine xB.rt (some (.int (nI dn))) a ml rfl ?_
    exact ⟨rfl, rfl, hk⟩
  · refine xB.go 2 (58, [(0, .ref 32), (1, .int 0), (2, .int x), (3, .int (nI n)), (4, .int (nI dn))], [.int 10000, .int (nI dn)], XM L a ml) rfl ?_
    refine xB.bp (10000 ≤ (nI dn)) (161, [(0, .ref 32), (1, .int 0), (2, .int x), (3, .int (nI n)), (4, .int (nI dn))], [], XM L a ml) (61, [(0, .ref 32), (1, .int 0), (2, .int x), (3, .int (nI n)), (4, .int (nI dn))], [], XM L a ml) rfl (fun h2 => ?_) (fun h2 => ?_)
    · refine xB.go 1 (163, [(0, .ref 32), (1, .int 0), (2, .int x), (3, .int (nI n)), (4, .int (nI dn))], [.int (nI dn)], XM L a ml) rfl ?_
      refine xB.rt (some (.int (nI dn))) a ml rfl ?_
      exact ⟨rfl, rfl, hk⟩
    · refine xB.go 3 (66, [(0, .ref 32), (1, .int 0), (2, .int x), (3, .int (nI n)), (4, .int (nI dn))], [.int (a 32 2), .int (nI n)], XM L a ml) rfl ?_
      refine xB.bp ((a 32 2) ≤ (nI n)) (161, [(0, .ref 32), (1, .int 0), (2, .int x), (3, .int (nI n)), (4, .int (nI dn))], [], XM L a ml) (69, [(0, .ref 32), (1, .int 0), (2, .int x), (3, .int (nI n)), (4, .int (nI dn))], [], XM L a ml) rfl (fun h3 => ?_) (fun h3 => ?_)
      · refine xB.go 1 (163, [(0, .ref 32), (1, .int 0), (2, .int x), (3, .int (nI n)), (4, .int (nI dn))], [.int (nI dn)], XM L a ml) rfl ?_
        refine xB.rt (some (.int (nI dn))) a ml rfl ?_
        exact ⟨rfl, rfl, hk⟩
      · rw [hk.2.2.2.1 32 (by decide) (by decide) (by decide) (by decide) (by decide) (by decide), hP.1] at h3
        exact absurd ((nI_leI (by omega) (by omega)).mpr (Nat.le_refl n)) h3
set_option maxRecDepth 100000 in
set_option maxHeartbeats 1000000 in
theorem run_z0 (d L : Nat) (mi : xmi) (ml : xml) {dn c : Nat} {s : RS} {a : xmi} (x pl : Int32) (hge : fuel x ≤ dn) (hd : dn < 2 ^ 31) (hk : RK 0 mi s false c a) : xB (d + 6) mX9_run L (fun rr a b => b = ml ∧ rr = some (.int (nI (dn))) ∧ RK 0 mi s (false) c a) (47, [(0, .ref 32), (1, .int 0), (2, .int x), (3, .int pl), (4, .int (nI dn))], [], XM L a ml) := by
  refine xB.go 2 (50, [(0, .ref 32), (1, .int 0), (2, .int x), (3, .int pl), (4, .int (nI dn))], [.int x, .int (nI dn)], XM L a ml) rfl ?_
  refine xB.bp (x ≤ (nI dn)) (161, [(0, .ref 32), (1, .int 0), (2, .int x), (3, .int pl), (4, .int (nI dn))], [], XM L a ml) (53, [(0, .ref 32), (1, .int 0), (2, .int x), (3, .int pl), (4, .int (nI dn))], [], XM L a ml) rfl (fun h1 => ?_) (fun h1 => ?_)
  · refine xB.go 1 (163, [(0, .ref 32), (1, .int 0), (2, .int x), (3, .int pl), (4, .int (nI dn))], [.int (nI dn)], XM L a ml) rfl ?_
    refine xB.rt (some (.int (nI dn))) a ml rfl ?_
    exact ⟨rfl, rfl, hk⟩
  · refine xB.go 2 (58, [(0, .ref 32), (1, .int 0), (2, .int x), (3, .int pl), (4, .int (nI dn))], [.int 10000, .int (nI dn)], XM L a ml) rfl ?_
    refine xB.bp (10000 ≤ (nI dn)) (161, [(0, .ref 32), (1, .int 0), (2, .int x), (3, .int pl), (4, .int (nI dn))], [], XM L a ml) (61, [(0, .ref 32), (1, .int 0), (2, .int x), (3, .int pl), (4, .int (nI dn))], [], XM L a ml) rfl (fun h2 => ?_) (fun h2 => ?_)
    · refine xB.go 1 (163, [(0, .ref 32), (1, .int 0), (2, .int x), (3, .int pl), (4, .int (nI dn))], [.int (nI dn)], XM L a ml) rfl ?_
      refine xB.rt (some (.int (nI dn))) a ml rfl ?_
      exact ⟨rfl, rfl, hk⟩
    · have := (fuel_lt hd).mp ⟨i_nle.mp h1, i_nle.mp h2⟩; omega
set_option maxRecDepth 100000 in
set_option maxHeartbeats 1000000 in
theorem run_47_0 (d L : Nat) (mi : xmi) (ml : xml) {n : Nat} {K T : Nat → Nat} (hP : PRM mi n K T) (hN : NUMm mi n K T) (hw : WF n K T) (hht : ∀ i h, Rh n K T i h → mi 37 i = nI h) (x : Int32) : ∀ (f dn i h : Nat) (s : RS) (a : xmi), dn + f = fuel x → Rh n K T i h → RK 0 mi s false dn a → xB (d + 6) mX9_run L (fun rr a b => b = ml ∧ rr = some (.int (nI (dn + (runA K T (mi 34) f i h s).1))) ∧ RK 0 mi (runA K T (mi 34) f i h s).2.1 ((runA K T (mi 34) f i h s).2.2) 10000 a) (47, [(0, .ref 32), (1, .int 0), (2, .int x), (3, .int (nI i)), (4, .int (nI dn))], [], XM L a ml) := by
  have hx10 := fuel_le x
  have hn64 := hP.2.1
  intro f
  induction f with
  | zero =>
    intro dn i h s a hdn hr hk
    exact run_z0 d L mi ml (dn := dn) (c := 10000) x (nI i) (by omega) (by omega) (hk.le (by omega))
  | succ f ih =>
    intro dn i h s a hdn hr hk
    have hin := (hw.1 i h hr).1
    have hkk := (hP.2.2.1 i hin).2
    have hk2 := hk.2.1
    have hF := hk.2.2.2.1
    have hPa : PRM a n K T := hP.frame (by rw [hF 32 (by decide) (by decide) (by decide) (by decide) (by decide) (by decide)]) (hF 33 (by decide) (by decide) (by decide) (by decide) (by decide) (by decide)) (hF 34 (by decide) (by decide) (by decide) (by decide) (by decide) (by decide))
    have hNa : NUMm a n K T := hN.frame (hF 34 (by decide) (by decide) (by decide) (by decide) (by decide) (by decide))
    have hha : a 37 i = nI h := by rw [hF 37 (by decide) (by decide) (by decide) (by decide) (by decide) (by decide)]; exact hht i h hr
    refine xB.go 2 (50, [(0, .ref 32), (1, .int 0), (2, .int x), (3, .int (nI i)), (4, .int (nI dn))], [.int x, .int (nI dn)], XM L a ml) rfl ?_
    refine xB.bp (x ≤ (nI dn)) (161, [(0, .ref 32), (1, .int 0), (2, .int x), (3, .int (nI i)), (4, .int (nI dn))], [], XM L a ml) (53, [(0, .ref 32), (1, .int 0), (2, .int x), (3, .int (nI i)), (4, .int (nI dn))], [], XM L a ml) rfl (fun h1 => ?_) (fun h1 => ?_)
    · refine xB.go 1 (163, [(0, .ref 32), (1, .int 0), (2, .int x), (3, .int (nI i)), (4, .int (nI dn))], [.int (nI dn)], XM L a ml) rfl ?_
      refine xB.rt (some (.int (nI dn))) a ml rfl ?_
      exfalso
      have hnf : ¬ (nI dn < x ∧ nI dn < 10000) := fun z => absurd z.1 (i_nlt.mpr h1)
      exact hnf ((fuel_lt (by omega)).mpr (by omega))
    · refine xB.go 2 (58, [(0, .ref 32), (1, .int 0), (2, .int x), (3, .int (nI i)), (4, .int (nI dn))], [.int 10000, .int (nI dn)], XM L a ml) rfl ?_
      refine xB.bp (10000 ≤ (nI dn)) (161, [(0, .ref 32), (1, .int 0), (2, .int x), (3, .int (nI i)), (4, .int (nI dn))], [], XM L a ml) (61, [(0, .ref 32), (1, .int 0), (2, .int x), (3, .int (nI i)), (4, .int (nI dn))], [], XM L a ml) rfl (fun h2 => ?_) (fun h2 => ?_)
      · refine xB.go 1 (163, [(0, .ref 32), (1, .int 0), (2, .int x), (3, .int (nI i)), (4, .int (nI dn))], [.int (nI dn)], XM L a ml) rfl ?_
        refine xB.rt (some (.int (nI dn))) a ml rfl ?_
        exfalso
        have hnf : ¬ (nI dn < x ∧ nI dn < 10000) := fun z => absurd z.2 (i_nlt.mpr h2)
        exact hnf ((fuel_lt (by omega)).mpr (by omega))
      · refine xB.go 3 (66, [(0, .ref 32), (1, .int 0), (2, .int x), (3, .int (nI i)), (4, .int (nI dn))], [.int (a 32 2), .int (nI i)], XM L a ml) rfl ?_
        refine xB.bp ((a 32 2) ≤ (nI i)) (161, [(0, .ref 32), (1, .int 0), (2, .int x), (3, .int (nI i)), (4, .int (nI dn))], [], XM L a ml) (69, [(0, .ref 32), (1, .int 0), (2, .int x), (3, .int (nI i)), (4, .int (nI dn))], [], XM L a ml) rfl (fun h3 => ?_) (fun h3 => ?_)
        · refine xB.go 1 (163, [(0, .ref 32), (1, .int 0), (2, .int x), (3, .int (nI i)), (4, .int (nI dn))], [.int (nI dn)], XM L a ml) rfl ?_
          refine xB.rt (some (.int (nI dn))) a ml rfl ?_
          rw [hk.2.2.2.1 32 (by decide) (by decide) (by decide) (by decide) (by decide) (by decide), hP.1] at h3
          exact absurd hin (Nat.not_lt.mpr ((nI_leI (by omega) (by omega)).mp h3))
        · refine xB.go 6 (77, [(0, .ref 32), (1, .int 0), (2, .int x), (3, .int (nI i)), (4, .int (nI dn))], [.int (nI i), .ref 37, .int (nI i), .int 0, .ref 32], XM L a ml) rfl ?_
          refine xB.ck (xin (nI i) 64) (78, [(0, .ref 32), (1, .int 0), (2, .int x), (3, .int (nI i)), (4, .int (nI dn))], [.int (a 37 (nI i).toNatClampNeg), .int (nI i), .int 0, .ref 32], XM L a ml) rfl (xin_of (j := i) (by first | omega | (have := hr.le16; omega)) (by decide) rfl) ?_
          refine xB.cg (78, [(0, .ref 32), (1, .int 0), (2, .int x), (3, .int (nI i)), (4, .int (nI dn))], [.int (nI h), .int (nI i), .int 0, .ref 32], XM L a ml) (by rw [nI_clamp (by omega), hha]) ?_
          refine xB.ca 126 [.ref 32, .int 0, .int (nI i), .int (nI h)] [] (c_mwork0 _ L _ _ hPa hNa hin hr.le16 (hw.1 i h hr).2.1 (hw.1 i h hr).2.2 hk.1 (by omega)) rfl ?_
          intro r1 a1 b1 hq
          obtain ⟨rfl, hb1, hA1, hF1⟩ := hq
          rw [hb1]
          have hP1 : PRM a1 n K T := hPa.frame (by rw [hF1.1 32 (by decide) (by decide) (by decide) (by decide) (by decide)]) (hF1.1 33 (by decide) (by decide) (by decide) (by decide) (by decide)) (hF1.1 34 (by decide) (by decide) (by decide) (by decide) (by decide))
          have e37 : a1 37 (nI i).toNatClampNeg = nI h := by rw [nI_clamp (by omega), hF1.1 37 (by decide) (by decide) (by decide) (by decide) (by decide)]; exact hha
          show xB _ _ L _ (81, [(0, .ref 32), (1, .int 0), (2, .int x), (3, .int (nI i)), (4, .int (nI dn))], [], XM L a1 ml)
          refine xB.go 3 (86, [(0, .ref 32), (1, .int 0), (2, .int x), (3, .int (nI i)), (4, .int (nI dn))], [.int (nI i), .ref 33], XM L a1 ml) rfl ?_
          refine xB.ck (xin (nI i) 64) (87, [(0, .ref 32), (1, .int 0), (2, .int x), (3, .int (nI i)), (4, .int (nI dn))], [.int (a1 33 (nI i).toNatClampNeg)], XM L a1 ml) rfl (xin_of (j := i) (by first | omega | (have := hr.le16; omega)) (by decide) rfl) ?_
          refine xB.cg (87, [(0, .ref 32), (1, .int 0), (2, .int x), (3, .int (nI i)), (4, .int (nI dn))], [.int (nI (K i))], XM L a1 ml) (by rw [nI_clamp (by omega), (hP1.2.2.1 i hin).1]) ?_
          refine xB.go 1 (88, [(0, .ref 32), (1, .int 0), (2, .int x), (3, .int (nI i)), (4, .int (nI dn))], [.int 5, .int (nI (K i))], XM L a1 ml) rfl ?_
          refine xB.bp (¬ (nI (K i)) = 5) (111, [(0, .ref 32), (1, .int 0), (2, .int x), (3, .int (nI i)), (4, .int (nI dn))], [], XM L a1 ml) (91, [(0, .ref 32), (1, .int 0), (2, .int x), (3, .int (nI i)), (4, .int (nI dn))], [], XM L a1 ml) rfl (fun h4 => ?_) (fun h4 => ?_)
          · refine xB.go 8 (124, [(0, .ref 32), (1, .int 0), (2, .int x), (3, .int (nI i)), (4, .int (nI dn)), (5, .int 0)], [.int (nI i), .ref 33, .int 0, .ref 44], XM L a1 ml) rfl ?_
            refine xB.ck (xin (nI i) 64) (125, [(0, .ref 32), (1, .int 0), (2, .int x), (3, .int (nI i)), (4, .int (nI dn)), (5, .int 0)], [.int (a1 33 (nI i).toNatClampNeg), .int 0, .ref 44], XM L a1 ml) rfl (xin_of (j := i) (by first | omega | (have := hr.le16; omega)) (by decide) rfl) ?_
            refine xB.cg (125, [(0, .ref 32), (1, .int 0), (2, .int x), (3, .int (nI i)), (4, .int (nI dn)), (5, .int 0)], [.int (nI (K i)), .int 0, .ref 44], XM L a1 ml) (by rw [nI_clamp (by omega), (hP1.2.2.1 i hin).1]) ?_
            refine xB.go 1 (127, [(0, .ref 32), (1, .int 0), (2, .int x), (3, .int (nI i)), (4, .int (nI dn)), (5, .int 0)], [.int 9, .int (nI (K i)), .int 0, .ref 44], XM L a1 ml) rfl ?_
            refine xB.bp (¬ (nI (K i)) = 9) (134, [(0, .ref 32), (1, .int 0), (2, .int x), (3, .int (nI i)), (4, .int (nI dn)), (5, .int 0)], [.int 0, .ref 44], XM L a1 ml) (130, [(0, .ref 32), (1, .int 0), (2, .int x), (3, .int (nI i)), (4, .int (nI dn)), (5, .int 0)], [.int 0, .ref 44], XM L a1 ml) rfl (fun h5 => ?_) (fun h5 => ?_)
            · refine xB.go 6 (151, [(0, .ref 32), (1, .int 0), (2, .int x), (3, .int (nI i)), (4, .int (nI dn)), (5, .int 0)], [.int (nI i), .ref 32], XM L (xU a1 44 0 0) ml) rfl ?_
              refine xB.c1 99 [.ref 32, .int (nI i)] [] (c_mnext _ L (xU a1 44 0 0) _ (hP1.frame rfl rfl rfl) hin) rfl ?_
              refine xB.go 3 (47, [(0, .ref 32), (1, .int 0), (2, .int x), (3, .int (nI (nxm n K T i))), (4, .int ((nI dn) + 1)), (5, .int 0)], [], XM L (xU a1 44 0 0) ml) rfl ?_
              refine xB.fo [(0, .ref 32), (1, .int 0), (2, .int x), (3, .int (nI (nxm n K T i))), (4, .int (nI dn + 1))] (by simp) ?_
              obtain ⟨k1, k2, k3, k4⟩ := hk
              have hcn := stA_cn (K i) (a 34 i) h s
              have e34 : a 34 i = mi 34 i := by rw [k4.1 34 (by decide) (by decide) (by decide) (by decide) (by decide) (by decide)]
              rw [e34] at hA1 hcn
              rw [nI_1]
              have g5 := k_ne (c := 5) h4
              have g9 := k_ne (c := 9) h5
              have e : runA K T (mi 34) (f + 1) i h s = ((runA K T (mi 34) f (nxA (K i) (T i) i h s) (h - tk (K i) + pt (K i)) (stA (K i) (mi 34 i) h s)).1 + 1, (runA K T (mi 34) f (nxA (K i) (T i) i h s) (h - tk (K i) + pt (K i)) (stA (K i) (mi 34 i) h s)).2) := if_neg g9
              have en := nxA_n (n := n) (T := T) (i := i) (h := h) (s := s) g5 g9
              have hrn := hr.next hin (hw.1 i h hr).2.1 (hw.1 i h hr).2.2 (nxA_Fo (h := h) (s := s) g9)
              rw [e]
              show xB (d + 6) mX9_run L (fun rr a b => b = ml ∧ rr = some (.int (nI (dn + ((runA K T (mi 34) f _ _ _).1 + 1)))) ∧ _) _
              rw [show ∀ z, dn + (z + 1) = dn + 1 + z from fun z => by omega, ← en]
              exact ih (dn + 1) _ _ _ _ (by omega) hrn ⟨hA1.h, by omega, by rw [xU_self]; rfl, k4.step hF1⟩
            · refine xB.go 7 (151, [(0, .ref 32), (1, .int 0), (2, .int x), (3, .int (nI i)), (4, .int (nI dn)), (5, .int 0)], [.int (nI i), .ref 32], XM L (xU a1 44 0 1) ml) rfl ?_
              refine xB.c1 99 [.ref 32, .int (nI i)] [] (c_mnext _ L (xU a1 44 0 1) _ (hP1.frame rfl rfl rfl) hin) rfl ?_
              refine xB.go 3 (47, [(0, .ref 32), (1, .int 0), (2, .int x), (3, .int (nI (nxm n K T i))), (4, .int ((nI dn) + 1)), (5, .int 0)], [], XM L (xU a1 44 0 1) ml) rfl ?_
              refine xB.fo [(0, .ref 32), (1, .int 0), (2, .int x), (3, .int (nI (nxm n K T i))), (4, .int (nI dn + 1))] (by simp) ?_
              obtain ⟨k1, k2, k3, k4⟩ := hk
              have hcn := stA_cn (K i) (a 34 i) h s
              have e34 : a 34 i = mi 34 i := by rw [k4.1 34 (by decide) (by decide) (by decide) (by decide) (by decide) (by decide)]
              rw [e34] at hA1 hcn
              rw [nI_1]
              have g5 := k_ne (c := 5) h4
              have g9 : K i = 9 := k_eq hkk (c := 9) (by decide) (Classical.not_not.mp h5)
              have e : runA K T (mi 34) (f + 1) i h s = (1, s, true) := if_pos g9
              have es : stA (K i) (mi 34 i) h s = s := by rw [g9]; rfl
              rw [es] at hA1
              rw [e, nxm_9 g9]
              exact run_e0 d L mi ml hP hN hw hht x ⟨hA1.h, by show s.2.2.2.2 ≤ 10000; omega, by rw [xU_self]; rfl, k4.step hF1⟩
          · refine xB.go 5 (100, [(0, .ref 32), (1, .int 0), (2, .int x), (3, .int (nI i)), (4, .int (nI dn))], [.int (nI i), .ref 37, .ref 48], XM L a1 ml) rfl ?_
            refine xB.ck (xin (nI i) 64) (101, [(0, .ref 32), (1, .int 0), (2, .int x), (3, .int (nI i)), (4, .int (nI dn))], [.int (a1 37 (nI i).toNatClampNeg), .ref 48], XM L a1 ml) rfl (xin_of (j := i) (by first | omega | (have := hr.le16; omega)) (by decide) rfl) ?_
            refine xB.cg (101, [(0, .ref 32), (1, .int 0), (2, .int x), (3, .int (nI i)), (4, .int (nI dn))], [.int (nI h), .ref 48], XM L a1 ml) (by rw [e37]) ?_
            refine xB.go 2 (103, [(0, .ref 32), (1, .int 0), (2, .int x), (3, .int (nI i)), (4, .int (nI dn))], [.int ((nI h) - 1), .ref 48], XM L a1 ml) rfl ?_
            refine xB.cg (103, [(0, .ref 32), (1, .int 0), (2, .int x), (3, .int (nI i)), (4, .int (nI dn))], [.int (nI (h - 1)), .ref 48], XM L a1 ml) (by rw [show (1 : Int32) = nI 1 from rfl, nI_subeq (by have := (hw.1 i h hr).2.1; rw [k_eq hkk (c := 5) (by decide) (Classical.not_not.mp h4)] at this; exact this)]) ?_
            refine xB.ck (xin (nI (h - 1)) 16) (104, [(0, .ref 32), (1, .int 0), (2, .int x), (3, .int (nI i)), (4, .int (nI dn))], [.int (a1 48 (nI (h - 1)).toNatClampNeg)], XM L a1 ml) rfl (xin_of (j := h - 1) (by have := hr.le16; have := k_eq hkk (c := 5) (by decide) (Classical.not_not.mp h4); omega) (by decide) rfl) ?_
            refine xB.bp (¬ (a1 48 (nI (h - 1)).toNatClampNeg) = 0) (111, [(0, .ref 32), (1, .int 0), (2, .int x), (3, .int (nI i)), (4, .int (nI dn))], [], XM L a1 ml) (107, [(0, .ref 32), (1, .int 0), (2, .int x), (3, .int (nI i)), (4, .int (nI dn))], [], XM L a1 ml) rfl (fun h6 => ?_) (fun h6 => ?_)
            · refine xB.go 8 (124, [(0, .ref 32), (1, .int 0), (2, .int x), (3, .int (nI i)), (4, .int (nI dn)), (5, .int 0)], [.int (nI i), .ref 33, .int 0, .ref 44], XM L a1 ml) rfl ?_
              refine xB.ck (xin (nI i) 64) (125, [(0, .ref 32), (1, .int 0), (2, .int x), (3, .int (nI i)), (4, .int (nI dn)), (5, .int 0)], [.int (a1 33 (nI i).toNatClampNeg), .int 0, .ref 44], XM L a1 ml) rfl (xin_of (j := i) (by first | omega | (have := hr.le16; omega)) (by decide) rfl) ?_
              refine xB.cg (125, [(0, .ref 32), (1, .int 0), (2, .int x), (3, .int (nI i)), (4, .int (nI dn)), (5, .int 0)], [.int (nI (K i)), .int 0, .ref 44], XM L a1 ml) (by rw [nI_clamp (by omega), (hP1.2.2.1 i hin).1]) ?_
              refine xB.go 1 (127, [(0, .ref 32), (1, .int 0), (2, .int x), (3, .int (nI i)), (4, .int (nI dn)), (5, .int 0)], [.int 9, .int (nI (K i)), .int 0, .ref 44], XM L a1 ml) rfl ?_
              refine xB.bp (¬ (nI (K i)) = 9) (134, [(0, .ref 32), (1, .int 0), (2, .int x), (3, .int (nI i)), (4, .int (nI dn)), (5, .int 0)], [.int 0, .ref 44], XM L a1 ml) (130, [(0, .ref 32), (1, .int 0), (2, .int x), (3, .int (nI i)), (4, .int (nI dn)), (5, .int 0)], [.int 0, .ref 44], XM L a1 ml) rfl (fun h7 => ?_) (fun h7 => ?_)
              · refine xB.go 6 (151, [(0, .ref 32), (1, .int 0), (2, .int x), (3, .int (nI i)), (4, .int (nI dn)), (5, .int 0)], [.int (nI i), .ref 32], XM L (xU a1 44 0 0) ml) rfl ?_
                refine xB.c1 99 [.ref 32, .int (nI i)] [] (c_mnext _ L (xU a1 44 0 0) _ (hP1.frame rfl rfl rfl) hin) rfl ?_
                refine xB.go 3 (47, [(0, .ref 32), (1, .int 0), (2, .int x), (3, .int (nI (nxm n K T i))), (4, .int ((nI dn) + 1)), (5, .int 0)], [], XM L (xU a1 44 0 0) ml) rfl ?_
                refine xB.fo [(0, .ref 32), (1, .int 0), (2, .int x), (3, .int (nI (nxm n K T i))), (4, .int (nI dn + 1))] (by simp) ?_
                obtain ⟨k1, k2, k3, k4⟩ := hk
                have hcn := stA_cn (K i) (a 34 i) h s
                have e34 : a 34 i = mi 34 i := by rw [k4.1 34 (by decide) (by decide) (by decide) (by decide) (by decide) (by decide)]
                rw [e34] at hA1 hcn
                rw [nI_1]
                have g5 : K i = 5 := k_eq hkk (c := 5) (by decide) (Classical.not_not.mp h4)
                have g9 := k_ne (c := 9) h7
                have e : runA K T (mi 34) (f + 1) i h s = ((runA K T (mi 34) f (nxA (K i) (T i) i h s) (h - tk (K i) + pt (K i)) (stA (K i) (mi 34 i) h s)).1 + 1, (runA K T (mi 34) f (nxA (K i) (T i) i h s) (h - tk (K i) + pt (K i)) (stA (K i) (mi 34 i) h s)).2) := if_neg g9
                have es : stA (K i) (mi 34 i) h s = s := by rw [g5]; rfl
                have gt5 : 1 ≤ h := by have := (hw.1 i h hr).2.1; rw [g5] at this; exact this
                have h16 := hr.le16
                have ev : a1 48 (nI (h - 1)).toNatClampNeg = s.1 (h - 1) := by rw [nI_clamp (by omega), hA1.1 (h - 1) (by omega), es]
                rw [ev] at h6
                have en := nxA_5n (n := n) (T := T) (i := i) (h := h) (s := s) g5 h6
                have hrn := hr.next hin (hw.1 i h hr).2.1 (hw.1 i h hr).2.2 (nxA_Fo (h := h) (s := s) g9)
                rw [e]
                show xB (d + 6) mX9_run L (fun rr a b => b = ml ∧ rr = some (.int (nI (dn + ((runA K T (mi 34) f _ _ _).1 + 1)))) ∧ _) _
                rw [show ∀ z, dn + (z + 1) = dn + 1 + z from fun z => by omega, ← en]
                exact ih (dn + 1) _ _ _ _ (by omega) hrn ⟨hA1.h, by omega, by rw [xU_self]; rfl, k4.step hF1⟩
              · refine xB.go 7 (151, [(0, .ref 32), (1, .int 0), (2, .int x), (3, .int (nI i)), (4, .int (nI dn)), (5, .int 0)], [.int (nI i), .ref 32], XM L (xU a1 44 0 1) ml) rfl ?_
                refine xB.c1 99 [.ref 32, .int (nI i)] [] (c_mnext _ L (xU a1 44 0 1) _ (hP1.frame rfl rfl rfl) hin) rfl ?_
                refine xB.go 3 (47, [(0, .ref 32), (1, .int 0), (2, .int x), (3, .int (nI (nxm n K T i))), (4, .int ((nI dn) + 1)), (5, .int 0)], [], XM L (xU a1 44 0 1) ml) rfl ?_
                refine xB.fo [(0, .ref 32), (1, .int 0), (2, .int x), (3, .int (nI (nxm n K T i))), (4, .int (nI dn + 1))] (by simp) ?_
                obtain ⟨k1, k2, k3, k4⟩ := hk
                have hcn := stA_cn (K i) (a 34 i) h s
                have e34 : a 34 i = mi 34 i := by rw [k4.1 34 (by decide) (by decide) (by decide) (by decide) (by decide) (by decide)]
                rw [e34] at hA1 hcn
                rw [nI_1]
                have g5 : K i = 5 := k_eq hkk (c := 5) (by decide) (Classical.not_not.mp h4)
                have g9 : K i = 9 := k_eq hkk (c := 9) (by decide) (Classical.not_not.mp h7)
                omega
            · refine xB.go 9 (124, [(0, .ref 32), (1, .int 0), (2, .int x), (3, .int (nI i)), (4, .int (nI dn)), (5, .int 1)], [.int (nI i), .ref 33, .int 0, .ref 44], XM L a1 ml) rfl ?_
              refine xB.ck (xin (nI i) 64) (125, [(0, .ref 32), (1, .int 0), (2, .int x), (3, .int (nI i)), (4, .int (nI dn)), (5, .int 1)], [.int (a1 33 (nI i).toNatClampNeg), .int 0, .ref 44], XM L a1 ml) rfl (xin_of (j := i) (by first | omega | (have := hr.le16; omega)) (by decide) rfl) ?_
              refine xB.cg (125, [(0, .ref 32), (1, .int 0), (2, .int x), (3, .int (nI i)), (4, .int (nI dn)), (5, .int 1)], [.int (nI (K i)), .int 0, .ref 44], XM L a1 ml) (by rw [nI_clamp (by omega), (hP1.2.2.1 i hin).1]) ?_
              refine xB.go 1 (127, [(0, .ref 32), (1, .int 0), (2, .int x), (3, .int (nI i)), (4, .int (nI dn)), (5, .int 1)], [.int 9, .int (nI (K i)), .int 0, .ref 44], XM L a1 ml) rfl ?_
              refine xB.bp (¬ (nI (K i)) = 9) (134, [(0, .ref 32), (1, .int 0), (2, .int x), (3, .int (nI i)), (4, .int (nI dn)), (5, .int 1)], [.int 0, .ref 44], XM L a1 ml) (130, [(0, .ref 32), (1, .int 0), (2, .int x), (3, .int (nI i)), (4, .int (nI dn)), (5, .int 1)], [.int 0, .ref 44], XM L a1 ml) rfl (fun h8 => ?_) (fun h8 => ?_)
              · refine xB.go 6 (143, [(0, .ref 32), (1, .int 0), (2, .int x), (3, .int (nI i)), (4, .int (nI dn)), (5, .int 1)], [.int (nI i), .ref 32], XM L (xU a1 44 0 0) ml) rfl ?_
                refine xB.c1 100 [.ref 32, .int (nI i)] [] (c_mother _ L (xU a1 44 0 0) _ (hP1.frame rfl rfl rfl) hin) rfl ?_
                refine xB.go 4 (47, [(0, .ref 32), (1, .int 0), (2, .int x), (3, .int (nI (otm n K T i))), (4, .int ((nI dn) + 1)), (5, .int 1)], [], XM L (xU a1 44 0 0) ml) rfl ?_
                refine xB.fo [(0, .ref 32), (1, .int 0), (2, .int x), (3, .int (nI (otm n K T i))), (4, .int (nI dn + 1))] (by simp) ?_
                obtain ⟨k1, k2, k3, k4⟩ := hk
                have hcn := stA_cn (K i) (a 34 i) h s
                have e34 : a 34 i = mi 34 i := by rw [k4.1 34 (by decide) (by decide) (by decide) (by decide) (by decide) (by decide)]
                rw [e34] at hA1 hcn
                rw [nI_1]
                have g5 : K i = 5 := k_eq hkk (c := 5) (by decide) (Classical.not_not.mp h4)
                have g9 := k_ne (c := 9) h8
                have e : runA K T (mi 34) (f + 1) i h s = ((runA K T (mi 34) f (nxA (K i) (T i) i h s) (h - tk (K i) + pt (K i)) (stA (K i) (mi 34 i) h s)).1 + 1, (runA K T (mi 34) f (nxA (K i) (T i) i h s) (h - tk (K i) + pt (K i)) (stA (K i) (mi 34 i) h s)).2) := if_neg g9
                have es : stA (K i) (mi 34 i) h s = s := by rw [g5]; rfl
                have gt5 : 1 ≤ h := by have := (hw.1 i h hr).2.1; rw [g5] at this; exact this
                have h16 := hr.le16
                have ev : a1 48 (nI (h - 1)).toNatClampNeg = s.1 (h - 1) := by rw [nI_clamp (by omega), hA1.1 (h - 1) (by omega), es]
                rw [ev] at h6
                have en := nxA_5z (n := n) (T := T) (i := i) (h := h) (s := s) g5 (Classical.not_not.mp h6)
                have hrn := hr.next hin (hw.1 i h hr).2.1 (hw.1 i h hr).2.2 (nxA_Fo (h := h) (s := s) g9)
                rw [e]
                show xB (d + 6) mX9_run L (fun rr a b => b = ml ∧ rr = some (.int (nI (dn + ((runA K T (mi 34) f _ _ _).1 + 1)))) ∧ _) _
                rw [show ∀ z, dn + (z + 1) = dn + 1 + z from fun z => by omega, ← en]
                exact ih (dn + 1) _ _ _ _ (by omega) hrn ⟨hA1.h, by omega, by rw [xU_self]; rfl, k4.step hF1⟩
              · refine xB.go 7 (143, [(0, .ref 32), (1, .int 0), (2, .int x), (3, .int (nI i)), (4, .int (nI dn)), (5, .int 1)], [.int (nI i), .ref 32], XM L (xU a1 44 0 1) ml) rfl ?_
                refine xB.c1 100 [.ref 32, .int (nI i)] [] (c_mother _ L (xU a1 44 0 1) _ (hP1.frame rfl rfl rfl) hin) rfl ?_
                refine xB.go 4 (47, [(0, .ref 32), (1, .int 0), (2, .int x), (3, .int (nI (otm n K T i))), (4, .int ((nI dn) + 1)), (5, .int 1)], [], XM L (xU a1 44 0 1) ml) rfl ?_
                refine xB.fo [(0, .ref 32), (1, .int 0), (2, .int x), (3, .int (nI (otm n K T i))), (4, .int (nI dn + 1))] (by simp) ?_
                obtain ⟨k1, k2, k3, k4⟩ := hk
                have hcn := stA_cn (K i) (a 34 i) h s
                have e34 : a 34 i = mi 34 i := by rw [k4.1 34 (by decide) (by decide) (by decide) (by decide) (by decide) (by decide)]
                rw [e34] at hA1 hcn
                rw [nI_1]
                have g5 : K i = 5 := k_eq hkk (c := 5) (by decide) (Classical.not_not.mp h4)
                have g9 : K i = 9 := k_eq hkk (c := 9) (by decide) (Classical.not_not.mp h8)
                omega
set_option maxRecDepth 100000 in
set_option maxHeartbeats 1000000 in
theorem c_mrun0 (d L : Nat) (mi : xmi) (ml : xml) {n : Nat} {K T : Nat → Nat} {vL aL cL : Nat → Nat → Bool} (hR : RI n K T vL aL cL mi) (x : Int32) : xF (d + 7) 127 [.ref 32, .int 0, .int x] L mi ml (fun rr a9 b => ∃ v, rr = some (.int v) ∧ b = ml ∧ ∃ a, RI n K T vL aL cL a ∧ FRm mi a ∧ ((¬ WF n K T ∧ v = -1 ∧ a9 = a) ∨ (WF n K T ∧ v = nI (runA K T (mi 34) (fuel x) 0 0 (mi 48, fun y => mi 36 (0 + y), fun y => mi 46 (0 + y), fun y => mi 47 (0 + y), 0)).1 ∧ RK 0 (xU (xU (xU a 43 0 1) 44 0 0) 45 0 0) (runA K T (mi 34) (fuel x) 0 0 (mi 48, fun y => mi 36 (0 + y), fun y => mi 46 (0 + y), fun y => mi 47 (0 + y), 0)).2.1 (runA K T (mi 34) (fuel x) 0 0 (mi 48, fun y => mi 36 (0 + y), fun y => mi 46 (0 + y), fun y => mi 47 (0 + y), 0)).2.2 10000 a9))) := by
  refine xF.mk mX9_run rfl rfl ?_
  refine xB.go 1 (1, [(0, .ref 32), (1, .int 0), (2, .int x)], [.ref 32], XM L mi ml) rfl ?_
  refine xB.ca 108 [.ref 32] [] (c_look _ L _ _ hR) rfl ?_
  intro r0 a b0 hq0
  obtain ⟨rfl, hb0, hRa, h05, hfr⟩ := hq0
  rw [hb0]
  have hSa := (hRa.2.2.2.2.2.2.1 h05).1
  show xB _ _ L _ (4, [(0, .ref 32), (1, .int 0), (2, .int x)], [], XM L a ml)
  refine xB.go 2 (8, [(0, .ref 32), (1, .int 0), (2, .int x)], [.int (a 32 6)], XM L a ml) rfl ?_
  refine xB.bp ((a 32 6) = 0) (19, [(0, .ref 32), (1, .int 0), (2, .int x)], [], XM L a ml) (11, [(0, .ref 32), (1, .int 0), (2, .int x)], [], XM L a ml) rfl (fun h1 => ?_) (fun h1 => ?_)
  · refine xB.go 1 (20, [(0, .ref 32), (1, .int 0), (2, .int x)], [.int (-1)], XM L a ml) rfl ?_
    refine xB.rt (some (.int (-1))) a ml rfl ?_
    exact ⟨_, rfl, rfl, a, hRa, hfr, Or.inl ⟨hSa.wf0 h1, rfl, rfl⟩⟩
  · refine xB.go 2 (13, [(0, .ref 32), (1, .int 0), (2, .int x)], [.int 2, .int 0], XM L a ml) rfl ?_
    refine xB.c1 92 [.int 0, .int 2] [] (c_in1 _ L _ _ (by decide)) rfl ?_
    refine xB.go 20 (47, [(0, .ref 32), (1, .int 0), (2, .int x), (3, .int 0), (4, .int 0)], [], XM L (xU (xU (xU a 43 0 1) 44 0 0) 45 0 0) ml) rfl ?_
    have h06 : a 32 6 = 1 := hSa.bool.resolve_left h1
    have hW := hSa.wf1 h06
    have hx := run_47_0 d L (xU (xU (xU a 43 0 1) 44 0 0) 45 0 0) ml (n := n) (K := K) (T := T) (hRa.1.frame rfl rfl rfl) (hRa.2.1.frame rfl) hW.1 (fun i h hr => by
      have hi64 : i < 64 := Nat.lt_of_lt_of_le (hW.1.1 i h hr).1 hRa.1.2.1
      show a 37 i = nI h
      rcases hW.2 i hi64 with ⟨y, w1, w2, w3⟩ | ⟨w1, w2⟩
      · rw [hW.1.2 i h y hr w2]; exact w3
      · exact absurd ⟨h, hr⟩ w2) x (fuel x) 0 0 0 (a 48, fun y => a 36 (0 + y), fun y => a 46 (0 + y), fun y => a 47 (0 + y), 0) (xU (xU (xU a 43 0 1) 44 0 0) 45 0 0) (by omega) Rh.zero ⟨⟨fun _ _ => rfl, fun y _ => rfl, fun y _ => rfl, fun y _ => rfl, rfl⟩, Nat.le_refl _, rfl, ⟨fun _ _ _ _ _ _ _ => rfl, fun _ _ => rfl, fun _ _ => ⟨rfl, rfl⟩, fun _ _ => ⟨rfl, rfl⟩⟩⟩
    refine xR.po hx (fun r M hq => ?_)
    obtain ⟨a9, b9, e9, q1, q2, q3⟩ := hq
    rw [Nat.zero_add] at q2
    have e34 : (xU (xU (xU a 43 0 1) 44 0 0) 45 0 0) 34 = a 34 := rfl
    rw [e34, hfr 34 (by decide) (by decide) (by decide) (by decide) (by decide) (by decide) (by decide) (by decide), hfr 48 (by decide) (by decide) (by decide) (by decide) (by decide) (by decide) (by decide) (by decide), hfr 36 (by decide) (by decide) (by decide) (by decide) (by decide) (by decide) (by decide) (by decide), hfr 46 (by decide) (by decide) (by decide) (by decide) (by decide) (by decide) (by decide) (by decide), hfr 47 (by decide) (by decide) (by decide) (by decide) (by decide) (by decide) (by decide) (by decide)] at q2 q3
    exact ⟨a9, b9, e9, _, q2, q1, a, hRa, hfr, Or.inr ⟨hW.1, rfl, q3⟩⟩
set_option maxRecDepth 100000 in
set_option maxHeartbeats 1000000 in
theorem run_e1 (d L : Nat) (mi : xmi) (ml : xml) {n : Nat} {K T : Nat → Nat} (hP : PRM mi n K T) (hN : NUMm mi n K T) (hw : WF n K T) (hht : ∀ i h, Rh n K T i h → mi 37 i = nI h) {dn c : Nat} {s : RS} {hl : Bool} {a : xmi} (x : Int32) (hk : RK 1 mi s hl c a) : xB (d + 6) mX9_run L (fun rr a b => b = ml ∧ rr = some (.int (nI (dn))) ∧ RK 1 mi s (hl) c a) (47, [(0, .ref 32), (1, .int 1), (2, .int x), (3, .int (nI n)), (4, .int (nI dn))], [], XM L a ml) := by
  have hn64 := hP.2.1
  refine xB.go 2 (50, [(0, .ref 32), (1, .int 1), (2, .int x), (3, .int (nI n)), (4, .int (nI dn))], [.int x, .int (nI dn)], XM L a ml) rfl ?_
  refine xB.bp (x ≤ (nI dn)) (161, [(0, .ref 32), (1, .int 1), (2, .int x), (3, .int (nI n)), (4, .int (nI dn))], [], XM L a ml) (53, [(0, .ref 32), (1, .int 1), (2, .int x), (3, .int (nI n)), (4, .int (nI dn))], [], XM L a ml) rfl (fun h1 => ?_) (fun h1 => ?_)
  · refine xB.go 1 (163, [(0, .ref 32), (1, .int 1), (2, .int x), (3, .int (nI n)), (4, .int (nI dn))], [.int (nI dn)], XM L a ml) rfl ?_
    refine xB.rt (some (.int (nI dn))) a ml rfl ?_
    exact ⟨rfl, rfl, hk⟩
  · refine xB.go 2 (58, [(0, .ref 32), (1, .int 1), (2, .int x), (3, .int (nI n)), (4, .int (nI dn))], [.int 10000, .int (nI dn)], XM L a ml) rfl ?_
    refine xB.bp (10000 ≤ (nI dn)) (161, [(0, .ref 32), (1, .int 1), (2, .int x), (3, .int (nI n)), (4, .int (nI dn))], [], XM L a ml) (61, [(0, .ref 32), (1, .int 1), (2, .int x), (3, .int (nI n)), (4, .int (nI dn))], [], XM L a ml) rfl (fun h2 => ?_) (fun h2 => ?_)
    · refine xB.go 1 (163, [(0, .ref 32), (1, .int 1), (2, .int x), (3, .int (nI n)), (4, .int (nI dn))], [.int (nI dn)], XM L a ml) rfl ?_
      refine xB.rt (some (.int (nI dn))) a ml rfl ?_
      exact ⟨rfl, rfl, hk⟩
    · refine xB.go 3 (66, [(0, .ref 32), (1, .int 1), (2, .int x), (3, .int (nI n)), (4, .int (nI dn))], [.int (a 32 2), .int (nI n)], XM L a ml) rfl ?_
      refine xB.bp ((a 32 2) ≤ (nI n)) (161, [(0, .ref 32), (1, .int 1), (2, .int x), (3, .int (nI n)), (4, .int (nI dn))], [], XM L a ml) (69, [(0, .ref 32), (1, .int 1), (2, .int x), (3, .int (nI n)), (4, .int (nI dn))], [], XM L a ml) rfl (fun h3 => ?_) (fun h3 => ?_)
      · refine xB.go 1 (163, [(0, .ref 32), (1, .int 1), (2, .int x), (3, .int (nI n)), (4, .int (nI dn))], [.int (nI dn)], XM L a ml) rfl ?_
        refine xB.rt (some (.int (nI dn))) a ml rfl ?_
        exact ⟨rfl, rfl, hk⟩
      · rw [hk.2.2.2.1 32 (by decide) (by decide) (by decide) (by decide) (by decide) (by decide), hP.1] at h3
        exact absurd ((nI_leI (by omega) (by omega)).mpr (Nat.le_refl n)) h3
set_option maxRecDepth 100000 in
set_option maxHeartbeats 1000000 in
theorem run_z1 (d L : Nat) (mi : xmi) (ml : xml) {dn c : Nat} {s : RS} {a : xmi} (x pl : Int32) (hge : fuel x ≤ dn) (hd : dn < 2 ^ 31) (hk : RK 1 mi s false c a) : xB (d + 6) mX9_run L (fun rr a b => b = ml ∧ rr = some (.int (nI (dn))) ∧ RK 1 mi s (false) c a) (47, [(0, .ref 32), (1, .int 1), (2, .int x), (3, .int pl), (4, .int (nI dn))], [], XM L a ml) := by
  refine xB.go 2 (50, [(0, .ref 32), (1, .int 1), (2, .int x), (3, .int pl), (4, .int (nI dn))], [.int x, .int (nI dn)], XM L a ml) rfl ?_
  refine xB.bp (x ≤ (nI dn)) (161, [(0, .ref 32), (1, .int 1), (2, .int x), (3, .int pl), (4, .int (nI dn))], [], XM L a ml) (53, [(0, .ref 32), (1, .int 1), (2, .int x), (3, .int pl), (4, .int (nI dn))], [], XM L a ml) rfl (fun h1 => ?_) (fun h1 => ?_)
  · refine xB.go 1 (163, [(0, .ref 32), (1, .int 1), (2, .int x), (3, .int pl), (4, .int (nI dn))], [.int (nI dn)], XM L a ml) rfl ?_
    refine xB.rt (some (.int (nI dn))) a ml rfl ?_
    exact ⟨rfl, rfl, hk⟩
  · refine xB.go 2 (58, [(0, .ref 32), (1, .int 1), (2, .int x), (3, .int pl), (4, .int (nI dn))], [.int 10000, .int (nI dn)], XM L a ml) rfl ?_
    refine xB.bp (10000 ≤ (nI dn)) (161, [(0, .ref 32), (1, .int 1), (2, .int x), (3, .int pl), (4, .int (nI dn))], [], XM L a ml) (61, [(0, .ref 32), (1, .int 1), (2, .int x), (3, .int pl), (4, .int (nI dn))], [], XM L a ml) rfl (fun h2 => ?_) (fun h2 => ?_)
    · refine xB.go 1 (163, [(0, .ref 32), (1, .int 1), (2, .int x), (3, .int pl), (4, .int (nI dn))], [.int (nI dn)], XM L a ml) rfl ?_
      refine xB.rt (some (.int (nI dn))) a ml rfl ?_
      exact ⟨rfl, rfl, hk⟩
    · have := (fuel_lt hd).mp ⟨i_nle.mp h1, i_nle.mp h2⟩; omega
set_option maxRecDepth 100000 in
set_option maxHeartbeats 1000000 in
theorem run_47_1 (d L : Nat) (mi : xmi) (ml : xml) {n : Nat} {K T : Nat → Nat} (hP : PRM mi n K T) (hN : NUMm mi n K T) (hw : WF n K T) (hht : ∀ i h, Rh n K T i h → mi 37 i = nI h) (x : Int32) : ∀ (f dn i h : Nat) (s : RS) (a : xmi), dn + f = fuel x → Rh n K T i h → RK 1 mi s false dn a → xB (d + 6) mX9_run L (fun rr a b => b = ml ∧ rr = some (.int (nI (dn + (runA K T (mi 34) f i h s).1))) ∧ RK 1 mi (runA K T (mi 34) f i h s).2.1 ((runA K T (mi 34) f i h s).2.2) 10000 a) (47, [(0, .ref 32), (1, .int 1), (2, .int x), (3, .int (nI i)), (4, .int (nI dn))], [], XM L a ml) := by
  have hx10 := fuel_le x
  have hn64 := hP.2.1
  intro f
  induction f with
  | zero =>
    intro dn i h s a hdn hr hk
    exact run_z1 d L mi ml (dn := dn) (c := 10000) x (nI i) (by omega) (by omega) (hk.le (by omega))
  | succ f ih =>
    intro dn i h s a hdn hr hk
    have hin := (hw.1 i h hr).1
    have hkk := (hP.2.2.1 i hin).2
    have hk2 := hk.2.1
    have hF := hk.2.2.2.1
    have hPa : PRM a n K T := hP.frame (by rw [hF 32 (by decide) (by decide) (by decide) (by decide) (by decide) (by decide)]) (hF 33 (by decide) (by decide) (by decide) (by decide) (by decide) (by decide)) (hF 34 (by decide) (by decide) (by decide) (by decide) (by decide) (by decide))
    have hNa : NUMm a n K T := hN.frame (hF 34 (by decide) (by decide) (by decide) (by decide) (by decide) (by decide))
    have hha : a 37 i = nI h := by rw [hF 37 (by decide) (by decide) (by decide) (by decide) (by decide) (by decide)]; exact hht i h hr
    refine xB.go 2 (50, [(0, .ref 32), (1, .int 1), (2, .int x), (3, .int (nI i)), (4, .int (nI dn))], [.int x, .int (nI dn)], XM L a ml) rfl ?_
    refine xB.bp (x ≤ (nI dn)) (161, [(0, .ref 32), (1, .int 1), (2, .int x), (3, .int (nI i)), (4, .int (nI dn))], [], XM L a ml) (53, [(0, .ref 32), (1, .int 1), (2, .int x), (3, .int (nI i)), (4, .int (nI dn))], [], XM L a ml) rfl (fun h1 => ?_) (fun h1 => ?_)
    · refine xB.go 1 (163, [(0, .ref 32), (1, .int 1), (2, .int x), (3, .int (nI i)), (4, .int (nI dn))], [.int (nI dn)], XM L a ml) rfl ?_
      refine xB.rt (some (.int (nI dn))) a ml rfl ?_
      exfalso
      have hnf : ¬ (nI dn < x ∧ nI dn < 10000) := fun z => absurd z.1 (i_nlt.mpr h1)
      exact hnf ((fuel_lt (by omega)).mpr (by omega))
    · refine xB.go 2 (58, [(0, .ref 32), (1, .int 1), (2, .int x), (3, .int (nI i)), (4, .int (nI dn))], [.int 10000, .int (nI dn)], XM L a ml) rfl ?_
      refine xB.bp (10000 ≤ (nI dn)) (161, [(0, .ref 32), (1, .int 1), (2, .int x), (3, .int (nI i)), (4, .int (nI dn))], [], XM L a ml) (61, [(0, .ref 32), (1, .int 1), (2, .int x), (3, .int (nI i)), (4, .int (nI dn))], [], XM L a ml) rfl (fun h2 => ?_) (fun h2 => ?_)
      · refine xB.go 1 (163, [(0, .ref 32), (1, .int 1), (2, .int x), (3, .int (nI i)), (4, .int (nI dn))], [.int (nI dn)], XM L a ml) rfl ?_
        refine xB.rt (some (.int (nI dn))) a ml rfl ?_
        exfalso
        have hnf : ¬ (nI dn < x ∧ nI dn < 10000) := fun z => absurd z.2 (i_nlt.mpr h2)
        exact hnf ((fuel_lt (by omega)).mpr (by omega))
      · refine xB.go 3 (66, [(0, .ref 32), (1, .int 1), (2, .int x), (3, .int (nI i)), (4, .int (nI dn))], [.int (a 32 2), .int (nI i)], XM L a ml) rfl ?_
        refine xB.bp ((a 32 2) ≤ (nI i)) (161, [(0, .ref 32), (1, .int 1), (2, .int x), (3, .int (nI i)), (4, .int (nI dn))], [], XM L a ml) (69, [(0, .ref 32), (1, .int 1), (2, .int x), (3, .int (nI i)), (4, .int (nI dn))], [], XM L a ml) rfl (fun h3 => ?_) (fun h3 => ?_)
        · refine xB.go 1 (163, [(0, .ref 32), (1, .int 1), (2, .int x), (3, .int (nI i)), (4, .int (nI dn))], [.int (nI dn)], XM L a ml) rfl ?_
          refine xB.rt (some (.int (nI dn))) a ml rfl ?_
          rw [hk.2.2.2.1 32 (by decide) (by decide) (by decide) (by decide) (by decide) (by decide), hP.1] at h3
          exact absurd hin (Nat.not_lt.mpr ((nI_leI (by omega) (by omega)).mp h3))
        · refine xB.go 6 (77, [(0, .ref 32), (1, .int 1), (2, .int x), (3, .int (nI i)), (4, .int (nI dn))], [.int (nI i), .ref 37, .int (nI i), .int 1, .ref 32], XM L a ml) rfl ?_
          refine xB.ck (xin (nI i) 64) (78, [(0, .ref 32), (1, .int 1), (2, .int x), (3, .int (nI i)), (4, .int (nI dn))], [.int (a 37 (nI i).toNatClampNeg), .int (nI i), .int 1, .ref 32], XM L a ml) rfl (xin_of (j := i) (by first | omega | (have := hr.le16; omega)) (by decide) rfl) ?_
          refine xB.cg (78, [(0, .ref 32), (1, .int 1), (2, .int x), (3, .int (nI i)), (4, .int (nI dn))], [.int (nI h), .int (nI i), .int 1, .ref 32], XM L a ml) (by rw [nI_clamp (by omega), hha]) ?_
          refine xB.ca 126 [.ref 32, .int 1, .int (nI i), .int (nI h)] [] (c_mwork1 _ L _ _ hPa hNa hin hr.le16 (hw.1 i h hr).2.1 (hw.1 i h hr).2.2 hk.1 (by omega)) rfl ?_
          intro r1 a1 b1 hq
          obtain ⟨rfl, hb1, hA1, hF1⟩ := hq
          rw [hb1]
          have hP1 : PRM a1 n K T := hPa.frame (by rw [hF1.1 32 (by decide) (by decide) (by decide) (by decide) (by decide)]) (hF1.1 33 (by decide) (by decide) (by decide) (by decide) (by decide)) (hF1.1 34 (by decide) (by decide) (by decide) (by decide) (by decide))
          have e37 : a1 37 (nI i).toNatClampNeg = nI h := by rw [nI_clamp (by omega), hF1.1 37 (by decide) (by decide) (by decide) (by decide) (by decide)]; exact hha
          show xB _ _ L _ (81, [(0, .ref 32), (1, .int 1), (2, .int x), (3, .int (nI i)), (4, .int (nI dn))], [], XM L a1 ml)
          refine xB.go 3 (86, [(0, .ref 32), (1, .int 1), (2, .int x), (3, .int (nI i)), (4, .int (nI dn))], [.int (nI i), .ref 33], XM L a1 ml) rfl ?_
          refine xB.ck (xin (nI i) 64) (87, [(0, .ref 32), (1, .int 1), (2, .int x), (3, .int (nI i)), (4, .int (nI dn))], [.int (a1 33 (nI i).toNatClampNeg)], XM L a1 ml) rfl (xin_of (j := i) (by first | omega | (have := hr.le16; omega)) (by decide) rfl) ?_
          refine xB.cg (87, [(0, .ref 32), (1, .int 1), (2, .int x), (3, .int (nI i)), (4, .int (nI dn))], [.int (nI (K i))], XM L a1 ml) (by rw [nI_clamp (by omega), (hP1.2.2.1 i hin).1]) ?_
          refine xB.go 1 (88, [(0, .ref 32), (1, .int 1), (2, .int x), (3, .int (nI i)), (4, .int (nI dn))], [.int 5, .int (nI (K i))], XM L a1 ml) rfl ?_
          refine xB.bp (¬ (nI (K i)) = 5) (111, [(0, .ref 32), (1, .int 1), (2, .int x), (3, .int (nI i)), (4, .int (nI dn))], [], XM L a1 ml) (91, [(0, .ref 32), (1, .int 1), (2, .int x), (3, .int (nI i)), (4, .int (nI dn))], [], XM L a1 ml) rfl (fun h4 => ?_) (fun h4 => ?_)
          · refine xB.go 8 (124, [(0, .ref 32), (1, .int 1), (2, .int x), (3, .int (nI i)), (4, .int (nI dn)), (5, .int 0)], [.int (nI i), .ref 33, .int 1, .ref 44], XM L a1 ml) rfl ?_
            refine xB.ck (xin (nI i) 64) (125, [(0, .ref 32), (1, .int 1), (2, .int x), (3, .int (nI i)), (4, .int (nI dn)), (5, .int 0)], [.int (a1 33 (nI i).toNatClampNeg), .int 1, .ref 44], XM L a1 ml) rfl (xin_of (j := i) (by first | omega | (have := hr.le16; omega)) (by decide) rfl) ?_
            refine xB.cg (125, [(0, .ref 32), (1, .int 1), (2, .int x), (3, .int (nI i)), (4, .int (nI dn)), (5, .int 0)], [.int (nI (K i)), .int 1, .ref 44], XM L a1 ml) (by rw [nI_clamp (by omega), (hP1.2.2.1 i hin).1]) ?_
            refine xB.go 1 (127, [(0, .ref 32), (1, .int 1), (2, .int x), (3, .int (nI i)), (4, .int (nI dn)), (5, .int 0)], [.int 9, .int (nI (K i)), .int 1, .ref 44], XM L a1 ml) rfl ?_
            refine xB.bp (¬ (nI (K i)) = 9) (134, [(0, .ref 32), (1, .int 1), (2, .int x), (3, .int (nI i)), (4, .int (nI dn)), (5, .int 0)], [.int 1, .ref 44], XM L a1 ml) (130, [(0, .ref 32), (1, .int 1), (2, .int x), (3, .int (nI i)), (4, .int (nI dn)), (5, .int 0)], [.int 1, .ref 44], XM L a1 ml) rfl (fun h5 => ?_) (fun h5 => ?_)
            · refine xB.go 6 (151, [(0, .ref 32), (1, .int 1), (2, .int x), (3, .int (nI i)), (4, .int (nI dn)), (5, .int 0)], [.int (nI i), .ref 32], XM L (xU a1 44 1 0) ml) rfl ?_
              refine xB.c1 99 [.ref 32, .int (nI i)] [] (c_mnext _ L (xU a1 44 1 0) _ (hP1.frame rfl rfl rfl) hin) rfl ?_
              refine xB.go 3 (47, [(0, .ref 32), (1, .int 1), (2, .int x), (3, .int (nI (nxm n K T i))), (4, .int ((nI dn) + 1)), (5, .int 0)], [], XM L (xU a1 44 1 0) ml) rfl ?_
              refine xB.fo [(0, .ref 32), (1, .int 1), (2, .int x), (3, .int (nI (nxm n K T i))), (4, .int (nI dn + 1))] (by simp) ?_
              obtain ⟨k1, k2, k3, k4⟩ := hk
              have hcn := stA_cn (K i) (a 34 i) h s
              have e34 : a 34 i = mi 34 i := by rw [k4.1 34 (by decide) (by decide) (by decide) (by decide) (by decide) (by decide)]
              rw [e34] at hA1 hcn
              rw [nI_1]
              have g5 := k_ne (c := 5) h4
              have g9 := k_ne (c := 9) h5
              have e : runA K T (mi 34) (f + 1) i h s = ((runA K T (mi 34) f (nxA (K i) (T i) i h s) (h - tk (K i) + pt (K i)) (stA (K i) (mi 34 i) h s)).1 + 1, (runA K T (mi 34) f (nxA (K i) (T i) i h s) (h - tk (K i) + pt (K i)) (stA (K i) (mi 34 i) h s)).2) := if_neg g9
              have en := nxA_n (n := n) (T := T) (i := i) (h := h) (s := s) g5 g9
              have hrn := hr.next hin (hw.1 i h hr).2.1 (hw.1 i h hr).2.2 (nxA_Fo (h := h) (s := s) g9)
              rw [e]
              show xB (d + 6) mX9_run L (fun rr a b => b = ml ∧ rr = some (.int (nI (dn + ((runA K T (mi 34) f _ _ _).1 + 1)))) ∧ _) _
              rw [show ∀ z, dn + (z + 1) = dn + 1 + z from fun z => by omega, ← en]
              exact ih (dn + 1) _ _ _ _ (by omega) hrn ⟨hA1.h, by omega, by rw [xU_self]; rfl, k4.step hF1⟩
            · refine xB.go 7 (151, [(0, .ref 32), (1, .int 1), (2, .int x), (3, .int (nI i)), (4, .int (nI dn)), (5, .int 0)], [.int (nI i), .ref 32], XM L (xU a1 44 1 1) ml) rfl ?_
              refine xB.c1 99 [.ref 32, .int (nI i)] [] (c_mnext _ L (xU a1 44 1 1) _ (hP1.frame rfl rfl rfl) hin) rfl ?_
              refine xB.go 3 (47, [(0, .ref 32), (1, .int 1), (2, .int x), (3, .int (nI (nxm n K T i))), (4, .int ((nI dn) + 1)), (5, .int 0)], [], XM L (xU a1 44 1 1) ml) rfl ?_
              refine xB.fo [(0, .ref 32), (1, .int 1), (2, .int x), (3, .int (nI (nxm n K T i))), (4, .int (nI dn + 1))] (by simp) ?_
              obtain ⟨k1, k2, k3, k4⟩ := hk
              have hcn := stA_cn (K i) (a 34 i) h s
              have e34 : a 34 i = mi 34 i := by rw [k4.1 34 (by decide) (by decide) (by decide) (by decide) (by decide) (by decide)]
              rw [e34] at hA1 hcn
              rw [nI_1]
              have g5 := k_ne (c := 5) h4
              have g9 : K i = 9 := k_eq hkk (c := 9) (by decide) (Classical.not_not.mp h5)
              have e : runA K T (mi 34) (f + 1) i h s = (1, s, true) := if_pos g9
              have es : stA (K i) (mi 34 i) h s = s := by rw [g9]; rfl
              rw [es] at hA1
              rw [e, nxm_9 g9]
              exact run_e1 d L mi ml hP hN hw hht x ⟨hA1.h, by show s.2.2.2.2 ≤ 10000; omega, by rw [xU_self]; rfl, k4.step hF1⟩
          · refine xB.go 5 (100, [(0, .ref 32), (1, .int 1), (2, .int x), (3, .int (nI i)), (4, .int (nI dn))], [.int (nI i), .ref 37, .ref 48], XM L a1 ml) rfl ?_
            refine xB.ck (xin (nI i) 64) (101, [(0, .ref 32), (1, .int 1), (2, .int x), (3, .int (nI i)), (4, .int (nI dn))], [.int (a1 37 (nI i).toNatClampNeg), .ref 48], XM L a1 ml) rfl (xin_of (j := i) (by first | omega | (have := hr.le16; omega)) (by decide) rfl) ?_
            refine xB.cg (101, [(0, .ref 32), (1, .int 1), (2, .int x), (3, .int (nI i)), (4, .int (nI dn))], [.int (nI h), .ref 48], XM L a1 ml) (by rw [e37]) ?_
            refine xB.go 2 (103, [(0, .ref 32), (1, .int 1), (2, .int x), (3, .int (nI i)), (4, .int (nI dn))], [.int ((nI h) - 1), .ref 48], XM L a1 ml) rfl ?_
            refine xB.cg (103, [(0, .ref 32), (1, .int 1), (2, .int x), (3, .int (nI i)), (4, .int (nI dn))], [.int (nI (h - 1)), .ref 48], XM L a1 ml) (by rw [show (1 : Int32) = nI 1 from rfl, nI_subeq (by have := (hw.1 i h hr).2.1; rw [k_eq hkk (c := 5) (by decide) (Classical.not_not.mp h4)] at this; exact this)]) ?_
            refine xB.ck (xin (nI (h - 1)) 16) (104, [(0, .ref 32), (1, .int 1), (2, .int x), (3, .int (nI i)), (4, .int (nI dn))], [.int (a1 48 (nI (h - 1)).toNatClampNeg)], XM L a1 ml) rfl (xin_of (j := h - 1) (by have := hr.le16; have := k_eq hkk (c := 5) (by decide) (Classical.not_not.mp h4); omega) (by decide) rfl) ?_
            refine xB.bp (¬ (a1 48 (nI (h - 1)).toNatClampNeg) = 0) (111, [(0, .ref 32), (1, .int 1), (2, .int x), (3, .int (nI i)), (4, .int (nI dn))], [], XM L a1 ml) (107, [(0, .ref 32), (1, .int 1), (2, .int x), (3, .int (nI i)), (4, .int (nI dn))], [], XM L a1 ml) rfl (fun h6 => ?_) (fun h6 => ?_)
            · refine xB.go 8 (124, [(0, .ref 32), (1, .int 1), (2, .int x), (3, .int (nI i)), (4, .int (nI dn)), (5, .int 0)], [.int (nI i), .ref 33, .int 1, .ref 44], XM L a1 ml) rfl ?_
              refine xB.ck (xin (nI i) 64) (125, [(0, .ref 32), (1, .int 1), (2, .int x), (3, .int (nI i)), (4, .int (nI dn)), (5, .int 0)], [.int (a1 33 (nI i).toNatClampNeg), .int 1, .ref 44], XM L a1 ml) rfl (xin_of (j := i) (by first | omega | (have := hr.le16; omega)) (by decide) rfl) ?_
              refine xB.cg (125, [(0, .ref 32), (1, .int 1), (2, .int x), (3, .int (nI i)), (4, .int (nI dn)), (5, .int 0)], [.int (nI (K i)), .int 1, .ref 44], XM L a1 ml) (by rw [nI_clamp (by omega), (hP1.2.2.1 i hin).1]) ?_
              refine xB.go 1 (127, [(0, .ref 32), (1, .int 1), (2, .int x), (3, .int (nI i)), (4, .int (nI dn)), (5, .int 0)], [.int 9, .int (nI (K i)), .int 1, .ref 44], XM L a1 ml) rfl ?_
              refine xB.bp (¬ (nI (K i)) = 9) (134, [(0, .ref 32), (1, .int 1), (2, .int x), (3, .int (nI i)), (4, .int (nI dn)), (5, .int 0)], [.int 1, .ref 44], XM L a1 ml) (130, [(0, .ref 32), (1, .int 1), (2, .int x), (3, .int (nI i)), (4, .int (nI dn)), (5, .int 0)], [.int 1, .ref 44], XM L a1 ml) rfl (fun h7 => ?_) (fun h7 => ?_)
              · refine xB.go 6 (151, [(0, .ref 32), (1, .int 1), (2, .int x), (3, .int (nI i)), (4, .int (nI dn)), (5, .int 0)], [.int (nI i), .ref 32], XM L (xU a1 44 1 0) ml) rfl ?_
                refine xB.c1 99 [.ref 32, .int (nI i)] [] (c_mnext _ L (xU a1 44 1 0) _ (hP1.frame rfl rfl rfl) hin) rfl ?_
                refine xB.go 3 (47, [(0, .ref 32), (1, .int 1), (2, .int x), (3, .int (nI (nxm n K T i))), (4, .int ((nI dn) + 1)), (5, .int 0)], [], XM L (xU a1 44 1 0) ml) rfl ?_
                refine xB.fo [(0, .ref 32), (1, .int 1), (2, .int x), (3, .int (nI (nxm n K T i))), (4, .int (nI dn + 1))] (by simp) ?_
                obtain ⟨k1, k2, k3, k4⟩ := hk
                have hcn := stA_cn (K i) (a 34 i) h s
                have e34 : a 34 i = mi 34 i := by rw [k4.1 34 (by decide) (by decide) (by decide) (by decide) (by decide) (by decide)]
                rw [e34] at hA1 hcn
                rw [nI_1]
                have g5 : K i = 5 := k_eq hkk (c := 5) (by decide) (Classical.not_not.mp h4)
                have g9 := k_ne (c := 9) h7
                have e : runA K T (mi 34) (f + 1) i h s = ((runA K T (mi 34) f (nxA (K i) (T i) i h s) (h - tk (K i) + pt (K i)) (stA (K i) (mi 34 i) h s)).1 + 1, (runA K T (mi 34) f (nxA (K i) (T i) i h s) (h - tk (K i) + pt (K i)) (stA (K i) (mi 34 i) h s)).2) := if_neg g9
                have es : stA (K i) (mi 34 i) h s = s := by rw [g5]; rfl
                have gt5 : 1 ≤ h := by have := (hw.1 i h hr).2.1; rw [g5] at this; exact this
                have h16 := hr.le16
                have ev : a1 48 (nI (h - 1)).toNatClampNeg = s.1 (h - 1) := by rw [nI_clamp (by omega), hA1.1 (h - 1) (by omega), es]
                rw [ev] at h6
                have en := nxA_5n (n := n) (T := T) (i := i) (h := h) (s := s) g5 h6
                have hrn := hr.next hin (hw.1 i h hr).2.1 (hw.1 i h hr).2.2 (nxA_Fo (h := h) (s := s) g9)
                rw [e]
                show xB (d + 6) mX9_run L (fun rr a b => b = ml ∧ rr = some (.int (nI (dn + ((runA K T (mi 34) f _ _ _).1 + 1)))) ∧ _) _
                rw [show ∀ z, dn + (z + 1) = dn + 1 + z from fun z => by omega, ← en]
                exact ih (dn + 1) _ _ _ _ (by omega) hrn ⟨hA1.h, by omega, by rw [xU_self]; rfl, k4.step hF1⟩
              · refine xB.go 7 (151, [(0, .ref 32), (1, .int 1), (2, .int x), (3, .int (nI i)), (4, .int (nI dn)), (5, .int 0)], [.int (nI i), .ref 32], XM L (xU a1 44 1 1) ml) rfl ?_
                refine xB.c1 99 [.ref 32, .int (nI i)] [] (c_mnext _ L (xU a1 44 1 1) _ (hP1.frame rfl rfl rfl) hin) rfl ?_
                refine xB.go 3 (47, [(0, .ref 32), (1, .int 1), (2, .int x), (3, .int (nI (nxm n K T i))), (4, .int ((nI dn) + 1)), (5, .int 0)], [], XM L (xU a1 44 1 1) ml) rfl ?_
                refine xB.fo [(0, .ref 32), (1, .int 1), (2, .int x), (3, .int (nI (nxm n K T i))), (4, .int (nI dn + 1))] (by simp) ?_
                obtain ⟨k1, k2, k3, k4⟩ := hk
                have hcn := stA_cn (K i) (a 34 i) h s
                have e34 : a 34 i = mi 34 i := by rw [k4.1 34 (by decide) (by decide) (by decide) (by decide) (by decide) (by decide)]
                rw [e34] at hA1 hcn
                rw [nI_1]
                have g5 : K i = 5 := k_eq hkk (c := 5) (by decide) (Classical.not_not.mp h4)
                have g9 : K i = 9 := k_eq hkk (c := 9) (by decide) (Classical.not_not.mp h7)
                omega
            · refine xB.go 9 (124, [(0, .ref 32), (1, .int 1), (2, .int x), (3, .int (nI i)), (4, .int (nI dn)), (5, .int 1)], [.int (nI i), .ref 33, .int 1, .ref 44], XM L a1 ml) rfl ?_
              refine xB.ck (xin (nI i) 64) (125, [(0, .ref 32), (1, .int 1), (2, .int x), (3, .int (nI i)), (4, .int (nI dn)), (5, .int 1)], [.int (a1 33 (nI i).toNatClampNeg), .int 1, .ref 44], XM L a1 ml) rfl (xin_of (j := i) (by first | omega | (have := hr.le16; omega)) (by decide) rfl) ?_
              refine xB.cg (125, [(0, .ref 32), (1, .int 1), (2, .int x), (3, .int (nI i)), (4, .int (nI dn)), (5, .int 1)], [.int (nI (K i)), .int 1, .ref 44], XM L a1 ml) (by rw [nI_clamp (by omega), (hP1.2.2.1 i hin).1]) ?_
              refine xB.go 1 (127, [(0, .ref 32), (1, .int 1), (2, .int x), (3, .int (nI i)), (4, .int (nI dn)), (5, .int 1)], [.int 9, .int (nI (K i)), .int 1, .ref 44], XM L a1 ml) rfl ?_
              refine xB.bp (¬ (nI (K i)) = 9) (134, [(0, .ref 32), (1, .int 1), (2, .int x), (3, .int (nI i)), (4, .int (nI dn)), (5, .int 1)], [.int 1, .ref 44], XM L a1 ml) (130, [(0, .ref 32), (1, .int 1), (2, .int x), (3, .int (nI i)), (4, .int (nI dn)), (5, .int 1)], [.int 1, .ref 44], XM L a1 ml) rfl (fun h8 => ?_) (fun h8 => ?_)
              · refine xB.go 6 (143, [(0, .ref 32), (1, .int 1), (2, .int x), (3, .int (nI i)), (4, .int (nI dn)), (5, .int 1)], [.int (nI i), .ref 32], XM L (xU a1 44 1 0) ml) rfl ?_
                refine xB.c1 100 [.ref 32, .int (nI i)] [] (c_mother _ L (xU a1 44 1 0) _ (hP1.frame rfl rfl rfl) hin) rfl ?_
                refine xB.go 4 (47, [(0, .ref 32), (1, .int 1), (2, .int x), (3, .int (nI (otm n K T i))), (4, .int ((nI dn) + 1)), (5, .int 1)], [], XM L (xU a1 44 1 0) ml) rfl ?_
                refine xB.fo [(0, .ref 32), (1, .int 1), (2, .int x), (3, .int (nI (otm n K T i))), (4, .int (nI dn + 1))] (by simp) ?_
                obtain ⟨k1, k2, k3, k4⟩ := hk
                have hcn := stA_cn (K i) (a 34 i) h s
                have e34 : a 34 i = mi 34 i := by rw [k4.1 34 (by decide) (by decide) (by decide) (by decide) (by decide) (by decide)]
                rw [e34] at hA1 hcn
                rw [nI_1]
                have g5 : K i = 5 := k_eq hkk (c := 5) (by decide) (Classical.not_not.mp h4)
                have g9 := k_ne (c := 9) h8
                have e : runA K T (mi 34) (f + 1) i h s = ((runA K T (mi 34) f (nxA (K i) (T i) i h s) (h - tk (K i) + pt (K i)) (stA (K i) (mi 34 i) h s)).1 + 1, (runA K T (mi 34) f (nxA (K i) (T i) i h s) (h - tk (K i) + pt (K i)) (stA (K i) (mi 34 i) h s)).2) := if_neg g9
                have es : stA (K i) (mi 34 i) h s = s := by rw [g5]; rfl
                have gt5 : 1 ≤ h := by have := (hw.1 i h hr).2.1; rw [g5] at this; exact this
                have h16 := hr.le16
                have ev : a1 48 (nI (h - 1)).toNatClampNeg = s.1 (h - 1) := by rw [nI_clamp (by omega), hA1.1 (h - 1) (by omega), es]
                rw [ev] at h6
                have en := nxA_5z (n := n) (T := T) (i := i) (h := h) (s := s) g5 (Classical.not_not.mp h6)
                have hrn := hr.next hin (hw.1 i h hr).2.1 (hw.1 i h hr).2.2 (nxA_Fo (h := h) (s := s) g9)
                rw [e]
                show xB (d + 6) mX9_run L (fun rr a b => b = ml ∧ rr = some (.int (nI (dn + ((runA K T (mi 34) f _ _ _).1 + 1)))) ∧ _) _
                rw [show ∀ z, dn + (z + 1) = dn + 1 + z from fun z => by omega, ← en]
                exact ih (dn + 1) _ _ _ _ (by omega) hrn ⟨hA1.h, by omega, by rw [xU_self]; rfl, k4.step hF1⟩
              · refine xB.go 7 (143, [(0, .ref 32), (1, .int 1), (2, .int x), (3, .int (nI i)), (4, .int (nI dn)), (5, .int 1)], [.int (nI i), .ref 32], XM L (xU a1 44 1 1) ml) rfl ?_
                refine xB.c1 100 [.ref 32, .int (nI i)] [] (c_mother _ L (xU a1 44 1 1) _ (hP1.frame rfl rfl rfl) hin) rfl ?_
                refine xB.go 4 (47, [(0, .ref 32), (1, .int 1), (2, .int x), (3, .int (nI (otm n K T i))), (4, .int ((nI dn) + 1)), (5, .int 1)], [], XM L (xU a1 44 1 1) ml) rfl ?_
                refine xB.fo [(0, .ref 32), (1, .int 1), (2, .int x), (3, .int (nI (otm n K T i))), (4, .int (nI dn + 1))] (by simp) ?_
                obtain ⟨k1, k2, k3, k4⟩ := hk
                have hcn := stA_cn (K i) (a 34 i) h s
                have e34 : a 34 i = mi 34 i := by rw [k4.1 34 (by decide) (by decide) (by decide) (by decide) (by decide) (by decide)]
                rw [e34] at hA1 hcn
                rw [nI_1]
                have g5 : K i = 5 := k_eq hkk (c := 5) (by decide) (Classical.not_not.mp h4)
                have g9 : K i = 9 := k_eq hkk (c := 9) (by decide) (Classical.not_not.mp h8)
                omega
set_option maxRecDepth 100000 in
set_option maxHeartbeats 1000000 in
theorem c_mrun1 (d L : Nat) (mi : xmi) (ml : xml) {n : Nat} {K T : Nat → Nat} {vL aL cL : Nat → Nat → Bool} (hR : RI n K T vL aL cL mi) (x : Int32) : xF (d + 7) 127 [.ref 32, .int 1, .int x] L mi ml (fun rr a9 b => ∃ v, rr = some (.int v) ∧ b = ml ∧ ∃ a, RI n K T vL aL cL a ∧ FRm mi a ∧ ((¬ WF n K T ∧ v = -1 ∧ a9 = a) ∨ (WF n K T ∧ v = nI (runA K T (mi 34) (fuel x) 0 0 (mi 48, fun y => mi 36 (24 + y), fun y => mi 46 (64 + y), fun y => mi 47 (64 + y), 0)).1 ∧ RK 1 (xU (xU (xU a 43 1 1) 44 1 0) 45 1 0) (runA K T (mi 34) (fuel x) 0 0 (mi 48, fun y => mi 36 (24 + y), fun y => mi 46 (64 + y), fun y => mi 47 (64 + y), 0)).2.1 (runA K T (mi 34) (fuel x) 0 0 (mi 48, fun y => mi 36 (24 + y), fun y => mi 46 (64 + y), fun y => mi 47 (64 + y), 0)).2.2 10000 a9))) := by
  refine xF.mk mX9_run rfl rfl ?_
  refine xB.go 1 (1, [(0, .ref 32), (1, .int 1), (2, .int x)], [.ref 32], XM L mi ml) rfl ?_
  refine xB.ca 108 [.ref 32] [] (c_look _ L _ _ hR) rfl ?_
  intro r0 a b0 hq0
  obtain ⟨rfl, hb0, hRa, h05, hfr⟩ := hq0
  rw [hb0]
  have hSa := (hRa.2.2.2.2.2.2.1 h05).1
  show xB _ _ L _ (4, [(0, .ref 32), (1, .int 1), (2, .int x)], [], XM L a ml)
  refine xB.go 2 (8, [(0, .ref 32), (1, .int 1), (2, .int x)], [.int (a 32 6)], XM L a ml) rfl ?_
  refine xB.bp ((a 32 6) = 0) (19, [(0, .ref 32), (1, .int 1), (2, .int x)], [], XM L a ml) (11, [(0, .ref 32), (1, .int 1), (2, .int x)], [], XM L a ml) rfl (fun h1 => ?_) (fun h1 => ?_)
  · refine xB.go 1 (20, [(0, .ref 32), (1, .int 1), (2, .int x)], [.int (-1)], XM L a ml) rfl ?_
    refine xB.rt (some (.int (-1))) a ml rfl ?_
    exact ⟨_, rfl, rfl, a, hRa, hfr, Or.inl ⟨hSa.wf0 h1, rfl, rfl⟩⟩
  · refine xB.go 2 (13, [(0, .ref 32), (1, .int 1), (2, .int x)], [.int 2, .int 1], XM L a ml) rfl ?_
    refine xB.c1 92 [.int 1, .int 2] [] (c_in1 _ L _ _ (by decide)) rfl ?_
    refine xB.go 20 (47, [(0, .ref 32), (1, .int 1), (2, .int x), (3, .int 0), (4, .int 0)], [], XM L (xU (xU (xU a 43 1 1) 44 1 0) 45 1 0) ml) rfl ?_
    have h06 : a 32 6 = 1 := hSa.bool.resolve_left h1
    have hW := hSa.wf1 h06
    have hx := run_47_1 d L (xU (xU (xU a 43 1 1) 44 1 0) 45 1 0) ml (n := n) (K := K) (T := T) (hRa.1.frame rfl rfl rfl) (hRa.2.1.frame rfl) hW.1 (fun i h hr => by
      have hi64 : i < 64 := Nat.lt_of_lt_of_le (hW.1.1 i h hr).1 hRa.1.2.1
      show a 37 i = nI h
      rcases hW.2 i hi64 with ⟨y, w1, w2, w3⟩ | ⟨w1, w2⟩
      · rw [hW.1.2 i h y hr w2]; exact w3
      · exact absurd ⟨h, hr⟩ w2) x (fuel x) 0 0 0 (a 48, fun y => a 36 (24 + y), fun y => a 46 (64 + y), fun y => a 47 (64 + y), 0) (xU (xU (xU a 43 1 1) 44 1 0) 45 1 0) (by omega) Rh.zero ⟨⟨fun _ _ => rfl, fun y _ => rfl, fun y _ => rfl, fun y _ => rfl, rfl⟩, Nat.le_refl _, rfl, ⟨fun _ _ _ _ _ _ _ => rfl, fun _ _ => rfl, fun _ _ => ⟨rfl, rfl⟩, fun _ _ => ⟨rfl, rfl⟩⟩⟩
    refine xR.po hx (fun r M hq => ?_)
    obtain ⟨a9, b9, e9, q1, q2, q3⟩ := hq
    rw [Nat.zero_add] at q2
    have e34 : (xU (xU (xU a 43 1 1) 44 1 0) 45 1 0) 34 = a 34 := rfl
    rw [e34, hfr 34 (by decide) (by decide) (by decide) (by decide) (by decide) (by decide) (by decide) (by decide), hfr 48 (by decide) (by decide) (by decide) (by decide) (by decide) (by decide) (by decide) (by decide), hfr 36 (by decide) (by decide) (by decide) (by decide) (by decide) (by decide) (by decide) (by decide), hfr 46 (by decide) (by decide) (by decide) (by decide) (by decide) (by decide) (by decide) (by decide), hfr 47 (by decide) (by decide) (by decide) (by decide) (by decide) (by decide) (by decide) (by decide)] at q2 q3
    exact ⟨a9, b9, e9, _, q2, q1, a, hRa, hfr, Or.inr ⟨hW.1, rfl, q3⟩⟩
set_option maxRecDepth 100000 in
set_option maxHeartbeats 1000000 in
theorem c_mrunN (d L : Nat) (mi : xmi) (ml : xml) {n : Nat} {K T : Nat → Nat} {vL aL cL : Nat → Nat → Bool} (hR : RI n K T vL aL cL mi) {m : Int32} (hm : ¬ (0 ≤ m ∧ m < 2)) (x : Int32) : xF (d + 7) 127 [.ref 32, .int m, .int x] L mi ml (fun rr a b => rr = some (.int (-1)) ∧ b = ml ∧ RI n K T vL aL cL a ∧ a 32 5 = 1 ∧ FRm mi a) := by
  refine xF.mk mX9_run rfl rfl ?_
  refine xB.go 1 (1, [(0, .ref 32), (1, .int m), (2, .int x)], [.ref 32], XM L mi ml) rfl ?_
  refine xB.ca 108 [.ref 32] [] (c_look _ L _ _ hR) rfl ?_
  intro r0 a b0 hq0
  obtain ⟨rfl, hb0, hRa, h05, hfr⟩ := hq0
  rw [hb0]
  have hSa := (hRa.2.2.2.2.2.2.1 h05).1
  show xB _ _ L _ (4, [(0, .ref 32), (1, .int m), (2, .int x)], [], XM L a ml)
  refine xB.go 2 (8, [(0, .ref 32), (1, .int m), (2, .int x)], [.int (a 32 6)], XM L a ml) rfl ?_
  refine xB.bp ((a 32 6) = 0) (19, [(0, .ref 32), (1, .int m), (2, .int x)], [], XM L a ml) (11, [(0, .ref 32), (1, .int m), (2, .int x)], [], XM L a ml) rfl (fun h1 => ?_) (fun h1 => ?_)
  · refine xB.go 1 (20, [(0, .ref 32), (1, .int m), (2, .int x)], [.int (-1)], XM L a ml) rfl ?_
    refine xB.rt (some (.int (-1))) a ml rfl ?_
    exact ⟨rfl, rfl, hRa, h05, hfr⟩
  · refine xB.go 2 (13, [(0, .ref 32), (1, .int m), (2, .int x)], [.int 2, .int m], XM L a ml) rfl ?_
    refine xB.c1 92 [.int m, .int 2] [] (c_in0 _ L _ _ hm) rfl ?_
    refine xB.go 2 (20, [(0, .ref 32), (1, .int m), (2, .int x)], [.int (-1)], XM L a ml) rfl ?_
    refine xB.rt (some (.int (-1))) a ml rfl ?_
    exact ⟨rfl, rfl, hRa, h05, hfr⟩
