/-! the reference: isMet, isSafe, check, surrounding, pile, junction -/
theorem SHM.wf1 {n : Nat} {K T : Nat → Nat} {v : Int32} {a : xmi} (h : SHM n K T v a) (h1 : v = 1) : WF n K T ∧ ∀ i, i < 64 → (∃ h, h ≤ 16 ∧ Rh n K T i h ∧ a 37 i = nI h) ∨ (a 37 i = -1 ∧ ¬ ∃ h, Rh n K T i h) := by
  rcases h with z | z
  · exact z.2
  · rw [h1] at z; exact absurd z.1 (by decide)
theorem SHM.wf0 {n : Nat} {K T : Nat → Nat} {v : Int32} {a : xmi} (h : SHM n K T v a) (h1 : v = 0) : ¬ WF n K T := by
  rcases h with z | z
  · rw [h1] at z; exact absurd z.1 (by decide)
  · exact z.2
def METQ (n : Nat) (K T : Nat → Nat) (x : Int32) : Prop := ∃ i, WF n K T ∧ x = nI i ∧ met n K T i
set_option maxRecDepth 100000 in
set_option maxHeartbeats 1000000 in
theorem c_misMet (d L : Nat) (mi : xmi) (ml : xml) {n : Nat} {K T : Nat → Nat} {vL aL cL : Nat → Nat → Bool} (hR : RI n K T vL aL cL mi) (x : Int32) : xF (d + 8) 115 [.ref 32, .int x] L mi ml (fun rr a b => ∃ v, rr = some (.int v) ∧ b = ml ∧ RI n K T vL aL cL a ∧ FRm mi a ∧ ((v = 1 ∧ a 32 5 = 1 ∧ a 32 6 = 1 ∧ a 32 10 = 1 ∧ METQ n K T x) ∨ (v = 0 ∧ ¬ METQ n K T x))) := by
  refine xF.mk mX9_isMet rfl rfl ?_
  refine xB.go 1 (1, [(0, .ref 32), (1, .int x)], [.ref 32], XM L mi ml) rfl ?_
  refine xB.ca 114 [.ref 32] [] (c_type _ L _ _ hR) rfl ?_
  intro r0 a b0 hq0
  obtain ⟨v0, rfl, hb0, hRa, hfr, h05, hv0, hv1⟩ := hq0
  rw [hb0]
  have hSa := (hRa.2.2.2.2.2.2.1 h05).1
  rw [← hv0] at hSa
  show xB _ _ L _ (4, [(0, .ref 32), (1, .int x)], [.int v0], XM L a ml)
  refine xB.bp (v0 = 0) (31, [(0, .ref 32), (1, .int x)], [], XM L a ml) (7, [(0, .ref 32), (1, .int x)], [], XM L a ml) rfl (fun h1 => ?_) (fun h1 => ?_)
  · refine xB.go 1 (32, [(0, .ref 32), (1, .int x)], [.int 0], XM L a ml) rfl ?_
    refine xB.rt (some (.int 0)) a ml rfl ?_
    exact ⟨_, rfl, rfl, hRa, hfr, Or.inr ⟨rfl, fun ⟨_, z, _⟩ => hSa.wf0 h1 z⟩⟩
  · have v01 : v0 = 1 := hSa.bool.resolve_left h1
    have h06 : a 32 6 = 1 := hv0.symm.trans v01
    have h10 := hv1 v01
    have hW := hSa.wf1 v01
    have hn64 := hRa.1.2.1
    refine xB.go 3 (12, [(0, .ref 32), (1, .int x)], [.int (a 32 2), .int x], XM L a ml) rfl ?_
    refine xB.c1 92 [.int x, .int (a 32 2)] [] (c_in _ L a ml x (a 32 2) ) rfl ?_
    refine xB.bz (0 ≤ x ∧ x < (a 32 2)) (31, [(0, .ref 32), (1, .int x)], [], XM L a ml) (18, [(0, .ref 32), (1, .int x)], [], XM L a ml) rfl (fun h2 => ?_) (fun h2 => ?_)
    · refine xB.go 1 (32, [(0, .ref 32), (1, .int x)], [.int 0], XM L a ml) rfl ?_
      refine xB.rt (some (.int 0)) a ml rfl ?_
      refine ⟨_, rfl, rfl, hRa, hfr, Or.inr ⟨rfl, fun ⟨i, z1, z2, z3⟩ => h2 ?_⟩⟩
      have hz := z1.lt z3
      rw [hRa.1.1, z2]
      exact ⟨nI_pos' (by omega), (nI_ltI (by omega) (by omega)).mpr hz⟩
    · refine xB.go 3 (23, [(0, .ref 32), (1, .int x)], [.int x, .ref 37], XM L a ml) rfl ?_
      refine xB.ck (xin x 64) (24, [(0, .ref 32), (1, .int x)], [.int (a 37 x.toNatClampNeg)], XM L a ml) rfl (by obtain ⟨i, hi, hx⟩ := ix_j (m := n) (by omega) (by rw [← hRa.1.1]; exact h2); exact xin_of (show i < 64 by omega) (by decide) hx) ?_
      refine xB.bp ((a 37 x.toNatClampNeg) < 0) (31, [(0, .ref 32), (1, .int x)], [], XM L a ml) (27, [(0, .ref 32), (1, .int x)], [], XM L a ml) rfl (fun h3 => ?_) (fun h3 => ?_)
      · refine xB.go 1 (32, [(0, .ref 32), (1, .int x)], [.int 0], XM L a ml) rfl ?_
        refine xB.rt (some (.int 0)) a ml rfl ?_
        obtain ⟨i, hi, hx⟩ := ix_j (m := n) (by omega) (by rw [← hRa.1.1]; exact h2)
        rw [hx, nI_clamp (by omega)] at h3
        refine ⟨_, rfl, rfl, hRa, hfr, Or.inr ⟨rfl, fun ⟨j, z1, z2, z3⟩ => ?_⟩⟩
        have hz := z1.lt z3
        obtain rfl : i = j := (nI_eq (by omega) (by omega)).mp (hx.symm.trans z2)
        rcases hW.2 i (by omega) with ⟨y, w1, w2, w3⟩ | ⟨w1, w2⟩
        · rw [w3] at h3; exact absurd h3 (nI_pos (by omega))
        · exact w2 z3
      · refine xB.go 2 (32, [(0, .ref 32), (1, .int x)], [.int 1], XM L a ml) rfl ?_
        refine xB.rt (some (.int 1)) a ml rfl ?_
        obtain ⟨i, hi, hx⟩ := ix_j (m := n) (by omega) (by rw [← hRa.1.1]; exact h2)
        rw [hx, nI_clamp (by omega)] at h3
        refine ⟨_, rfl, rfl, hRa, hfr, Or.inl ⟨rfl, h05, h06, h10, i, hW.1, hx, ?_⟩⟩
        rcases hW.2 i (by omega) with ⟨y, w1, w2, w3⟩ | ⟨w1, w2⟩
        · exact ⟨y, w2⟩
        · rw [w1] at h3; exact absurd neg1_lt h3
set_option maxRecDepth 100000 in
set_option maxHeartbeats 1000000 in
theorem c_msurrounding (d L : Nat) (mi : xmi) (ml : xml) {n : Nat} {K T : Nat → Nat} {vL aL cL : Nat → Nat → Bool} (hR : RI n K T vL aL cL mi) (x : Int32) : xF (d + 9) 118 [.ref 32, .int x] L mi ml (fun rr a b => ∃ v, rr = some (.int v) ∧ b = ml ∧ RI n K T vL aL cL a ∧ FRm mi a ∧ SUR n K T vL aL x v) := by
  refine xF.mk mX9_surrounding rfl rfl ?_
  refine xB.go 2 (2, [(0, .ref 32), (1, .int x)], [.int x, .ref 32], XM L mi ml) rfl ?_
  refine xB.ca 115 [.ref 32, .int x] [] (c_misMet _ L _ _ hR x) rfl ?_
  intro r0 a b0 hq0
  obtain ⟨v0, rfl, hb0, hRa, hfr, hM⟩ := hq0
  rw [hb0]
  show xB _ _ L _ (5, [(0, .ref 32), (1, .int x)], [.int v0], XM L a ml)
  refine xB.bp (v0 = 0) (17, [(0, .ref 32), (1, .int x)], [], XM L a ml) (8, [(0, .ref 32), (1, .int x)], [], XM L a ml) rfl (fun h1 => ?_) (fun h1 => ?_)
  · refine xB.go 1 (18, [(0, .ref 32), (1, .int x)], [.int (-1)], XM L a ml) rfl ?_
    refine xB.rt (some (.int (-1))) a ml rfl ?_
    have hno : ¬ METQ n K T x := by
      rcases hM with z | z
      · rw [z.1] at h1; exact absurd h1 (by decide)
      · exact z.2
    exact ⟨_, rfl, rfl, hRa, hfr, Or.inr ⟨hno, rfl⟩⟩
  · obtain ⟨-, h05, h06, h10, i, hw, hx, hmi⟩ : v0 = 1 ∧ a 32 5 = 1 ∧ a 32 6 = 1 ∧ a 32 10 = 1 ∧ METQ n K T x := by
      rcases hM with z | z
      · exact z
      · exact absurd z.1 h1
    have hin := hw.lt hmi
    have hn64 := hRa.1.2.1
    obtain ⟨hSa, hJa⟩ := hRa.2.2.2.2.2.2.1 h05
    obtain ⟨g, hTg0, hgY⟩ := hRa.2.2.2.2.2.2.2 h05 h06 h10
    have hTg : TG g a := hTg0
    refine xB.cg (8, [(0, .ref 32), (1, .int (nI i))], [], XM L a ml) (by rw [hx]) ?_
    refine xB.go 3 (13, [(0, .ref 32), (1, .int (nI i))], [.int (nI i), .ref 40], XM L a ml) rfl ?_
    refine xB.ck (xin (nI i) 1088) (14, [(0, .ref 32), (1, .int (nI i))], [.int (a 40 (nI i).toNatClampNeg)], XM L a ml) rfl (xin_of (j := i) (by omega) (by decide) rfl) ?_
    refine xB.go 1 (18, [(0, .ref 32), (1, .int (nI i))], [.int (a 40 (nI i).toNatClampNeg)], XM L a ml) rfl ?_
    refine xB.rt (some (.int (a 40 (nI i).toNatClampNeg))) a ml rfl ?_
    rw [nI_clamp (by omega), hTg.s (show i < 64 by omega)]
    refine ⟨_, rfl, rfl, hRa, hfr, Or.inl ⟨i, hw, hx, hmi, _, _, ?_, ?_, rfl⟩⟩
    · rw [hgY 0 i 16 (by decide)]; exact ⟨fun z => ⟨by omega, by omega, z⟩, fun z => z.2.2⟩
    · rw [hgY 1 i 16 (by decide)]; exact ⟨fun z => ⟨by omega, by omega, z⟩, fun z => z.2.2⟩
set_option maxRecDepth 100000 in
set_option maxHeartbeats 1000000 in
theorem c_mjunction (d L : Nat) (mi : xmi) (ml : xml) {n : Nat} {K T : Nat → Nat} {vL aL cL : Nat → Nat → Bool} (hR : RI n K T vL aL cL mi) (x : Int32) : xF (d + 9) 120 [.ref 32, .int x] L mi ml (fun rr a b => ∃ v, rr = some (.int v) ∧ b = ml ∧ RI n K T vL aL cL a ∧ FRm mi a ∧ JUN n K T x v) := by
  refine xF.mk mX9_junction rfl rfl ?_
  refine xB.go 2 (2, [(0, .ref 32), (1, .int x)], [.int x, .ref 32], XM L mi ml) rfl ?_
  refine xB.ca 115 [.ref 32, .int x] [] (c_misMet _ L _ _ hR x) rfl ?_
  intro r0 a b0 hq0
  obtain ⟨v0, rfl, hb0, hRa, hfr, hM⟩ := hq0
  rw [hb0]
  show xB _ _ L _ (5, [(0, .ref 32), (1, .int x)], [.int v0], XM L a ml)
  refine xB.bp (v0 = 0) (17, [(0, .ref 32), (1, .int x)], [], XM L a ml) (8, [(0, .ref 32), (1, .int x)], [], XM L a ml) rfl (fun h1 => ?_) (fun h1 => ?_)
  · refine xB.go 1 (18, [(0, .ref 32), (1, .int x)], [.int (-1)], XM L a ml) rfl ?_
    refine xB.rt (some (.int (-1))) a ml rfl ?_
    have hno : ¬ METQ n K T x := by
      rcases hM with z | z
      · rw [z.1] at h1; exact absurd h1 (by decide)
      · exact z.2
    exact ⟨_, rfl, rfl, hRa, hfr, Or.inr ⟨hno, rfl⟩⟩
  · obtain ⟨-, h05, h06, h10, i, hw, hx, hmi⟩ : v0 = 1 ∧ a 32 5 = 1 ∧ a 32 6 = 1 ∧ a 32 10 = 1 ∧ METQ n K T x := by
      rcases hM with z | z
      · exact z
      · exact absurd z.1 h1
    have hin := hw.lt hmi
    have hn64 := hRa.1.2.1
    obtain ⟨hSa, hJa⟩ := hRa.2.2.2.2.2.2.1 h05
    obtain ⟨g, hTg0, hgY⟩ := hRa.2.2.2.2.2.2.2 h05 h06 h10
    have hTg : TG g a := hTg0
    refine xB.cg (8, [(0, .ref 32), (1, .int (nI i))], [], XM L a ml) (by rw [hx]) ?_
    refine xB.go 3 (13, [(0, .ref 32), (1, .int (nI i))], [.int (nI i), .ref 38], XM L a ml) rfl ?_
    refine xB.ck (xin (nI i) 64) (14, [(0, .ref 32), (1, .int (nI i))], [.int (a 38 (nI i).toNatClampNeg)], XM L a ml) rfl (xin_of (j := i) (by omega) (by decide) rfl) ?_
    refine xB.go 1 (18, [(0, .ref 32), (1, .int (nI i))], [.int (a 38 (nI i).toNatClampNeg)], XM L a ml) rfl ?_
    refine xB.rt (some (.int (a 38 (nI i).toNatClampNeg))) a ml rfl ?_
    rw [nI_clamp (by omega)]
    exact ⟨_, rfl, rfl, hRa, hfr, Or.inl ⟨i, hw, hx, hmi, (hJa h06 i hin).1⟩⟩
set_option maxRecDepth 100000 in
set_option maxHeartbeats 1000000 in
theorem c_mpile (d L : Nat) (mi : xmi) (ml : xml) {n : Nat} {K T : Nat → Nat} {vL aL cL : Nat → Nat → Bool} (hR : RI n K T vL aL cL mi) (x y : Int32) : xF (d + 9) 119 [.ref 32, .int x, .int y] L mi ml (fun rr a b => ∃ v, rr = some (.int v) ∧ b = ml ∧ RI n K T vL aL cL a ∧ FRm mi a ∧ PIL n K T vL aL x y v) := by
  refine xF.mk mX9_pile rfl rfl ?_
  refine xB.go 2 (2, [(0, .ref 32), (1, .int x), (2, .int y)], [.int x, .ref 32], XM L mi ml) rfl ?_
  refine xB.ca 115 [.ref 32, .int x] [] (c_misMet _ L _ _ hR x) rfl ?_
  intro r0 a b0 hq0
  obtain ⟨v0, rfl, hb0, hRa, hfr, hM⟩ := hq0
  rw [hb0]
  show xB _ _ L _ (5, [(0, .ref 32), (1, .int x), (2, .int y)], [.int v0], XM L a ml)
  refine xB.bp (v0 = 0) (35, [(0, .ref 32), (1, .int x), (2, .int y)], [], XM L a ml) (8, [(0, .ref 32), (1, .int x), (2, .int y)], [], XM L a ml) rfl (fun h1 => ?_) (fun h1 => ?_)
  · refine xB.go 1 (36, [(0, .ref 32), (1, .int x), (2, .int y)], [.int (-1)], XM L a ml) rfl ?_
    refine xB.rt (some (.int (-1))) a ml rfl ?_
    have hno : ¬ METQ n K T x := by
      rcases hM with z | z
      · rw [z.1] at h1; exact absurd h1 (by decide)
      · exact z.2
    exact ⟨_, rfl, rfl, hRa, hfr, Or.inr ⟨fun ⟨i, h, k, z1, z2, z3, _⟩ => hno ⟨i, z1, z2, h, z3⟩, rfl⟩⟩
  · obtain ⟨-, h05, h06, h10, i, hw, hx, hmi⟩ : v0 = 1 ∧ a 32 5 = 1 ∧ a 32 6 = 1 ∧ a 32 10 = 1 ∧ METQ n K T x := by
      rcases hM with z | z
      · exact z
      · exact absurd z.1 h1
    have hin := hw.lt hmi
    have hn64 := hRa.1.2.1
    obtain ⟨hSa, hJa⟩ := hRa.2.2.2.2.2.2.1 h05
    obtain ⟨g, hTg0, hgY⟩ := hRa.2.2.2.2.2.2.2 h05 h06 h10
    have hTg : TG g a := hTg0
    obtain ⟨h, hrh⟩ := hmi
    have hha : a 37 i = nI h := by
      rcases (hSa.wf1 h06).2 i (by omega) with ⟨y, w1, w2, w3⟩ | ⟨w1, w2⟩
      · rw [hw.2 i h y hrh w2]; exact w3
      · exact absurd ⟨h, hrh⟩ w2
    refine xB.cg (8, [(0, .ref 32), (1, .int (nI i)), (2, .int y)], [], XM L a ml) (by rw [hx]) ?_
    refine xB.go 4 (14, [(0, .ref 32), (1, .int (nI i)), (2, .int y)], [.int (nI i), .ref 37, .int y], XM L a ml) rfl ?_
    refine xB.ck (xin (nI i) 64) (15, [(0, .ref 32), (1, .int (nI i)), (2, .int y)], [.int (a 37 (nI i).toNatClampNeg), .int y], XM L a ml) rfl (xin_of (j := i) (by omega) (by decide) rfl) ?_
    refine xB.cg (15, [(0, .ref 32), (1, .int (nI i)), (2, .int y)], [.int (nI h), .int y], XM L a ml) (by rw [nI_clamp (by omega), hha]) ?_
    refine xB.c1 92 [.int y, .int (nI h)] [] (c_in _ L a ml y (nI h) ) rfl ?_
    refine xB.bz (0 ≤ y ∧ y < (nI h)) (35, [(0, .ref 32), (1, .int (nI i)), (2, .int y)], [], XM L a ml) (21, [(0, .ref 32), (1, .int (nI i)), (2, .int y)], [], XM L a ml) rfl (fun h2 => ?_) (fun h2 => ?_)
    · refine xB.go 1 (36, [(0, .ref 32), (1, .int (nI i)), (2, .int y)], [.int (-1)], XM L a ml) rfl ?_
      refine xB.rt (some (.int (-1))) a ml rfl ?_
      refine ⟨_, rfl, rfl, hRa, hfr, Or.inr ⟨fun ⟨i2, h2, k2, z1, z2, z3, z4, z5⟩ => ?_, rfl⟩⟩
      have hz := (z1.1 i2 h2 z3).1
      obtain rfl : i = i2 := (nI_eq (by omega) (by omega)).mp (hx.symm.trans z2)
      obtain rfl := hw.2 i h h2 hrh z3
      have h16 := hrh.le16
      refine h2 ⟨by rw [z4]; exact nI_pos' (by omega), by rw [z4]; exact (nI_ltI (by omega) (by omega)).mpr z5⟩
    · have h16 := hrh.le16
      obtain ⟨k, hkh, hy⟩ := ix_j (m := h) (by omega) h2
      refine xB.cg (21, [(0, .ref 32), (1, .int (nI i)), (2, .int (nI k))], [], XM L a ml) (by rw [hy]) ?_
      refine xB.go 5 (28, [(0, .ref 32), (1, .int (nI i)), (2, .int (nI k))], [.int (nI k), .int (nI i), .ref 32, .ref 40], XM L a ml) rfl ?_
      refine xB.c1 109 [.ref 32, .int (nI i), .int (nI k)] [.ref 40] (c_pileN _ L _ _ (i := i) (k := k) (by omega) (by omega)) rfl ?_
      refine xB.ck (xin (nI (64 + (16 * i + k))) 1088) (32, [(0, .ref 32), (1, .int (nI i)), (2, .int (nI k))], [.int (a 40 (nI (64 + (16 * i + k))).toNatClampNeg)], XM L a ml) rfl (xin_of (j := 64 + (16 * i + k)) (by omega) (by decide) rfl) ?_
      refine xB.go 1 (36, [(0, .ref 32), (1, .int (nI i)), (2, .int (nI k))], [.int (a 40 (nI (64 + (16 * i + k))).toNatClampNeg)], XM L a ml) rfl ?_
      refine xB.rt (some (.int (a 40 (nI (64 + (16 * i + k))).toNatClampNeg))) a ml rfl ?_
      rw [nI_clamp (by omega), hTg.p (show i < 64 by omega) (by omega)]
      refine ⟨_, rfl, rfl, hRa, hfr, Or.inl ⟨i, h, k, hw, hx, hrh, hy, hkh, _, _, ?_, ?_, rfl⟩⟩
      · rw [hgY 0 i k (by decide)]; exact ⟨fun z => ⟨by omega, by omega, z⟩, fun z => z.2.2⟩
      · rw [hgY 1 i k (by decide)]; exact ⟨fun z => ⟨by omega, by omega, z⟩, fun z => z.2.2⟩
def sfG (K T : Nat → Nat) (vL aL cL : Nat → Nat → Bool) (g : Nat → Nat → Nat → Bool) (i h : Nat) : Bool := (!(g 0 i 16 || tkG K g 0 i h) || lvl K T vL aL cL 0 i) && (!(g 1 i 16 || tkG K g 1 i h) || lvl K T vL aL cL 1 i)
theorem lv_c {x : Nat} {K T : Nat → Nat} {vL aL cL : Nat → Nat → Bool} {mi : xmi} {i : Nat} (hV : LEVm mi vL aL cL) (hx : (K i = 2 ∧ x = T i ∧ T i < 8) ∨ (K i = 7 ∧ x = 8 + T i ∧ T i < 2) ∨ (K i = 8 ∧ x = 10 + T i ∧ T i < 4)) : mi 35 x = lv2 (lvl K T vL aL cL 0 i) (lvl K T vL aL cL 1 i) := by
  rcases hx with ⟨h1, rfl, h2⟩ | ⟨h1, rfl, h2⟩ | ⟨h1, rfl, h2⟩
  · rw [hV.1 _ h2]; simp [lvl, h1]
  · rw [hV.2.1 _ h2]; simp [lvl, h1]
  · rw [hV.2.2 _ h2]; simp [lvl, h1]
set_option maxRecDepth 100000 in
set_option maxHeartbeats 1000000 in
theorem c_misSafe (d L : Nat) (mi : xmi) (ml : xml) {n : Nat} {K T : Nat → Nat} (hP : PRM mi n K T) {i h : Nat} (hin : i < n) (hh : mi 37 i = nI h) (h16 : h ≤ 16) (htk : tk (K i) ≤ h) {g : Nat → Nat → Nat → Bool} (hT : TG g mi) {vL aL cL : Nat → Nat → Bool} (hN : NUMm mi n K T) (hV : LEVm mi vL aL cL) : xFv (d + 3) 116 [.ref 32, .int (nI i)] L mi ml (.int (xb (sfG K T vL aL cL g i h = true))) mi ml := by
  have hk := (hP.2.2.1 i hin).2
  have hi64 : i < 64 := Nat.lt_of_lt_of_le hin hP.2.1
  refine xF.mk mX9_isSafe rfl rfl ?_
  refine xB.go 3 (5, [(0, .ref 32), (1, .int (nI i))], [.int (nI i), .ref 33], XM L mi ml) rfl ?_
  refine xB.ck (xin (nI i) 64) (6, [(0, .ref 32), (1, .int (nI i))], [.int (mi 33 (nI i).toNatClampNeg)], XM L mi ml) rfl (xin_of (j := i) (by omega) (by decide) rfl) ?_
  refine xB.cg (6, [(0, .ref 32), (1, .int (nI i))], [.int (nI (K i))], XM L mi ml) (by rw [nI_clamp (by omega), (hP.2.2.1 i hin).1]) ?_
  refine xB.go 3 (9, [(0, .ref 32), (1, .int (nI i)), (2, .int (nI (K i)))], [.int 2, .int (nI (K i))], XM L mi ml) rfl ?_
  refine xB.bp (¬ (nI (K i)) = 2) (21, [(0, .ref 32), (1, .int (nI i)), (2, .int (nI (K i)))], [], XM L mi ml) (12, [(0, .ref 32), (1, .int (nI i)), (2, .int (nI (K i)))], [], XM L mi ml) rfl (fun h1 => ?_) (fun h1 => ?_)
  · refine xB.go 2 (24, [(0, .ref 32), (1, .int (nI i)), (2, .int (nI (K i)))], [.int 7, .int (nI (K i))], XM L mi ml) rfl ?_
    refine xB.bp (¬ (nI (K i)) = 7) (39, [(0, .ref 32), (1, .int (nI i)), (2, .int (nI (K i)))], [], XM L mi ml) (27, [(0, .ref 32), (1, .int (nI i)), (2, .int (nI (K i)))], [], XM L mi ml) rfl (fun h2 => ?_) (fun h2 => ?_)
    · refine xB.go 2 (42, [(0, .ref 32), (1, .int (nI i)), (2, .int (nI (K i)))], [.int 8, .int (nI (K i))], XM L mi ml) rfl ?_
      refine xB.bp (¬ (nI (K i)) = 8) (57, [(0, .ref 32), (1, .int (nI i)), (2, .int (nI (K i)))], [], XM L mi ml) (45, [(0, .ref 32), (1, .int (nI i)), (2, .int (nI (K i)))], [], XM L mi ml) rfl (fun h3 => ?_) (fun h3 => ?_)
      · refine xB.go 6 (92, [(0, .ref 32), (1, .int (nI i)), (2, .int (nI (K i))), (3, .int (-1))], [.int 1], XM L mi ml) rfl ?_
        refine xB.rt (some (.int 1)) mi ml rfl ?_
        have g2 := k_ne (c := 2) h1
        have g7 := k_ne (c := 7) h2
        have g8 := k_ne (c := 8) h3
        exact ⟨by rw [xb_t (by simp [sfG, lvl, g2, g7, g8])], rfl, rfl⟩
      · have gk : K i = 8 := k_eq hk (c := 8) (by decide) (Classical.not_not.mp h3)
        have hz := (hN i hin).2.2.1 gk
        refine xB.go 4 (52, [(0, .ref 32), (1, .int (nI i)), (2, .int (nI (K i)))], [.int (nI i), .ref 34, .int 10], XM L mi ml) rfl ?_
        refine xB.ck (xin (nI i) 64) (53, [(0, .ref 32), (1, .int (nI i)), (2, .int (nI (K i)))], [.int (mi 34 (nI i).toNatClampNeg), .int 10], XM L mi ml) rfl (xin_of (j := i) (by omega) (by decide) rfl) ?_
        refine xB.cg (53, [(0, .ref 32), (1, .int (nI i)), (2, .int (nI (K i)))], [.int (nI (T i)), .int 10], XM L mi ml) (by rw [nI_clamp (n := i) (by omega), hz.1]) ?_
        refine xB.go 1 (54, [(0, .ref 32), (1, .int (nI i)), (2, .int (nI (K i)))], [.int (10 + (nI (T i)))], XM L mi ml) rfl ?_
        refine xB.cg (54, [(0, .ref 32), (1, .int (nI i)), (2, .int (nI (K i)))], [.int (nI (10 + T i))], XM L mi ml) (by rw [show (10 : Int32) = nI 10 from rfl, nI_addX]) ?_
        refine xB.go 3 (60, [(0, .ref 32), (1, .int (nI i)), (2, .int (nI (K i))), (3, .int (nI (10 + T i)))], [.int (nI (10 + T i))], XM L mi ml) rfl ?_
        refine xB.bp ((nI (10 + T i)) < 0) (87, [(0, .ref 32), (1, .int (nI i)), (2, .int (nI (K i))), (3, .int (nI (10 + T i)))], [], XM L mi ml) (63, [(0, .ref 32), (1, .int (nI i)), (2, .int (nI (K i))), (3, .int (nI (10 + T i)))], [], XM L mi ml) rfl (fun h4 => ?_) (fun h4 => ?_)
        · refine xB.go 2 (92, [(0, .ref 32), (1, .int (nI i)), (2, .int (nI (K i))), (3, .int (nI (10 + T i)))], [.int 1], XM L mi ml) rfl ?_
          refine xB.rt (some (.int 1)) mi ml rfl ?_
          exact absurd h4 (nI_pos (by omega))
        · refine xB.go 3 (68, [(0, .ref 32), (1, .int (nI i)), (2, .int (nI (K i))), (3, .int (nI (10 + T i)))], [.int (nI i), .ref 40], XM L mi ml) rfl ?_
          refine xB.ck (xin (nI i) 1088) (69, [(0, .ref 32), (1, .int (nI i)), (2, .int (nI (K i))), (3, .int (nI (10 + T i)))], [.int (mi 40 (nI i).toNatClampNeg)], XM L mi ml) rfl (xin_of (j := i) (by omega) (by decide) rfl) ?_
          refine xB.go 2 (71, [(0, .ref 32), (1, .int (nI i)), (2, .int (nI (K i))), (3, .int (nI (10 + T i)))], [.int (nI i), .ref 32, .int (mi 40 (nI i).toNatClampNeg)], XM L mi ml) rfl ?_
          refine xB.c1 111 [.ref 32, .int (nI i)] [.int (mi 40 (nI i).toNatClampNeg)] (c_mtaken _ L _ _ hP hin hh h16 htk hT) rfl ?_
          refine xB.go 4 (80, [(0, .ref 32), (1, .int (nI i)), (2, .int (nI (K i))), (3, .int (nI (10 + T i)))], [.int (nI (10 + T i)), .ref 35, .int ((mi 40 (nI i).toNatClampNeg) ||| (lv2 (tkG K g 0 i h) (tkG K g 1 i h)))], XM L mi ml) rfl ?_
          refine xB.ck (xin (nI (10 + T i)) 14) (81, [(0, .ref 32), (1, .int (nI i)), (2, .int (nI (K i))), (3, .int (nI (10 + T i)))], [.int (mi 35 (nI (10 + T i)).toNatClampNeg), .int ((mi 40 (nI i).toNatClampNeg) ||| (lv2 (tkG K g 0 i h) (tkG K g 1 i h)))], XM L mi ml) rfl (xin_of (j := 10 + T i) (by omega) (by decide) rfl) ?_
          refine xB.go 3 (84, [(0, .ref 32), (1, .int (nI i)), (2, .int (nI (K i))), (3, .int (nI (10 + T i)))], [.int (((mi 40 (nI i).toNatClampNeg) ||| (lv2 (tkG K g 0 i h) (tkG K g 1 i h))) &&& ((mi 35 (nI (10 + T i)).toNatClampNeg) ^^^ (-1)))], XM L mi ml) rfl ?_
          refine xB.bp (¬ (((mi 40 (nI i).toNatClampNeg) ||| (lv2 (tkG K g 0 i h) (tkG K g 1 i h))) &&& ((mi 35 (nI (10 + T i)).toNatClampNeg) ^^^ (-1))) = 0) (91, [(0, .ref 32), (1, .int (nI i)), (2, .int (nI (K i))), (3, .int (nI (10 + T i)))], [], XM L mi ml) (87, [(0, .ref 32), (1, .int (nI i)), (2, .int (nI (K i))), (3, .int (nI (10 + T i)))], [], XM L mi ml) rfl (fun h5 => ?_) (fun h5 => ?_)
          · refine xB.go 1 (92, [(0, .ref 32), (1, .int (nI i)), (2, .int (nI (K i))), (3, .int (nI (10 + T i)))], [.int 0], XM L mi ml) rfl ?_
            refine xB.rt (some (.int 0)) mi ml rfl ?_
            rw [nI_clamp (n := i) (by omega), hT.s hi64, lv2_or, nI_clamp (by omega), lv_c hV (Or.inr (Or.inr ⟨gk, rfl, hz.2⟩))] at h5
            exact ⟨by rw [xb_f (show ¬ (sfG K T vL aL cL g i h = true) from fun z => h5 ((belowL _ _ _ _).mpr z))], rfl, rfl⟩
          · refine xB.go 2 (92, [(0, .ref 32), (1, .int (nI i)), (2, .int (nI (K i))), (3, .int (nI (10 + T i)))], [.int 1], XM L mi ml) rfl ?_
            refine xB.rt (some (.int 1)) mi ml rfl ?_
            rw [nI_clamp (n := i) (by omega), hT.s hi64, lv2_or, nI_clamp (by omega), lv_c hV (Or.inr (Or.inr ⟨gk, rfl, hz.2⟩))] at h5
            exact ⟨by rw [show sfG K T vL aL cL g i h = true from (belowL _ _ _ _).mp (by first | exact h5 | exact Classical.not_not.mp h5), xb_t rfl], rfl, rfl⟩
    · have gk : K i = 7 := k_eq hk (c := 7) (by decide) (Classical.not_not.mp h2)
      have hz := (hN i hin).2.1 (Or.inr gk)
      refine xB.go 4 (34, [(0, .ref 32), (1, .int (nI i)), (2, .int (nI (K i)))], [.int (nI i), .ref 34, .int 8], XM L mi ml) rfl ?_
      refine xB.ck (xin (nI i) 64) (35, [(0, .ref 32), (1, .int (nI i)), (2, .int (nI (K i)))], [.int (mi 34 (nI i).toNatClampNeg), .int 8], XM L mi ml) rfl (xin_of (j := i) (by omega) (by decide) rfl) ?_
      refine xB.cg (35, [(0, .ref 32), (1, .int (nI i)), (2, .int (nI (K i)))], [.int (nI (T i)), .int 8], XM L mi ml) (by rw [nI_clamp (n := i) (by omega), hz.1]) ?_
      refine xB.go 1 (36, [(0, .ref 32), (1, .int (nI i)), (2, .int (nI (K i)))], [.int (8 + (nI (T i)))], XM L mi ml) rfl ?_
      refine xB.cg (36, [(0, .ref 32), (1, .int (nI i)), (2, .int (nI (K i)))], [.int (nI (8 + T i))], XM L mi ml) (by rw [show (8 : Int32) = nI 8 from rfl, nI_addX]) ?_
      refine xB.go 3 (60, [(0, .ref 32), (1, .int (nI i)), (2, .int (nI (K i))), (3, .int (nI (8 + T i)))], [.int (nI (8 + T i))], XM L mi ml) rfl ?_
      refine xB.bp ((nI (8 + T i)) < 0) (87, [(0, .ref 32), (1, .int (nI i)), (2, .int (nI (K i))), (3, .int (nI (8 + T i)))], [], XM L mi ml) (63, [(0, .ref 32), (1, .int (nI i)), (2, .int (nI (K i))), (3, .int (nI (8 + T i)))], [], XM L mi ml) rfl (fun h6 => ?_) (fun h6 => ?_)
      · refine xB.go 2 (92, [(0, .ref 32), (1, .int (nI i)), (2, .int (nI (K i))), (3, .int (nI (8 + T i)))], [.int 1], XM L mi ml) rfl ?_
        refine xB.rt (some (.int 1)) mi ml rfl ?_
        exact absurd h6 (nI_pos (by omega))
      · refine xB.go 3 (68, [(0, .ref 32), (1, .int (nI i)), (2, .int (nI (K i))), (3, .int (nI (8 + T i)))], [.int (nI i), .ref 40], XM L mi ml) rfl ?_
        refine xB.ck (xin (nI i) 1088) (69, [(0, .ref 32), (1, .int (nI i)), (2, .int (nI (K i))), (3, .int (nI (8 + T i)))], [.int (mi 40 (nI i).toNatClampNeg)], XM L mi ml) rfl (xin_of (j := i) (by omega) (by decide) rfl) ?_
        refine xB.go 2 (71, [(0, .ref 32), (1, .int (nI i)), (2, .int (nI (K i))), (3, .int (nI (8 + T i)))], [.int (nI i), .ref 32, .int (mi 40 (nI i).toNatClampNeg)], XM L mi ml) rfl ?_
        refine xB.c1 111 [.ref 32, .int (nI i)] [.int (mi 40 (nI i).toNatClampNeg)] (c_mtaken _ L _ _ hP hin hh h16 htk hT) rfl ?_
        refine xB.go 4 (80, [(0, .ref 32), (1, .int (nI i)), (2, .int (nI (K i))), (3, .int (nI (8 + T i)))], [.int (nI (8 + T i)), .ref 35, .int ((mi 40 (nI i).toNatClampNeg) ||| (lv2 (tkG K g 0 i h) (tkG K g 1 i h)))], XM L mi ml) rfl ?_
        refine xB.ck (xin (nI (8 + T i)) 14) (81, [(0, .ref 32), (1, .int (nI i)), (2, .int (nI (K i))), (3, .int (nI (8 + T i)))], [.int (mi 35 (nI (8 + T i)).toNatClampNeg), .int ((mi 40 (nI i).toNatClampNeg) ||| (lv2 (tkG K g 0 i h) (tkG K g 1 i h)))], XM L mi ml) rfl (xin_of (j := 8 + T i) (by omega) (by decide) rfl) ?_
        refine xB.go 3 (84, [(0, .ref 32), (1, .int (nI i)), (2, .int (nI (K i))), (3, .int (nI (8 + T i)))], [.int (((mi 40 (nI i).toNatClampNeg) ||| (lv2 (tkG K g 0 i h) (tkG K g 1 i h))) &&& ((mi 35 (nI (8 + T i)).toNatClampNeg) ^^^ (-1)))], XM L mi ml) rfl ?_
        refine xB.bp (¬ (((mi 40 (nI i).toNatClampNeg) ||| (lv2 (tkG K g 0 i h) (tkG K g 1 i h))) &&& ((mi 35 (nI (8 + T i)).toNatClampNeg) ^^^ (-1))) = 0) (91, [(0, .ref 32), (1, .int (nI i)), (2, .int (nI (K i))), (3, .int (nI (8 + T i)))], [], XM L mi ml) (87, [(0, .ref 32), (1, .int (nI i)), (2, .int (nI (K i))), (3, .int (nI (8 + T i)))], [], XM L mi ml) rfl (fun h7 => ?_) (fun h7 => ?_)
        · refine xB.go 1 (92, [(0, .ref 32), (1, .int (nI i)), (2, .int (nI (K i))), (3, .int (nI (8 + T i)))], [.int 0], XM L mi ml) rfl ?_
          refine xB.rt (some (.int 0)) mi ml rfl ?_
          rw [nI_clamp (n := i) (by omega), hT.s hi64, lv2_or, nI_clamp (by omega), lv_c hV (Or.inr (Or.inl ⟨gk, rfl, hz.2⟩))] at h7
          exact ⟨by rw [xb_f (show ¬ (sfG K T vL aL cL g i h = true) from fun z => h7 ((belowL _ _ _ _).mpr z))], rfl, rfl⟩
        · refine xB.go 2 (92, [(0, .ref 32), (1, .int (nI i)), (2, .int (nI (K i))), (3, .int (nI (8 + T i)))], [.int 1], XM L mi ml) rfl ?_
          refine xB.rt (some (.int 1)) mi ml rfl ?_
          rw [nI_clamp (n := i) (by omega), hT.s hi64, lv2_or, nI_clamp (by omega), lv_c hV (Or.inr (Or.inl ⟨gk, rfl, hz.2⟩))] at h7
          exact ⟨by rw [show sfG K T vL aL cL g i h = true from (belowL _ _ _ _).mp (by first | exact h7 | exact Classical.not_not.mp h7), xb_t rfl], rfl, rfl⟩
  · have gk : K i = 2 := k_eq hk (c := 2) (by decide) (Classical.not_not.mp h1)
    have hz := (hN i hin).1 (Or.inr gk)
    refine xB.go 3 (17, [(0, .ref 32), (1, .int (nI i)), (2, .int (nI (K i)))], [.int (nI i), .ref 34], XM L mi ml) rfl ?_
    refine xB.ck (xin (nI i) 64) (18, [(0, .ref 32), (1, .int (nI i)), (2, .int (nI (K i)))], [.int (mi 34 (nI i).toNatClampNeg)], XM L mi ml) rfl (xin_of (j := i) (by omega) (by decide) rfl) ?_
    refine xB.cg (18, [(0, .ref 32), (1, .int (nI i)), (2, .int (nI (K i)))], [.int (nI (T i))], XM L mi ml) (by rw [nI_clamp (n := i) (by omega), hz.1]) ?_
    refine xB.go 3 (60, [(0, .ref 32), (1, .int (nI i)), (2, .int (nI (K i))), (3, .int (nI (T i)))], [.int (nI (T i))], XM L mi ml) rfl ?_
    refine xB.bp ((nI (T i)) < 0) (87, [(0, .ref 32), (1, .int (nI i)), (2, .int (nI (K i))), (3, .int (nI (T i)))], [], XM L mi ml) (63, [(0, .ref 32), (1, .int (nI i)), (2, .int (nI (K i))), (3, .int (nI (T i)))], [], XM L mi ml) rfl (fun h8 => ?_) (fun h8 => ?_)
    · refine xB.go 2 (92, [(0, .ref 32), (1, .int (nI i)), (2, .int (nI (K i))), (3, .int (nI (T i)))], [.int 1], XM L mi ml) rfl ?_
      refine xB.rt (some (.int 1)) mi ml rfl ?_
      exact absurd h8 (nI_pos (by omega))
    · refine xB.go 3 (68, [(0, .ref 32), (1, .int (nI i)), (2, .int (nI (K i))), (3, .int (nI (T i)))], [.int (nI i), .ref 40], XM L mi ml) rfl ?_
      refine xB.ck (xin (nI i) 1088) (69, [(0, .ref 32), (1, .int (nI i)), (2, .int (nI (K i))), (3, .int (nI (T i)))], [.int (mi 40 (nI i).toNatClampNeg)], XM L mi ml) rfl (xin_of (j := i) (by omega) (by decide) rfl) ?_
      refine xB.go 2 (71, [(0, .ref 32), (1, .int (nI i)), (2, .int (nI (K i))), (3, .int (nI (T i)))], [.int (nI i), .ref 32, .int (mi 40 (nI i).toNatClampNeg)], XM L mi ml) rfl ?_
      refine xB.c1 111 [.ref 32, .int (nI i)] [.int (mi 40 (nI i).toNatClampNeg)] (c_mtaken _ L _ _ hP hin hh h16 htk hT) rfl ?_
      refine xB.go 4 (80, [(0, .ref 32), (1, .int (nI i)), (2, .int (nI (K i))), (3, .int (nI (T i)))], [.int (nI (T i)), .ref 35, .int ((mi 40 (nI i).toNatClampNeg) ||| (lv2 (tkG K g 0 i h) (tkG K g 1 i h)))], XM L mi ml) rfl ?_
      refine xB.ck (xin (nI (T i)) 14) (81, [(0, .ref 32), (1, .int (nI i)), (2, .int (nI (K i))), (3, .int (nI (T i)))], [.int (mi 35 (nI (T i)).toNatClampNeg), .int ((mi 40 (nI i).toNatClampNeg) ||| (lv2 (tkG K g 0 i h) (tkG K g 1 i h)))], XM L mi ml) rfl (xin_of (j := T i) (by omega) (by decide) rfl) ?_
      refine xB.go 3 (84, [(0, .ref 32), (1, .int (nI i)), (2, .int (nI (K i))), (3, .int (nI (T i)))], [.int (((mi 40 (nI i).toNatClampNeg) ||| (lv2 (tkG K g 0 i h) (tkG K g 1 i h))) &&& ((mi 35 (nI (T i)).toNatClampNeg) ^^^ (-1)))], XM L mi ml) rfl ?_
      refine xB.bp (¬ (((mi 40 (nI i).toNatClampNeg) ||| (lv2 (tkG K g 0 i h) (tkG K g 1 i h))) &&& ((mi 35 (nI (T i)).toNatClampNeg) ^^^ (-1))) = 0) (91, [(0, .ref 32), (1, .int (nI i)), (2, .int (nI (K i))), (3, .int (nI (T i)))], [], XM L mi ml) (87, [(0, .ref 32), (1, .int (nI i)), (2, .int (nI (K i))), (3, .int (nI (T i)))], [], XM L mi ml) rfl (fun h9 => ?_) (fun h9 => ?_)
      · refine xB.go 1 (92, [(0, .ref 32), (1, .int (nI i)), (2, .int (nI (K i))), (3, .int (nI (T i)))], [.int 0], XM L mi ml) rfl ?_
        refine xB.rt (some (.int 0)) mi ml rfl ?_
        rw [nI_clamp (n := i) (by omega), hT.s hi64, lv2_or, nI_clamp (by omega), lv_c hV (Or.inl ⟨gk, rfl, hz.2⟩)] at h9
        exact ⟨by rw [xb_f (show ¬ (sfG K T vL aL cL g i h = true) from fun z => h9 ((belowL _ _ _ _).mpr z))], rfl, rfl⟩
      · refine xB.go 2 (92, [(0, .ref 32), (1, .int (nI i)), (2, .int (nI (K i))), (3, .int (nI (T i)))], [.int 1], XM L mi ml) rfl ?_
        refine xB.rt (some (.int 1)) mi ml rfl ?_
        rw [nI_clamp (n := i) (by omega), hT.s hi64, lv2_or, nI_clamp (by omega), lv_c hV (Or.inl ⟨gk, rfl, hz.2⟩)] at h9
        exact ⟨by rw [show sfG K T vL aL cL g i h = true from (belowL _ _ _ _).mp (by first | exact h9 | exact Classical.not_not.mp h9), xb_t rfl], rfl, rfl⟩
theorem sfG_iff {n : Nat} {K T : Nat → Nat} {vL aL cL : Nat → Nat → Bool} {g : Nat → Nat → Nat → Bool} (h : ∀ b j k, b < 2 → (TYb n K T vL aL b j k ↔ gS g b j k)) (hw : WF n K T) (hn : n ≤ 64) {i x : Nat} (hr : Rh n K T i x) : sfG K T vL aL cL g i x = false ↔ UNS n K T vL aL cL i := by
  have hi : i < 64 := Nat.lt_of_lt_of_le (hw.1 i x hr).1 hn
  have key : ∀ b, b < 2 → ((g b i 16 || tkG K g b i x) = true ↔ (TKN K (TYb n K T vL aL b) i x ∨ TYb n K T vL aL b i 16)) := fun b hb2 => by
    rw [Bool.or_eq_true, tkG_iff hi hr.le16 (hw.1 i x hr).2.1]
    have e : TYb n K T vL aL b = gS g b := by funext j k; exact propext (h b j k hb2)
    rw [e, or_comm]
    exact or_congr Iff.rfl ⟨fun z => ⟨hi, Nat.le_refl _, z⟩, fun z => z.2.2⟩
  have k0 := key 0 (by decide)
  have k1 := key 1 (by decide)
  constructor
  · intro g1
    unfold sfG at g1
    rw [Bool.and_eq_false_iff, Bool.or_eq_false_iff, Bool.or_eq_false_iff] at g1
    rcases g1 with ⟨g1, g2⟩ | ⟨g1, g2⟩
    · exact ⟨x, hr, 0, by decide, k0.mp (by rw [Bool.not_eq_false'] at g1; exact g1), g2⟩
    · exact ⟨x, hr, 1, by decide, k1.mp (by rw [Bool.not_eq_false'] at g1; exact g1), g2⟩
  · rintro ⟨x2, hr2, b, hb2, g1, g2⟩
    obtain rfl := hw.2 i x2 x hr2 hr
    have g1 := (key b hb2).mpr g1
    unfold sfG
    rcases (show b = 0 ∨ b = 1 by omega) with rfl | rfl
    · rw [g1, g2]; simp
    · rw [g1, g2]; simp
set_option maxRecDepth 100000 in
set_option maxHeartbeats 1000000 in
theorem mcheck_11 (d L : Nat) (ml : xml) {n : Nat} {K T : Nat → Nat} {vL aL cL : Nat → Nat → Bool} (a : xmi) (hP : PRM a n K T) (hN : NUMm a n K T) (hV : LEVm a vL aL cL) (hw : WF n K T) (hht : ∀ i, i < 64 → (∃ h, h ≤ 16 ∧ Rh n K T i h ∧ a 37 i = nI h) ∨ (a 37 i = -1 ∧ ¬ ∃ h, Rh n K T i h)) {g : Nat → Nat → Nat → Bool} (hT : TG g a) (hgY : ∀ b j k, b < 2 → (TYb n K T vL aL b j k ↔ gS g b j k)) : ∀ (f i : Nat), i ≤ n → n - i < f → (∀ j, j < i → ¬ UNS n K T vL aL cL j) → xB (d + 7) mX9_check L (fun rr x y => ∃ v, rr = some (.int v) ∧ x = a ∧ y = ml ∧ ∃ w, FU n (UNS n K T vL aL cL) w ∧ v = w + 1) (11, [(0, .ref 32), (1, .int (nI i))], [], XM L a ml) := by
  have hn64 := hP.2.1
  intro f
  induction f with
  | zero => intro i h1 h2; omega
  | succ f ih =>
    intro i hle hlt hno
    refine xB.go 3 (16, [(0, .ref 32), (1, .int (nI i))], [.int (a 32 2), .int (nI i)], XM L a ml) rfl ?_
    refine xB.cg (16, [(0, .ref 32), (1, .int (nI i))], [.int (nI n), .int (nI i)], XM L a ml) (by rw [hP.1]) ?_
    refine xB.bp ((nI n) ≤ (nI i)) (46, [(0, .ref 32), (1, .int (nI i))], [], XM L a ml) (19, [(0, .ref 32), (1, .int (nI i))], [], XM L a ml) rfl (fun h1 => ?_) (fun h1 => ?_)
    · refine xB.go 1 (47, [(0, .ref 32), (1, .int (nI i))], [.int 0], XM L a ml) rfl ?_
      refine xB.rt (some (.int 0)) a ml rfl ?_
      have hge : n ≤ i := (nI_leI (by omega) (by omega)).mp h1
      exact ⟨_, rfl, rfl, rfl, -1, Or.inr ⟨fun j hj => hno j (by omega), rfl⟩, by decide⟩
    · have hin : i < n := (nI_ltI (by omega) (by omega)).mp (i_nle.mp h1)
      refine xB.go 3 (24, [(0, .ref 32), (1, .int (nI i))], [.int (nI i), .ref 37], XM L a ml) rfl ?_
      refine xB.ck (xin (nI i) 64) (25, [(0, .ref 32), (1, .int (nI i))], [.int (a 37 (nI i).toNatClampNeg)], XM L a ml) rfl (xin_of (j := i) (by omega) (by decide) rfl) ?_
      refine xB.bp ((a 37 (nI i).toNatClampNeg) < 0) (40, [(0, .ref 32), (1, .int (nI i))], [], XM L a ml) (28, [(0, .ref 32), (1, .int (nI i))], [], XM L a ml) rfl (fun h2 => ?_) (fun h2 => ?_)
      · refine xB.go 2 (11, [(0, .ref 32), (1, .int ((nI i) + 1))], [], XM L a ml) rfl ?_
        rw [nI_1]
        refine ih (i + 1) (by omega) (by omega) (fun j hj hz => ?_)
        by_cases e : j = i
        · subst e; obtain ⟨h, hr, -⟩ := hz
          rcases hht j (by omega) with ⟨y, w1, w2, w3⟩ | ⟨w1, w2⟩
          · rw [nI_clamp (by omega), w3] at h2; exact absurd h2 (nI_pos (by omega))
          · exact w2 ⟨h, hr⟩
        · exact hno j (by omega) hz
      · obtain ⟨h, hrh, hha⟩ : ∃ h, Rh n K T i h ∧ a 37 i = nI h := by
          rcases hht i (by omega) with ⟨x, z1, z2, z3⟩ | ⟨z1, z2⟩
          · exact ⟨x, z2, z3⟩
          · rw [nI_clamp (by omega), z1] at h2; exact absurd neg1_lt h2
        refine xB.go 2 (30, [(0, .ref 32), (1, .int (nI i))], [.int (nI i), .ref 32], XM L a ml) rfl ?_
        refine xB.c1 116 [.ref 32, .int (nI i)] [] (c_misSafe _ L _ _ hP hin hha hrh.le16 (hw.1 i h hrh).2.1 hT hN hV) rfl ?_
        refine xB.bn (sfG K T vL aL cL g i h = true) (40, [(0, .ref 32), (1, .int (nI i))], [], XM L a ml) (36, [(0, .ref 32), (1, .int (nI i))], [], XM L a ml) rfl (fun h3 => ?_) (fun h3 => ?_)
        · refine xB.go 2 (11, [(0, .ref 32), (1, .int ((nI i) + 1))], [], XM L a ml) rfl ?_
          rw [nI_1]
          refine ih (i + 1) (by omega) (by omega) (fun j hj hz => ?_)
          by_cases e : j = i
          · subst e; have := (sfG_iff hgY hw hn64 hrh).mpr hz; rw [h3] at this; cases this
          · exact hno j (by omega) hz
        · refine xB.go 3 (39, [(0, .ref 32), (1, .int (nI i))], [.int ((nI i) + 1)], XM L a ml) rfl ?_
          refine xB.rt (some (.int ((nI i) + 1))) a ml rfl ?_
          exact ⟨_, rfl, rfl, rfl, nI i, Or.inl ⟨i, hin, (sfG_iff hgY hw hn64 hrh).mp (by simpa using h3), hno, rfl⟩, rfl⟩
set_option maxRecDepth 100000 in
set_option maxHeartbeats 1000000 in
theorem c_mcheck (d L : Nat) (mi : xmi) (ml : xml) {n : Nat} {K T : Nat → Nat} {vL aL cL : Nat → Nat → Bool} (hR : RI n K T vL aL cL mi) : xF (d + 8) 117 [.ref 32] L mi ml (fun rr a b => ∃ v, rr = some (.int v) ∧ b = ml ∧ RI n K T vL aL cL a ∧ FRm mi a ∧ CHK n K T vL aL cL v) := by
  refine xF.mk mX9_check rfl rfl ?_
  refine xB.go 1 (1, [(0, .ref 32)], [.ref 32], XM L mi ml) rfl ?_
  refine xB.ca 114 [.ref 32] [] (c_type _ L _ _ hR) rfl ?_
  intro r0 a b0 hq0
  obtain ⟨v0, rfl, hb0, hRa, hfr, h05, hv0, hv1⟩ := hq0
  rw [hb0]
  have hSa := (hRa.2.2.2.2.2.2.1 h05).1
  rw [← hv0] at hSa
  show xB _ _ L _ (4, [(0, .ref 32)], [.int v0], XM L a ml)
  refine xB.bp (¬ v0 = 0) (9, [(0, .ref 32)], [], XM L a ml) (7, [(0, .ref 32)], [], XM L a ml) rfl (fun h1 => ?_) (fun h1 => ?_)
  · refine xB.go 2 (11, [(0, .ref 32), (1, .int 0)], [], XM L a ml) rfl ?_
    have v01 : v0 = 1 := hSa.bool.resolve_left h1
    have h06 : a 32 6 = 1 := hv0.symm.trans v01
    have h10 := hv1 v01
    have hW := hSa.wf1 v01
    have hn64 := hRa.1.2.1
    obtain ⟨g, hTg, hgY⟩ := hRa.2.2.2.2.2.2.2 h05 h06 h10
    refine xR.po (mcheck_11 d L ml a hRa.1 hRa.2.1 hRa.2.2.1 hW.1 hW.2 hTg hgY (n + 1) 0 (Nat.zero_le _) (by omega) (fun j hj => absurd hj (Nat.not_lt_zero _))) (fun r M hq => ?_)
    obtain ⟨a9, b9, e9, v9, q1, q2, q3, q4⟩ := hq
    subst q2; subst q3
    exact ⟨_, _, e9, v9, q1, rfl, hRa, hfr, Or.inr ⟨hW.1, q4⟩⟩
  · refine xB.go 1 (8, [(0, .ref 32)], [.int (-1)], XM L a ml) rfl ?_
    refine xB.rt (some (.int (-1))) a ml rfl ?_
    exact ⟨_, rfl, rfl, hRa, hfr, Or.inl ⟨hSa.wf0 (Classical.not_not.mp h1), rfl⟩⟩
