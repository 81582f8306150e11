/-! the reference: leads, follow, junctionOf -/
theorem RW.cg {n : Nat} {K T : Nat → Nat} {st st' wl wl' : Nat → Prop} (hs : ∀ i, st i ↔ st' i) (hw : ∀ i, i < n → (wl i ↔ wl' i)) {j : Nat} : RW n K T st wl j ↔ RW n K T st' wl' j :=
  ⟨fun h X a b => h X (fun i hi => a i ((hs i).mp hi)) (fun i hx hi hq => b i hx hi (fun z => hq ((hw i hi).mpr z))), fun h X a b => h X (fun i hi => a i ((hs i).mpr hi)) (fun i hx hi hq => b i hx hi (fun z => hq ((hw i hi).mp z)))⟩
theorem fl0 {r : Nat → Int32} {i : Nat} (hi : i ≤ 64) : sl_fill r 0 65 i = 0 := by unfold sl_fill; rw [if_pos (by omega)]
theorem fl1 {r : Nat → Int32} {p i : Nat} (hi : i ≤ 64) : (va_up (sl_fill r 0 65) p 1 i = 0 ∨ va_up (sl_fill r 0 65) p 1 i = 1) ∧ (va_up (sl_fill r 0 65) p 1 i = 1 ↔ i = p) := by
  by_cases e : i = p
  · subst e; rw [va_up_self]; exact ⟨Or.inr rfl, fun _ => rfl, fun _ => rfl⟩
  · rw [va_up_ne _ _ e, fl0 hi]; exact ⟨Or.inl rfl, fun z => absurd z (by decide), fun z => absurd z e⟩
theorem fl2 {r : Nat → Int32} {p q i : Nat} (hi : i ≤ 64) : (va_up (va_up (sl_fill r 0 65) p 1) q 1 i = 0 ∨ va_up (va_up (sl_fill r 0 65) p 1) q 1 i = 1) ∧ (va_up (va_up (sl_fill r 0 65) p 1) q 1 i = 1 ↔ i = p ∨ i = q) := by
  by_cases e : i = q
  · subst e; rw [va_up_self]; exact ⟨Or.inr rfl, fun _ => Or.inr rfl, fun _ => rfl⟩
  · rw [va_up_ne _ _ e]
    refine ⟨(fl1 hi).1, (fl1 hi).2.trans ⟨Or.inl, fun z => z.resolve_right e⟩⟩
set_option maxRecDepth 100000 in
set_option maxHeartbeats 1000000 in
theorem c_leads0 (d L : Nat) (mi : xmi) (ml : xml) {n : Nat} {K T : Nat → Nat} (hP : PRM mi n K T) (hw : WF n K T) {p : Nat} (hp : met n K T p)  : xF (d + 4) 105 [.ref 32, .int (nI p), .int (-1)] L mi ml (fun rr a b => ∃ v, rr = some (.int v) ∧ b = ml ∧ (∀ x, x ≠ 41 → x ≠ 42 → a x = mi x) ∧ (v = 0 ∨ v = 1) ∧ (v = 1 ↔ HA K T p)) := by
  have hpn0 := hw.lt hp
  have hn640 := hP.2.1
  refine xF.mk mX9_leads rfl rfl ?_
  refine xB.go 1 (1, [(0, .ref 32), (1, .int (nI p)), (2, .int (-1))], [.ref 32], XM L mi ml) rfl ?_
  refine xB.c0 103 [.ref 32] [] (c_unwall _ L _ _) rfl ?_
  refine xB.go 3 (16, [(0, .ref 32), (1, .int (nI p)), (2, .int (-1))], [.ref 32], XM L (va_up mi 42 (sl_fill (mi 42) 0 65)) ml) rfl ?_
  refine xB.c0 102 [.ref 32] [] (c_unmark _ L _ _) rfl ?_
  refine xB.go 4 (25, [(0, .ref 32), (1, .int (nI p)), (2, .int (-1))], [.int 1, .int (nI p), .ref 41], XM L (va_up (va_up mi 42 (sl_fill (mi 42) 0 65)) 41 (sl_fill ((va_up mi 42 (sl_fill (mi 42) 0 65)) 41) 0 65)) ml) rfl ?_
  refine xB.ck (xin (nI p) 65 && xz 1) (26, [(0, .ref 32), (1, .int (nI p)), (2, .int (-1))], [], XM L (xU (va_up (va_up mi 42 (sl_fill (mi 42) 0 65)) 41 (sl_fill ((va_up mi 42 (sl_fill (mi 42) 0 65)) 41) 0 65)) 41 (nI p).toNatClampNeg 1) ml) rfl (Bool.and_eq_true_iff.mpr ⟨(xin_of (j := p) (by omega) (by decide) rfl), rfl⟩) ?_
  refine xB.cg (26, [(0, .ref 32), (1, .int (nI p)), (2, .int (-1))], [], XM L (xU (va_up (va_up mi 42 (sl_fill (mi 42) 0 65)) 41 (sl_fill ((va_up mi 42 (sl_fill (mi 42) 0 65)) 41) 0 65)) 41 p 1) ml) (by rw [nI_clamp (n := p) (by omega)]) ?_
  refine xB.go 1 (27, [(0, .ref 32), (1, .int (nI p)), (2, .int (-1))], [.ref 32], XM L (xU (va_up (va_up mi 42 (sl_fill (mi 42) 0 65)) 41 (sl_fill ((va_up mi 42 (sl_fill (mi 42) 0 65)) 41) 0 65)) 41 p 1) ml) rfl ?_
  refine xB.ca 104 [.ref 32] [] (c_spread _ L _ _ (hP.frame rfl rfl rfl) (fun i hi => Or.inl (fl0 hi)) (fun i hi => (fl1 hi).1)) rfl ?_
  intro r1 a1 b1 hq
  obtain ⟨rfl, hb1, hS⟩ := hq
  rw [hb1]
  show xB _ _ L _ (30, [(0, .ref 32), (1, .int (nI p)), (2, .int (-1))], [], XM L a1 ml)
  refine xB.go 4 (38, [(0, .ref 32), (1, .int (nI p)), (2, .int (-1))], [.int (a1 32 2), .ref 41], XM L a1 ml) rfl ?_
  have hc32 : a1 32 2 = nI n := by rw [hS.1 32 (by decide)]; exact hP.1
  refine xB.cg (38, [(0, .ref 32), (1, .int (nI p)), (2, .int (-1))], [.int (nI n), .ref 41], XM L a1 ml) (by rw [hc32]) ?_
  refine xB.ck (xin (nI n) 65) (39, [(0, .ref 32), (1, .int (nI p)), (2, .int (-1))], [.int (a1 41 (nI n).toNatClampNeg)], XM L a1 ml) rfl (xin_of (j := n) (by omega) (by decide) rfl) ?_
  refine xB.rz (a1 41 (nI n).toNatClampNeg) a1 ml rfl (by rw [nI_clamp (by omega)]; rcases hS.2.1 n (by omega) with z | z <;> rw [z] <;> rfl) ?_
  obtain ⟨s1, s2, s3⟩ := hS
  have hn64 := hP.2.1
  refine ⟨_, rfl, rfl, fun x x1 x2 => ?_, ?_, ?_⟩
  · rw [s1 x x1]; simp only [xU_ne x1, xU_ne x2, va_up_ne _ _ x1, va_up_ne _ _ x2]
  · rw [nI_clamp (by omega)]; exact s2 n (by omega)
  · rw [nI_clamp (by omega), s3 n (by omega)]
    refine (RW.cg (st' := fun x => x = p) (wl' := fun _ => False) (fun i => ?_) (fun i hi => ?_)).trans (RW.lead hw hp)
    · exact ⟨fun z => (fl1 z.1).2.mp z.2, fun z => by subst z; exact ⟨by omega, (fl1 (by omega)).2.mpr rfl⟩⟩
    · exact ⟨fun z => by have := fl0 (r := mi 42) (show i ≤ 64 by omega); have z : sl_fill (mi 42) 0 65 i = 1 := z; rw [this] at z; exact absurd z (by decide), fun z => z.elim⟩
set_option maxRecDepth 100000 in
set_option maxHeartbeats 1000000 in
theorem c_leadsQ (d L : Nat) (mi : xmi) (ml : xml) {n : Nat} {K T : Nat → Nat} (hP : PRM mi n K T) (hw : WF n K T) {p : Nat} (hp : met n K T p) {q : Nat} (hq : q < n) : xF (d + 4) 105 [.ref 32, .int (nI p), .int (nI q)] L mi ml (fun rr a b => ∃ v, rr = some (.int v) ∧ b = ml ∧ (∀ x, x ≠ 41 → x ≠ 42 → a x = mi x) ∧ (v = 0 ∨ v = 1) ∧ (v = 1 ↔ HQ K T q p)) := by
  have hpn0 := hw.lt hp
  have hn640 := hP.2.1
  refine xF.mk mX9_leads rfl rfl ?_
  refine xB.go 1 (1, [(0, .ref 32), (1, .int (nI p)), (2, .int (nI q))], [.ref 32], XM L mi ml) rfl ?_
  refine xB.c0 103 [.ref 32] [] (c_unwall _ L _ _) rfl ?_
  refine xB.go 1 (5, [(0, .ref 32), (1, .int (nI p)), (2, .int (nI q))], [.int (nI q)], XM L (va_up mi 42 (sl_fill (mi 42) 0 65)) ml) rfl ?_
  refine xB.bp ((nI q) < 0) (15, [(0, .ref 32), (1, .int (nI p)), (2, .int (nI q))], [], XM L (va_up mi 42 (sl_fill (mi 42) 0 65)) ml) (8, [(0, .ref 32), (1, .int (nI p)), (2, .int (nI q))], [], XM L (va_up mi 42 (sl_fill (mi 42) 0 65)) ml) rfl (fun h1 => ?_) (fun h1 => ?_)
  · refine xB.go 1 (16, [(0, .ref 32), (1, .int (nI p)), (2, .int (nI q))], [.ref 32], XM L (va_up mi 42 (sl_fill (mi 42) 0 65)) ml) rfl ?_
    refine xB.c0 102 [.ref 32] [] (c_unmark _ L _ _) rfl ?_
    refine xB.go 4 (25, [(0, .ref 32), (1, .int (nI p)), (2, .int (nI q))], [.int 1, .int (nI p), .ref 41], XM L (va_up (va_up mi 42 (sl_fill (mi 42) 0 65)) 41 (sl_fill ((va_up mi 42 (sl_fill (mi 42) 0 65)) 41) 0 65)) ml) rfl ?_
    refine xB.ck (xin (nI p) 65 && xz 1) (26, [(0, .ref 32), (1, .int (nI p)), (2, .int (nI q))], [], XM L (xU (va_up (va_up mi 42 (sl_fill (mi 42) 0 65)) 41 (sl_fill ((va_up mi 42 (sl_fill (mi 42) 0 65)) 41) 0 65)) 41 (nI p).toNatClampNeg 1) ml) rfl (Bool.and_eq_true_iff.mpr ⟨(xin_of (j := p) (by omega) (by decide) rfl), rfl⟩) ?_
    refine xB.cg (26, [(0, .ref 32), (1, .int (nI p)), (2, .int (nI q))], [], XM L (xU (va_up (va_up mi 42 (sl_fill (mi 42) 0 65)) 41 (sl_fill ((va_up mi 42 (sl_fill (mi 42) 0 65)) 41) 0 65)) 41 p 1) ml) (by rw [nI_clamp (n := p) (by omega)]) ?_
    refine xB.go 1 (27, [(0, .ref 32), (1, .int (nI p)), (2, .int (nI q))], [.ref 32], XM L (xU (va_up (va_up mi 42 (sl_fill (mi 42) 0 65)) 41 (sl_fill ((va_up mi 42 (sl_fill (mi 42) 0 65)) 41) 0 65)) 41 p 1) ml) rfl ?_
    refine xB.ca 104 [.ref 32] [] (c_spread _ L _ _ (hP.frame rfl rfl rfl) (fun i hi => Or.inl (fl0 hi)) (fun i hi => (fl1 hi).1)) rfl ?_
    intro r1 a1 b1 hq
    obtain ⟨rfl, hb1, hS⟩ := hq
    rw [hb1]
    show xB _ _ L _ (30, [(0, .ref 32), (1, .int (nI p)), (2, .int (nI q))], [], XM L a1 ml)
    refine xB.go 4 (38, [(0, .ref 32), (1, .int (nI p)), (2, .int (nI q))], [.int (a1 32 2), .ref 41], XM L a1 ml) rfl ?_
    have hc32 : a1 32 2 = nI n := by rw [hS.1 32 (by decide)]; exact hP.1
    refine xB.cg (38, [(0, .ref 32), (1, .int (nI p)), (2, .int (nI q))], [.int (nI n), .ref 41], XM L a1 ml) (by rw [hc32]) ?_
    refine xB.ck (xin (nI n) 65) (39, [(0, .ref 32), (1, .int (nI p)), (2, .int (nI q))], [.int (a1 41 (nI n).toNatClampNeg)], XM L a1 ml) rfl (xin_of (j := n) (by omega) (by decide) rfl) ?_
    refine xB.rz (a1 41 (nI n).toNatClampNeg) a1 ml rfl (by rw [nI_clamp (by omega)]; rcases hS.2.1 n (by omega) with z | z <;> rw [z] <;> rfl) ?_
    exact absurd h1 (nI_pos (by have := hP.2.1; omega))
  · refine xB.go 4 (14, [(0, .ref 32), (1, .int (nI p)), (2, .int (nI q))], [.int 1, .int (nI q), .ref 42], XM L (va_up mi 42 (sl_fill (mi 42) 0 65)) ml) rfl ?_
    refine xB.ck (xin (nI q) 65 && xz 1) (15, [(0, .ref 32), (1, .int (nI p)), (2, .int (nI q))], [], XM L (xU (va_up mi 42 (sl_fill (mi 42) 0 65)) 42 (nI q).toNatClampNeg 1) ml) rfl (Bool.and_eq_true_iff.mpr ⟨(xin_of (j := q) (by omega) (by decide) rfl), rfl⟩) ?_
    refine xB.cg (15, [(0, .ref 32), (1, .int (nI p)), (2, .int (nI q))], [], XM L (xU (va_up mi 42 (sl_fill (mi 42) 0 65)) 42 q 1) ml) (by rw [nI_clamp (n := q) (by omega)]) ?_
    refine xB.go 1 (16, [(0, .ref 32), (1, .int (nI p)), (2, .int (nI q))], [.ref 32], XM L (xU (va_up mi 42 (sl_fill (mi 42) 0 65)) 42 q 1) ml) rfl ?_
    refine xB.c0 102 [.ref 32] [] (c_unmark _ L _ _) rfl ?_
    refine xB.go 4 (25, [(0, .ref 32), (1, .int (nI p)), (2, .int (nI q))], [.int 1, .int (nI p), .ref 41], XM L (va_up (xU (va_up mi 42 (sl_fill (mi 42) 0 65)) 42 q 1) 41 (sl_fill ((xU (va_up mi 42 (sl_fill (mi 42) 0 65)) 42 q 1) 41) 0 65)) ml) rfl ?_
    refine xB.ck (xin (nI p) 65 && xz 1) (26, [(0, .ref 32), (1, .int (nI p)), (2, .int (nI q))], [], XM L (xU (va_up (xU (va_up mi 42 (sl_fill (mi 42) 0 65)) 42 q 1) 41 (sl_fill ((xU (va_up mi 42 (sl_fill (mi 42) 0 65)) 42 q 1) 41) 0 65)) 41 (nI p).toNatClampNeg 1) ml) rfl (Bool.and_eq_true_iff.mpr ⟨(xin_of (j := p) (by omega) (by decide) rfl), rfl⟩) ?_
    refine xB.cg (26, [(0, .ref 32), (1, .int (nI p)), (2, .int (nI q))], [], XM L (xU (va_up (xU (va_up mi 42 (sl_fill (mi 42) 0 65)) 42 q 1) 41 (sl_fill ((xU (va_up mi 42 (sl_fill (mi 42) 0 65)) 42 q 1) 41) 0 65)) 41 p 1) ml) (by rw [nI_clamp (n := p) (by omega)]) ?_
    refine xB.go 1 (27, [(0, .ref 32), (1, .int (nI p)), (2, .int (nI q))], [.ref 32], XM L (xU (va_up (xU (va_up mi 42 (sl_fill (mi 42) 0 65)) 42 q 1) 41 (sl_fill ((xU (va_up mi 42 (sl_fill (mi 42) 0 65)) 42 q 1) 41) 0 65)) 41 p 1) ml) rfl ?_
    refine xB.ca 104 [.ref 32] [] (c_spread _ L _ _ (hP.frame rfl rfl rfl) (fun i hi => (fl1 hi).1) (fun i hi => (fl1 hi).1)) rfl ?_
    intro r1 a1 b1 hq
    obtain ⟨rfl, hb1, hS⟩ := hq
    rw [hb1]
    show xB _ _ L _ (30, [(0, .ref 32), (1, .int (nI p)), (2, .int (nI q))], [], XM L a1 ml)
    refine xB.go 4 (38, [(0, .ref 32), (1, .int (nI p)), (2, .int (nI q))], [.int (a1 32 2), .ref 41], XM L a1 ml) rfl ?_
    have hc32 : a1 32 2 = nI n := by rw [hS.1 32 (by decide)]; exact hP.1
    refine xB.cg (38, [(0, .ref 32), (1, .int (nI p)), (2, .int (nI q))], [.int (nI n), .ref 41], XM L a1 ml) (by rw [hc32]) ?_
    refine xB.ck (xin (nI n) 65) (39, [(0, .ref 32), (1, .int (nI p)), (2, .int (nI q))], [.int (a1 41 (nI n).toNatClampNeg)], XM L a1 ml) rfl (xin_of (j := n) (by omega) (by decide) rfl) ?_
    refine xB.rz (a1 41 (nI n).toNatClampNeg) a1 ml rfl (by rw [nI_clamp (by omega)]; rcases hS.2.1 n (by omega) with z | z <;> rw [z] <;> rfl) ?_
    obtain ⟨s1, s2, s3⟩ := hS
    have hn64 := hP.2.1
    refine ⟨_, rfl, rfl, fun x x1 x2 => ?_, ?_, ?_⟩
    · rw [s1 x x1]; simp only [xU_ne x1, xU_ne x2, va_up_ne _ _ x1, va_up_ne _ _ x2]
    · rw [nI_clamp (by omega)]; exact s2 n (by omega)
    · rw [nI_clamp (by omega), s3 n (by omega)]
      refine (RW.cg (st' := fun x => x = p) (wl' := fun x => x = q) (fun i => ?_) (fun i hi => ?_)).trans (RW.lead hw hp)
      · exact ⟨fun z => (fl1 z.1).2.mp z.2, fun z => by subst z; exact ⟨by omega, (fl1 (by omega)).2.mpr rfl⟩⟩
      · exact (fl1 (r := mi 42) (p := q) (show i ≤ 64 by omega)).2
set_option maxRecDepth 100000 in
set_option maxHeartbeats 1000000 in
theorem c_follow (d L : Nat) (mi : xmi) (ml : xml) {n : Nat} {K T : Nat → Nat} (hP : PRM mi n K T) {p : Nat} (hin : p < n) (hW : ∀ i, i ≤ 64 → mi 42 i = 0 ∨ mi 42 i = 1) : xF (d + 4) 106 [.ref 32, .int (nI p)] L mi ml (fun rr a b => rr = none ∧ b = ml ∧ (∀ x, x ≠ 41 → a x = mi x) ∧ (∀ i, i ≤ 64 → a 41 i = 0 ∨ a 41 i = 1) ∧ ∀ i, i ≤ 64 → (a 41 i = 1 ↔ RW n K T (fun x => x = nxm n K T p ∨ x = otm n K T p) (fun i => mi 42 i = 1) i)) := by
  have hnx := hP.nx_le hin
  refine xF.mk mX9_follow rfl rfl ?_
  refine xB.go 1 (1, [(0, .ref 32), (1, .int (nI p))], [.ref 32], XM L mi ml) rfl ?_
  refine xB.c0 102 [.ref 32] [] (c_unmark _ L _ _) rfl ?_
  refine xB.go 4 (10, [(0, .ref 32), (1, .int (nI p))], [.int (nI p), .ref 32, .ref 41], XM L (va_up mi 41 (sl_fill (mi 41) 0 65)) ml) rfl ?_
  refine xB.c1 99 [.ref 32, .int (nI p)] [.ref 41] (c_mnext _ L (va_up mi 41 (sl_fill (mi 41) 0 65)) _ (hP.frame rfl rfl rfl) hin) rfl ?_
  refine xB.go 1 (14, [(0, .ref 32), (1, .int (nI p))], [.int 1, .int (nI (nxm n K T p)), .ref 41], XM L (va_up mi 41 (sl_fill (mi 41) 0 65)) ml) rfl ?_
  refine xB.ck (xin (nI (nxm n K T p)) 65 && xz 1) (15, [(0, .ref 32), (1, .int (nI p))], [], XM L (xU (va_up mi 41 (sl_fill (mi 41) 0 65)) 41 (nI (nxm n K T p)).toNatClampNeg 1) ml) rfl (Bool.and_eq_true_iff.mpr ⟨(xin_of (j := nxm n K T p) (by omega) (by decide) rfl), rfl⟩) ?_
  refine xB.go 4 (21, [(0, .ref 32), (1, .int (nI p))], [.int (nI p), .ref 32, .ref 41], XM L (xU (va_up mi 41 (sl_fill (mi 41) 0 65)) 41 (nI (nxm n K T p)).toNatClampNeg 1) ml) rfl ?_
  refine xB.c1 100 [.ref 32, .int (nI p)] [.ref 41] (c_mother _ L (xU (va_up mi 41 (sl_fill (mi 41) 0 65)) 41 (nI (nxm n K T p)).toNatClampNeg 1) _ (hP.frame rfl rfl rfl) hin) rfl ?_
  refine xB.go 1 (25, [(0, .ref 32), (1, .int (nI p))], [.int 1, .int (nI (otm n K T p)), .ref 41], XM L (xU (va_up mi 41 (sl_fill (mi 41) 0 65)) 41 (nI (nxm n K T p)).toNatClampNeg 1) ml) rfl ?_
  refine xB.ck (xin (nI (otm n K T p)) 65 && xz 1) (26, [(0, .ref 32), (1, .int (nI p))], [], XM L (xU (xU (va_up mi 41 (sl_fill (mi 41) 0 65)) 41 (nI (nxm n K T p)).toNatClampNeg 1) 41 (nI (otm n K T p)).toNatClampNeg 1) ml) rfl (Bool.and_eq_true_iff.mpr ⟨(xin_of (j := otm n K T p) (by omega) (by decide) rfl), rfl⟩) ?_
  refine xB.cg (26, [(0, .ref 32), (1, .int (nI p))], [], XM L (xU (xU (va_up mi 41 (sl_fill (mi 41) 0 65)) 41 (nxm n K T p) 1) 41 (nI (otm n K T p)).toNatClampNeg 1) ml) (by rw [nI_clamp (n := nxm n K T p) (by omega)]) ?_
  refine xB.cg (26, [(0, .ref 32), (1, .int (nI p))], [], XM L (xU (xU (va_up mi 41 (sl_fill (mi 41) 0 65)) 41 (nxm n K T p) 1) 41 (otm n K T p) 1) ml) (by rw [nI_clamp (n := otm n K T p) (by omega)]) ?_
  refine xB.go 1 (27, [(0, .ref 32), (1, .int (nI p))], [.ref 32], XM L (xU (xU (va_up mi 41 (sl_fill (mi 41) 0 65)) 41 (nxm n K T p) 1) 41 (otm n K T p) 1) ml) rfl ?_
  refine xB.ca 104 [.ref 32] [] (c_spread _ L _ _ (hP.frame rfl rfl rfl) hW (fun i hi => (fl2 hi).1)) rfl ?_
  intro r1 a1 b1 hq
  obtain ⟨rfl, hb1, hS⟩ := hq
  rw [hb1]
  show xB _ _ L _ (30, [(0, .ref 32), (1, .int (nI p))], [], XM L a1 ml)
  refine xB.rt none a1 ml rfl ?_
  obtain ⟨s1, s2, s3⟩ := hS
  refine ⟨rfl, rfl, fun x x1 => ?_, s2, fun i hi => ?_⟩
  · rw [s1 x x1]; simp only [xU_ne x1, va_up_ne _ _ x1]
  · rw [s3 i hi]
    exact RW.cg (fun j => ⟨fun z => (fl2 z.1).2.mp z.2, fun z => ⟨by rcases z with z | z <;> omega, (fl2 (by rcases z with z | z <;> omega)).2.mpr z⟩⟩) (fun j hj => Iff.rfl)
