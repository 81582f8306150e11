/-! the reference: junctionOf -/
def jA (K T : Nat → Nat) (mi : xmi) (p i : Nat) (a : xmi) : Prop := (∀ x, x ≠ 41 → x ≠ 42 → x ≠ 49 → a x = mi x) ∧ ∀ q, q < i → (a 49 q = 0 ∨ a 49 q = 1) ∧ (a 49 q = 1 ↔ PD K T p q)
theorem jA.next {K T : Nat → Nat} {mi a a1 : xmi} {p i : Nat} {v : Int32} (h : jA K T mi p i a) (hf : ∀ x, x ≠ 41 → x ≠ 42 → a1 x = a x) (hv : v = 0 ∨ v = 1) (hx : v = 1 ↔ PD K T p i) : jA K T mi p (i + 1) (xU a1 49 i v) := by
  refine ⟨fun x x1 x2 x3 => by rw [xU_ne x3, hf x x1 x2, h.1 x x1 x2 x3], fun q hq => ?_⟩
  by_cases e : q = i
  · subst e; rw [xU_self]; exact ⟨hv, hx⟩
  · rw [xU_at, va_up_ne _ _ e, hf 49 (by decide) (by decide)]; exact h.2 q (by omega)
def jB (a : xmi) (i : Nat) (c : xmi) : Prop := (∀ x, x ≠ 42 → c x = a x) ∧ ∀ j, j ≤ 64 → c 42 j = if j < i then a 49 j else 0
theorem jB.next {a c : xmi} {i : Nat} (h : jB a i c) : jB a (i + 1) (xU c 42 i (c 49 i)) := by
  refine ⟨fun x hx => by rw [xU_ne hx, h.1 x hx], fun j hj => ?_⟩
  by_cases e : j = i
  · subst e; rw [xU_self, if_pos (by omega), h.1 49 (by decide)]
  · rw [xU_at, va_up_ne _ _ e, h.2 j hj]
    by_cases g : j < i
    · rw [if_pos g, if_pos (by omega)]
    · rw [if_neg g, if_neg (by omega)]
set_option maxRecDepth 100000 in
set_option maxHeartbeats 1000000 in
theorem jo_101 (d L : Nat) (mi : xmi) (ml : xml) {n : Nat} {K T : Nat → Nat} (hP : PRM mi n K T) (hw : WF n K T) {p : Nat} (hp : met n K T p) (h5 : K p = 5) (hA : HA K T p) (a : xmi) (hfr : ∀ x, x ≠ 41 → x ≠ 42 → x ≠ 49 → a x = mi x) (hc : a 32 2 = nI n) (hmb : ∀ i, i ≤ 64 → a 41 i = 0 ∨ a 41 i = 1) (hwb : ∀ i, i ≤ 64 → a 42 i = 0 ∨ a 42 i = 1) (hmk : ∀ i, i ≤ 64 → (a 41 i = 1 ↔ RW n K T (fun x => x = nxm n K T p ∨ x = otm n K T p) (fun i => a 42 i = 1) i)) (hwl : ∀ i, i < n → (a 42 i = 1 ↔ PD K T p i)) : ∀ (f q : Nat), q ≤ n → n - q < f → (∀ x, x < q → a 41 x = 1 → a 42 x = 1 → False) → xB (d + 4) mX9_junctionOf L (fun rr a b => ∃ v, rr = some (.int v) ∧ b = ml ∧ (∀ x, x ≠ 41 → x ≠ 42 → x ≠ 49 → a x = mi x) ∧ JN n K T p v) (101, [(0, .ref 32), (1, .int (nI p)), (2, .int (nI q))], [], XM L a ml) := by
  have hpn := hw.lt hp
  have hn64 := hP.2.1
  intro f
  induction f with
  | zero => intro q h1 h2; omega
  | succ f ih =>
    intro q hle hlt hno
    refine xB.go 3 (106, [(0, .ref 32), (1, .int (nI p)), (2, .int (nI q))], [.int (a 32 2), .int (nI q)], XM L a ml) rfl ?_
    refine xB.cg (106, [(0, .ref 32), (1, .int (nI p)), (2, .int (nI q))], [.int (nI n), .int (nI q)], XM L a ml) (by rw [hc]) ?_
    refine xB.bp ((nI n) ≤ (nI q)) (135, [(0, .ref 32), (1, .int (nI p)), (2, .int (nI q))], [], XM L a ml) (109, [(0, .ref 32), (1, .int (nI p)), (2, .int (nI q))], [], XM L a ml) rfl (fun h1 => ?_) (fun h1 => ?_)
    · refine xB.go 2 (139, [(0, .ref 32), (1, .int (nI p)), (2, .int (nI q))], [.int (a 32 2)], XM L a ml) rfl ?_
      refine xB.rt (some (.int (a 32 2))) a ml rfl ?_
      have hge : n ≤ q := (nI_leI (by omega) (by omega)).mp h1
      refine ⟨_, rfl, rfl, hfr, Or.inr (Or.inr ⟨hA, hc, fun ⟨z, hz⟩ => ?_⟩)⟩
      obtain ⟨x, x1, x2, x3⟩ := RW.some (wl := fun i => a 42 i = 1) hw hp h5 hwl hz
      exact hno x (by omega) ((hmk x (by omega)).mpr x2) x3
    · have hqn : q < n := (nI_ltI (by omega) (by omega)).mp (i_nle.mp h1)
      refine xB.go 3 (114, [(0, .ref 32), (1, .int (nI p)), (2, .int (nI q))], [.int (nI q), .ref 41], XM L a ml) rfl ?_
      refine xB.ck (xin (nI q) 65) (115, [(0, .ref 32), (1, .int (nI p)), (2, .int (nI q))], [.int (a 41 (nI q).toNatClampNeg)], XM L a ml) rfl (xin_of (j := q) (by omega) (by decide) rfl) ?_
      refine xB.bp ((a 41 (nI q).toNatClampNeg) = 0) (129, [(0, .ref 32), (1, .int (nI p)), (2, .int (nI q))], [], XM L a ml) (118, [(0, .ref 32), (1, .int (nI p)), (2, .int (nI q))], [], XM L a ml) rfl (fun h2 => ?_) (fun h2 => ?_)
      · refine xB.go 2 (101, [(0, .ref 32), (1, .int (nI p)), (2, .int ((nI q) + 1))], [], XM L a ml) rfl ?_
        rw [nI_1]
        refine ih (q + 1) (by omega) (by omega) (fun x hx hm hw2 => ?_)
        by_cases e : x = q
        · subst e; rw [nI_clamp (by omega)] at h2
          rw [h2] at hm; exact absurd hm (by decide)
        · exact hno x (by omega) hm hw2
      · refine xB.go 3 (123, [(0, .ref 32), (1, .int (nI p)), (2, .int (nI q))], [.int (nI q), .ref 42], XM L a ml) rfl ?_
        refine xB.ck (xin (nI q) 65) (124, [(0, .ref 32), (1, .int (nI p)), (2, .int (nI q))], [.int (a 42 (nI q).toNatClampNeg)], XM L a ml) rfl (xin_of (j := q) (by omega) (by decide) rfl) ?_
        refine xB.bp ((a 42 (nI q).toNatClampNeg) = 0) (129, [(0, .ref 32), (1, .int (nI p)), (2, .int (nI q))], [], XM L a ml) (127, [(0, .ref 32), (1, .int (nI p)), (2, .int (nI q))], [], XM L a ml) rfl (fun h3 => ?_) (fun h3 => ?_)
        · refine xB.go 2 (101, [(0, .ref 32), (1, .int (nI p)), (2, .int ((nI q) + 1))], [], XM L a ml) rfl ?_
          rw [nI_1]
          refine ih (q + 1) (by omega) (by omega) (fun x hx hm hw2 => ?_)
          by_cases e : x = q
          · subst e; rw [nI_clamp (by omega)] at h3
            rw [h3] at hw2; exact absurd hw2 (by decide)
          · exact hno x (by omega) hm hw2
        · refine xB.go 1 (128, [(0, .ref 32), (1, .int (nI p)), (2, .int (nI q))], [.int (nI q)], XM L a ml) rfl ?_
          refine xB.rt (some (.int (nI q))) a ml rfl ?_
          rw [nI_clamp (by omega)] at h2 h3
          have m1 : a 41 q = 1 := (hmb q (by omega)).resolve_left h2
          have w1 : a 42 q = 1 := (hwb q (by omega)).resolve_left h3
          exact ⟨_, rfl, rfl, hfr, Or.inr (Or.inl ⟨hA, q, hqn, rfl, RW.near (wl := fun i => a 42 i = 1) hw hp h5 hwl hqn ((hmk q (by omega)).mp m1) ((hwl q hqn).mp w1)⟩)⟩
set_option maxRecDepth 100000 in
set_option maxHeartbeats 1000000 in
theorem jo_58 (d L : Nat) (mi : xmi) (ml : xml) {n : Nat} {K T : Nat → Nat} (hP : PRM mi n K T) (hw : WF n K T) {p : Nat} (hp : met n K T p) (h5 : K p = 5) (hA : HA K T p) (a : xmi) (hJ : jA K T mi p n a) : ∀ (f q : Nat), q ≤ n → n - q < f → ∀ c : xmi, jB a q c → xB (d + 4) mX9_junctionOf L (fun rr a b => ∃ v, rr = some (.int v) ∧ b = ml ∧ (∀ x, x ≠ 41 → x ≠ 42 → x ≠ 49 → a x = mi x) ∧ JN n K T p v) (58, [(0, .ref 32), (1, .int (nI p)), (2, .int (nI q))], [], XM L c ml) := by
  have hpn := hw.lt hp
  have hn64 := hP.2.1
  intro f
  induction f with
  | zero => intro q h1 h2; omega
  | succ f ih =>
    intro q hle hlt c hB
    have hPc : PRM c n K T := hP.frame (by rw [hB.1 32 (by decide), hJ.1 32 (by decide) (by decide) (by decide)]) ((hB.1 33 (by decide)).trans (hJ.1 33 (by decide) (by decide) (by decide))) ((hB.1 34 (by decide)).trans (hJ.1 34 (by decide) (by decide) (by decide)))
    refine xB.go 3 (63, [(0, .ref 32), (1, .int (nI p)), (2, .int (nI q))], [.int (c 32 2), .int (nI q)], XM L c ml) rfl ?_
    refine xB.cg (63, [(0, .ref 32), (1, .int (nI p)), (2, .int (nI q))], [.int (nI n), .int (nI q)], XM L c ml) (by rw [hPc.1]) ?_
    refine xB.bp ((nI n) ≤ (nI q)) (84, [(0, .ref 32), (1, .int (nI p)), (2, .int (nI q))], [], XM L c ml) (66, [(0, .ref 32), (1, .int (nI p)), (2, .int (nI q))], [], XM L c ml) rfl (fun h1 => ?_) (fun h1 => ?_)
    · have hge : n ≤ q := (nI_leI (by omega) (by omega)).mp h1
      have hqn : q = n := by omega
      have hWb : ∀ i, i ≤ 64 → (xU c 42 n 1) 42 i = 0 ∨ (xU c 42 n 1) 42 i = 1 := fun i hi => by
        by_cases e : i = n
        · subst e; rw [xU_self]; exact Or.inr rfl
        · rw [xU_at, va_up_ne _ _ e, hB.2 i hi, hqn]; split
          · rename_i g; exact (hJ.2 i g).1
          · exact Or.inl rfl
      refine xB.go 4 (92, [(0, .ref 32), (1, .int (nI p)), (2, .int (nI q))], [.int (c 32 2), .ref 42], XM L c ml) rfl ?_
      refine xB.cg (92, [(0, .ref 32), (1, .int (nI p)), (2, .int (nI q))], [.int (nI n), .ref 42], XM L c ml) (by rw [hPc.1]) ?_
      refine xB.go 1 (93, [(0, .ref 32), (1, .int (nI p)), (2, .int (nI q))], [.int 1, .int (nI n), .ref 42], XM L c ml) rfl ?_
      refine xB.ck (xin (nI n) 65 && xz 1) (94, [(0, .ref 32), (1, .int (nI p)), (2, .int (nI q))], [], XM L (xU c 42 (nI n).toNatClampNeg 1) ml) rfl (Bool.and_eq_true_iff.mpr ⟨(xin_of (j := n) (by omega) (by decide) rfl), rfl⟩) ?_
      refine xB.cg (94, [(0, .ref 32), (1, .int (nI p)), (2, .int (nI q))], [], XM L (xU c 42 n 1) ml) (by rw [nI_clamp (by omega)]) ?_
      refine xB.go 2 (96, [(0, .ref 32), (1, .int (nI p)), (2, .int (nI q))], [.int (nI p), .ref 32], XM L (xU c 42 n 1) ml) rfl ?_
      refine xB.ca 106 [.ref 32, .int (nI p)] [] (c_follow _ L (xU c 42 n 1) _ (hPc.frame rfl rfl rfl) hpn hWb) rfl ?_
      intro r1 a1 b1 hq
      obtain ⟨rfl, hb1, f1, f2, f3⟩ := hq
      rw [hb1]
      show xB _ _ L _ (99, [(0, .ref 32), (1, .int (nI p)), (2, .int (nI q))], [], XM L a1 ml)
      refine xB.go 2 (101, [(0, .ref 32), (1, .int (nI p)), (2, .int 0)], [], XM L a1 ml) rfl ?_
      have g42 : ∀ i, i < n → a1 42 i = a 49 i := fun i hi => by rw [f1 42 (by decide), xU_at, va_up_ne _ _ (show i ≠ n by omega), hB.2 i (by omega), if_pos (show i < q by omega)]
      refine jo_101 d L mi ml hP hw hp h5 hA a1 (fun x x1 x2 x3 => by rw [f1 x x1, xU_ne x2, hB.1 x x2, hJ.1 x x1 x2 x3]) (by rw [f1 32 (by decide)]; exact hPc.1) f2 (fun i hi => by rw [f1 42 (by decide)]; exact hWb i hi) (fun i hi => by rw [f3 i hi, f1 42 (by decide)]) (fun i hi => by rw [g42 i hi]; exact (hJ.2 i hi).2) (n + 1) 0 (Nat.zero_le _) (by omega) (fun x hx => absurd hx (Nat.not_lt_zero _))
    · have hqn : q < n := (nI_ltI (by omega) (by omega)).mp (i_nle.mp h1)
      have hz49 : xz (c 49 (nI q).toNatClampNeg) = true := by rw [nI_clamp (by omega), hB.1 49 (by decide)]; rcases (hJ.2 q hqn).1 with z | z <;> rw [z] <;> rfl
      refine xB.go 6 (76, [(0, .ref 32), (1, .int (nI p)), (2, .int (nI q))], [.int (nI q), .ref 49, .int (nI q), .ref 42], XM L c ml) rfl ?_
      refine xB.ck (xin (nI q) 65) (77, [(0, .ref 32), (1, .int (nI p)), (2, .int (nI q))], [.int (c 49 (nI q).toNatClampNeg), .int (nI q), .ref 42], XM L c ml) rfl (xin_of (j := q) (by omega) (by decide) rfl) ?_
      refine xB.ck (xin (nI q) 65 && xz (c 49 (nI q).toNatClampNeg)) (78, [(0, .ref 32), (1, .int (nI p)), (2, .int (nI q))], [], XM L (xU c 42 (nI q).toNatClampNeg (c 49 (nI q).toNatClampNeg)) ml) rfl (Bool.and_eq_true_iff.mpr ⟨(xin_of (j := q) (by omega) (by decide) rfl), hz49⟩) ?_
      refine xB.go 2 (58, [(0, .ref 32), (1, .int (nI p)), (2, .int ((nI q) + 1))], [], XM L (xU c 42 (nI q).toNatClampNeg (c 49 (nI q).toNatClampNeg)) ml) rfl ?_
      rw [nI_1, nI_clamp (by omega)]
      exact ih (q + 1) (by omega) (by omega) _ hB.next
set_option maxRecDepth 100000 in
set_option maxHeartbeats 1000000 in
theorem jo_13 (d L : Nat) (mi : xmi) (ml : xml) {n : Nat} {K T : Nat → Nat} (hP : PRM mi n K T) (hw : WF n K T) {p : Nat} (hp : met n K T p) (h5 : K p = 5) (hA : HA K T p) : ∀ (f q : Nat), q ≤ n → n - q < f → ∀ a : xmi, jA K T mi p q a → xB (d + 4) mX9_junctionOf L (fun rr a b => ∃ v, rr = some (.int v) ∧ b = ml ∧ (∀ x, x ≠ 41 → x ≠ 42 → x ≠ 49 → a x = mi x) ∧ JN n K T p v) (13, [(0, .ref 32), (1, .int (nI p)), (2, .int (nI q))], [], XM L a ml) := by
  have hpn := hw.lt hp
  have hn64 := hP.2.1
  intro f
  induction f with
  | zero => intro q h1 h2; omega
  | succ f ih =>
    intro q hle hlt a hJ
    have hPa : PRM a n K T := hP.frame (by rw [hJ.1 32 (by decide) (by decide) (by decide)]) (hJ.1 33 (by decide) (by decide) (by decide)) (hJ.1 34 (by decide) (by decide) (by decide))
    refine xB.go 3 (18, [(0, .ref 32), (1, .int (nI p)), (2, .int (nI q))], [.int (a 32 2), .int (nI q)], XM L a ml) rfl ?_
    refine xB.cg (18, [(0, .ref 32), (1, .int (nI p)), (2, .int (nI q))], [.int (nI n), .int (nI q)], XM L a ml) (by rw [hPa.1]) ?_
    refine xB.bp ((nI n) ≤ (nI q)) (52, [(0, .ref 32), (1, .int (nI p)), (2, .int (nI q))], [], XM L a ml) (21, [(0, .ref 32), (1, .int (nI p)), (2, .int (nI q))], [], XM L a ml) rfl (fun h1 => ?_) (fun h1 => ?_)
    · refine xB.go 1 (53, [(0, .ref 32), (1, .int (nI p)), (2, .int (nI q))], [.ref 32], XM L a ml) rfl ?_
      refine xB.c0 103 [.ref 32] [] (c_unwall _ L _ _) rfl ?_
      refine xB.go 2 (58, [(0, .ref 32), (1, .int (nI p)), (2, .int 0)], [], XM L (va_up a 42 (sl_fill (a 42) 0 65)) ml) rfl ?_
      have hge : n ≤ q := (nI_leI (by omega) (by omega)).mp h1
      have hqn : q = n := by omega
      rw [hqn] at hJ
      refine jo_58 d L mi ml hP hw hp h5 hA a hJ (n + 1) 0 (Nat.zero_le _) (by omega) _ ⟨fun x hx => by rw [va_up_ne _ _ hx], fun j hj => by rw [va_up_self, fl0 hj, if_neg (Nat.not_lt_zero _)]⟩
    · have hqn : q < n := (nI_ltI (by omega) (by omega)).mp (i_nle.mp h1)
      refine xB.go 5 (28, [(0, .ref 32), (1, .int (nI p)), (2, .int (nI q))], [.int (nI p), .int (nI q), .int (nI q), .ref 49], XM L a ml) rfl ?_
      refine xB.bp ((nI q) = (nI p)) (44, [(0, .ref 32), (1, .int (nI p)), (2, .int (nI q))], [.int (nI q), .ref 49], XM L a ml) (31, [(0, .ref 32), (1, .int (nI p)), (2, .int (nI q))], [.int (nI q), .ref 49], XM L a ml) rfl (fun h2 => ?_) (fun h2 => ?_)
      · refine xB.go 1 (45, [(0, .ref 32), (1, .int (nI p)), (2, .int (nI q))], [.int 0, .int (nI q), .ref 49], XM L a ml) rfl ?_
        refine xB.ck (xin (nI q) 65 && xz 0) (46, [(0, .ref 32), (1, .int (nI p)), (2, .int (nI q))], [], XM L (xU a 49 (nI q).toNatClampNeg 0) ml) rfl (Bool.and_eq_true_iff.mpr ⟨(xin_of (j := q) (by omega) (by decide) rfl), rfl⟩) ?_
        refine xB.go 2 (13, [(0, .ref 32), (1, .int (nI p)), (2, .int ((nI q) + 1))], [], XM L (xU a 49 (nI q).toNatClampNeg 0) ml) rfl ?_
        rw [nI_1, nI_clamp (by omega)]
        have e : q = p := (nI_eq (by omega) (by omega)).mp h2
        exact ih (q + 1) (by omega) (by omega) _ (hJ.next (fun _ _ _ => rfl) (Or.inl rfl) ⟨fun z => absurd z (by decide), fun z => absurd e.symm z.2.1⟩)
      · refine xB.go 3 (34, [(0, .ref 32), (1, .int (nI p)), (2, .int (nI q))], [.int (nI q), .int (nI p), .ref 32, .int (nI q), .ref 49], XM L a ml) rfl ?_
        refine xB.ca 105 [.ref 32, .int (nI p), .int (nI q)] [.int (nI q), .ref 49] (c_leadsQ _ L _ _ hPa hw hp hqn) rfl ?_
        intro r1 a1 b1 hq
        obtain ⟨v1, rfl, hb1, f1, f2, f3⟩ := hq
        rw [hb1]
        show xB _ _ L _ (37, [(0, .ref 32), (1, .int (nI p)), (2, .int (nI q))], [.int v1, .int (nI q), .ref 49], XM L a1 ml)
        refine xB.bp (¬ v1 = 0) (44, [(0, .ref 32), (1, .int (nI p)), (2, .int (nI q))], [.int (nI q), .ref 49], XM L a1 ml) (40, [(0, .ref 32), (1, .int (nI p)), (2, .int (nI q))], [.int (nI q), .ref 49], XM L a1 ml) rfl (fun h3 => ?_) (fun h3 => ?_)
        · refine xB.go 1 (45, [(0, .ref 32), (1, .int (nI p)), (2, .int (nI q))], [.int 0, .int (nI q), .ref 49], XM L a1 ml) rfl ?_
          refine xB.ck (xin (nI q) 65 && xz 0) (46, [(0, .ref 32), (1, .int (nI p)), (2, .int (nI q))], [], XM L (xU a1 49 (nI q).toNatClampNeg 0) ml) rfl (Bool.and_eq_true_iff.mpr ⟨(xin_of (j := q) (by omega) (by decide) rfl), rfl⟩) ?_
          refine xB.go 2 (13, [(0, .ref 32), (1, .int (nI p)), (2, .int ((nI q) + 1))], [], XM L (xU a1 49 (nI q).toNatClampNeg 0) ml) rfl ?_
          rw [nI_1, nI_clamp (by omega)]
          have e : ¬ p = q := fun z => h2 (by rw [z])
          have v1e := f2.resolve_left h3
          exact ih (q + 1) (by omega) (by omega) _ (hJ.next f1 (Or.inl rfl) ⟨fun z => absurd z (by decide), fun z => absurd (f3.mp v1e) z.2.2⟩)
        · refine xB.go 2 (45, [(0, .ref 32), (1, .int (nI p)), (2, .int (nI q))], [.int 1, .int (nI q), .ref 49], XM L a1 ml) rfl ?_
          refine xB.ck (xin (nI q) 65 && xz 1) (46, [(0, .ref 32), (1, .int (nI p)), (2, .int (nI q))], [], XM L (xU a1 49 (nI q).toNatClampNeg 1) ml) rfl (Bool.and_eq_true_iff.mpr ⟨(xin_of (j := q) (by omega) (by decide) rfl), rfl⟩) ?_
          refine xB.go 2 (13, [(0, .ref 32), (1, .int (nI p)), (2, .int ((nI q) + 1))], [], XM L (xU a1 49 (nI q).toNatClampNeg 1) ml) rfl ?_
          rw [nI_1, nI_clamp (by omega)]
          have e : ¬ p = q := fun z => h2 (by rw [z])
          have v1e := Classical.not_not.mp h3
          exact ih (q + 1) (by omega) (by omega) _ (hJ.next f1 (Or.inr rfl) ⟨fun _ => ⟨hA, e, fun z => absurd (f3.mpr z) (by rw [v1e]; decide)⟩, fun _ => rfl⟩)
set_option maxRecDepth 100000 in
set_option maxHeartbeats 1000000 in
theorem c_junctionOf (d L : Nat) (mi : xmi) (ml : xml) {n : Nat} {K T : Nat → Nat} (hP : PRM mi n K T) (hw : WF n K T) {p : Nat} (hp : met n K T p) (h5 : K p = 5) : xF (d + 5) 107 [.ref 32, .int (nI p)] L mi ml (fun rr a b => ∃ v, rr = some (.int v) ∧ b = ml ∧ (∀ x, x ≠ 41 → x ≠ 42 → x ≠ 49 → a x = mi x) ∧ JN n K T p v) := by
  refine xF.mk mX9_junctionOf rfl rfl ?_
  refine xB.go 3 (3, [(0, .ref 32), (1, .int (nI p))], [.int (-1), .int (nI p), .ref 32], XM L mi ml) rfl ?_
  refine xB.ca 105 [.ref 32, .int (nI p), .int (-1)] [] (c_leads0 _ L _ _ hP hw hp) rfl ?_
  intro r1 a1 b1 hq
  obtain ⟨v1, rfl, hb1, f1, f2, f3⟩ := hq
  rw [hb1]
  show xB _ _ L _ (6, [(0, .ref 32), (1, .int (nI p))], [.int v1], XM L a1 ml)
  refine xB.bp (¬ v1 = 0) (11, [(0, .ref 32), (1, .int (nI p))], [], XM L a1 ml) (9, [(0, .ref 32), (1, .int (nI p))], [], XM L a1 ml) rfl (fun h1 => ?_) (fun h1 => ?_)
  · refine xB.go 2 (13, [(0, .ref 32), (1, .int (nI p)), (2, .int 0)], [], XM L a1 ml) rfl ?_
    have hA := f3.mp (f2.resolve_left h1)
    exact jo_13 d L mi ml hP hw hp h5 hA (n + 1) 0 (Nat.zero_le _) (by omega) a1 ⟨fun x x1 x2 _ => f1 x x1 x2, fun q hq => absurd hq (Nat.not_lt_zero _)⟩
  · refine xB.go 1 (10, [(0, .ref 32), (1, .int (nI p))], [.int (-1)], XM L a1 ml) rfl ?_
    refine xB.rt (some (.int (-1))) a1 ml rfl ?_
    have e := Classical.not_not.mp h1
    exact ⟨_, rfl, rfl, fun x x1 x2 _ => f1 x x1 x2, Or.inl ⟨fun z => absurd (f3.mpr z) (by rw [e]; decide), rfl⟩⟩
