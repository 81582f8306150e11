/-! the reference: look -/
def NUMm (mi : xmi) (n : Nat) (K T : Nat → Nat) : Prop := ∀ i, i < n → (K i = 1 ∨ K i = 2 → mi 34 i = nI (T i) ∧ T i < 8) ∧ (K i = 6 ∨ K i = 7 → mi 34 i = nI (T i) ∧ T i < 2) ∧ (K i = 8 → mi 34 i = nI (T i) ∧ T i < 4) ∧ (K i = 3 → mi 34 i = nI (T i) ∧ T i < 7)
def LEVm (mi : xmi) (vL aL cL : Nat → Nat → Bool) : Prop := (∀ x, x < 8 → mi 35 x = lv2 (vL 0 x) (vL 1 x)) ∧ (∀ x, x < 2 → mi 35 (8 + x) = lv2 (aL 0 x) (aL 1 x)) ∧ (∀ x, x < 4 → mi 35 (10 + x) = lv2 (cL 0 x) (cL 1 x))
theorem NUMm.frame {mi a : xmi} {n : Nat} {K T : Nat → Nat} (h : NUMm mi n K T) (e : a 34 = mi 34) : NUMm a n K T := by unfold NUMm at h ⊢; rw [e]; exact h
theorem LEVm.frame {mi a : xmi} {vL aL cL : Nat → Nat → Bool} (h : LEVm mi vL aL cL) (e : a 35 = mi 35) : LEVm a vL aL cL := by unfold LEVm at h ⊢; rw [e]; exact h
def tix (j k : Nat) : Nat := if k < 16 then 64 + (16 * j + k) else j
def JRp (n : Nat) (K T : Nat → Nat) (mi : xmi) (p : Nat) : Prop := JX n K T p (mi 38 p) ∧ (met n K T p → K p = 5 → ∀ j, j < n → (mi 39 (64 * p + j) = 0 ∨ mi 39 (64 * p + j) = 1) ∧ (mi 39 (64 * p + j) = 1 ↔ RG n K T p j))
def JR (n : Nat) (K T : Nat → Nat) (mi : xmi) : Prop := ∀ p, p < n → JRp n K T mi p
def TYR (n : Nat) (K T : Nat → Nat) (vL aL : Nat → Nat → Bool) (mi : xmi) : Prop := ∃ g : Nat → Nat → Nat → Bool, (∀ j k, j < 64 → k ≤ 16 → mi 40 (tix j k) = lv2 (g 0 j k) (g 1 j k)) ∧ ∀ b j k, b < 2 → (TYb n K T vL aL b j k ↔ gS g b j k)
def RI (n : Nat) (K T : Nat → Nat) (vL aL cL : Nat → Nat → Bool) (mi : xmi) : Prop := PRM mi n K T ∧ NUMm mi n K T ∧ LEVm mi vL aL cL ∧ (mi 32 5 = 0 ∨ mi 32 5 = 1) ∧ (mi 32 10 = 0 ∨ mi 32 10 = 1) ∧ (mi 32 5 = 0 → mi 32 10 = 0) ∧ (mi 32 5 = 1 → SHM n K T (mi 32 6) mi ∧ (mi 32 6 = 1 → JR n K T mi)) ∧ (mi 32 5 = 1 → mi 32 6 = 1 → mi 32 10 = 1 → TYR n K T vL aL mi)
def FRm (mi a : xmi) : Prop := ∀ x, x ≠ 32 → x ≠ 37 → x ≠ 38 → x ≠ 39 → x ≠ 40 → x ≠ 41 → x ≠ 42 → x ≠ 49 → a x = mi x
theorem SHM.frame {n : Nat} {K T : Nat → Nat} {v : Int32} {mi a : xmi} (h : SHM n K T v mi) (e : a 37 = mi 37) : SHM n K T v a := by unfold SHM at h ⊢; rw [e]; exact h
theorem SHM.bool {n : Nat} {K T : Nat → Nat} {v : Int32} {mi : xmi} (h : SHM n K T v mi) : v = 0 ∨ v = 1 := by rcases h with z | z; exact Or.inr z.1; exact Or.inl z.1
theorem JR.frame {n : Nat} {K T : Nat → Nat} {mi a : xmi} (h : JR n K T mi) (e8 : a 38 = mi 38) (e9 : a 39 = mi 39) : JR n K T a := by unfold JR JRp at h ⊢; rw [e8, e9]; exact h
theorem TYR.frame {n : Nat} {K T : Nat → Nat} {vL aL : Nat → Nat → Bool} {mi a : xmi} (h : TYR n K T vL aL mi) (e : a 40 = mi 40) : TYR n K T vL aL a := by unfold TYR at h ⊢; rw [e]; exact h
/-- the row of a region is filled -/
def rg146 (K T : Nat → Nat) (a2 : xmi) (p : Nat) (v : Int32) (i : Nat) (c : xmi) : Prop := (∀ x, x ≠ 39 → c x = a2 x) ∧ (∀ j, j < i → (c 39 (64 * p + j) = 0 ∨ c 39 (64 * p + j) = 1) ∧ (c 39 (64 * p + j) = 1 ↔ RGv K T p v j)) ∧ ∀ q j, q ≠ p → j < 64 → c 39 (64 * q + j) = a2 39 (64 * q + j)
theorem rg146.next {K T : Nat → Nat} {a2 c : xmi} {p i : Nat} {v w : Int32} (hi : i < 64) (h : rg146 K T a2 p v i c) (hw : w = 0 ∨ w = 1) (hx : w = 1 ↔ RGv K T p v i) : rg146 K T a2 p v (i + 1) (xU c 39 (64 * p + i) w) := by
  obtain ⟨h1, h2, h3⟩ := h
  refine ⟨fun x hx => by rw [xU_ne hx, h1 x hx], fun j hj => ?_, fun q j hq hj => ?_⟩
  · by_cases e : j = i
    · subst e; rw [xU_self]; exact ⟨hw, hx⟩
    · rw [xU_at, va_up_ne _ _ (by omega)]; exact h2 j (by omega)
  · rw [xU_at, va_up_ne _ _ (by omega)]; exact h3 q j hq hj
theorem ix64 {p j : Nat} (hp : p < 64) (hj : j < 64) : 64 * nI p + nI j = nI (64 * p + j) := by
  have key : ∀ p, p < 64 → 64 * nI p = nI (64 * p) := by decide +kernel
  rw [key p hp, nI_addX]
set_option maxRecDepth 100000 in
set_option maxHeartbeats 1000000 in
theorem look_146 (d L : Nat) (mi : xmi) (ml : xml) {n : Nat} {K T : Nat → Nat} (hP : PRM mi n K T) (hw : WF n K T) {p : Nat} (hp : met n K T p) (h5 : K p = 5) {v : Int32} (a2 : xmi) (hc : a2 32 2 = nI n) (hmb : ∀ i, i ≤ 64 → a2 41 i = 0 ∨ a2 41 i = 1) (hwb : ∀ i, i ≤ 64 → a2 42 i = 0 ∨ a2 42 i = 1) (hrg : ∀ i, i < n → ((a2 41 i = 1 ∧ ¬ a2 42 i = 1) ↔ RGv K T p v i)) {Q : Option Value → xmi → xml → Prop} (k : ∀ c, rg146 K T a2 p v n c → xB d mX9_look L Q (194, [(0, .ref 32), (1, .int (nI p))], [], XM L c ml)) : ∀ (f q : Nat), q ≤ n → n - q < f → ∀ c : xmi, rg146 K T a2 p v q c → xB d mX9_look L Q (146, [(0, .ref 32), (1, .int (nI p)), (2, .int (nI q))], [], XM L c ml) := by
  have hpn := hw.lt hp
  have hn64 := hP.2.1
  intro f
  induction f with
  | zero => intro q h1 h2; omega
  | succ f ih =>
    intro q hle hlt c hG
    refine xB.go 3 (151, [(0, .ref 32), (1, .int (nI p)), (2, .int (nI q))], [.int (c 32 2), .int (nI q)], XM L c ml) rfl ?_
    refine xB.cg (151, [(0, .ref 32), (1, .int (nI p)), (2, .int (nI q))], [.int (nI n), .int (nI q)], XM L c ml) (by rw [hG.1 32 (by decide), hc]) ?_
    refine xB.bp ((nI n) ≤ (nI q)) (194, [(0, .ref 32), (1, .int (nI p)), (2, .int (nI q))], [], XM L c ml) (154, [(0, .ref 32), (1, .int (nI p)), (2, .int (nI q))], [], XM L c ml) rfl (fun h1 => ?_) (fun h1 => ?_)
    · have hge : n ≤ q := (nI_leI (by omega) (by omega)).mp h1
      have hqn : q = n := by omega
      rw [hqn] at hG
      refine xB.fo [(0, .ref 32), (1, .int (nI p))] (by simp) ?_
      exact k c hG
    · have hqn : q < n := (nI_ltI (by omega) (by omega)).mp (i_nle.mp h1)
      refine xB.go 10 (169, [(0, .ref 32), (1, .int (nI p)), (2, .int (nI q))], [.int (nI q), .ref 41, .int ((64 * (nI p)) + (nI q)), .ref 39], XM L c ml) rfl ?_
      refine xB.ck (xin (nI q) 65) (170, [(0, .ref 32), (1, .int (nI p)), (2, .int (nI q))], [.int (c 41 (nI q).toNatClampNeg), .int ((64 * (nI p)) + (nI q)), .ref 39], XM L c ml) rfl (xin_of (j := q) (by omega) (by decide) rfl) ?_
      refine xB.bp ((c 41 (nI q).toNatClampNeg) = 0) (186, [(0, .ref 32), (1, .int (nI p)), (2, .int (nI q))], [.int ((64 * (nI p)) + (nI q)), .ref 39], XM L c ml) (173, [(0, .ref 32), (1, .int (nI p)), (2, .int (nI q))], [.int ((64 * (nI p)) + (nI q)), .ref 39], XM L c ml) rfl (fun h2 => ?_) (fun h2 => ?_)
      · refine xB.go 1 (187, [(0, .ref 32), (1, .int (nI p)), (2, .int (nI q))], [.int 0, .int ((64 * (nI p)) + (nI q)), .ref 39], XM L c ml) rfl ?_
        refine xB.ck (xin ((64 * (nI p)) + (nI q)) 4096 && xz 0) (188, [(0, .ref 32), (1, .int (nI p)), (2, .int (nI q))], [], XM L (xU c 39 ((64 * (nI p)) + (nI q)).toNatClampNeg 0) ml) rfl (Bool.and_eq_true_iff.mpr ⟨(xin_of (j := 64 * p + q) (by omega) (by decide) (ix64 (by omega) (by omega))), rfl⟩) ?_
        refine xB.go 2 (146, [(0, .ref 32), (1, .int (nI p)), (2, .int ((nI q) + 1))], [], XM L (xU c 39 ((64 * (nI p)) + (nI q)).toNatClampNeg 0) ml) rfl ?_
        rw [nI_1, ix64 (by omega) (by omega), nI_clamp (by omega)]
        rw [nI_clamp (by omega), hG.1 41 (by decide)] at h2
        exact ih (q + 1) (by omega) (by omega) _ (hG.next (by omega) (Or.inl rfl) ⟨fun z => absurd z (by decide), fun z => by have := ((hrg q hqn).mpr z).1; rw [h2] at this; exact absurd this (by decide)⟩)
      · refine xB.go 3 (178, [(0, .ref 32), (1, .int (nI p)), (2, .int (nI q))], [.int (nI q), .ref 42, .int ((64 * (nI p)) + (nI q)), .ref 39], XM L c ml) rfl ?_
        refine xB.ck (xin (nI q) 65) (179, [(0, .ref 32), (1, .int (nI p)), (2, .int (nI q))], [.int (c 42 (nI q).toNatClampNeg), .int ((64 * (nI p)) + (nI q)), .ref 39], XM L c ml) rfl (xin_of (j := q) (by omega) (by decide) rfl) ?_
        refine xB.bp (¬ (c 42 (nI q).toNatClampNeg) = 0) (186, [(0, .ref 32), (1, .int (nI p)), (2, .int (nI q))], [.int ((64 * (nI p)) + (nI q)), .ref 39], XM L c ml) (182, [(0, .ref 32), (1, .int (nI p)), (2, .int (nI q))], [.int ((64 * (nI p)) + (nI q)), .ref 39], XM L c ml) rfl (fun h3 => ?_) (fun h3 => ?_)
        · refine xB.go 1 (187, [(0, .ref 32), (1, .int (nI p)), (2, .int (nI q))], [.int 0, .int ((64 * (nI p)) + (nI q)), .ref 39], XM L c ml) rfl ?_
          refine xB.ck (xin ((64 * (nI p)) + (nI q)) 4096 && xz 0) (188, [(0, .ref 32), (1, .int (nI p)), (2, .int (nI q))], [], XM L (xU c 39 ((64 * (nI p)) + (nI q)).toNatClampNeg 0) ml) rfl (Bool.and_eq_true_iff.mpr ⟨(xin_of (j := 64 * p + q) (by omega) (by decide) (ix64 (by omega) (by omega))), rfl⟩) ?_
          refine xB.go 2 (146, [(0, .ref 32), (1, .int (nI p)), (2, .int ((nI q) + 1))], [], XM L (xU c 39 ((64 * (nI p)) + (nI q)).toNatClampNeg 0) ml) rfl ?_
          rw [nI_1, ix64 (by omega) (by omega), nI_clamp (by omega)]
          rw [nI_clamp (by omega), hG.1 41 (by decide)] at h2
          rw [nI_clamp (by omega), hG.1 42 (by decide)] at h3
          have m1 := (hmb q (by omega)).resolve_left h2
          have w1 := (hwb q (by omega)).resolve_left h3
          exact ih (q + 1) (by omega) (by omega) _ (hG.next (by omega) (Or.inl rfl) ⟨fun z => absurd z (by decide), fun z => absurd w1 ((hrg q hqn).mpr z).2⟩)
        · refine xB.go 2 (187, [(0, .ref 32), (1, .int (nI p)), (2, .int (nI q))], [.int 1, .int ((64 * (nI p)) + (nI q)), .ref 39], XM L c ml) rfl ?_
          refine xB.ck (xin ((64 * (nI p)) + (nI q)) 4096 && xz 1) (188, [(0, .ref 32), (1, .int (nI p)), (2, .int (nI q))], [], XM L (xU c 39 ((64 * (nI p)) + (nI q)).toNatClampNeg 1) ml) rfl (Bool.and_eq_true_iff.mpr ⟨(xin_of (j := 64 * p + q) (by omega) (by decide) (ix64 (by omega) (by omega))), rfl⟩) ?_
          refine xB.go 2 (146, [(0, .ref 32), (1, .int (nI p)), (2, .int ((nI q) + 1))], [], XM L (xU c 39 ((64 * (nI p)) + (nI q)).toNatClampNeg 1) ml) rfl ?_
          rw [nI_1, ix64 (by omega) (by omega), nI_clamp (by omega)]
          rw [nI_clamp (by omega), hG.1 41 (by decide)] at h2
          rw [nI_clamp (by omega), hG.1 42 (by decide)] at h3
          have m1 := (hmb q (by omega)).resolve_left h2
          have w0 := Classical.not_not.mp h3
          exact ih (q + 1) (by omega) (by omega) _ (hG.next (by omega) (Or.inr rfl) ⟨fun _ => (hrg q hqn).mp ⟨m1, by rw [w0]; decide⟩, fun _ => rfl⟩)
def lkM (n : Nat) (K T : Nat → Nat) (m1 : xmi) (i : Nat) (a : xmi) : Prop := (∀ x, x ≠ 38 → x ≠ 39 → x ≠ 41 → x ≠ 42 → x ≠ 49 → a x = m1 x) ∧ (∀ p, p < i → JRp n K T a p) ∧ ∀ p, i ≤ p → p < 64 → a 38 p = -1
theorem lkM.skip {n : Nat} {K T : Nat → Nat} {m1 a : xmi} {i : Nat} (hi : i < 64) (h : lkM n K T m1 i a) (hx : ¬ (met n K T i ∧ K i = 5)) : lkM n K T m1 (i + 1) a := by
  refine ⟨h.1, fun p hp => ?_, fun p h1 h2 => h.2.2 p (by omega) h2⟩
  by_cases e : p = i
  · subst e; exact ⟨⟨fun z => absurd z hx, fun _ => h.2.2 p (Nat.le_refl _) hi⟩, fun z1 z2 => absurd ⟨z1, z2⟩ hx⟩
  · exact h.2.1 p (by omega)
theorem lkM.next {n : Nat} {K T : Nat → Nat} {m1 a a1 a2 c : xmi} {i : Nat} {v : Int32} (hn : n ≤ 64) (hi : i < n) (h : lkM n K T m1 i a) (hj : JN n K T i v) (f1 : ∀ x, x ≠ 41 → x ≠ 42 → x ≠ 49 → a1 x = a x) (f2 : ∀ x, x ≠ 41 → x ≠ 42 → a2 x = xU a1 38 i v x) (hG : rg146 K T a2 i v n c) (hmt : met n K T i) (h5 : K i = 5) : lkM n K T m1 (i + 1) c := by
  obtain ⟨g1, g2, g3⟩ := hG
  have e38 : ∀ p, p ≠ i → c 38 p = a 38 p := fun p hp => by rw [g1 38 (by decide), f2 38 (by decide) (by decide), xU_at, va_up_ne _ _ hp, f1 38 (by decide) (by decide) (by decide)]
  have e39 : ∀ q j, q ≠ i → j < 64 → c 39 (64 * q + j) = a 39 (64 * q + j) := fun q j hq hj => by rw [g3 q j hq hj, f2 39 (by decide) (by decide), xU_ne (by decide), f1 39 (by decide) (by decide) (by decide)]
  refine ⟨fun x x1 x2 x3 x4 x5 => by rw [g1 x x2, f2 x x3 x4, xU_ne x1, f1 x x3 x4 x5, h.1 x x1 x2 x3 x4 x5], fun p hp => ?_, fun p h1 h2 => by rw [e38 p (by omega)]; exact h.2.2 p (by omega) h2⟩
  by_cases e : p = i
  · subst e
    have ej : c 38 p = v := by rw [g1 38 (by decide), f2 38 (by decide) (by decide), xU_self]
    refine ⟨⟨fun _ => by rw [ej]; exact hj, fun z => absurd ⟨hmt, h5⟩ z⟩, fun _ _ j hj2 => ⟨(g2 j hj2).1, (g2 j hj2).2.trans (RG.iff hj).symm⟩⟩
  · have := h.2.1 p (by omega)
    unfold JRp at this ⊢
    rw [e38 p e]
    refine ⟨this.1, fun z1 z2 j hj2 => ?_⟩
    rw [e39 p j e (by omega)]
    exact this.2 z1 z2 j hj2
theorem jn_ix {n p : Nat} {K T : Nat → Nat} {v : Int32} (hn : n ≤ 64) (h : JN n K T p v) : (v = -1 ∧ v < 0) ∨ ∃ q, q ≤ 64 ∧ v = nI q ∧ ¬ v < 0 := by
  rcases h with ⟨-, z⟩ | ⟨-, q, h1, z, -⟩ | ⟨-, z, -⟩
  · exact Or.inl ⟨z, by rw [z]; exact neg1_lt⟩
  · exact Or.inr ⟨q, by omega, z, by rw [z]; exact nI_pos (by omega)⟩
  · exact Or.inr ⟨n, hn, z, by rw [z]; exact nI_pos (by omega)⟩
set_option maxRecDepth 100000 in
set_option maxHeartbeats 1000000 in
theorem look_66 (d L : Nat) (mi : xmi) (ml : xml) {n : Nat} {K T : Nat → Nat} (hP : PRM mi n K T) (hS : SHM n K T (mi 32 6) mi) : ∀ (f p : Nat), p ≤ n → n - p < f → ∀ a : xmi, lkM n K T mi p a → xB (d + 5) mX9_look L (fun rr a b => rr = none ∧ b = ml ∧ (∀ x, x ≠ 38 → x ≠ 39 → x ≠ 41 → x ≠ 42 → x ≠ 49 → a x = mi x) ∧ (mi 32 6 = 1 → JR n K T a)) (66, [(0, .ref 32), (1, .int (nI p))], [], XM L a ml) := by
  have hn64 := hP.2.1
  have hSb : ¬ mi 32 6 = 0 → mi 32 6 = 1 := hS.bool.resolve_left
  have hS1 : mi 32 6 = 1 → WF n K T ∧ ∀ i, i < 64 → (∃ h, h ≤ 16 ∧ Rh n K T i h ∧ mi 37 i = nI h) ∨ (mi 37 i = -1 ∧ ¬ ∃ h, Rh n K T i h) := fun z => by
    rcases hS with w | w
    · exact w.2
    · rw [w.1] at z; cases z
  intro f
  induction f with
  | zero => intro p h1 h2; omega
  | succ f ih =>
    intro p hle hlt a hM
    have e32 : a 32 6 = mi 32 6 := by rw [hM.1 32 (by decide) (by decide) (by decide) (by decide) (by decide)]
    have hPa : PRM a n K T := hP.frame (by rw [hM.1 32 (by decide) (by decide) (by decide) (by decide) (by decide)]) (hM.1 33 (by decide) (by decide) (by decide) (by decide) (by decide)) (hM.1 34 (by decide) (by decide) (by decide) (by decide) (by decide))
    refine xB.go 3 (71, [(0, .ref 32), (1, .int (nI p))], [.int (a 32 2), .int (nI p)], XM L a ml) rfl ?_
    refine xB.cg (71, [(0, .ref 32), (1, .int (nI p))], [.int (nI n), .int (nI p)], XM L a ml) (by rw [hPa.1]) ?_
    refine xB.bp ((nI n) ≤ (nI p)) (200, [(0, .ref 32), (1, .int (nI p))], [], XM L a ml) (74, [(0, .ref 32), (1, .int (nI p))], [], XM L a ml) rfl (fun h1 => ?_) (fun h1 => ?_)
    · refine xB.rt none a ml rfl ?_
      have hge : n ≤ p := (nI_leI (by omega) (by omega)).mp h1
      exact ⟨rfl, rfl, hM.1, fun _ q hq => hM.2.1 q (by omega)⟩
    · refine xB.go 2 (78, [(0, .ref 32), (1, .int (nI p))], [.int (a 32 6)], XM L a ml) rfl ?_
      refine xB.bp ((a 32 6) = 0) (200, [(0, .ref 32), (1, .int (nI p))], [], XM L a ml) (81, [(0, .ref 32), (1, .int (nI p))], [], XM L a ml) rfl (fun h2 => ?_) (fun h2 => ?_)
      · refine xB.rt none a ml rfl ?_
        rw [e32] at h2
        exact ⟨rfl, rfl, hM.1, fun z => by rw [h2] at z; cases z⟩
      · have hpn : p < n := (nI_ltI (by omega) (by omega)).mp (i_nle.mp h1)
        have hW := hS1 (hSb (by rw [← e32]; exact h2))
        have hk := (hP.2.2.1 p hpn).2
        refine xB.go 3 (86, [(0, .ref 32), (1, .int (nI p))], [.int (nI p), .ref 33], XM L a ml) rfl ?_
        refine xB.ck (xin (nI p) 64) (87, [(0, .ref 32), (1, .int (nI p))], [.int (a 33 (nI p).toNatClampNeg)], XM L a ml) rfl (xin_of (j := p) (by omega) (by decide) rfl) ?_
        refine xB.go 1 (88, [(0, .ref 32), (1, .int (nI p))], [.int 5, .int (a 33 (nI p).toNatClampNeg)], XM L a ml) rfl ?_
        refine xB.cg (88, [(0, .ref 32), (1, .int (nI p))], [.int 5, .int (nI (K p))], XM L a ml) (by rw [nI_clamp (by omega), (hPa.2.2.1 p hpn).1]) ?_
        refine xB.bp (¬ (nI (K p)) = 5) (194, [(0, .ref 32), (1, .int (nI p))], [], XM L a ml) (91, [(0, .ref 32), (1, .int (nI p))], [], XM L a ml) rfl (fun h3 => ?_) (fun h3 => ?_)
        · refine xB.go 2 (66, [(0, .ref 32), (1, .int ((nI p) + 1))], [], XM L a ml) rfl ?_
          rw [nI_1]
          exact ih (p + 1) (by omega) (by omega) a (hM.skip (by omega) (fun z => k_ne (c := 5) h3 z.2))
        · refine xB.go 3 (96, [(0, .ref 32), (1, .int (nI p))], [.int (nI p), .ref 37], XM L a ml) rfl ?_
          refine xB.ck (xin (nI p) 64) (97, [(0, .ref 32), (1, .int (nI p))], [.int (a 37 (nI p).toNatClampNeg)], XM L a ml) rfl (xin_of (j := p) (by omega) (by decide) rfl) ?_
          refine xB.bp (0 ≤ (a 37 (nI p).toNatClampNeg)) (103, [(0, .ref 32), (1, .int (nI p))], [], XM L a ml) (100, [(0, .ref 32), (1, .int (nI p))], [], XM L a ml) rfl (fun h4 => ?_) (fun h4 => ?_)
          · have hK5 : K p = 5 := k_eq hk (c := 5) (by decide) (Classical.not_not.mp h3)
            have hmt : met n K T p := by
              rcases hW.2 p (by omega) with ⟨x, z1, z2, z3⟩ | ⟨z1, z2⟩
              · exact ⟨x, z2⟩
              · rw [nI_clamp (by omega), hM.1 37 (by decide) (by decide) (by decide) (by decide) (by decide), z1] at h4; exact absurd h4 (by decide)
            refine xB.go 5 (110, [(0, .ref 32), (1, .int (nI p))], [.int (nI p), .ref 32, .int (nI p), .ref 38], XM L a ml) rfl ?_
            refine xB.ca 107 [.ref 32, .int (nI p)] [.int (nI p), .ref 38] (c_junctionOf _ L _ _ hPa hW.1 hmt hK5) rfl ?_
            intro r1 a1 b1 hq
            obtain ⟨v, rfl, hb1, f1, hj⟩ := hq
            rw [hb1]
            show xB _ _ L _ (113, [(0, .ref 32), (1, .int (nI p))], [.int v, .int (nI p), .ref 38], XM L a1 ml)
            refine xB.ck (xin (nI p) 64) (114, [(0, .ref 32), (1, .int (nI p))], [], XM L (xU a1 38 (nI p).toNatClampNeg v) ml) rfl (xin_of (j := p) (by omega) (by decide) rfl) ?_
            have hP1 : PRM (xU a1 38 p v) n K T := hPa.frame (by rw [xU_ne (by decide), f1 32 (by decide) (by decide) (by decide)]) (by rw [xU_ne (by decide), f1 33 (by decide) (by decide) (by decide)]) (by rw [xU_ne (by decide), f1 34 (by decide) (by decide) (by decide)])
            refine xB.cg (114, [(0, .ref 32), (1, .int (nI p))], [], XM L (xU a1 38 p v) ml) (by rw [nI_clamp (n := p) (by omega)]) ?_
            refine xB.go 1 (115, [(0, .ref 32), (1, .int (nI p))], [.ref 32], XM L (xU a1 38 p v) ml) rfl ?_
            refine xB.c0 103 [.ref 32] [] (c_unwall _ L _ _) rfl ?_
            refine xB.go 3 (123, [(0, .ref 32), (1, .int (nI p))], [.int (nI p), .ref 38], XM L (va_up (xU a1 38 p v) 42 (sl_fill ((xU a1 38 p v) 42) 0 65)) ml) rfl ?_
            refine xB.ck (xin (nI p) 64) (124, [(0, .ref 32), (1, .int (nI p))], [.int ((va_up (xU a1 38 p v) 42 (sl_fill ((xU a1 38 p v) 42) 0 65)) 38 (nI p).toNatClampNeg)], XM L (va_up (xU a1 38 p v) 42 (sl_fill ((xU a1 38 p v) 42) 0 65)) ml) rfl (xin_of (j := p) (by omega) (by decide) rfl) ?_
            refine xB.cg (124, [(0, .ref 32), (1, .int (nI p))], [.int v], XM L (va_up (xU a1 38 p v) 42 (sl_fill ((xU a1 38 p v) 42) 0 65)) ml) (by rw [nI_clamp (by omega), va_up_ne _ _ (by decide), xU_self]) ?_
            refine xB.bp (v < 0) (139, [(0, .ref 32), (1, .int (nI p))], [], XM L (va_up (xU a1 38 p v) 42 (sl_fill ((xU a1 38 p v) 42) 0 65)) ml) (127, [(0, .ref 32), (1, .int (nI p))], [], XM L (va_up (xU a1 38 p v) 42 (sl_fill ((xU a1 38 p v) 42) 0 65)) ml) rfl (fun h5 => ?_) (fun h5 => ?_)
            · refine xB.go 1 (140, [(0, .ref 32), (1, .int (nI p))], [.ref 32], XM L (va_up (xU a1 38 p v) 42 (sl_fill ((xU a1 38 p v) 42) 0 65)) ml) rfl ?_
              have hWb : ∀ i, i ≤ 64 → (va_up (xU a1 38 p v) 42 (sl_fill ((xU a1 38 p v) 42) 0 65)) 42 i = 0 ∨ (va_up (xU a1 38 p v) 42 (sl_fill ((xU a1 38 p v) 42) 0 65)) 42 i = 1 := fun i hi => Or.inl (by rw [va_up_self]; exact fl0 hi)
              refine xB.go 1 (141, [(0, .ref 32), (1, .int (nI p))], [.int (nI p), .ref 32], XM L (va_up (xU a1 38 p v) 42 (sl_fill ((xU a1 38 p v) 42) 0 65)) ml) rfl ?_
              refine xB.ca 106 [.ref 32, .int (nI p)] [] (c_follow _ L (va_up (xU a1 38 p v) 42 (sl_fill ((xU a1 38 p v) 42) 0 65)) _ (hP1.frame rfl rfl rfl) hpn hWb) rfl ?_
              intro r2 a2 b2 hq2
              obtain ⟨rfl, hb2, g1, g2, g3⟩ := hq2
              rw [hb2]
              show xB _ _ L _ (144, [(0, .ref 32), (1, .int (nI p))], [], XM L a2 ml)
              refine xB.go 2 (146, [(0, .ref 32), (1, .int (nI p)), (2, .int 0)], [], XM L a2 ml) rfl ?_
              have hrg : ∀ i, i < n → ((a2 41 i = 1 ∧ ¬ a2 42 i = 1) ↔ RGv K T p v i) := fun i hi => by
                have ew : ∀ i, i < n → (a2 42 i = 1 ↔ nI i = v) := fun i hi => by
                  rw [g1 42 (by decide)]
                  rcases jn_ix hn64 hj with ⟨z, -⟩ | ⟨q, -, -, z⟩
                  · rw [va_up_self, fl0 (by omega), z]; exact ⟨fun w => absurd w (by decide), fun w => absurd w (nI_neg1 (by omega))⟩
                  · exact absurd h5 z
                rw [g3 i (by omega), RW.cg (wl' := fun i => a2 42 i = 1) (st' := fun x => x = nxm n K T p ∨ x = otm n K T p) (fun _ => Iff.rfl) (fun i hi => by rw [g1 42 (by decide)])]
                exact RW.region hW.1 hmt hK5 ew hi
              refine look_146 (d + 5) L mi ml hP hW.1 hmt hK5 a2 (by rw [g1 32 (by decide)]; exact hP1.1) g2 (fun i hi => by rw [g1 42 (by decide)]; exact hWb i hi) hrg (fun c hG => ?_) (n + 1) 0 (Nat.zero_le _) (by omega) a2 ⟨fun _ _ => rfl, fun j hj => absurd hj (Nat.not_lt_zero _), fun _ _ _ _ => rfl⟩
              refine xB.go 2 (66, [(0, .ref 32), (1, .int ((nI p) + 1))], [], XM L c ml) rfl ?_
              rw [nI_1]
              exact ih (p + 1) (by omega) (by omega) c (hM.next hn64 hpn hj f1 (fun x x1 x2 => by rw [g1 x x1]; simp only [xU_ne x2, va_up_ne _ _ x2]) hG hmt hK5)
            · obtain ⟨q, hq64, eq⟩ : ∃ q, q ≤ 64 ∧ v = nI q := by
                rcases jn_ix hn64 hj with ⟨-, z⟩ | ⟨q, z1, z2, -⟩
                · exact absurd z h5
                · exact ⟨q, z1, z2⟩
              refine xB.go 5 (136, [(0, .ref 32), (1, .int (nI p))], [.int (nI p), .ref 38, .ref 42], XM L (va_up (xU a1 38 p v) 42 (sl_fill ((xU a1 38 p v) 42) 0 65)) ml) rfl ?_
              refine xB.ck (xin (nI p) 64) (137, [(0, .ref 32), (1, .int (nI p))], [.int ((va_up (xU a1 38 p v) 42 (sl_fill ((xU a1 38 p v) 42) 0 65)) 38 (nI p).toNatClampNeg), .ref 42], XM L (va_up (xU a1 38 p v) 42 (sl_fill ((xU a1 38 p v) 42) 0 65)) ml) rfl (xin_of (j := p) (by omega) (by decide) rfl) ?_
              refine xB.cg (137, [(0, .ref 32), (1, .int (nI p))], [.int (nI q), .ref 42], XM L (va_up (xU a1 38 p v) 42 (sl_fill ((xU a1 38 p v) 42) 0 65)) ml) (by rw [nI_clamp (n := p) (by omega), va_up_ne _ _ (by decide), xU_self, eq]) ?_
              refine xB.go 1 (138, [(0, .ref 32), (1, .int (nI p))], [.int 1, .int (nI q), .ref 42], XM L (va_up (xU a1 38 p v) 42 (sl_fill ((xU a1 38 p v) 42) 0 65)) ml) rfl ?_
              refine xB.ck (xin (nI q) 65 && xz 1) (139, [(0, .ref 32), (1, .int (nI p))], [], XM L (xU (va_up (xU a1 38 p v) 42 (sl_fill ((xU a1 38 p v) 42) 0 65)) 42 (nI q).toNatClampNeg 1) ml) rfl (Bool.and_eq_true_iff.mpr ⟨(xin_of (j := q) (by omega) (by decide) (by rfl)), rfl⟩) ?_
              refine xB.cg (139, [(0, .ref 32), (1, .int (nI p))], [], XM L (xU (va_up (xU a1 38 p v) 42 (sl_fill ((xU a1 38 p v) 42) 0 65)) 42 q 1) ml) (by rw [nI_clamp (n := q) (by omega)]) ?_
              refine xB.go 1 (140, [(0, .ref 32), (1, .int (nI p))], [.ref 32], XM L (xU (va_up (xU a1 38 p v) 42 (sl_fill ((xU a1 38 p v) 42) 0 65)) 42 q 1) ml) rfl ?_
              have hWb : ∀ i, i ≤ 64 → (xU (va_up (xU a1 38 p v) 42 (sl_fill ((xU a1 38 p v) 42) 0 65)) 42 q 1) 42 i = 0 ∨ (xU (va_up (xU a1 38 p v) 42 (sl_fill ((xU a1 38 p v) 42) 0 65)) 42 q 1) 42 i = 1 := fun i hi => by rw [xU_at, va_up_self]; exact (fl1 hi).1
              refine xB.go 1 (141, [(0, .ref 32), (1, .int (nI p))], [.int (nI p), .ref 32], XM L (xU (va_up (xU a1 38 p v) 42 (sl_fill ((xU a1 38 p v) 42) 0 65)) 42 q 1) ml) rfl ?_
              refine xB.ca 106 [.ref 32, .int (nI p)] [] (c_follow _ L (xU (va_up (xU a1 38 p v) 42 (sl_fill ((xU a1 38 p v) 42) 0 65)) 42 q 1) _ (hP1.frame rfl rfl rfl) hpn hWb) rfl ?_
              intro r2 a2 b2 hq2
              obtain ⟨rfl, hb2, g1, g2, g3⟩ := hq2
              rw [hb2]
              show xB _ _ L _ (144, [(0, .ref 32), (1, .int (nI p))], [], XM L a2 ml)
              refine xB.go 2 (146, [(0, .ref 32), (1, .int (nI p)), (2, .int 0)], [], XM L a2 ml) rfl ?_
              have hrg : ∀ i, i < n → ((a2 41 i = 1 ∧ ¬ a2 42 i = 1) ↔ RGv K T p v i) := fun i hi => by
                have ew : ∀ i, i < n → (a2 42 i = 1 ↔ nI i = v) := fun i hi => by
                  rw [g1 42 (by decide)]
                  rw [xU_at, va_up_self, (fl1 (by omega)).2]
                  rw [eq, nI_eq (by omega) (by omega)]
                rw [g3 i (by omega), RW.cg (wl' := fun i => a2 42 i = 1) (st' := fun x => x = nxm n K T p ∨ x = otm n K T p) (fun _ => Iff.rfl) (fun i hi => by rw [g1 42 (by decide)])]
                exact RW.region hW.1 hmt hK5 ew hi
              refine look_146 (d + 5) L mi ml hP hW.1 hmt hK5 a2 (by rw [g1 32 (by decide)]; exact hP1.1) g2 (fun i hi => by rw [g1 42 (by decide)]; exact hWb i hi) hrg (fun c hG => ?_) (n + 1) 0 (Nat.zero_le _) (by omega) a2 ⟨fun _ _ => rfl, fun j hj => absurd hj (Nat.not_lt_zero _), fun _ _ _ _ => rfl⟩
              refine xB.go 2 (66, [(0, .ref 32), (1, .int ((nI p) + 1))], [], XM L c ml) rfl ?_
              rw [nI_1]
              exact ih (p + 1) (by omega) (by omega) c (hM.next hn64 hpn hj f1 (fun x x1 x2 => by rw [g1 x x1]; simp only [xU_ne x2, va_up_ne _ _ x2]) hG hmt hK5)
          · refine xB.go 3 (66, [(0, .ref 32), (1, .int ((nI p) + 1))], [], XM L a ml) rfl ?_
            rw [nI_1]
            refine ih (p + 1) (by omega) (by omega) a (hM.skip (by omega) (fun z => ?_))
            rcases hW.2 p (by omega) with ⟨x, z1, z2, z3⟩ | ⟨z1, z2⟩
            · rw [nI_clamp (by omega), hM.1 37 (by decide) (by decide) (by decide) (by decide) (by decide), z3] at h4; exact absurd (nI_pos' (by omega)) h4
            · exact z2 z.1
