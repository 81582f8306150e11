/-! Junctions: passing, nearest, all -/
theorem c_holdsN (d L : Nat) (mi : xmi) (ml : xml) (s : Int64) {i : Nat} (hi : i < 64) : xFv (d + 1) 89 [.long s, .int (nI i)] L mi ml (.int (xb (hb s i = true))) mi ml := by
  have h := c_holds d L mi ml s (nI i)
  have e : xb (0 ≤ nI i ∧ nI i < 64 ∧ hb s (nI i).toNatClampNeg = true) = xb (hb s i = true) := by
    unfold xb
    by_cases z : hb s i = true
    · rw [if_pos z, if_pos ((hb_P hi).mpr z)]
    · rw [if_neg z, if_neg (fun w => z ((hb_P hi).mp w))]
  rwa [e] at h
/-- who can come to a HALT, within a set -/
def hRE (ml : xml) (al : Nat → Bool) (j : Nat) : Prop := RE (hb (ml 10 7)) (fun i => hb (ml 12 i)) al j
/-- the places but q -/
def oth (q : Nat) : Int64 := xbit (nI q) ^^^ (-1)
theorem hb_oth {q j : Nat} (hq : q < 64) (hj : j < 64) : hb (oth q) j = !decide (j = q) := by unfold oth; rw [hb_not _ hj, hb_bit hq]
def fP (ml b : xml) (i : Nat) : Prop := (∀ x, x ≠ 13 → x ≠ 10 → b x = ml x) ∧ b 10 7 = ml 10 7 ∧ (∀ j, j < 64 → (hb (b 10 8) j = true ↔ hRE ml (hb (-1)) j)) ∧ ∀ q, q < i → ∀ j, j < 64 → (hb (b 13 q) j = true ↔ hb (b 10 8) j = true ∧ j ≠ q ∧ ¬ hRE ml (hb (oth q)) j)
theorem fP.next {ml b : xml} {i : Nat} {R : Int64} (h : fP ml b i) (hi : i < 64) (hR : ∀ j, j < 64 → (hb R j = true ↔ hRE ml (hb (oth i)) j)) : fP ml (xU b 13 i ((b 10 8 &&& oth i) &&& (R ^^^ (-1)))) (i + 1) := by
  obtain ⟨h1, h2, h3, h4⟩ := h
  refine ⟨fun x x1 x2 => by rw [xU_ne x1]; exact h1 x x1 x2, by rw [xU_ne (by decide)]; exact h2, fun j hj => by rw [xU_ne (by decide)]; exact h3 j hj, fun q hq j hj => ?_⟩
  rw [xU_ne (show (10 : Nat) ≠ 13 by decide), xU_at]
  by_cases z : q = i
  · subst z
    rw [va_up_self, hb_and, hb_and, hb_oth hi hj, hb_not _ hj]
    have := hR j hj
    cases hr : hb R j with
    | true => rw [hr] at this; simp [this.mp rfl]
    | false =>
      rw [hr] at this
      have hn : ¬ hRE ml (hb (oth q)) j := fun w => by have := this.mpr w; cases this
      simp [hn]
  · rw [va_up_ne _ _ z]; exact h4 q (by omega) j hj
set_option maxRecDepth 100000 in
set_option maxHeartbeats 1000000 in
theorem findPassing_20 (d L : Nat) (mi : xmi) (ml : xml) {n : Nat} {K T : Nat → Nat} (hP : PRG mi n K T) : ∀ (f i : Nat), i ≤ n → n - i < f → ∀ b : xml, fP ml b i → xB (d + 3) mX0_findPassing L (fun rr a b => rr = none ∧ a = mi ∧ fP ml b n) (20, [(0, .ref 10), (1, .int (nI i))], [], XM L mi b) := by
  have hn64 := hP.2.1
  intro f
  induction f with
  | zero => intro i h1 h2; omega
  | succ f ih =>
    intro i hle hlt b hE
    refine xB.go 3 (25, [(0, .ref 10), (1, .int (nI i))], [.ref 1, .int (nI i)], XM L mi b) rfl ?_
    refine xB.c1 40 [.ref 1] [.int (nI i)] (c_size _ L _ _) rfl ?_
    refine xB.cg (28, [(0, .ref 10), (1, .int (nI i))], [.int (nI n), .int (nI i)], XM L mi b) (by rw [hP.1]) ?_
    refine xB.bp ((nI n) ≤ (nI i)) (75, [(0, .ref 10), (1, .int (nI i))], [], XM L mi b) (31, [(0, .ref 10), (1, .int (nI i))], [], XM L mi b) rfl (fun h1 => ?_) (fun h1 => ?_)
    · refine xB.rt none mi b rfl ?_
      have hge : n ≤ i := (nI_leI (by omega) (by omega)).mp h1
      obtain rfl : i = n := by omega
      exact ⟨rfl, rfl, hE⟩
    · have hin : i < n := (nI_ltI (by omega) (by omega)).mp (i_nle.mp h1)
      have hi64 : i < 64 := by omega
      refine xB.go 1 (32, [(0, .ref 10), (1, .int (nI i))], [.int (nI i)], XM L mi b) rfl ?_
      refine xB.c1 88 [.int (nI i)] [] (c_bit _ L mi b (nI i) ) rfl ?_
      refine xB.go 15 (60, [(0, .ref 10), (1, .int (nI i)), (2, .long ((xbit (nI i)) ^^^ (-1)))], [.long ((xbit (nI i)) ^^^ (-1)), .ref 12, .long (b 10 7), .long ((b 10 8) &&& ((xbit (nI i)) ^^^ (-1))), .int (nI i), .ref 13], XM L mi b) rfl ?_
      refine xB.ca 8 [.long (b 10 7), .ref 12, .long ((xbit (nI i)) ^^^ (-1))] [.long ((b 10 8) &&& ((xbit (nI i)) ^^^ (-1))), .int (nI i), .ref 13] (c_reach12 _ L _ _ _ _) rfl ?_
      intro rr a0 b0 hq0
      obtain ⟨ha0, hb0, Rr, rfl, hR⟩ := hq0
      rw [ha0, hb0]
      show xB _ _ L _ (63, [(0, .ref 10), (1, .int (nI i)), (2, .long ((xbit (nI i)) ^^^ (-1)))], [.long Rr, .long ((b 10 8) &&& ((xbit (nI i)) ^^^ (-1))), .int (nI i), .ref 13], XM L mi b)
      refine xB.go 3 (68, [(0, .ref 10), (1, .int (nI i)), (2, .long ((xbit (nI i)) ^^^ (-1)))], [.long (((b 10 8) &&& ((xbit (nI i)) ^^^ (-1))) &&& (Rr ^^^ (-1))), .int (nI i), .ref 13], XM L mi b) rfl ?_
      refine xB.ck (xin (nI i) 64) (69, [(0, .ref 10), (1, .int (nI i)), (2, .long ((xbit (nI i)) ^^^ (-1)))], [], XM L mi (xU b 13 (nI i).toNatClampNeg (((b 10 8) &&& ((xbit (nI i)) ^^^ (-1))) &&& (Rr ^^^ (-1))))) rfl (xin_of hi64 (by decide) rfl) ?_
      refine xB.go 2 (20, [(0, .ref 10), (1, .int ((nI i) + 1)), (2, .long ((xbit (nI i)) ^^^ (-1)))], [], XM L mi (xU b 13 (nI i).toNatClampNeg (((b 10 8) &&& ((xbit (nI i)) ^^^ (-1))) &&& (Rr ^^^ (-1))))) rfl ?_
      refine xB.fo [(0, .ref 10), (1, .int (nI i + 1))] (by simp) ?_
      rw [nI_1, nI_clamp (by omega)]
      refine ih (i + 1) (by omega) (by omega) _ (hE.next hi64 (fun j hj => ?_))
      rw [hR j hj, hE.2.1, hE.1 12 (by decide) (by decide)]
      exact Iff.rfl
set_option maxRecDepth 100000 in
set_option maxHeartbeats 1000000 in
theorem c_findPassing (d L : Nat) (mi : xmi) (ml : xml) {n : Nat} {K T : Nat → Nat} (hP : PRG mi n K T) : xF (d + 4) 6 [.ref 10] L mi ml (fun rr a b => rr = none ∧ a = mi ∧ fP ml b n) := by
  refine xF.mk mX0_findPassing rfl rfl ?_
  refine xB.go 6 (12, [(0, .ref 10)], [.long (-1), .ref 12, .long (ml 10 7), .ref 10], XM L mi ml) rfl ?_
  refine xB.ca 8 [.long (ml 10 7), .ref 12, .long (-1)] [.ref 10] (c_reach12 _ L _ _ _ _) rfl ?_
  intro rr a0 b0 hq0
  obtain ⟨ha0, hb0, Rr, rfl, hR⟩ := hq0
  rw [ha0, hb0]
  show xB _ _ L _ (15, [(0, .ref 10)], [.long Rr, .ref 10], XM L mi ml)
  refine xB.go 3 (20, [(0, .ref 10), (1, .int 0)], [], XM L mi (xU ml 10 8 Rr)) rfl ?_
  exact findPassing_20 d L _ _ hP (n + 1) 0 (Nat.zero_le _) (by omega) _ ⟨fun x x1 x2 => xU_ne x2, rfl, fun j hj => hR j hj, fun q hq => absurd hq (Nat.not_lt_zero _)⟩
/-- what nearestFor answers at p -/
def NF (n : Nat) (ml : xml) (p : Nat) (v : Int32) : Prop := (hb (ml 10 8) p = false ∧ v = -1) ∨ (hb (ml 10 8) p = true ∧ ∃ N : Int64, (∀ x, x < 64 → (hb N x = true ↔ (x < n ∧ hb (ml 13 x) p = true) ∧ ∀ q, q < n → hb (ml 13 q) p = true → hb (ml 13 q) x = true ∨ x = q)) ∧ ((N = 0 ∧ v = nI n) ∨ (N ≠ 0 ∧ v = nI (xlow N))))
def nI_ (ml : xml) (p i : Nat) (D B : Int64) : Prop := (∀ x, x < 64 → (hb D x = true ↔ x < i ∧ hb (ml 13 x) p = true)) ∧ (∀ x, x < 64 → (hb B x = true ↔ ∀ q, q < i → hb (ml 13 q) p = true → hb (ml 13 q) x = true ∨ x = q))
theorem nI_.skip {ml : xml} {p i : Nat} {D B : Int64} (h : nI_ ml p i D B) (hn : ¬ hb (ml 13 i) p = true) : nI_ ml p (i + 1) D B := by
  refine ⟨fun x hx => ?_, fun x hx => ?_⟩
  · rw [h.1 x hx]
    exact ⟨fun g => ⟨by omega, g.2⟩, fun g => ⟨by
      rcases Nat.lt_or_ge x i with z | z
      · exact z
      · have : x = i := by omega
        subst this; exact absurd g.2 hn, g.2⟩⟩
  · rw [h.2 x hx]
    exact ⟨fun g q hq hh => by
      by_cases z : q = i
      · subst z; exact absurd hh hn
      · exact g q (by omega) hh, fun g q hq => g q (by omega)⟩
theorem nI_.next {ml : xml} {p i : Nat} {D B : Int64} (h : nI_ ml p i D B) (hi : i < 64) (hy : hb (ml 13 i) p = true) : nI_ ml p (i + 1) (D ||| xbit (nI i)) (B &&& (ml 13 i ||| xbit (nI i))) := by
  refine ⟨fun x hx => ?_, fun x hx => ?_⟩
  · rw [hb_or, hb_bit hi, Bool.or_eq_true, h.1 x hx]
    constructor
    · rintro (g | g)
      · exact ⟨by omega, g.2⟩
      · have : x = i := by simpa using g
        subst this; exact ⟨by omega, hy⟩
    · rintro ⟨g1, g2⟩
      by_cases z : x = i
      · right; simpa using z
      · left; exact ⟨by omega, g2⟩
  · rw [hb_and, hb_or, hb_bit hi, Bool.and_eq_true, Bool.or_eq_true, h.2 x hx]
    constructor
    · rintro ⟨g1, g2⟩ q hq hh
      by_cases z : q = i
      · subst z; simpa using g2
      · exact g1 q (by omega) hh
    · intro g
      exact ⟨fun q hq => g q (by omega), by have := g i (by omega) hy; simpa using this⟩
set_option maxRecDepth 100000 in
set_option maxHeartbeats 1000000 in
theorem nearestFor_23 (d L : Nat) (mi : xmi) (ml : xml) {n : Nat} {K T : Nat → Nat} (hP : PRG mi n K T) {p : Nat} (hp64 : p < 64) (hhal : hb (ml 10 8) p = true) : ∀ (f i : Nat), i ≤ n → n - i < f → ∀ D B : Int64, nI_ ml p i D B → xB (d + 2) mX0_nearestFor L (fun rr a b => a = mi ∧ b = ml ∧ ∃ v, rr = some (.int v) ∧ NF n ml p v) (23, [(0, .ref 10), (1, .int (nI p)), (2, .long D), (4, .long B), (6, .int (nI i))], [], XM L mi ml) := by
  have hn64 := hP.2.1
  intro f
  induction f with
  | zero => intro i h1 h2; omega
  | succ f ih =>
    intro i hle hlt D B hI
    refine xB.go 3 (29, [(0, .ref 10), (1, .int (nI p)), (2, .long D), (4, .long B), (6, .int (nI i))], [.ref 1, .int (nI i)], XM L mi ml) rfl ?_
    refine xB.c1 40 [.ref 1] [.int (nI i)] (c_size _ L _ _) rfl ?_
    refine xB.cg (32, [(0, .ref 10), (1, .int (nI p)), (2, .long D), (4, .long B), (6, .int (nI i))], [.int (nI n), .int (nI i)], XM L mi ml) (by rw [hP.1]) ?_
    refine xB.bp ((nI n) ≤ (nI i)) (81, [(0, .ref 10), (1, .int (nI p)), (2, .long D), (4, .long B), (6, .int (nI i))], [], XM L mi ml) (35, [(0, .ref 10), (1, .int (nI p)), (2, .long D), (4, .long B), (6, .int (nI i))], [], XM L mi ml) rfl (fun h1 => ?_) (fun h1 => ?_)
    · refine xB.go 7 (91, [(0, .ref 10), (1, .int (nI p)), (2, .long D), (4, .long B), (6, .long (D &&& B))], [.int (lg_cmp (D &&& B) 0)], XM L mi ml) rfl ?_
      refine xB.ln (D &&& B) 0 (104, [(0, .ref 10), (1, .int (nI p)), (2, .long D), (4, .long B), (6, .long (D &&& B))], [], XM L mi ml) (94, [(0, .ref 10), (1, .int (nI p)), (2, .long D), (4, .long B), (6, .long (D &&& B))], [], XM L mi ml) rfl (fun h2 => ?_) (fun h2 => ?_)
      · refine xB.go 1 (106, [(0, .ref 10), (1, .int (nI p)), (2, .long D), (4, .long B), (6, .long (D &&& B))], [.long (D &&& B)], XM L mi ml) rfl ?_
        refine xB.c1 90 [.long (D &&& B)] [] (c_lowest _ L mi ml (D &&& B) ) rfl ?_
        refine xB.rt (some (.int (xbc (((D &&& B) &&& -(D &&& B)) - 1)))) mi ml rfl ?_
        have hge : n ≤ i := (nI_leI (by omega) (by omega)).mp h1
        obtain rfl : i = n := by omega
        have hN : ∀ x, x < 64 → (hb (D &&& B) x = true ↔ (x < i ∧ hb (ml 13 x) p = true) ∧ ∀ q, q < i → hb (ml 13 q) p = true → hb (ml 13 q) x = true ∨ x = q) := fun x hx => by rw [hb_and, Bool.and_eq_true, hI.1 x hx, hI.2 x hx]
        exact ⟨rfl, rfl, _, rfl, Or.inr ⟨hhal, D &&& B, hN, Or.inr ⟨h2, xbc_of h2⟩⟩⟩
      · refine xB.go 2 (98, [(0, .ref 10), (1, .int (nI p)), (2, .long D), (4, .long B), (6, .long (D &&& B))], [.ref 1], XM L mi ml) rfl ?_
        refine xB.c1 40 [.ref 1] [] (c_size _ L _ _) rfl ?_
        refine xB.go 1 (109, [(0, .ref 10), (1, .int (nI p)), (2, .long D), (4, .long B), (6, .long (D &&& B))], [.int (mi 1 2)], XM L mi ml) rfl ?_
        refine xB.rt (some (.int (mi 1 2))) mi ml rfl ?_
        have hge : n ≤ i := (nI_leI (by omega) (by omega)).mp h1
        obtain rfl : i = n := by omega
        have hN : ∀ x, x < 64 → (hb (D &&& B) x = true ↔ (x < i ∧ hb (ml 13 x) p = true) ∧ ∀ q, q < i → hb (ml 13 q) p = true → hb (ml 13 q) x = true ∨ x = q) := fun x hx => by rw [hb_and, Bool.and_eq_true, hI.1 x hx, hI.2 x hx]
        exact ⟨rfl, rfl, _, rfl, Or.inr ⟨hhal, D &&& B, hN, Or.inl ⟨h2, hP.1⟩⟩⟩
    · have hin : i < n := (nI_ltI (by omega) (by omega)).mp (i_nle.mp h1)
      have hi64 : i < 64 := by omega
      refine xB.go 3 (41, [(0, .ref 10), (1, .int (nI p)), (2, .long D), (4, .long B), (6, .int (nI i))], [.int (nI i), .ref 13], XM L mi ml) rfl ?_
      refine xB.ck (xin (nI i) 64) (42, [(0, .ref 10), (1, .int (nI p)), (2, .long D), (4, .long B), (6, .int (nI i))], [.long (ml 13 (nI i).toNatClampNeg)], XM L mi ml) rfl (xin_of hi64 (by decide) rfl) ?_
      refine xB.go 1 (43, [(0, .ref 10), (1, .int (nI p)), (2, .long D), (4, .long B), (6, .int (nI i))], [.int (nI p), .long (ml 13 (nI i).toNatClampNeg)], XM L mi ml) rfl ?_
      refine xB.c1 89 [.long (ml 13 (nI i).toNatClampNeg), .int (nI p)] [] (c_holdsN _ L _ _ (ml 13 (nI i).toNatClampNeg) hp64) rfl ?_
      refine xB.bz (hb (ml 13 (nI i).toNatClampNeg) p = true) (75, [(0, .ref 10), (1, .int (nI p)), (2, .long D), (4, .long B), (6, .int (nI i))], [], XM L mi ml) (49, [(0, .ref 10), (1, .int (nI p)), (2, .long D), (4, .long B), (6, .int (nI i))], [], XM L mi ml) rfl (fun h3 => ?_) (fun h3 => ?_)
      · refine xB.go 2 (23, [(0, .ref 10), (1, .int (nI p)), (2, .long D), (4, .long B), (6, .int ((nI i) + 1))], [], XM L mi ml) rfl ?_
        refine xB.fo [(0, .ref 10), (1, .int (nI p)), (2, .long D), (4, .long B), (6, .int (nI i + 1))] (by simp) ?_
        rw [nI_1]
        rw [nI_clamp (by omega)] at h3
        exact ih (i + 1) (by omega) (by omega) D B (hI.skip h3)
      · refine xB.go 2 (52, [(0, .ref 10), (1, .int (nI p)), (2, .long D), (4, .long B), (6, .int (nI i))], [.int (nI i), .long D], XM L mi ml) rfl ?_
        refine xB.c1 88 [.int (nI i)] [.long D] (c_bit _ L mi ml (nI i) ) rfl ?_
        refine xB.go 6 (65, [(0, .ref 10), (1, .int (nI p)), (2, .long (D ||| (xbit (nI i)))), (4, .long B), (6, .int (nI i))], [.int (nI i), .ref 13, .long B], XM L mi ml) rfl ?_
        refine xB.ck (xin (nI i) 64) (66, [(0, .ref 10), (1, .int (nI p)), (2, .long (D ||| (xbit (nI i)))), (4, .long B), (6, .int (nI i))], [.long (ml 13 (nI i).toNatClampNeg), .long B], XM L mi ml) rfl (xin_of hi64 (by decide) rfl) ?_
        refine xB.go 1 (68, [(0, .ref 10), (1, .int (nI p)), (2, .long (D ||| (xbit (nI i)))), (4, .long B), (6, .int (nI i))], [.int (nI i), .long (ml 13 (nI i).toNatClampNeg), .long B], XM L mi ml) rfl ?_
        refine xB.c1 88 [.int (nI i)] [.long (ml 13 (nI i).toNatClampNeg), .long B] (c_bit _ L mi ml (nI i) ) rfl ?_
        refine xB.go 5 (23, [(0, .ref 10), (1, .int (nI p)), (2, .long (D ||| (xbit (nI i)))), (4, .long (B &&& ((ml 13 (nI i).toNatClampNeg) ||| (xbit (nI i))))), (6, .int ((nI i) + 1))], [], XM L mi ml) rfl ?_
        refine xB.fo [(0, .ref 10), (1, .int (nI p)), (2, .long (D ||| (xbit (nI i)))), (4, .long (B &&& ((ml 13 (nI i).toNatClampNeg) ||| (xbit (nI i))))), (6, .int (nI i + 1))] (by simp) ?_
        rw [nI_1]
        rw [nI_clamp (by omega)] at h3 ⊢
        exact ih (i + 1) (by omega) (by omega) _ _ (hI.next hi64 h3)
set_option maxRecDepth 100000 in
set_option maxHeartbeats 1000000 in
theorem c_nearestFor (d L : Nat) (mi : xmi) (ml : xml) {n : Nat} {K T : Nat → Nat} (hP : PRG mi n K T) {p : Nat} (hp64 : p < 64) : xF (d + 3) 7 [.ref 10, .int (nI p)] L mi ml (fun rr a b => a = mi ∧ b = ml ∧ ∃ v, rr = some (.int v) ∧ NF n ml p v) := by
  refine xF.mk mX0_nearestFor rfl rfl ?_
  refine xB.go 3 (5, [(0, .ref 10), (1, .int (nI p))], [.int (nI p), .long (ml 10 8)], XM L mi ml) rfl ?_
  refine xB.c1 89 [.long (ml 10 8), .int (nI p)] [] (c_holdsN _ L _ _ (ml 10 8) hp64) rfl ?_
  refine xB.bn (hb (ml 10 8) p = true) (13, [(0, .ref 10), (1, .int (nI p))], [], XM L mi ml) (11, [(0, .ref 10), (1, .int (nI p))], [], XM L mi ml) rfl (fun h1 => ?_) (fun h1 => ?_)
  · refine xB.go 6 (23, [(0, .ref 10), (1, .int (nI p)), (2, .long 0), (4, .long (-1)), (6, .int 0)], [], XM L mi ml) rfl ?_
    exact nearestFor_23 d L mi ml hP hp64 h1 (n + 1) 0 (Nat.zero_le _) (by omega) 0 (-1) ⟨fun x hx => by rw [hb_0]; exact ⟨(fun z => by cases z), fun z => absurd z.1 (Nat.not_lt_zero _)⟩, fun x hx => by rw [hb_m1 hx]; exact ⟨fun _ q hq => absurd hq (Nat.not_lt_zero _), fun _ => rfl⟩⟩
  · refine xB.go 1 (12, [(0, .ref 10), (1, .int (nI p))], [.int (-1)], XM L mi ml) rfl ?_
    refine xB.rt (some (.int (-1))) mi ml rfl ?_
    refine ⟨rfl, rfl, -1, rfl, Or.inl ⟨?_, rfl⟩⟩
    cases z : hb (ml 10 8) p with
    | false => rfl
    | true => exact absurd z h1
