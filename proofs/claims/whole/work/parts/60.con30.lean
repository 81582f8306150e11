/-! the reference: levels -/
def TG (g : Nat → Nat → Nat → Bool) (a : xmi) : Prop := ∀ j k, j < 64 → k ≤ 16 → a 40 (tix j k) = lv2 (g 0 j k) (g 1 j k)
theorem tix_lt {j k : Nat} (h : k < 16) : tix j k = 64 + (16 * j + k) := if_pos h
theorem tix16 {j : Nat} : tix j 16 = j := rfl
theorem TG.p {g : Nat → Nat → Nat → Bool} {a : xmi} (h : TG g a) {j k : Nat} (hj : j < 64) (hk : k < 16) : a 40 (64 + (16 * j + k)) = lv2 (g 0 j k) (g 1 j k) := by rw [← tix_lt hk]; exact h j k hj (by omega)
theorem TG.s {g : Nat → Nat → Nat → Bool} {a : xmi} (h : TG g a) {j : Nat} (hj : j < 64) : a 40 j = lv2 (g 0 j 16) (g 1 j 16) := h j 16 hj (Nat.le_refl _)
def tkG (K : Nat → Nat) (g : Nat → Nat → Nat → Bool) (b i h : Nat) : Bool := anyr (fun k => g b i k) (h - tk (K i)) (tk (K i))
theorem pl_ix {i k : Nat} (hi : i < 64) (hk : k < 16) : 64 + 16 * nI i + nI k = nI (64 + (16 * i + k)) := by
  have key : ∀ i, i < 64 → 64 + 16 * nI i = nI (64 + 16 * i) := by decide +kernel
  rw [key i hi, nI_addX, Nat.add_assoc]
set_option maxRecDepth 100000 in
theorem c_pileOf (d L : Nat) (mi : xmi) (ml : xml) (x y : Int32)  : xFv (d + 1) 109 [.ref 32, .int x, .int y] L mi ml (.int (64 + 16 * x + y)) mi ml := by
  refine xF.mk mX9_pileOf rfl rfl ?_
  refine xB.go 7 (9, [(0, .ref 32), (1, .int x), (2, .int y)], [.int ((64 + (16 * x)) + y)], XM L mi ml) rfl ?_
  refine xB.rt (some (.int ((64 + (16 * x)) + y))) mi ml rfl ?_
  exact ⟨rfl, rfl, rfl⟩
theorem c_pileN (d L : Nat) (mi : xmi) (ml : xml) {i k : Nat} (hi : i < 64) (hk : k < 16) : xFv (d + 1) 109 [.ref 32, .int (nI i), .int (nI k)] L mi ml (.int (nI (64 + (16 * i + k)))) mi ml := by
  have h := c_pileOf d L mi ml (nI i) (nI k)
  rwa [pl_ix hi hk] at h
set_option maxRecDepth 100000 in
set_option maxHeartbeats 1000000 in
theorem c_grows (d L : Nat) (mi : xmi) (ml : xml) {t : Nat} (ht : t < 1088) (y : Int32) : xFv (d + 1) 110 [.ref 32, .int (nI t), .int y] L mi ml (.int (xb (¬ (mi 40 t ||| y) = mi 40 t))) (xU mi 40 t (mi 40 t ||| y)) ml := by
  refine xF.mk mX9_grows rfl rfl ?_
  refine xB.go 3 (5, [(0, .ref 32), (1, .int (nI t)), (2, .int y)], [.int (nI t), .ref 40], XM L mi ml) rfl ?_
  refine xB.ck (xin (nI t) 1088) (6, [(0, .ref 32), (1, .int (nI t)), (2, .int y)], [.int (mi 40 (nI t).toNatClampNeg)], XM L mi ml) rfl (xin_of ht (by decide) rfl) ?_
  refine xB.go 7 (15, [(0, .ref 32), (1, .int (nI t)), (2, .int y), (3, .int (mi 40 (nI t).toNatClampNeg))], [.int ((mi 40 (nI t).toNatClampNeg) ||| y), .int (nI t), .ref 40], XM L mi ml) rfl ?_
  refine xB.ck (xin (nI t) 1088) (16, [(0, .ref 32), (1, .int (nI t)), (2, .int y), (3, .int (mi 40 (nI t).toNatClampNeg))], [], XM L (xU mi 40 (nI t).toNatClampNeg ((mi 40 (nI t).toNatClampNeg) ||| y)) ml) rfl (xin_of ht (by decide) rfl) ?_
  refine xB.go 3 (21, [(0, .ref 32), (1, .int (nI t)), (2, .int y), (3, .int (mi 40 (nI t).toNatClampNeg))], [.int (nI t), .ref 40], XM L (xU mi 40 (nI t).toNatClampNeg ((mi 40 (nI t).toNatClampNeg) ||| y)) ml) rfl ?_
  refine xB.ck (xin (nI t) 1088) (22, [(0, .ref 32), (1, .int (nI t)), (2, .int y), (3, .int (mi 40 (nI t).toNatClampNeg))], [.int ((xU mi 40 (nI t).toNatClampNeg ((mi 40 (nI t).toNatClampNeg) ||| y)) 40 (nI t).toNatClampNeg)], XM L (xU mi 40 (nI t).toNatClampNeg ((mi 40 (nI t).toNatClampNeg) ||| y)) ml) rfl (xin_of ht (by decide) rfl) ?_
  refine xB.cg (22, [(0, .ref 32), (1, .int (nI t)), (2, .int y), (3, .int (mi 40 (nI t).toNatClampNeg))], [.int ((mi 40 t) ||| y)], XM L (xU mi 40 (nI t).toNatClampNeg ((mi 40 (nI t).toNatClampNeg) ||| y)) ml) (by rw [xU_self, nI_clamp (by omega)]) ?_
  refine xB.cg (22, [(0, .ref 32), (1, .int (nI t)), (2, .int y), (3, .int (mi 40 t))], [.int ((mi 40 t) ||| y)], XM L (xU mi 40 t ((mi 40 t) ||| y)) ml) (by rw [nI_clamp (by omega)]) ?_
  refine xB.go 1 (23, [(0, .ref 32), (1, .int (nI t)), (2, .int y), (3, .int (mi 40 t))], [.int (mi 40 t), .int ((mi 40 t) ||| y)], XM L (xU mi 40 t ((mi 40 t) ||| y)) ml) rfl ?_
  refine xB.bp (((mi 40 t) ||| y) = (mi 40 t)) (30, [(0, .ref 32), (1, .int (nI t)), (2, .int y), (3, .int (mi 40 t))], [], XM L (xU mi 40 t ((mi 40 t) ||| y)) ml) (26, [(0, .ref 32), (1, .int (nI t)), (2, .int y), (3, .int (mi 40 t))], [], XM L (xU mi 40 t ((mi 40 t) ||| y)) ml) rfl (fun h1 => ?_) (fun h1 => ?_)
  · refine xB.go 1 (31, [(0, .ref 32), (1, .int (nI t)), (2, .int y), (3, .int (mi 40 t))], [.int 0], XM L (xU mi 40 t ((mi 40 t) ||| y)) ml) rfl ?_
    refine xB.rt (some (.int 0)) (xU mi 40 t ((mi 40 t) ||| y)) ml rfl ?_
    exact ⟨by rw [xb_f (fun z => z h1)], rfl, rfl⟩
  · refine xB.go 2 (31, [(0, .ref 32), (1, .int (nI t)), (2, .int y), (3, .int (mi 40 t))], [.int 1], XM L (xU mi 40 t ((mi 40 t) ||| y)) ml) rfl ?_
    refine xB.rt (some (.int 1)) (xU mi 40 t ((mi 40 t) ||| y)) ml rfl ?_
    exact ⟨by rw [xb_t h1], rfl, rfl⟩
set_option maxRecDepth 100000 in
set_option maxHeartbeats 1000000 in
theorem mtaken_15 (d L : Nat) (mi : xmi) (ml : xml) {n : Nat} {K T : Nat → Nat} (hP : PRM mi n K T) {i h : Nat} (hin : i < n) (hh : mi 37 i = nI h) (h16 : h ≤ 16) (htk : tk (K i) ≤ h) {g : Nat → Nat → Nat → Bool} (hT : TG g mi) {lo : Nat} (hlo : lo = h - tk (K i)) : ∀ (f c : Nat), c ≤ tk (K i) → tk (K i) - c < f → xB (d + 1) mX9_taken L (fun rr x y => rr = some (.int (lv2 (tkG K g 0 i h) (tkG K g 1 i h))) ∧ x = mi ∧ y = ml) (15, [(0, .ref 32), (1, .int (nI i)), (2, .int (lv2 (anyr (fun k => g 0 i k) lo c) (anyr (fun k => g 1 i k) lo c))), (3, .int (nI (lo + c)))], [], XM L mi ml) := by
  have hi64 : i < 64 := Nat.lt_of_lt_of_le hin hP.2.1
  intro f
  induction f with
  | zero => intro c h1 h2; omega
  | succ f ih =>
    intro c hle hlt
    refine xB.go 4 (21, [(0, .ref 32), (1, .int (nI i)), (2, .int (lv2 (anyr (fun k => g 0 i k) lo c) (anyr (fun k => g 1 i k) lo c))), (3, .int (nI (lo + c)))], [.int (nI i), .ref 37, .int (nI (lo + c))], XM L mi ml) rfl ?_
    refine xB.ck (xin (nI i) 64) (22, [(0, .ref 32), (1, .int (nI i)), (2, .int (lv2 (anyr (fun k => g 0 i k) lo c) (anyr (fun k => g 1 i k) lo c))), (3, .int (nI (lo + c)))], [.int (mi 37 (nI i).toNatClampNeg), .int (nI (lo + c))], XM L mi ml) rfl (xin_of (j := i) (by omega) (by decide) rfl) ?_
    refine xB.cg (22, [(0, .ref 32), (1, .int (nI i)), (2, .int (lv2 (anyr (fun k => g 0 i k) lo c) (anyr (fun k => g 1 i k) lo c))), (3, .int (nI (lo + c)))], [.int (nI h), .int (nI (lo + c))], XM L mi ml) (by rw [nI_clamp (by omega), hh]) ?_
    refine xB.bp ((nI h) ≤ (nI (lo + c))) (45, [(0, .ref 32), (1, .int (nI i)), (2, .int (lv2 (anyr (fun k => g 0 i k) lo c) (anyr (fun k => g 1 i k) lo c))), (3, .int (nI (lo + c)))], [], XM L mi ml) (25, [(0, .ref 32), (1, .int (nI i)), (2, .int (lv2 (anyr (fun k => g 0 i k) lo c) (anyr (fun k => g 1 i k) lo c))), (3, .int (nI (lo + c)))], [], XM L mi ml) rfl (fun h1 => ?_) (fun h1 => ?_)
    · refine xB.go 1 (46, [(0, .ref 32), (1, .int (nI i)), (2, .int (lv2 (anyr (fun k => g 0 i k) lo c) (anyr (fun k => g 1 i k) lo c))), (3, .int (nI (lo + c)))], [.int (lv2 (anyr (fun k => g 0 i k) lo c) (anyr (fun k => g 1 i k) lo c))], XM L mi ml) rfl ?_
      refine xB.rt (some (.int (lv2 (anyr (fun k => g 0 i k) lo c) (anyr (fun k => g 1 i k) lo c)))) mi ml rfl ?_
      have hge : h ≤ lo + c := (nI_leI (by omega) (by omega)).mp h1
      obtain rfl : c = tk (K i) := by omega
      subst hlo
      exact ⟨rfl, rfl, rfl⟩
    · have hlt2 : lo + c < h := (nI_ltI (by omega) (by omega)).mp (i_nle.mp h1)
      have hk16 : lo + c < 16 := by omega
      refine xB.go 6 (33, [(0, .ref 32), (1, .int (nI i)), (2, .int (lv2 (anyr (fun k => g 0 i k) lo c) (anyr (fun k => g 1 i k) lo c))), (3, .int (nI (lo + c)))], [.int (nI (lo + c)), .int (nI i), .ref 32, .ref 40, .int (lv2 (anyr (fun k => g 0 i k) lo c) (anyr (fun k => g 1 i k) lo c))], XM L mi ml) rfl ?_
      refine xB.c1 109 [.ref 32, .int (nI i), .int (nI (lo + c))] [.ref 40, .int (lv2 (anyr (fun k => g 0 i k) lo c) (anyr (fun k => g 1 i k) lo c))] (c_pileN _ L _ _ hi64 hk16) rfl ?_
      refine xB.ck (xin (nI (64 + (16 * i + (lo + c)))) 1088) (37, [(0, .ref 32), (1, .int (nI i)), (2, .int (lv2 (anyr (fun k => g 0 i k) lo c) (anyr (fun k => g 1 i k) lo c))), (3, .int (nI (lo + c)))], [.int (mi 40 (nI (64 + (16 * i + (lo + c)))).toNatClampNeg), .int (lv2 (anyr (fun k => g 0 i k) lo c) (anyr (fun k => g 1 i k) lo c))], XM L mi ml) rfl (xin_of (j := 64 + (16 * i + (lo + c))) (by omega) (by decide) rfl) ?_
      refine xB.go 4 (15, [(0, .ref 32), (1, .int (nI i)), (2, .int ((lv2 (anyr (fun k => g 0 i k) lo c) (anyr (fun k => g 1 i k) lo c)) ||| (mi 40 (nI (64 + (16 * i + (lo + c)))).toNatClampNeg))), (3, .int ((nI (lo + c)) + 1))], [], XM L mi ml) rfl ?_
      rw [nI_1, nI_clamp (by omega), hT.p hi64 hk16, lv2_or]
      exact ih (c + 1) (by omega) (by omega)
set_option maxRecDepth 100000 in
set_option maxHeartbeats 1000000 in
theorem c_mtaken (d L : Nat) (mi : xmi) (ml : xml) {n : Nat} {K T : Nat → Nat} (hP : PRM mi n K T) {i h : Nat} (hin : i < n) (hh : mi 37 i = nI h) (h16 : h ≤ 16) (htk : tk (K i) ≤ h) {g : Nat → Nat → Nat → Bool} (hT : TG g mi) : xFv (d + 2) 111 [.ref 32, .int (nI i)] L mi ml (.int (lv2 (tkG K g 0 i h) (tkG K g 1 i h))) mi ml := by
  have hi64 : i < 64 := Nat.lt_of_lt_of_le hin hP.2.1
  refine xF.mk mX9_taken rfl rfl ?_
  refine xB.go 5 (7, [(0, .ref 32), (1, .int (nI i)), (2, .int 0)], [.int (nI i), .ref 37], XM L mi ml) rfl ?_
  refine xB.ck (xin (nI i) 64) (8, [(0, .ref 32), (1, .int (nI i)), (2, .int 0)], [.int (mi 37 (nI i).toNatClampNeg)], XM L mi ml) rfl (xin_of hi64 (by decide) rfl) ?_
  refine xB.cg (8, [(0, .ref 32), (1, .int (nI i)), (2, .int 0)], [.int (nI h)], XM L mi ml) (by rw [nI_clamp (by omega), hh]) ?_
  refine xB.go 2 (10, [(0, .ref 32), (1, .int (nI i)), (2, .int 0)], [.int (nI i), .ref 32, .int (nI h)], XM L mi ml) rfl ?_
  refine xB.c1 97 [.ref 32, .int (nI i)] [.int (nI h)] (c_mtakes _ L _ _ hP hin) rfl ?_
  refine xB.go 1 (14, [(0, .ref 32), (1, .int (nI i)), (2, .int 0)], [.int ((nI h) - (nI (tk (K i))))], XM L mi ml) rfl ?_
  refine xB.cg (14, [(0, .ref 32), (1, .int (nI i)), (2, .int 0)], [.int (nI (h - tk (K i)))], XM L mi ml) (by rw [nI_subeq htk]) ?_
  refine xB.go 1 (15, [(0, .ref 32), (1, .int (nI i)), (2, .int 0), (3, .int (nI (h - tk (K i))))], [], XM L mi ml) rfl ?_
  exact mtaken_15 d L mi ml hP hin hh h16 htk hT (lo := h - tk (K i)) rfl (tk (K i) + 1) 0 (Nat.zero_le _) (by omega)
set_option maxRecDepth 100000 in
set_option maxHeartbeats 1000000 in
theorem c_mput (d L : Nat) (mi : xmi) (ml : xml) {n : Nat} {K T : Nat → Nat} (hP : PRM mi n K T) {i h : Nat} (hin : i < n) (hh : mi 37 i = nI h) (h16 : h ≤ 16) (htk : tk (K i) ≤ h) {g : Nat → Nat → Nat → Bool} (hT : TG g mi) {vL aL cL : Nat → Nat → Bool} (hN : NUMm mi n K T) (hV : LEVm mi vL aL cL) : xFv (d + 3) 112 [.ref 32, .int (nI i)] L mi ml (.int (lv2 (g 0 i 16 || tkG K g 0 i h || rd K T vL aL 0 i) (g 1 i 16 || tkG K g 1 i h || rd K T vL aL 1 i))) mi ml := by
  have hk := (hP.2.2.1 i hin).2
  have hi64 : i < 64 := Nat.lt_of_lt_of_le hin hP.2.1
  refine xF.mk mX9_put rfl rfl ?_
  refine xB.go 3 (5, [(0, .ref 32), (1, .int (nI i))], [.int (nI i), .ref 40], XM L mi ml) rfl ?_
  refine xB.ck (xin (nI i) 1088) (6, [(0, .ref 32), (1, .int (nI i))], [.int (mi 40 (nI i).toNatClampNeg)], XM L mi ml) rfl (xin_of (j := i) (by omega) (by decide) rfl) ?_
  refine xB.go 2 (8, [(0, .ref 32), (1, .int (nI i))], [.int (nI i), .ref 32, .int (mi 40 (nI i).toNatClampNeg)], XM L mi ml) rfl ?_
  refine xB.c1 111 [.ref 32, .int (nI i)] [.int (mi 40 (nI i).toNatClampNeg)] (c_mtaken _ L _ _ hP hin hh h16 htk hT) rfl ?_
  refine xB.go 1 (12, [(0, .ref 32), (1, .int (nI i))], [.int ((mi 40 (nI i).toNatClampNeg) ||| (lv2 (tkG K g 0 i h) (tkG K g 1 i h)))], XM L mi ml) rfl ?_
  refine xB.cg (12, [(0, .ref 32), (1, .int (nI i))], [.int (lv2 (g 0 i 16 || tkG K g 0 i h) (g 1 i 16 || tkG K g 1 i h))], XM L mi ml) (by rw [nI_clamp (by omega), hT.s hi64, lv2_or]) ?_
  refine xB.go 4 (18, [(0, .ref 32), (1, .int (nI i)), (2, .int (lv2 (g 0 i 16 || tkG K g 0 i h) (g 1 i 16 || tkG K g 1 i h)))], [.int (nI i), .ref 33], XM L mi ml) rfl ?_
  refine xB.ck (xin (nI i) 64) (19, [(0, .ref 32), (1, .int (nI i)), (2, .int (lv2 (g 0 i 16 || tkG K g 0 i h) (g 1 i 16 || tkG K g 1 i h)))], [.int (mi 33 (nI i).toNatClampNeg)], XM L mi ml) rfl (xin_of hi64 (by decide) rfl) ?_
  refine xB.cg (19, [(0, .ref 32), (1, .int (nI i)), (2, .int (lv2 (g 0 i 16 || tkG K g 0 i h) (g 1 i 16 || tkG K g 1 i h)))], [.int (nI (K i))], XM L mi ml) (by rw [nI_clamp (by omega), (hP.2.2.1 i hin).1]) ?_
  refine xB.go 1 (20, [(0, .ref 32), (1, .int (nI i)), (2, .int (lv2 (g 0 i 16 || tkG K g 0 i h) (g 1 i 16 || tkG K g 1 i h)))], [.int 1, .int (nI (K i))], XM L mi ml) rfl ?_
  refine xB.bp (¬ (nI (K i)) = 1) (39, [(0, .ref 32), (1, .int (nI i)), (2, .int (lv2 (g 0 i 16 || tkG K g 0 i h) (g 1 i 16 || tkG K g 1 i h)))], [], XM L mi ml) (23, [(0, .ref 32), (1, .int (nI i)), (2, .int (lv2 (g 0 i 16 || tkG K g 0 i h) (g 1 i 16 || tkG K g 1 i h)))], [], XM L mi ml) rfl (fun h1 => ?_) (fun h1 => ?_)
  · refine xB.go 3 (44, [(0, .ref 32), (1, .int (nI i)), (2, .int (lv2 (g 0 i 16 || tkG K g 0 i h) (g 1 i 16 || tkG K g 1 i h)))], [.int (nI i), .ref 33], XM L mi ml) rfl ?_
    refine xB.ck (xin (nI i) 64) (45, [(0, .ref 32), (1, .int (nI i)), (2, .int (lv2 (g 0 i 16 || tkG K g 0 i h) (g 1 i 16 || tkG K g 1 i h)))], [.int (mi 33 (nI i).toNatClampNeg)], XM L mi ml) rfl (xin_of hi64 (by decide) rfl) ?_
    refine xB.cg (45, [(0, .ref 32), (1, .int (nI i)), (2, .int (lv2 (g 0 i 16 || tkG K g 0 i h) (g 1 i 16 || tkG K g 1 i h)))], [.int (nI (K i))], XM L mi ml) (by rw [nI_clamp (by omega), (hP.2.2.1 i hin).1]) ?_
    refine xB.go 1 (47, [(0, .ref 32), (1, .int (nI i)), (2, .int (lv2 (g 0 i 16 || tkG K g 0 i h) (g 1 i 16 || tkG K g 1 i h)))], [.int 6, .int (nI (K i))], XM L mi ml) rfl ?_
    refine xB.bp (¬ (nI (K i)) = 6) (69, [(0, .ref 32), (1, .int (nI i)), (2, .int (lv2 (g 0 i 16 || tkG K g 0 i h) (g 1 i 16 || tkG K g 1 i h)))], [], XM L mi ml) (50, [(0, .ref 32), (1, .int (nI i)), (2, .int (lv2 (g 0 i 16 || tkG K g 0 i h) (g 1 i 16 || tkG K g 1 i h)))], [], XM L mi ml) rfl (fun h2 => ?_) (fun h2 => ?_)
    · refine xB.go 1 (70, [(0, .ref 32), (1, .int (nI i)), (2, .int (lv2 (g 0 i 16 || tkG K g 0 i h) (g 1 i 16 || tkG K g 1 i h)))], [.int (lv2 (g 0 i 16 || tkG K g 0 i h) (g 1 i 16 || tkG K g 1 i h))], XM L mi ml) rfl ?_
      refine xB.rt (some (.int (lv2 (g 0 i 16 || tkG K g 0 i h) (g 1 i 16 || tkG K g 1 i h)))) mi ml rfl ?_
      have g1 := k_ne (c := 1) h1
      have g6 := k_ne (c := 6) h2
      exact ⟨by simp [rd, g1, g6], rfl, rfl⟩
    · have gk := k_eq hk (c := 6) (by decide) (Classical.not_not.mp h2)
      have hz := (hN i hin).2.1 (Or.inl gk)
      refine xB.go 7 (62, [(0, .ref 32), (1, .int (nI i)), (2, .int (lv2 (g 0 i 16 || tkG K g 0 i h) (g 1 i 16 || tkG K g 1 i h)))], [.int (nI i), .ref 34, .int 8, .ref 35, .int (lv2 (g 0 i 16 || tkG K g 0 i h) (g 1 i 16 || tkG K g 1 i h))], XM L mi ml) rfl ?_
      refine xB.ck (xin (nI i) 64) (63, [(0, .ref 32), (1, .int (nI i)), (2, .int (lv2 (g 0 i 16 || tkG K g 0 i h) (g 1 i 16 || tkG K g 1 i h)))], [.int (mi 34 (nI i).toNatClampNeg), .int 8, .ref 35, .int (lv2 (g 0 i 16 || tkG K g 0 i h) (g 1 i 16 || tkG K g 1 i h))], XM L mi ml) rfl (xin_of hi64 (by decide) rfl) ?_
      refine xB.cg (63, [(0, .ref 32), (1, .int (nI i)), (2, .int (lv2 (g 0 i 16 || tkG K g 0 i h) (g 1 i 16 || tkG K g 1 i h)))], [.int (nI (T i)), .int 8, .ref 35, .int (lv2 (g 0 i 16 || tkG K g 0 i h) (g 1 i 16 || tkG K g 1 i h))], XM L mi ml) (by rw [nI_clamp (n := i) (by omega), hz.1]) ?_
      refine xB.go 1 (64, [(0, .ref 32), (1, .int (nI i)), (2, .int (lv2 (g 0 i 16 || tkG K g 0 i h) (g 1 i 16 || tkG K g 1 i h)))], [.int (8 + (nI (T i))), .ref 35, .int (lv2 (g 0 i 16 || tkG K g 0 i h) (g 1 i 16 || tkG K g 1 i h))], XM L mi ml) rfl ?_
      refine xB.cg (64, [(0, .ref 32), (1, .int (nI i)), (2, .int (lv2 (g 0 i 16 || tkG K g 0 i h) (g 1 i 16 || tkG K g 1 i h)))], [.int (nI (8 + T i)), .ref 35, .int (lv2 (g 0 i 16 || tkG K g 0 i h) (g 1 i 16 || tkG K g 1 i h))], XM L mi ml) (by rw [show (8 : Int32) = nI 8 from rfl, nI_addX]) ?_
      refine xB.ck (xin (nI (8 + T i)) 14) (65, [(0, .ref 32), (1, .int (nI i)), (2, .int (lv2 (g 0 i 16 || tkG K g 0 i h) (g 1 i 16 || tkG K g 1 i h)))], [.int (mi 35 (nI (8 + T i)).toNatClampNeg), .int (lv2 (g 0 i 16 || tkG K g 0 i h) (g 1 i 16 || tkG K g 1 i h))], XM L mi ml) rfl (xin_of (j := 8 + T i) (by omega) (by decide) rfl) ?_
      refine xB.go 2 (70, [(0, .ref 32), (1, .int (nI i)), (2, .int (lv2 (g 0 i 16 || tkG K g 0 i h) (g 1 i 16 || tkG K g 1 i h)))], [.int ((lv2 (g 0 i 16 || tkG K g 0 i h) (g 1 i 16 || tkG K g 1 i h)) ||| (mi 35 (nI (8 + T i)).toNatClampNeg))], XM L mi ml) rfl ?_
      refine xB.rt (some (.int ((lv2 (g 0 i 16 || tkG K g 0 i h) (g 1 i 16 || tkG K g 1 i h)) ||| (mi 35 (nI (8 + T i)).toNatClampNeg)))) mi ml rfl ?_
      exact ⟨by rw [nI_clamp (n := 8 + T i) (by omega), hV.2.1 _ hz.2, lv2_or]; simp [rd, gk], rfl, rfl⟩
  · have gk := k_eq hk (c := 1) (by decide) (Classical.not_not.mp h1)
    have hz := (hN i hin).1 (Or.inl gk)
    refine xB.go 6 (33, [(0, .ref 32), (1, .int (nI i)), (2, .int (lv2 (g 0 i 16 || tkG K g 0 i h) (g 1 i 16 || tkG K g 1 i h)))], [.int (nI i), .ref 34, .ref 35, .int (lv2 (g 0 i 16 || tkG K g 0 i h) (g 1 i 16 || tkG K g 1 i h))], XM L mi ml) rfl ?_
    refine xB.ck (xin (nI i) 64) (34, [(0, .ref 32), (1, .int (nI i)), (2, .int (lv2 (g 0 i 16 || tkG K g 0 i h) (g 1 i 16 || tkG K g 1 i h)))], [.int (mi 34 (nI i).toNatClampNeg), .ref 35, .int (lv2 (g 0 i 16 || tkG K g 0 i h) (g 1 i 16 || tkG K g 1 i h))], XM L mi ml) rfl (xin_of hi64 (by decide) rfl) ?_
    refine xB.cg (34, [(0, .ref 32), (1, .int (nI i)), (2, .int (lv2 (g 0 i 16 || tkG K g 0 i h) (g 1 i 16 || tkG K g 1 i h)))], [.int (nI (T i)), .ref 35, .int (lv2 (g 0 i 16 || tkG K g 0 i h) (g 1 i 16 || tkG K g 1 i h))], XM L mi ml) (by rw [nI_clamp (n := i) (by omega), hz.1]) ?_
    refine xB.ck (xin (nI (T i)) 14) (35, [(0, .ref 32), (1, .int (nI i)), (2, .int (lv2 (g 0 i 16 || tkG K g 0 i h) (g 1 i 16 || tkG K g 1 i h)))], [.int (mi 35 (nI (T i)).toNatClampNeg), .int (lv2 (g 0 i 16 || tkG K g 0 i h) (g 1 i 16 || tkG K g 1 i h))], XM L mi ml) rfl (xin_of (j := T i) (by omega) (by decide) rfl) ?_
    refine xB.go 2 (70, [(0, .ref 32), (1, .int (nI i)), (2, .int (lv2 (g 0 i 16 || tkG K g 0 i h) (g 1 i 16 || tkG K g 1 i h)))], [.int ((lv2 (g 0 i 16 || tkG K g 0 i h) (g 1 i 16 || tkG K g 1 i h)) ||| (mi 35 (nI (T i)).toNatClampNeg))], XM L mi ml) rfl ?_
    refine xB.rt (some (.int ((lv2 (g 0 i 16 || tkG K g 0 i h) (g 1 i 16 || tkG K g 1 i h)) ||| (mi 35 (nI (T i)).toNatClampNeg)))) mi ml rfl ?_
    exact ⟨by rw [nI_clamp (n := T i) (by omega), hV.1 _ hz.2, lv2_or]; simp [rd, gk], rfl, rfl⟩
