/-! the reference: work -/
def AGr (w : Nat) (a : xmi) (s : RS) : Prop := (∀ x, x < 16 → a 48 x = s.1 x) ∧ (∀ x, x < 24 → a 36 (24 * w + x) = s.2.1 x) ∧ (∀ x, x < 64 → a 46 (64 * w + x) = s.2.2.1 x) ∧ (∀ x, x < 64 → a 47 (64 * w + x) = s.2.2.2.1 x) ∧ a 45 w = nI s.2.2.2.2
def FW (w : Nat) (mi a : xmi) : Prop := (∀ x, x ≠ 36 → x ≠ 45 → x ≠ 46 → x ≠ 47 → x ≠ 48 → a x = mi x) ∧ (∀ y, ¬ (24 * w ≤ y ∧ y < 24 * w + 24) → a 36 y = mi 36 y) ∧ (∀ y, y ≠ w → a 45 y = mi 45 y) ∧ (∀ y, ¬ (64 * w ≤ y ∧ y < 64 * w + 64) → a 46 y = mi 46 y ∧ a 47 y = mi 47 y)
theorem FW.rfl' {w : Nat} {mi : xmi} : FW w mi mi := ⟨fun _ _ _ _ _ _ => rfl, fun _ _ => rfl, fun _ _ => rfl, fun _ _ => ⟨rfl, rfl⟩⟩
theorem FW.trans {w : Nat} {mi a b : xmi} (h1 : FW w mi a) (h2 : FW w a b) : FW w mi b := ⟨fun x a1 a2 a3 a4 a5 => (h2.1 x a1 a2 a3 a4 a5).trans (h1.1 x a1 a2 a3 a4 a5), fun y hy => (h2.2.1 y hy).trans (h1.2.1 y hy), fun y hy => (h2.2.2.1 y hy).trans (h1.2.2.1 y hy), fun y hy => ⟨(h2.2.2.2 y hy).1.trans (h1.2.2.2 y hy).1, (h2.2.2.2 y hy).2.trans (h1.2.2.2 y hy).2⟩⟩
theorem upc {r f : Nat → Int32} {N k : Nat} {v : Int32} (h : ∀ x, x < N → r x = f x) : ∀ x, x < N → va_up r k v x = va_up f k v x := fun x hx => by
  by_cases e : x = k
  · subst e; rw [va_up_self, va_up_self]
  · rw [va_up_ne _ _ e, va_up_ne _ _ e]; exact h x hx
theorem upB {r f : Nat → Int32} {N B k : Nat} {v : Int32} (h : ∀ x, x < N → r (B + x) = f x) : ∀ x, x < N → va_up r (B + k) v (B + x) = va_up f k v x := fun x hx => by
  by_cases e : x = k
  · subst e; rw [va_up_self, va_up_self]
  · rw [va_up_ne _ _ (by omega), va_up_ne _ _ e]; exact h x hx
theorem AGr.p {w k : Nat} {a : xmi} {s : RS} {v : Int32} (h : AGr w a s) : AGr w (xU a 48 k v) (va_up s.1 k v, s.2) ∧ FW w a (xU a 48 k v) :=
  ⟨⟨by rw [xU_at]; exact upc h.1, h.2.1, h.2.2.1, h.2.2.2.1, h.2.2.2.2⟩, fun x _ _ _ _ e => by rw [xU_ne e], fun _ _ => rfl, fun _ _ => rfl, fun _ _ => ⟨rfl, rfl⟩⟩
theorem AGr.m {w k : Nat} {a : xmi} {s : RS} {v : Int32} (hk : k < 24) (h : AGr w a s) : AGr w (xU a 36 (24 * w + k) v) (s.1, va_up s.2.1 k v, s.2.2) ∧ FW w a (xU a 36 (24 * w + k) v) :=
  ⟨⟨h.1, by rw [xU_at]; exact upB h.2.1, h.2.2.1, h.2.2.2.1, h.2.2.2.2⟩, fun x e _ _ _ _ => by rw [xU_ne e], fun y hy => by rw [xU_at, va_up_ne _ _ (by omega)], fun _ _ => rfl, fun _ _ => ⟨rfl, rfl⟩⟩
theorem AGr.o {w : Nat} {a : xmi} {s : RS} {z v : Int32} (hc : s.2.2.2.2 < 64) (h : AGr w a s) : AGr w (xU (xU (xU a 46 (64 * w + s.2.2.2.2) z) 47 (64 * w + s.2.2.2.2) v) 45 w (nI (s.2.2.2.2 + 1))) (s.1, s.2.1, va_up s.2.2.1 s.2.2.2.2 z, va_up s.2.2.2.1 s.2.2.2.2 v, s.2.2.2.2 + 1) ∧ FW w a (xU (xU (xU a 46 (64 * w + s.2.2.2.2) z) 47 (64 * w + s.2.2.2.2) v) 45 w (nI (s.2.2.2.2 + 1))) :=
  ⟨⟨h.1, h.2.1, by show ∀ x, x < 64 → xU a 46 (64 * w + s.2.2.2.2) z 46 (64 * w + x) = _; rw [xU_at]; exact upB h.2.2.1, by show ∀ x, x < 64 → xU a 47 (64 * w + s.2.2.2.2) v 47 (64 * w + x) = _; rw [xU_at]; exact upB h.2.2.2.1, by rw [xU_self]⟩,
   fun x _ e5 e6 e7 _ => by rw [xU_ne e5, xU_ne e7, xU_ne e6], fun _ _ => rfl, fun y hy => by rw [xU_at, va_up_ne _ _ hy]; rfl,
   fun y hy => ⟨by show xU a 46 (64 * w + s.2.2.2.2) z 46 y = _; rw [xU_at, va_up_ne _ _ (by omega)], by show xU a 47 (64 * w + s.2.2.2.2) v 47 y = _; rw [xU_at, va_up_ne _ _ (by omega)]⟩⟩
theorem AGr.o2 {w : Nat} {a : xmi} {s : RS} (h : AGr w a s) : AGr w (xU a 45 w (nI (s.2.2.2.2 + 1))) (s.1, s.2.1, s.2.2.1, s.2.2.2.1, s.2.2.2.2 + 1) ∧ FW w a (xU a 45 w (nI (s.2.2.2.2 + 1))) :=
  ⟨⟨h.1, h.2.1, h.2.2.1, h.2.2.2.1, by rw [xU_self]⟩, fun x _ e5 _ _ _ => by rw [xU_ne e5], fun _ _ => rfl, fun y hy => by rw [xU_at, va_up_ne _ _ hy], fun _ _ => ⟨rfl, rfl⟩⟩
set_option maxRecDepth 100000 in
set_option maxHeartbeats 1000000 in
theorem c_comes0 (d L : Nat) (mi : xmi) (ml : xml) {cn : Nat} (hcn : mi 45 0 = nI cn) (hcb : cn < 2 ^ 30) (x y : Int32) : xFn (d + 1) 124 [.ref 32, .int 0, .int x, .int y] L mi ml (if cn < 64 then xU (xU (xU mi 46 (0 + cn) x) 47 (0 + cn) y) 45 0 (nI (cn + 1)) else xU mi 45 0 (nI (cn + 1))) ml := by
  refine xF.mk mX9_comes rfl rfl ?_
  refine xB.go 5 (8, [(0, .ref 32), (1, .int 0), (2, .int x), (3, .int y)], [.int 64, .int (mi 45 0)], XM L mi ml) rfl ?_
  refine xB.bp (64 ≤ (mi 45 0)) (45, [(0, .ref 32), (1, .int 0), (2, .int x), (3, .int y)], [], XM L mi ml) (11, [(0, .ref 32), (1, .int 0), (2, .int x), (3, .int y)], [], XM L mi ml) rfl (fun h1 => ?_) (fun h1 => ?_)
  · refine xB.go 8 (55, [(0, .ref 32), (1, .int 0), (2, .int x), (3, .int y)], [], XM L (xU mi 45 0 ((mi 45 0) + 1)) ml) rfl ?_
    refine xB.rt none (xU mi 45 0 ((mi 45 0) + 1)) ml rfl ?_
    rw [if_neg (fun z => (oadd_lt hcn hcb).mpr z h1)]
    rw [hcn, nI_1]
    exact ⟨rfl, rfl, rfl⟩
  · refine xB.go 11 (27, [(0, .ref 32), (1, .int 0), (2, .int x), (3, .int y)], [.int x, .int (0 + (mi 45 0)), .ref 46], XM L mi ml) rfl ?_
    refine xB.ck (xin (0 + (mi 45 0)) 128) (28, [(0, .ref 32), (1, .int 0), (2, .int x), (3, .int y)], [], XM L (xU mi 46 (0 + (mi 45 0)).toNatClampNeg x) ml) rfl (xin_of (j := 0 + cn) (by have := (oadd_lt hcn hcb).mp h1; omega) (by decide) (by first | (show 0 + mi 45 0 = _; rw [hcn, show (0 : Int32) = nI 0 from rfl, nI_addX]) | skip)) ?_
    refine xB.go 11 (44, [(0, .ref 32), (1, .int 0), (2, .int x), (3, .int y)], [.int y, .int (0 + (mi 45 0)), .ref 47], XM L (xU mi 46 (0 + (mi 45 0)).toNatClampNeg x) ml) rfl ?_
    refine xB.ck (xin (0 + (mi 45 0)) 128) (45, [(0, .ref 32), (1, .int 0), (2, .int x), (3, .int y)], [], XM L (xU (xU mi 46 (0 + (mi 45 0)).toNatClampNeg x) 47 (0 + (mi 45 0)).toNatClampNeg y) ml) rfl (xin_of (j := 0 + cn) (by have := (oadd_lt hcn hcb).mp h1; omega) (by decide) (by first | (show 0 + mi 45 0 = _; rw [hcn, show (0 : Int32) = nI 0 from rfl, nI_addX]) | skip)) ?_
    refine xB.go 8 (55, [(0, .ref 32), (1, .int 0), (2, .int x), (3, .int y)], [], XM L (xU (xU (xU mi 46 (0 + (mi 45 0)).toNatClampNeg x) 47 (0 + (mi 45 0)).toNatClampNeg y) 45 0 ((mi 45 0) + 1)) ml) rfl ?_
    refine xB.rt none (xU (xU (xU mi 46 (0 + (mi 45 0)).toNatClampNeg x) 47 (0 + (mi 45 0)).toNatClampNeg y) 45 0 ((mi 45 0) + 1)) ml rfl ?_
    rw [if_pos ((oadd_lt hcn hcb).mp h1)]
    rw [hcn, show (0 : Int32) = nI 0 from rfl, nI_addX, nI_1, nI_clamp (by omega)]
    exact ⟨rfl, rfl, rfl⟩
set_option maxRecDepth 100000 in
theorem c_mcell0 (d L : Nat) (mi : xmi) (ml : xml) (x y : Int32)  : xFv (d + 1) 125 [.int 0, .int x, .int y] L mi ml (.int (8 + 8 * x + (y &&& 7))) mi ml := by
  refine xF.mk mX9_cell rfl rfl ?_
  refine xB.go 13 (17, [(0, .int 0), (1, .int x), (2, .int y)], [.int ((8 + (8 * x)) + (y &&& 7))], XM L mi ml) rfl ?_
  refine xB.rt (some (.int ((8 + (8 * x)) + (y &&& 7)))) mi ml rfl ?_
  exact ⟨rfl, rfl, rfl⟩
theorem mcell_ix0 {t : Nat} {y : Int32} (ht : t < 2) : 8 + 8 * nI t + (y &&& 7) = nI (0 + (8 + 8 * t + ix7 y)) := by
  rw [(and7_ix y).1]
  have := (and7_ix y).2
  generalize ix7 y = k at this ⊢
  have key : ∀ t, t < 2 → ∀ k, k < 8 → 8 + 8 * nI t + nI k = nI (0 + (8 + 8 * t + k)) := by decide +kernel
  exact key t ht k this
set_option maxRecDepth 100000 in
set_option maxHeartbeats 1000000 in
theorem c_mwork0 (d L : Nat) (mi : xmi) (ml : xml) {n : Nat} {K T : Nat → Nat} (hP : PRM mi n K T) (hN : NUMm mi n K T) {i h : Nat} (hin : i < n) (h16 : h ≤ 16) (htk : tk (K i) ≤ h) (hg : h - tk (K i) + pt (K i) ≤ 16) {s : RS} (hA : AGr 0 mi s) (hcb : s.2.2.2.2 < 2 ^ 30) : xF (d + 2) 126 [.ref 32, .int 0, .int (nI i), .int (nI h)] L mi ml (fun rr a b => rr = none ∧ b = ml ∧ AGr 0 a (stA (K i) (mi 34 i) h s) ∧ FW 0 mi a) := by
  have hk := (hP.2.2.1 i hin).2
  have hi64 : i < 64 := Nat.lt_of_lt_of_le hin hP.2.1
  refine xF.mk mX9_work rfl rfl ?_
  refine xB.go 3 (5, [(0, .ref 32), (1, .int 0), (2, .int (nI i)), (3, .int (nI h))], [.int (nI i), .ref 34], XM L mi ml) rfl ?_
  refine xB.ck (xin (nI i) 64) (6, [(0, .ref 32), (1, .int 0), (2, .int (nI i)), (3, .int (nI h))], [.int (mi 34 (nI i).toNatClampNeg)], XM L mi ml) rfl (xin_of (j := i) (by omega) (by decide) rfl) ?_
  refine xB.cg (6, [(0, .ref 32), (1, .int 0), (2, .int (nI i)), (3, .int (nI h))], [.int (mi 34 i)], XM L mi ml) (by rw [nI_clamp (by omega)]) ?_
  refine xB.go 4 (13, [(0, .ref 32), (1, .int 0), (2, .int (nI i)), (3, .int (nI h)), (4, .int (mi 34 i))], [.int (nI i), .ref 33], XM L mi ml) rfl ?_
  refine xB.ck (xin (nI i) 64) (14, [(0, .ref 32), (1, .int 0), (2, .int (nI i)), (3, .int (nI h)), (4, .int (mi 34 i))], [.int (mi 33 (nI i).toNatClampNeg)], XM L mi ml) rfl (xin_of (j := i) (by omega) (by decide) rfl) ?_
  refine xB.cg (14, [(0, .ref 32), (1, .int 0), (2, .int (nI i)), (3, .int (nI h)), (4, .int (mi 34 i))], [.int (nI (K i))], XM L mi ml) (by rw [nI_clamp (by omega), (hP.2.2.1 i hin).1]) ?_
  by_cases h1 : (nI (K i)) = 0
  · refine xB.tp h1 ?_
    refine xB.go 1 (64, [(0, .ref 32), (1, .int 0), (2, .int (nI i)), (3, .int (nI h)), (4, .int (mi 34 i))], [], XM L mi ml) rfl ?_
    have g : K i = 0 := k_eq hk (c := 0) (by decide) h1
    have gt : tk (K i) = 0 := by rw [g]; rfl
    have gp : pt (K i) = 1 := by rw [g]; rfl
    refine xB.go 4 (71, [(0, .ref 32), (1, .int 0), (2, .int (nI i)), (3, .int (nI h)), (4, .int (mi 34 i))], [.int (mi 34 i), .int (nI h), .ref 48], XM L mi ml) rfl ?_
    refine xB.ck (xin (nI h) 16) (72, [(0, .ref 32), (1, .int 0), (2, .int (nI i)), (3, .int (nI h)), (4, .int (mi 34 i))], [], XM L (xU mi 48 (nI h).toNatClampNeg (mi 34 i)) ml) rfl (xin_of (j := h) (by omega) (by decide) rfl) ?_
    refine xB.go 1 (229, [(0, .ref 32), (1, .int 0), (2, .int (nI i)), (3, .int (nI h)), (4, .int (mi 34 i))], [], XM L (xU mi 48 (nI h).toNatClampNeg (mi 34 i)) ml) rfl ?_
    refine xB.rt none (xU mi 48 (nI h).toNatClampNeg (mi 34 i)) ml rfl ?_
    have es : stA (K i) (mi 34 i) h s = (va_up s.1 h (mi 34 i), s.2) := by rw [g]; rfl
    rw [nI_clamp (by omega)]
    have hX := hA.p (k := h) (v := mi 34 i)
    exact ⟨rfl, rfl, by rw [es]; exact hX.1, hX.2⟩
  by_cases h2 : (nI (K i)) = 1
  · refine xB.tp h2 ?_
    refine xB.go 1 (75, [(0, .ref 32), (1, .int 0), (2, .int (nI i)), (3, .int (nI h)), (4, .int (mi 34 i))], [], XM L mi ml) rfl ?_
    have g : K i = 1 := k_eq hk (c := 1) (by decide) h2
    have gt : tk (K i) = 0 := by rw [g]; rfl
    have gp : pt (K i) = 1 := by rw [g]; rfl
    have hz := (hN i hin).1 (Or.inl g)
    refine xB.cg (75, [(0, .ref 32), (1, .int 0), (2, .int (nI i)), (3, .int (nI h)), (4, .int (nI (T i)))], [], XM L mi ml) (by rw [hz.1]) ?_
    refine xB.go 10 (91, [(0, .ref 32), (1, .int 0), (2, .int (nI i)), (3, .int (nI h)), (4, .int (nI (T i)))], [.int (0 + (nI (T i))), .ref 36, .int (nI h), .ref 48], XM L mi ml) rfl ?_
    refine xB.cg (91, [(0, .ref 32), (1, .int 0), (2, .int (nI i)), (3, .int (nI h)), (4, .int (nI (T i)))], [.int (nI (0 + T i)), .ref 36, .int (nI h), .ref 48], XM L mi ml) (by rw [show (0 : Int32) = nI 0 from rfl, nI_addX]) ?_
    refine xB.ck (xin (nI (0 + T i)) 48) (92, [(0, .ref 32), (1, .int 0), (2, .int (nI i)), (3, .int (nI h)), (4, .int (nI (T i)))], [.int (mi 36 (nI (0 + T i)).toNatClampNeg), .int (nI h), .ref 48], XM L mi ml) rfl (xin_of (j := 0 + T i) (by omega) (by decide) rfl) ?_
    refine xB.ck (xin (nI h) 16) (93, [(0, .ref 32), (1, .int 0), (2, .int (nI i)), (3, .int (nI h)), (4, .int (nI (T i)))], [], XM L (xU mi 48 (nI h).toNatClampNeg (mi 36 (nI (0 + T i)).toNatClampNeg)) ml) rfl (xin_of (j := h) (by omega) (by decide) rfl) ?_
    refine xB.go 1 (229, [(0, .ref 32), (1, .int 0), (2, .int (nI i)), (3, .int (nI h)), (4, .int (nI (T i)))], [], XM L (xU mi 48 (nI h).toNatClampNeg (mi 36 (nI (0 + T i)).toNatClampNeg)) ml) rfl ?_
    refine xB.rt none (xU mi 48 (nI h).toNatClampNeg (mi 36 (nI (0 + T i)).toNatClampNeg)) ml rfl ?_
    have ez : (mi 34 i).toNatClampNeg = T i := by rw [hz.1, nI_clamp (by omega)]
    have es : stA (K i) (mi 34 i) h s = (va_up s.1 h (s.2.1 (T i)), s.2) := by rw [g]; show (va_up s.1 h (s.2.1 (mi 34 i).toNatClampNeg), s.2) = _; rw [ez]
    rw [nI_clamp (n := h) (by omega), nI_clamp (n := 0 + T i) (by omega)]
    have ev : mi 36 (0 + T i) = s.2.1 (T i) := hA.2.1 (T i) (by omega)
    rw [ev]
    have hX := hA.p (k := h) (v := s.2.1 (T i))
    exact ⟨rfl, rfl, by rw [es]; exact hX.1, hX.2⟩
  by_cases h3 : (nI (K i)) = 2
  · refine xB.tp h3 ?_
    refine xB.go 1 (96, [(0, .ref 32), (1, .int 0), (2, .int (nI i)), (3, .int (nI h)), (4, .int (mi 34 i))], [], XM L mi ml) rfl ?_
    have g : K i = 2 := k_eq hk (c := 2) (by decide) h3
    have gt : tk (K i) = 1 := by rw [g]; rfl
    have gp : pt (K i) = 0 := by rw [g]; rfl
    have hz := (hN i hin).1 (Or.inr g)
    refine xB.cg (96, [(0, .ref 32), (1, .int 0), (2, .int (nI i)), (3, .int (nI h)), (4, .int (nI (T i)))], [], XM L mi ml) (by rw [hz.1]) ?_
    refine xB.go 7 (107, [(0, .ref 32), (1, .int 0), (2, .int (nI i)), (3, .int (nI h)), (4, .int (nI (T i)))], [.int (0 + (nI (T i))), .ref 36], XM L mi ml) rfl ?_
    refine xB.cg (107, [(0, .ref 32), (1, .int 0), (2, .int (nI i)), (3, .int (nI h)), (4, .int (nI (T i)))], [.int (nI (0 + T i)), .ref 36], XM L mi ml) (by rw [show (0 : Int32) = nI 0 from rfl, nI_addX]) ?_
    refine xB.go 5 (114, [(0, .ref 32), (1, .int 0), (2, .int (nI i)), (3, .int (nI h)), (4, .int (nI (T i)))], [.int ((nI h) - 1), .ref 48, .int (nI (0 + T i)), .ref 36], XM L mi ml) rfl ?_
    refine xB.cg (114, [(0, .ref 32), (1, .int 0), (2, .int (nI i)), (3, .int (nI h)), (4, .int (nI (T i)))], [.int (nI (h - 1)), .ref 48, .int (nI (0 + T i)), .ref 36], XM L mi ml) (by rw [show (1 : Int32) = nI 1 from rfl, nI_subeq (by omega)]) ?_
    refine xB.ck (xin (nI (h - 1)) 16) (115, [(0, .ref 32), (1, .int 0), (2, .int (nI i)), (3, .int (nI h)), (4, .int (nI (T i)))], [.int (mi 48 (nI (h - 1)).toNatClampNeg), .int (nI (0 + T i)), .ref 36], XM L mi ml) rfl (xin_of (j := h - 1) (by omega) (by decide) rfl) ?_
    refine xB.cg (115, [(0, .ref 32), (1, .int 0), (2, .int (nI i)), (3, .int (nI h)), (4, .int (nI (T i)))], [.int (mi 48 (h - 1)), .int (nI (0 + T i)), .ref 36], XM L mi ml) (by rw [nI_clamp (n := h - 1) (by omega)]) ?_
    refine xB.ck (xin (nI (0 + T i)) 48) (116, [(0, .ref 32), (1, .int 0), (2, .int (nI i)), (3, .int (nI h)), (4, .int (nI (T i)))], [], XM L (xU mi 36 (nI (0 + T i)).toNatClampNeg (mi 48 (h - 1))) ml) rfl (xin_of (j := 0 + T i) (by omega) (by decide) rfl) ?_
    refine xB.go 1 (229, [(0, .ref 32), (1, .int 0), (2, .int (nI i)), (3, .int (nI h)), (4, .int (nI (T i)))], [], XM L (xU mi 36 (nI (0 + T i)).toNatClampNeg (mi 48 (h - 1))) ml) rfl ?_
    refine xB.rt none (xU mi 36 (nI (0 + T i)).toNatClampNeg (mi 48 (h - 1))) ml rfl ?_
    have ez : (mi 34 i).toNatClampNeg = T i := by rw [hz.1, nI_clamp (by omega)]
    have es : stA (K i) (mi 34 i) h s = (s.1, va_up s.2.1 (T i) (s.1 (h - 1)), s.2.2) := by rw [g]; show (s.1, va_up s.2.1 (mi 34 i).toNatClampNeg (s.1 (h - 1)), s.2.2) = _; rw [ez]
    rw [nI_clamp (by omega), hA.1 (h - 1) (by omega)]
    have hX := hA.m (k := T i) (v := s.1 (h - 1)) (by omega)
    exact ⟨rfl, rfl, by rw [es]; exact hX.1, hX.2⟩
  by_cases h4 : (nI (K i)) = 3
  · refine xB.tp h4 ?_
    refine xB.go 1 (119, [(0, .ref 32), (1, .int 0), (2, .int (nI i)), (3, .int (nI h)), (4, .int (mi 34 i))], [], XM L mi ml) rfl ?_
    have g : K i = 3 := k_eq hk (c := 3) (by decide) h4
    have gt : tk (K i) = 2 := by rw [g]; rfl
    have gp : pt (K i) = 1 := by rw [g]; rfl
    refine xB.go 5 (126, [(0, .ref 32), (1, .int 0), (2, .int (nI i)), (3, .int (nI h)), (4, .int (mi 34 i))], [.int ((nI h) - 2), .ref 48], XM L mi ml) rfl ?_
    refine xB.cg (126, [(0, .ref 32), (1, .int 0), (2, .int (nI i)), (3, .int (nI h)), (4, .int (mi 34 i))], [.int (nI (h - 2)), .ref 48], XM L mi ml) (by rw [show (2 : Int32) = nI 2 from rfl, nI_subeq (by omega)]) ?_
    refine xB.go 6 (135, [(0, .ref 32), (1, .int 0), (2, .int (nI i)), (3, .int (nI h)), (4, .int (mi 34 i))], [.int ((nI h) - 2), .ref 48, .int (mi 34 i), .int (nI (h - 2)), .ref 48], XM L mi ml) rfl ?_
    refine xB.cg (135, [(0, .ref 32), (1, .int 0), (2, .int (nI i)), (3, .int (nI h)), (4, .int (mi 34 i))], [.int (nI (h - 2)), .ref 48, .int (mi 34 i), .int (nI (h - 2)), .ref 48], XM L mi ml) (by rw [show (2 : Int32) = nI 2 from rfl, nI_subeq (by omega)]) ?_
    refine xB.ck (xin (nI (h - 2)) 16) (136, [(0, .ref 32), (1, .int 0), (2, .int (nI i)), (3, .int (nI h)), (4, .int (mi 34 i))], [.int (mi 48 (nI (h - 2)).toNatClampNeg), .int (mi 34 i), .int (nI (h - 2)), .ref 48], XM L mi ml) rfl (xin_of (j := h - 2) (by omega) (by decide) rfl) ?_
    refine xB.cg (136, [(0, .ref 32), (1, .int 0), (2, .int (nI i)), (3, .int (nI h)), (4, .int (mi 34 i))], [.int (mi 48 (h - 2)), .int (mi 34 i), .int (nI (h - 2)), .ref 48], XM L mi ml) (by rw [nI_clamp (n := h - 2) (by omega)]) ?_
    refine xB.go 5 (143, [(0, .ref 32), (1, .int 0), (2, .int (nI i)), (3, .int (nI h)), (4, .int (mi 34 i))], [.int ((nI h) - 1), .ref 48, .int (mi 48 (h - 2)), .int (mi 34 i), .int (nI (h - 2)), .ref 48], XM L mi ml) rfl ?_
    refine xB.cg (143, [(0, .ref 32), (1, .int 0), (2, .int (nI i)), (3, .int (nI h)), (4, .int (mi 34 i))], [.int (nI (h - 1)), .ref 48, .int (mi 48 (h - 2)), .int (mi 34 i), .int (nI (h - 2)), .ref 48], XM L mi ml) (by rw [show (1 : Int32) = nI 1 from rfl, nI_subeq (by omega)]) ?_
    refine xB.ck (xin (nI (h - 1)) 16) (144, [(0, .ref 32), (1, .int 0), (2, .int (nI i)), (3, .int (nI h)), (4, .int (mi 34 i))], [.int (mi 48 (nI (h - 1)).toNatClampNeg), .int (mi 48 (h - 2)), .int (mi 34 i), .int (nI (h - 2)), .ref 48], XM L mi ml) rfl (xin_of (j := h - 1) (by omega) (by decide) rfl) ?_
    refine xB.cg (144, [(0, .ref 32), (1, .int 0), (2, .int (nI i)), (3, .int (nI h)), (4, .int (mi 34 i))], [.int (mi 48 (h - 1)), .int (mi 48 (h - 2)), .int (mi 34 i), .int (nI (h - 2)), .ref 48], XM L mi ml) (by rw [nI_clamp (n := h - 1) (by omega)]) ?_
    refine xB.c1 123 [.int (mi 34 i), .int (mi 48 (h - 2)), .int (mi 48 (h - 1))] [.int (nI (h - 2)), .ref 48] (c_mdone _ L mi ml (mi 34 i) (mi 48 (h - 2)) (mi 48 (h - 1)) ) rfl ?_
    refine xB.ck (xin (nI (h - 2)) 16) (148, [(0, .ref 32), (1, .int 0), (2, .int (nI i)), (3, .int (nI h)), (4, .int (mi 34 i))], [], XM L (xU mi 48 (nI (h - 2)).toNatClampNeg (dnA (mi 34 i) (mi 48 (h - 2)) (mi 48 (h - 1)))) ml) rfl (xin_of (j := h - 2) (by omega) (by decide) rfl) ?_
    refine xB.go 1 (229, [(0, .ref 32), (1, .int 0), (2, .int (nI i)), (3, .int (nI h)), (4, .int (mi 34 i))], [], XM L (xU mi 48 (nI (h - 2)).toNatClampNeg (dnA (mi 34 i) (mi 48 (h - 2)) (mi 48 (h - 1)))) ml) rfl ?_
    refine xB.rt none (xU mi 48 (nI (h - 2)).toNatClampNeg (dnA (mi 34 i) (mi 48 (h - 2)) (mi 48 (h - 1)))) ml rfl ?_
    have es : stA (K i) (mi 34 i) h s = (va_up s.1 (h - 2) (dnA (mi 34 i) (s.1 (h - 2)) (s.1 (h - 1))), s.2) := by rw [g]; rfl
    rw [nI_clamp (by omega), hA.1 (h - 1) (by omega), hA.1 (h - 2) (by omega)]
    have hX := hA.p (k := h - 2) (v := dnA (mi 34 i) (s.1 (h - 2)) (s.1 (h - 1)))
    exact ⟨rfl, rfl, by rw [es]; exact hX.1, hX.2⟩
  by_cases h5 : (nI (K i)) = 4
  · refine xB.tp h5 ?_
    refine xB.go 1 (229, [(0, .ref 32), (1, .int 0), (2, .int (nI i)), (3, .int (nI h)), (4, .int (mi 34 i))], [], XM L mi ml) rfl ?_
    refine xB.rt none mi ml rfl ?_
    have g : K i = 4 := k_eq hk (c := 4) (by decide) h5
    exact ⟨rfl, rfl, by rw [show stA (K i) (mi 34 i) h s = s by rw [g]; rfl]; exact hA, FW.rfl'⟩
  by_cases h6 : (nI (K i)) = 5
  · refine xB.tp h6 ?_
    refine xB.go 1 (229, [(0, .ref 32), (1, .int 0), (2, .int (nI i)), (3, .int (nI h)), (4, .int (mi 34 i))], [], XM L mi ml) rfl ?_
    refine xB.rt none mi ml rfl ?_
    have g : K i = 5 := k_eq hk (c := 5) (by decide) h6
    exact ⟨rfl, rfl, by rw [show stA (K i) (mi 34 i) h s = s by rw [g]; rfl]; exact hA, FW.rfl'⟩
  by_cases h7 : (nI (K i)) = 6
  · refine xB.tp h7 ?_
    refine xB.go 1 (151, [(0, .ref 32), (1, .int 0), (2, .int (nI i)), (3, .int (nI h)), (4, .int (mi 34 i))], [], XM L mi ml) rfl ?_
    have g : K i = 6 := k_eq hk (c := 6) (by decide) h7
    have gt : tk (K i) = 1 := by rw [g]; rfl
    have gp : pt (K i) = 1 := by rw [g]; rfl
    have hz := (hN i hin).2.1 (Or.inl g)
    have h7 := (and7_ix (mi 48 (h - 1))).2
    refine xB.cg (151, [(0, .ref 32), (1, .int 0), (2, .int (nI i)), (3, .int (nI h)), (4, .int (nI (T i)))], [], XM L mi ml) (by rw [hz.1]) ?_
    refine xB.go 5 (158, [(0, .ref 32), (1, .int 0), (2, .int (nI i)), (3, .int (nI h)), (4, .int (nI (T i)))], [.int ((nI h) - 1), .ref 48], XM L mi ml) rfl ?_
    refine xB.cg (158, [(0, .ref 32), (1, .int 0), (2, .int (nI i)), (3, .int (nI h)), (4, .int (nI (T i)))], [.int (nI (h - 1)), .ref 48], XM L mi ml) (by rw [show (1 : Int32) = nI 1 from rfl, nI_subeq (by omega)]) ?_
    refine xB.go 9 (172, [(0, .ref 32), (1, .int 0), (2, .int (nI i)), (3, .int (nI h)), (4, .int (nI (T i)))], [.int ((nI h) - 1), .ref 48, .int (nI (T i)), .int 0, .ref 36, .int (nI (h - 1)), .ref 48], XM L mi ml) rfl ?_
    refine xB.cg (172, [(0, .ref 32), (1, .int 0), (2, .int (nI i)), (3, .int (nI h)), (4, .int (nI (T i)))], [.int (nI (h - 1)), .ref 48, .int (nI (T i)), .int 0, .ref 36, .int (nI (h - 1)), .ref 48], XM L mi ml) (by rw [show (1 : Int32) = nI 1 from rfl, nI_subeq (by omega)]) ?_
    refine xB.ck (xin (nI (h - 1)) 16) (173, [(0, .ref 32), (1, .int 0), (2, .int (nI i)), (3, .int (nI h)), (4, .int (nI (T i)))], [.int (mi 48 (nI (h - 1)).toNatClampNeg), .int (nI (T i)), .int 0, .ref 36, .int (nI (h - 1)), .ref 48], XM L mi ml) rfl (xin_of (j := h - 1) (by omega) (by decide) rfl) ?_
    refine xB.cg (173, [(0, .ref 32), (1, .int 0), (2, .int (nI i)), (3, .int (nI h)), (4, .int (nI (T i)))], [.int (mi 48 (h - 1)), .int (nI (T i)), .int 0, .ref 36, .int (nI (h - 1)), .ref 48], XM L mi ml) (by rw [nI_clamp (n := h - 1) (by omega)]) ?_
    refine xB.c1 125 [.int 0, .int (nI (T i)), .int (mi 48 (h - 1))] [.ref 36, .int (nI (h - 1)), .ref 48] (c_mcell0 _ L mi ml (nI (T i)) (mi 48 (h - 1)) ) rfl ?_
    refine xB.cg (176, [(0, .ref 32), (1, .int 0), (2, .int (nI i)), (3, .int (nI h)), (4, .int (nI (T i)))], [.int (nI (0 + (8 + 8 * T i + ix7 (mi 48 (h - 1))))), .ref 36, .int (nI (h - 1)), .ref 48], XM L mi ml) (by rw [mcell_ix0 hz.2]) ?_
    refine xB.ck (xin (nI (0 + (8 + 8 * T i + ix7 (mi 48 (h - 1))))) 48) (177, [(0, .ref 32), (1, .int 0), (2, .int (nI i)), (3, .int (nI h)), (4, .int (nI (T i)))], [.int (mi 36 (nI (0 + (8 + 8 * T i + ix7 (mi 48 (h - 1))))).toNatClampNeg), .int (nI (h - 1)), .ref 48], XM L mi ml) rfl (xin_of (j := 0 + (8 + 8 * T i + ix7 (mi 48 (h - 1)))) (by omega) (by decide) rfl) ?_
    refine xB.ck (xin (nI (h - 1)) 16) (178, [(0, .ref 32), (1, .int 0), (2, .int (nI i)), (3, .int (nI h)), (4, .int (nI (T i)))], [], XM L (xU mi 48 (nI (h - 1)).toNatClampNeg (mi 36 (nI (0 + (8 + 8 * T i + ix7 (mi 48 (h - 1))))).toNatClampNeg)) ml) rfl (xin_of (j := h - 1) (by omega) (by decide) rfl) ?_
    refine xB.go 1 (229, [(0, .ref 32), (1, .int 0), (2, .int (nI i)), (3, .int (nI h)), (4, .int (nI (T i)))], [], XM L (xU mi 48 (nI (h - 1)).toNatClampNeg (mi 36 (nI (0 + (8 + 8 * T i + ix7 (mi 48 (h - 1))))).toNatClampNeg)) ml) rfl ?_
    refine xB.rt none (xU mi 48 (nI (h - 1)).toNatClampNeg (mi 36 (nI (0 + (8 + 8 * T i + ix7 (mi 48 (h - 1))))).toNatClampNeg)) ml rfl ?_
    have ez : (mi 34 i).toNatClampNeg = T i := by rw [hz.1, nI_clamp (by omega)]
    have es : stA (K i) (mi 34 i) h s = (va_up s.1 (h - 1) (s.2.1 (8 + 8 * T i + ix7 (s.1 (h - 1)))), s.2) := by rw [g]; show (va_up s.1 (h - 1) (s.2.1 (8 + 8 * (mi 34 i).toNatClampNeg + ix7 (s.1 (h - 1)))), s.2) = _; rw [ez]
    rw [nI_clamp (n := h - 1) (by omega), nI_clamp (by omega)]
    rw [hA.1 (h - 1) (by omega)] at h7 ⊢
    have ev : mi 36 (0 + (8 + 8 * T i + ix7 (s.1 (h - 1)))) = s.2.1 (8 + 8 * T i + ix7 (s.1 (h - 1))) := hA.2.1 _ (by omega)
    rw [ev]
    have hX := hA.p (k := h - 1) (v := s.2.1 (8 + 8 * T i + ix7 (s.1 (h - 1))))
    exact ⟨rfl, rfl, by rw [es]; exact hX.1, hX.2⟩
  by_cases h8 : (nI (K i)) = 7
  · refine xB.tp h8 ?_
    refine xB.go 1 (181, [(0, .ref 32), (1, .int 0), (2, .int (nI i)), (3, .int (nI h)), (4, .int (mi 34 i))], [], XM L mi ml) rfl ?_
    have g : K i = 7 := k_eq hk (c := 7) (by decide) h8
    have gt : tk (K i) = 2 := by rw [g]; rfl
    have gp : pt (K i) = 0 := by rw [g]; rfl
    have hz := (hN i hin).2.1 (Or.inr g)
    have h7 := (and7_ix (mi 48 (h - 2))).2
    refine xB.cg (181, [(0, .ref 32), (1, .int 0), (2, .int (nI i)), (3, .int (nI h)), (4, .int (nI (T i)))], [], XM L mi ml) (by rw [hz.1]) ?_
    refine xB.go 9 (195, [(0, .ref 32), (1, .int 0), (2, .int (nI i)), (3, .int (nI h)), (4, .int (nI (T i)))], [.int ((nI h) - 2), .ref 48, .int (nI (T i)), .int 0, .ref 36], XM L mi ml) rfl ?_
    refine xB.cg (195, [(0, .ref 32), (1, .int 0), (2, .int (nI i)), (3, .int (nI h)), (4, .int (nI (T i)))], [.int (nI (h - 2)), .ref 48, .int (nI (T i)), .int 0, .ref 36], XM L mi ml) (by rw [show (2 : Int32) = nI 2 from rfl, nI_subeq (by omega)]) ?_
    refine xB.ck (xin (nI (h - 2)) 16) (196, [(0, .ref 32), (1, .int 0), (2, .int (nI i)), (3, .int (nI h)), (4, .int (nI (T i)))], [.int (mi 48 (nI (h - 2)).toNatClampNeg), .int (nI (T i)), .int 0, .ref 36], XM L mi ml) rfl (xin_of (j := h - 2) (by omega) (by decide) rfl) ?_
    refine xB.cg (196, [(0, .ref 32), (1, .int 0), (2, .int (nI i)), (3, .int (nI h)), (4, .int (nI (T i)))], [.int (mi 48 (h - 2)), .int (nI (T i)), .int 0, .ref 36], XM L mi ml) (by rw [nI_clamp (n := h - 2) (by omega)]) ?_
    refine xB.c1 125 [.int 0, .int (nI (T i)), .int (mi 48 (h - 2))] [.ref 36] (c_mcell0 _ L mi ml (nI (T i)) (mi 48 (h - 2)) ) rfl ?_
    refine xB.cg (199, [(0, .ref 32), (1, .int 0), (2, .int (nI i)), (3, .int (nI h)), (4, .int (nI (T i)))], [.int (nI (0 + (8 + 8 * T i + ix7 (mi 48 (h - 2))))), .ref 36], XM L mi ml) (by rw [mcell_ix0 hz.2]) ?_
    refine xB.go 5 (206, [(0, .ref 32), (1, .int 0), (2, .int (nI i)), (3, .int (nI h)), (4, .int (nI (T i)))], [.int ((nI h) - 1), .ref 48, .int (nI (0 + (8 + 8 * T i + ix7 (mi 48 (h - 2))))), .ref 36], XM L mi ml) rfl ?_
    refine xB.cg (206, [(0, .ref 32), (1, .int 0), (2, .int (nI i)), (3, .int (nI h)), (4, .int (nI (T i)))], [.int (nI (h - 1)), .ref 48, .int (nI (0 + (8 + 8 * T i + ix7 (mi 48 (h - 2))))), .ref 36], XM L mi ml) (by rw [show (1 : Int32) = nI 1 from rfl, nI_subeq (by omega)]) ?_
    refine xB.ck (xin (nI (h - 1)) 16) (207, [(0, .ref 32), (1, .int 0), (2, .int (nI i)), (3, .int (nI h)), (4, .int (nI (T i)))], [.int (mi 48 (nI (h - 1)).toNatClampNeg), .int (nI (0 + (8 + 8 * T i + ix7 (mi 48 (h - 2))))), .ref 36], XM L mi ml) rfl (xin_of (j := h - 1) (by omega) (by decide) rfl) ?_
    refine xB.cg (207, [(0, .ref 32), (1, .int 0), (2, .int (nI i)), (3, .int (nI h)), (4, .int (nI (T i)))], [.int (mi 48 (h - 1)), .int (nI (0 + (8 + 8 * T i + ix7 (mi 48 (h - 2))))), .ref 36], XM L mi ml) (by rw [nI_clamp (n := h - 1) (by omega)]) ?_
    refine xB.ck (xin (nI (0 + (8 + 8 * T i + ix7 (mi 48 (h - 2))))) 48) (208, [(0, .ref 32), (1, .int 0), (2, .int (nI i)), (3, .int (nI h)), (4, .int (nI (T i)))], [], XM L (xU mi 36 (nI (0 + (8 + 8 * T i + ix7 (mi 48 (h - 2))))).toNatClampNeg (mi 48 (h - 1))) ml) rfl (xin_of (j := 0 + (8 + 8 * T i + ix7 (mi 48 (h - 2)))) (by omega) (by decide) rfl) ?_
    refine xB.go 1 (229, [(0, .ref 32), (1, .int 0), (2, .int (nI i)), (3, .int (nI h)), (4, .int (nI (T i)))], [], XM L (xU mi 36 (nI (0 + (8 + 8 * T i + ix7 (mi 48 (h - 2))))).toNatClampNeg (mi 48 (h - 1))) ml) rfl ?_
    refine xB.rt none (xU mi 36 (nI (0 + (8 + 8 * T i + ix7 (mi 48 (h - 2))))).toNatClampNeg (mi 48 (h - 1))) ml rfl ?_
    have ez : (mi 34 i).toNatClampNeg = T i := by rw [hz.1, nI_clamp (by omega)]
    have es : stA (K i) (mi 34 i) h s = (s.1, va_up s.2.1 (8 + 8 * T i + ix7 (s.1 (h - 2))) (s.1 (h - 1)), s.2.2) := by rw [g]; show (s.1, va_up s.2.1 (8 + 8 * (mi 34 i).toNatClampNeg + ix7 (s.1 (h - 2))) (s.1 (h - 1)), s.2.2) = _; rw [ez]
    rw [nI_clamp (by omega)]
    rw [hA.1 (h - 2) (by omega)] at h7 ⊢
    rw [hA.1 (h - 1) (by omega)]
    have hX := hA.m (k := 8 + 8 * T i + ix7 (s.1 (h - 2))) (v := s.1 (h - 1)) (by omega)
    exact ⟨rfl, rfl, by rw [es]; exact hX.1, hX.2⟩
  by_cases h9 : (nI (K i)) = 8
  · refine xB.tp h9 ?_
    refine xB.go 1 (211, [(0, .ref 32), (1, .int 0), (2, .int (nI i)), (3, .int (nI h)), (4, .int (mi 34 i))], [], XM L mi ml) rfl ?_
    have g : K i = 8 := k_eq hk (c := 8) (by decide) h9
    have gt : tk (K i) = 1 := by rw [g]; rfl
    have gp : pt (K i) = 0 := by rw [g]; rfl
    refine xB.go 8 (222, [(0, .ref 32), (1, .int 0), (2, .int (nI i)), (3, .int (nI h)), (4, .int (mi 34 i))], [.int ((nI h) - 1), .ref 48, .int (mi 34 i), .int 0, .ref 32], XM L mi ml) rfl ?_
    refine xB.cg (222, [(0, .ref 32), (1, .int 0), (2, .int (nI i)), (3, .int (nI h)), (4, .int (mi 34 i))], [.int (nI (h - 1)), .ref 48, .int (mi 34 i), .int 0, .ref 32], XM L mi ml) (by rw [show (1 : Int32) = nI 1 from rfl, nI_subeq (by omega)]) ?_
    refine xB.ck (xin (nI (h - 1)) 16) (223, [(0, .ref 32), (1, .int 0), (2, .int (nI i)), (3, .int (nI h)), (4, .int (mi 34 i))], [.int (mi 48 (nI (h - 1)).toNatClampNeg), .int (mi 34 i), .int 0, .ref 32], XM L mi ml) rfl (xin_of (j := h - 1) (by omega) (by decide) rfl) ?_
    refine xB.cg (223, [(0, .ref 32), (1, .int 0), (2, .int (nI i)), (3, .int (nI h)), (4, .int (mi 34 i))], [.int (mi 48 (h - 1)), .int (mi 34 i), .int 0, .ref 32], XM L mi ml) (by rw [nI_clamp (n := h - 1) (by omega)]) ?_
    refine xB.c0 124 [.ref 32, .int 0, .int (mi 34 i), .int (mi 48 (h - 1))] [] (c_comes0 _ L _ _ hA.2.2.2.2 hcb _ _) rfl ?_
    refine xB.go 1 (229, [(0, .ref 32), (1, .int 0), (2, .int (nI i)), (3, .int (nI h)), (4, .int (mi 34 i))], [], XM L (if s.2.2.2.2 < 64 then xU (xU (xU mi 46 (0 + s.2.2.2.2) (mi 34 i)) 47 (0 + s.2.2.2.2) (mi 48 (h - 1))) 45 0 (nI (s.2.2.2.2 + 1)) else xU mi 45 0 (nI (s.2.2.2.2 + 1))) ml) rfl ?_
    refine xB.rt none (if s.2.2.2.2 < 64 then xU (xU (xU mi 46 (0 + s.2.2.2.2) (mi 34 i)) 47 (0 + s.2.2.2.2) (mi 48 (h - 1))) 45 0 (nI (s.2.2.2.2 + 1)) else xU mi 45 0 (nI (s.2.2.2.2 + 1))) ml rfl ?_
    rw [hA.1 (h - 1) (by omega)]
    by_cases hc : s.2.2.2.2 < 64
    · rw [if_pos hc]
      have es : stA (K i) (mi 34 i) h s = (s.1, s.2.1, va_up s.2.2.1 s.2.2.2.2 (mi 34 i), va_up s.2.2.2.1 s.2.2.2.2 (s.1 (h - 1)), s.2.2.2.2 + 1) := by rw [g]; exact if_pos hc
      have hX := hA.o (z := mi 34 i) (v := s.1 (h - 1)) hc
      exact ⟨rfl, rfl, by rw [es]; exact hX.1, hX.2⟩
    · rw [if_neg hc]
      have es : stA (K i) (mi 34 i) h s = (s.1, s.2.1, s.2.2.1, s.2.2.2.1, s.2.2.2.2 + 1) := by rw [g]; exact if_neg hc
      have hX := hA.o2
      exact ⟨rfl, rfl, by rw [es]; exact hX.1, hX.2⟩
  refine xB.st (229, [(0, .ref 32), (1, .int 0), (2, .int (nI i)), (3, .int (nI h)), (4, .int (mi 34 i))], [], XM L mi ml) (xsw_d (mt := mX9_work) rfl (xsw_ne 9 (by decide) (fun k hk => by rcases (show k = 0 ∨ k = 1 ∨ k = 2 ∨ k = 3 ∨ k = 4 ∨ k = 5 ∨ k = 6 ∨ k = 7 ∨ k = 8 by omega) with rfl | rfl | rfl | rfl | rfl | rfl | rfl | rfl | rfl; exact h1; exact h2; exact h3; exact h4; exact h5; exact h6; exact h7; exact h8; exact h9)) rfl) ?_
  refine xB.rt none mi ml rfl ?_
  have g : K i = 9 := by
    have e0 := k_ne (c := 0) h1
    have e1 := k_ne (c := 1) h2
    have e2 := k_ne (c := 2) h3
    have e3 := k_ne (c := 3) h4
    have e4 := k_ne (c := 4) h5
    have e5 := k_ne (c := 5) h6
    have e6 := k_ne (c := 6) h7
    have e7 := k_ne (c := 7) h8
    have e8 := k_ne (c := 8) h9
    omega
  exact ⟨rfl, rfl, by rw [show stA (K i) (mi 34 i) h s = s by rw [g]; rfl]; exact hA, FW.rfl'⟩
set_option maxRecDepth 100000 in
set_option maxHeartbeats 1000000 in
theorem c_comes1 (d L : Nat) (mi : xmi) (ml : xml) {cn : Nat} (hcn : mi 45 1 = nI cn) (hcb : cn < 2 ^ 30) (x y : Int32) : xFn (d + 1) 124 [.ref 32, .int 1, .int x, .int y] L mi ml (if cn < 64 then xU (xU (xU mi 46 (64 + cn) x) 47 (64 + cn) y) 45 1 (nI (cn + 1)) else xU mi 45 1 (nI (cn + 1))) ml := by
  refine xF.mk mX9_comes rfl rfl ?_
  refine xB.go 5 (8, [(0, .ref 32), (1, .int 1), (2, .int x), (3, .int y)], [.int 64, .int (mi 45 1)], XM L mi ml) rfl ?_
  refine xB.bp (64 ≤ (mi 45 1)) (45, [(0, .ref 32), (1, .int 1), (2, .int x), (3, .int y)], [], XM L mi ml) (11, [(0, .ref 32), (1, .int 1), (2, .int x), (3, .int y)], [], XM L mi ml) rfl (fun h1 => ?_) (fun h1 => ?_)
  · refine xB.go 8 (55, [(0, .ref 32), (1, .int 1), (2, .int x), (3, .int y)], [], XM L (xU mi 45 1 ((mi 45 1) + 1)) ml) rfl ?_
    refine xB.rt none (xU mi 45 1 ((mi 45 1) + 1)) ml rfl ?_
    rw [if_neg (fun z => (oadd_lt hcn hcb).mpr z h1)]
    rw [hcn, nI_1]
    exact ⟨rfl, rfl, rfl⟩
  · refine xB.go 11 (27, [(0, .ref 32), (1, .int 1), (2, .int x), (3, .int y)], [.int x, .int (64 + (mi 45 1)), .ref 46], XM L mi ml) rfl ?_
    refine xB.ck (xin (64 + (mi 45 1)) 128) (28, [(0, .ref 32), (1, .int 1), (2, .int x), (3, .int y)], [], XM L (xU mi 46 (64 + (mi 45 1)).toNatClampNeg x) ml) rfl (xin_of (j := 64 + cn) (by have := (oadd_lt hcn hcb).mp h1; omega) (by decide) (by first | (show 64 + mi 45 1 = _; rw [hcn, show (64 : Int32) = nI 64 from rfl, nI_addX]) | skip)) ?_
    refine xB.go 11 (44, [(0, .ref 32), (1, .int 1), (2, .int x), (3, .int y)], [.int y, .int (64 + (mi 45 1)), .ref 47], XM L (xU mi 46 (64 + (mi 45 1)).toNatClampNeg x) ml) rfl ?_
    refine xB.ck (xin (64 + (mi 45 1)) 128) (45, [(0, .ref 32), (1, .int 1), (2, .int x), (3, .int y)], [], XM L (xU (xU mi 46 (64 + (mi 45 1)).toNatClampNeg x) 47 (64 + (mi 45 1)).toNatClampNeg y) ml) rfl (xin_of (j := 64 + cn) (by have := (oadd_lt hcn hcb).mp h1; omega) (by decide) (by first | (show 64 + mi 45 1 = _; rw [hcn, show (64 : Int32) = nI 64 from rfl, nI_addX]) | skip)) ?_
    refine xB.go 8 (55, [(0, .ref 32), (1, .int 1), (2, .int x), (3, .int y)], [], XM L (xU (xU (xU mi 46 (64 + (mi 45 1)).toNatClampNeg x) 47 (64 + (mi 45 1)).toNatClampNeg y) 45 1 ((mi 45 1) + 1)) ml) rfl ?_
    refine xB.rt none (xU (xU (xU mi 46 (64 + (mi 45 1)).toNatClampNeg x) 47 (64 + (mi 45 1)).toNatClampNeg y) 45 1 ((mi 45 1) + 1)) ml rfl ?_
    rw [if_pos ((oadd_lt hcn hcb).mp h1)]
    rw [hcn, show (64 : Int32) = nI 64 from rfl, nI_addX, nI_1, nI_clamp (by omega)]
    exact ⟨rfl, rfl, rfl⟩
set_option maxRecDepth 100000 in
theorem c_mcell1 (d L : Nat) (mi : xmi) (ml : xml) (x y : Int32)  : xFv (d + 1) 125 [.int 1, .int x, .int y] L mi ml (.int (32 + 8 * x + (y &&& 7))) mi ml := by
  refine xF.mk mX9_cell rfl rfl ?_
  refine xB.go 13 (17, [(0, .int 1), (1, .int x), (2, .int y)], [.int ((32 + (8 * x)) + (y &&& 7))], XM L mi ml) rfl ?_
  refine xB.rt (some (.int ((32 + (8 * x)) + (y &&& 7)))) mi ml rfl ?_
  exact ⟨rfl, rfl, rfl⟩
theorem mcell_ix1 {t : Nat} {y : Int32} (ht : t < 2) : 32 + 8 * nI t + (y &&& 7) = nI (24 + (8 + 8 * t + ix7 y)) := by
  rw [(and7_ix y).1]
  have := (and7_ix y).2
  generalize ix7 y = k at this ⊢
  have key : ∀ t, t < 2 → ∀ k, k < 8 → 32 + 8 * nI t + nI k = nI (24 + (8 + 8 * t + k)) := by decide +kernel
  exact key t ht k this
set_option maxRecDepth 100000 in
set_option maxHeartbeats 1000000 in
theorem c_mwork1 (d L : Nat) (mi : xmi) (ml : xml) {n : Nat} {K T : Nat → Nat} (hP : PRM mi n K T) (hN : NUMm mi n K T) {i h : Nat} (hin : i < n) (h16 : h ≤ 16) (htk : tk (K i) ≤ h) (hg : h - tk (K i) + pt (K i) ≤ 16) {s : RS} (hA : AGr 1 mi s) (hcb : s.2.2.2.2 < 2 ^ 30) : xF (d + 2) 126 [.ref 32, .int 1, .int (nI i), .int (nI h)] L mi ml (fun rr a b => rr = none ∧ b = ml ∧ AGr 1 a (stA (K i) (mi 34 i) h s) ∧ FW 1 mi a) := by
  have hk := (hP.2.2.1 i hin).2
  have hi64 : i < 64 := Nat.lt_of_lt_of_le hin hP.2.1
  refine xF.mk mX9_work rfl rfl ?_
  refine xB.go 3 (5, [(0, .ref 32), (1, .int 1), (2, .int (nI i)), (3, .int (nI h))], [.int (nI i), .ref 34], XM L mi ml) rfl ?_
  refine xB.ck (xin (nI i) 64) (6, [(0, .ref 32), (1, .int 1), (2, .int (nI i)), (3, .int (nI h))], [.int (mi 34 (nI i).toNatClampNeg)], XM L mi ml) rfl (xin_of (j := i) (by omega) (by decide) rfl) ?_
  refine xB.cg (6, [(0, .ref 32), (1, .int 1), (2, .int (nI i)), (3, .int (nI h))], [.int (mi 34 i)], XM L mi ml) (by rw [nI_clamp (by omega)]) ?_
  refine xB.go 4 (13, [(0, .ref 32), (1, .int 1), (2, .int (nI i)), (3, .int (nI h)), (4, .int (mi 34 i))], [.int (nI i), .ref 33], XM L mi ml) rfl ?_
  refine xB.ck (xin (nI i) 64) (14, [(0, .ref 32), (1, .int 1), (2, .int (nI i)), (3, .int (nI h)), (4, .int (mi 34 i))], [.int (mi 33 (nI i).toNatClampNeg)], XM L mi ml) rfl (xin_of (j := i) (by omega) (by decide) rfl) ?_
  refine xB.cg (14, [(0, .ref 32), (1, .int 1), (2, .int (nI i)), (3, .int (nI h)), (4, .int (mi 34 i))], [.int (nI (K i))], XM L mi ml) (by rw [nI_clamp (by omega), (hP.2.2.1 i hin).1]) ?_
  by_cases h1 : (nI (K i)) = 0
  · refine xB.tp h1 ?_
    refine xB.go 1 (64, [(0, .ref 32), (1, .int 1), (2, .int (nI i)), (3, .int (nI h)), (4, .int (mi 34 i))], [], XM L mi ml) rfl ?_
    have g : K i = 0 := k_eq hk (c := 0) (by decide) h1
    have gt : tk (K i) = 0 := by rw [g]; rfl
    have gp : pt (K i) = 1 := by rw [g]; rfl
    refine xB.go 4 (71, [(0, .ref 32), (1, .int 1), (2, .int (nI i)), (3, .int (nI h)), (4, .int (mi 34 i))], [.int (mi 34 i), .int (nI h), .ref 48], XM L mi ml) rfl ?_
    refine xB.ck (xin (nI h) 16) (72, [(0, .ref 32), (1, .int 1), (2, .int (nI i)), (3, .int (nI h)), (4, .int (mi 34 i))], [], XM L (xU mi 48 (nI h).toNatClampNeg (mi 34 i)) ml) rfl (xin_of (j := h) (by omega) (by decide) rfl) ?_
    refine xB.go 1 (229, [(0, .ref 32), (1, .int 1), (2, .int (nI i)), (3, .int (nI h)), (4, .int (mi 34 i))], [], XM L (xU mi 48 (nI h).toNatClampNeg (mi 34 i)) ml) rfl ?_
    refine xB.rt none (xU mi 48 (nI h).toNatClampNeg (mi 34 i)) ml rfl ?_
    have es : stA (K i) (mi 34 i) h s = (va_up s.1 h (mi 34 i), s.2) := by rw [g]; rfl
    rw [nI_clamp (by omega)]
    have hX := hA.p (k := h) (v := mi 34 i)
    exact ⟨rfl, rfl, by rw [es]; exact hX.1, hX.2⟩
  by_cases h2 : (nI (K i)) = 1
  · refine xB.tp h2 ?_
    refine xB.go 1 (75, [(0, .ref 32), (1, .int 1), (2, .int (nI i)), (3, .int (nI h)), (4, .int (mi 34 i))], [], XM L mi ml) rfl ?_
    have g : K i = 1 := k_eq hk (c := 1) (by decide) h2
    have gt : tk (K i) = 0 := by rw [g]; rfl
    have gp : pt (K i) = 1 := by rw [g]; rfl
    have hz := (hN i hin).1 (Or.inl g)
    refine xB.cg (75, [(0, .ref 32), (1, .int 1), (2, .int (nI i)), (3, .int (nI h)), (4, .int (nI (T i)))], [], XM L mi ml) (by rw [hz.1]) ?_
    refine xB.go 10 (91, [(0, .ref 32), (1, .int 1), (2, .int (nI i)), (3, .int (nI h)), (4, .int (nI (T i)))], [.int (24 + (nI (T i))), .ref 36, .int (nI h), .ref 48], XM L mi ml) rfl ?_
    refine xB.cg (91, [(0, .ref 32), (1, .int 1), (2, .int (nI i)), (3, .int (nI h)), (4, .int (nI (T i)))], [.int (nI (24 + T i)), .ref 36, .int (nI h), .ref 48], XM L mi ml) (by rw [show (24 : Int32) = nI 24 from rfl, nI_addX]) ?_
    refine xB.ck (xin (nI (24 + T i)) 48) (92, [(0, .ref 32), (1, .int 1), (2, .int (nI i)), (3, .int (nI h)), (4, .int (nI (T i)))], [.int (mi 36 (nI (24 + T i)).toNatClampNeg), .int (nI h), .ref 48], XM L mi ml) rfl (xin_of (j := 24 + T i) (by omega) (by decide) rfl) ?_
    refine xB.ck (xin (nI h) 16) (93, [(0, .ref 32), (1, .int 1), (2, .int (nI i)), (3, .int (nI h)), (4, .int (nI (T i)))], [], XM L (xU mi 48 (nI h).toNatClampNeg (mi 36 (nI (24 + T i)).toNatClampNeg)) ml) rfl (xin_of (j := h) (by omega) (by decide) rfl) ?_
    refine xB.go 1 (229, [(0, .ref 32), (1, .int 1), (2, .int (nI i)), (3, .int (nI h)), (4, .int (nI (T i)))], [], XM L (xU mi 48 (nI h).toNatClampNeg (mi 36 (nI (24 + T i)).toNatClampNeg)) ml) rfl ?_
    refine xB.rt none (xU mi 48 (nI h).toNatClampNeg (mi 36 (nI (24 + T i)).toNatClampNeg)) ml rfl ?_
    have ez : (mi 34 i).toNatClampNeg = T i := by rw [hz.1, nI_clamp (by omega)]
    have es : stA (K i) (mi 34 i) h s = (va_up s.1 h (s.2.1 (T i)), s.2) := by rw [g]; show (va_up s.1 h (s.2.1 (mi 34 i).toNatClampNeg), s.2) = _; rw [ez]
    rw [nI_clamp (n := h) (by omega), nI_clamp (n := 24 + T i) (by omega)]
    have ev : mi 36 (24 + T i) = s.2.1 (T i) := hA.2.1 (T i) (by omega)
    rw [ev]
    have hX := hA.p (k := h) (v := s.2.1 (T i))
    exact ⟨rfl, rfl, by rw [es]; exact hX.1, hX.2⟩
  by_cases h3 : (nI (K i)) = 2
  · refine xB.tp h3 ?_
    refine xB.go 1 (96, [(0, .ref 32), (1, .int 1), (2, .int (nI i)), (3, .int (nI h)), (4, .int (mi 34 i))], [], XM L mi ml) rfl ?_
    have g : K i = 2 := k_eq hk (c := 2) (by decide) h3
    have gt : tk (K i) = 1 := by rw [g]; rfl
    have gp : pt (K i) = 0 := by rw [g]; rfl
    have hz := (hN i hin).1 (Or.inr g)
    refine xB.cg (96, [(0, .ref 32), (1, .int 1), (2, .int (nI i)), (3, .int (nI h)), (4, .int (nI (T i)))], [], XM L mi ml) (by rw [hz.1]) ?_
    refine xB.go 7 (107, [(0, .ref 32), (1, .int 1), (2, .int (nI i)), (3, .int (nI h)), (4, .int (nI (T i)))], [.int (24 + (nI (T i))), .ref 36], XM L mi ml) rfl ?_
    refine xB.cg (107, [(0, .ref 32), (1, .int 1), (2, .int (nI i)), (3, .int (nI h)), (4, .int (nI (T i)))], [.int (nI (24 + T i)), .ref 36], XM L mi ml) (by rw [show (24 : Int32) = nI 24 from rfl, nI_addX]) ?_
    refine xB.go 5 (114, [(0, .ref 32), (1, .int 1), (2, .int (nI i)), (3, .int (nI h)), (4, .int (nI (T i)))], [.int ((nI h) - 1), .ref 48, .int (nI (24 + T i)), .ref 36], XM L mi ml) rfl ?_
    refine xB.cg (114, [(0, .ref 32), (1, .int 1), (2, .int (nI i)), (3, .int (nI h)), (4, .int (nI (T i)))], [.int (nI (h - 1)), .ref 48, .int (nI (24 + T i)), .ref 36], XM L mi ml) (by rw [show (1 : Int32) = nI 1 from rfl, nI_subeq (by omega)]) ?_
    refine xB.ck (xin (nI (h - 1)) 16) (115, [(0, .ref 32), (1, .int 1), (2, .int (nI i)), (3, .int (nI h)), (4, .int (nI (T i)))], [.int (mi 48 (nI (h - 1)).toNatClampNeg), .int (nI (24 + T i)), .ref 36], XM L mi ml) rfl (xin_of (j := h - 1) (by omega) (by decide) rfl) ?_
    refine xB.cg (115, [(0, .ref 32), (1, .int 1), (2, .int (nI i)), (3, .int (nI h)), (4, .int (nI (T i)))], [.int (mi 48 (h - 1)), .int (nI (24 + T i)), .ref 36], XM L mi ml) (by rw [nI_clamp (n := h - 1) (by omega)]) ?_
    refine xB.ck (xin (nI (24 + T i)) 48) (116, [(0, .ref 32), (1, .int 1), (2, .int (nI i)), (3, .int (nI h)), (4, .int (nI (T i)))], [], XM L (xU mi 36 (nI (24 + T i)).toNatClampNeg (mi 48 (h - 1))) ml) rfl (xin_of (j := 24 + T i) (by omega) (by decide) rfl) ?_
    refine xB.go 1 (229, [(0, .ref 32), (1, .int 1), (2, .int (nI i)), (3, .int (nI h)), (4, .int (nI (T i)))], [], XM L (xU mi 36 (nI (24 + T i)).toNatClampNeg (mi 48 (h - 1))) ml) rfl ?_
    refine xB.rt none (xU mi 36 (nI (24 + T i)).toNatClampNeg (mi 48 (h - 1))) ml rfl ?_
    have ez : (mi 34 i).toNatClampNeg = T i := by rw [hz.1, nI_clamp (by omega)]
    have es : stA (K i) (mi 34 i) h s = (s.1, va_up s.2.1 (T i) (s.1 (h - 1)), s.2.2) := by rw [g]; show (s.1, va_up s.2.1 (mi 34 i).toNatClampNeg (s.1 (h - 1)), s.2.2) = _; rw [ez]
    rw [nI_clamp (by omega), hA.1 (h - 1) (by omega)]
    have hX := hA.m (k := T i) (v := s.1 (h - 1)) (by omega)
    exact ⟨rfl, rfl, by rw [es]; exact hX.1, hX.2⟩
  by_cases h4 : (nI (K i)) = 3
  · refine xB.tp h4 ?_
    refine xB.go 1 (119, [(0, .ref 32), (1, .int 1), (2, .int (nI i)), (3, .int (nI h)), (4, .int (mi 34 i))], [], XM L mi ml) rfl ?_
    have g : K i = 3 := k_eq hk (c := 3) (by decide) h4
    have gt : tk (K i) = 2 := by rw [g]; rfl
    have gp : pt (K i) = 1 := by rw [g]; rfl
    refine xB.go 5 (126, [(0, .ref 32), (1, .int 1), (2, .int (nI i)), (3, .int (nI h)), (4, .int (mi 34 i))], [.int ((nI h) - 2), .ref 48], XM L mi ml) rfl ?_
    refine xB.cg (126, [(0, .ref 32), (1, .int 1), (2, .int (nI i)), (3, .int (nI h)), (4, .int (mi 34 i))], [.int (nI (h - 2)), .ref 48], XM L mi ml) (by rw [show (2 : Int32) = nI 2 from rfl, nI_subeq (by omega)]) ?_
    refine xB.go 6 (135, [(0, .ref 32), (1, .int 1), (2, .int (nI i)), (3, .int (nI h)), (4, .int (mi 34 i))], [.int ((nI h) - 2), .ref 48, .int (mi 34 i), .int (nI (h - 2)), .ref 48], XM L mi ml) rfl ?_
    refine xB.cg (135, [(0, .ref 32), (1, .int 1), (2, .int (nI i)), (3, .int (nI h)), (4, .int (mi 34 i))], [.int (nI (h - 2)), .ref 48, .int (mi 34 i), .int (nI (h - 2)), .ref 48], XM L mi ml) (by rw [show (2 : Int32) = nI 2 from rfl, nI_subeq (by omega)]) ?_
    refine xB.ck (xin (nI (h - 2)) 16) (136, [(0, .ref 32), (1, .int 1), (2, .int (nI i)), (3, .int (nI h)), (4, .int (mi 34 i))], [.int (mi 48 (nI (h - 2)).toNatClampNeg), .int (mi 34 i), .int (nI (h - 2)), .ref 48], XM L mi ml) rfl (xin_of (j := h - 2) (by omega) (by decide) rfl) ?_
    refine xB.cg (136, [(0, .ref 32), (1, .int 1), (2, .int (nI i)), (3, .int (nI h)), (4, .int (mi 34 i))], [.int (mi 48 (h - 2)), .int (mi 34 i), .int (nI (h - 2)), .ref 48], XM L mi ml) (by rw [nI_clamp (n := h - 2) (by omega)]) ?_
    refine xB.go 5 (143, [(0, .ref 32), (1, .int 1), (2, .int (nI i)), (3, .int (nI h)), (4, .int (mi 34 i))], [.int ((nI h) - 1), .ref 48, .int (mi 48 (h - 2)), .int (mi 34 i), .int (nI (h - 2)), .ref 48], XM L mi ml) rfl ?_
    refine xB.cg (143, [(0, .ref 32), (1, .int 1), (2, .int (nI i)), (3, .int (nI h)), (4, .int (mi 34 i))], [.int (nI (h - 1)), .ref 48, .int (mi 48 (h - 2)), .int (mi 34 i), .int (nI (h - 2)), .ref 48], XM L mi ml) (by rw [show (1 : Int32) = nI 1 from rfl, nI_subeq (by omega)]) ?_
    refine xB.ck (xin (nI (h - 1)) 16) (144, [(0, .ref 32), (1, .int 1), (2, .int (nI i)), (3, .int (nI h)), (4, .int (mi 34 i))], [.int (mi 48 (nI (h - 1)).toNatClampNeg), .int (mi 48 (h - 2)), .int (mi 34 i), .int (nI (h - 2)), .ref 48], XM L mi ml) rfl (xin_of (j := h - 1) (by omega) (by decide) rfl) ?_
    refine xB.cg (144, [(0, .ref 32), (1, .int 1), (2, .int (nI i)), (3, .int (nI h)), (4, .int (mi 34 i))], [.int (mi 48 (h - 1)), .int (mi 48 (h - 2)), .int (mi 34 i), .int (nI (h - 2)), .ref 48], XM L mi ml) (by rw [nI_clamp (n := h - 1) (by omega)]) ?_
    refine xB.c1 123 [.int (mi 34 i), .int (mi 48 (h - 2)), .int (mi 48 (h - 1))] [.int (nI (h - 2)), .ref 48] (c_mdone _ L mi ml (mi 34 i) (mi 48 (h - 2)) (mi 48 (h - 1)) ) rfl ?_
    refine xB.ck (xin (nI (h - 2)) 16) (148, [(0, .ref 32), (1, .int 1), (2, .int (nI i)), (3, .int (nI h)), (4, .int (mi 34 i))], [], XM L (xU mi 48 (nI (h - 2)).toNatClampNeg (dnA (mi 34 i) (mi 48 (h - 2)) (mi 48 (h - 1)))) ml) rfl (xin_of (j := h - 2) (by omega) (by decide) rfl) ?_
    refine xB.go 1 (229, [(0, .ref 32), (1, .int 1), (2, .int (nI i)), (3, .int (nI h)), (4, .int (mi 34 i))], [], XM L (xU mi 48 (nI (h - 2)).toNatClampNeg (dnA (mi 34 i) (mi 48 (h - 2)) (mi 48 (h - 1)))) ml) rfl ?_
    refine xB.rt none (xU mi 48 (nI (h - 2)).toNatClampNeg (dnA (mi 34 i) (mi 48 (h - 2)) (mi 48 (h - 1)))) ml rfl ?_
    have es : stA (K i) (mi 34 i) h s = (va_up s.1 (h - 2) (dnA (mi 34 i) (s.1 (h - 2)) (s.1 (h - 1))), s.2) := by rw [g]; rfl
    rw [nI_clamp (by omega), hA.1 (h - 1) (by omega), hA.1 (h - 2) (by omega)]
    have hX := hA.p (k := h - 2) (v := dnA (mi 34 i) (s.1 (h - 2)) (s.1 (h - 1)))
    exact ⟨rfl, rfl, by rw [es]; exact hX.1, hX.2⟩
  by_cases h5 : (nI (K i)) = 4
  · refine xB.tp h5 ?_
    refine xB.go 1 (229, [(0, .ref 32), (1, .int 1), (2, .int (nI i)), (3, .int (nI h)), (4, .int (mi 34 i))], [], XM L mi ml) rfl ?_
    refine xB.rt none mi ml rfl ?_
    have g : K i = 4 := k_eq hk (c := 4) (by decide) h5
    exact ⟨rfl, rfl, by rw [show stA (K i) (mi 34 i) h s = s by rw [g]; rfl]; exact hA, FW.rfl'⟩
  by_cases h6 : (nI (K i)) = 5
  · refine xB.tp h6 ?_
    refine xB.go 1 (229, [(0, .ref 32), (1, .int 1), (2, .int (nI i)), (3, .int (nI h)), (4, .int (mi 34 i))], [], XM L mi ml) rfl ?_
    refine xB.rt none mi ml rfl ?_
    have g : K i = 5 := k_eq hk (c := 5) (by decide) h6
    exact ⟨rfl, rfl, by rw [show stA (K i) (mi 34 i) h s = s by rw [g]; rfl]; exact hA, FW.rfl'⟩
  by_cases h7 : (nI (K i)) = 6
  · refine xB.tp h7 ?_
    refine xB.go 1 (151, [(0, .ref 32), (1, .int 1), (2, .int (nI i)), (3, .int (nI h)), (4, .int (mi 34 i))], [], XM L mi ml) rfl ?_
    have g : K i = 6 := k_eq hk (c := 6) (by decide) h7
    have gt : tk (K i) = 1 := by rw [g]; rfl
    have gp : pt (K i) = 1 := by rw [g]; rfl
    have hz := (hN i hin).2.1 (Or.inl g)
    have h7 := (and7_ix (mi 48 (h - 1))).2
    refine xB.cg (151, [(0, .ref 32), (1, .int 1), (2, .int (nI i)), (3, .int (nI h)), (4, .int (nI (T i)))], [], XM L mi ml) (by rw [hz.1]) ?_
    refine xB.go 5 (158, [(0, .ref 32), (1, .int 1), (2, .int (nI i)), (3, .int (nI h)), (4, .int (nI (T i)))], [.int ((nI h) - 1), .ref 48], XM L mi ml) rfl ?_
    refine xB.cg (158, [(0, .ref 32), (1, .int 1), (2, .int (nI i)), (3, .int (nI h)), (4, .int (nI (T i)))], [.int (nI (h - 1)), .ref 48], XM L mi ml) (by rw [show (1 : Int32) = nI 1 from rfl, nI_subeq (by omega)]) ?_
    refine xB.go 9 (172, [(0, .ref 32), (1, .int 1), (2, .int (nI i)), (3, .int (nI h)), (4, .int (nI (T i)))], [.int ((nI h) - 1), .ref 48, .int (nI (T i)), .int 1, .ref 36, .int (nI (h - 1)), .ref 48], XM L mi ml) rfl ?_
    refine xB.cg (172, [(0, .ref 32), (1, .int 1), (2, .int (nI i)), (3, .int (nI h)), (4, .int (nI (T i)))], [.int (nI (h - 1)), .ref 48, .int (nI (T i)), .int 1, .ref 36, .int (nI (h - 1)), .ref 48], XM L mi ml) (by rw [show (1 : Int32) = nI 1 from rfl, nI_subeq (by omega)]) ?_
    refine xB.ck (xin (nI (h - 1)) 16) (173, [(0, .ref 32), (1, .int 1), (2, .int (nI i)), (3, .int (nI h)), (4, .int (nI (T i)))], [.int (mi 48 (nI (h - 1)).toNatClampNeg), .int (nI (T i)), .int 1, .ref 36, .int (nI (h - 1)), .ref 48], XM L mi ml) rfl (xin_of (j := h - 1) (by omega) (by decide) rfl) ?_
    refine xB.cg (173, [(0, .ref 32), (1, .int 1), (2, .int (nI i)), (3, .int (nI h)), (4, .int (nI (T i)))], [.int (mi 48 (h - 1)), .int (nI (T i)), .int 1, .ref 36, .int (nI (h - 1)), .ref 48], XM L mi ml) (by rw [nI_clamp (n := h - 1) (by omega)]) ?_
    refine xB.c1 125 [.int 1, .int (nI (T i)), .int (mi 48 (h - 1))] [.ref 36, .int (nI (h - 1)), .ref 48] (c_mcell1 _ L mi ml (nI (T i)) (mi 48 (h - 1)) ) rfl ?_
    refine xB.cg (176, [(0, .ref 32), (1, .int 1), (2, .int (nI i)), (3, .int (nI h)), (4, .int (nI (T i)))], [.int (nI (24 + (8 + 8 * T i + ix7 (mi 48 (h - 1))))), .ref 36, .int (nI (h - 1)), .ref 48], XM L mi ml) (by rw [mcell_ix1 hz.2]) ?_
    refine xB.ck (xin (nI (24 + (8 + 8 * T i + ix7 (mi 48 (h - 1))))) 48) (177, [(0, .ref 32), (1, .int 1), (2, .int (nI i)), (3, .int (nI h)), (4, .int (nI (T i)))], [.int (mi 36 (nI (24 + (8 + 8 * T i + ix7 (mi 48 (h - 1))))).toNatClampNeg), .int (nI (h - 1)), .ref 48], XM L mi ml) rfl (xin_of (j := 24 + (8 + 8 * T i + ix7 (mi 48 (h - 1)))) (by omega) (by decide) rfl) ?_
    refine xB.ck (xin (nI (h - 1)) 16) (178, [(0, .ref 32), (1, .int 1), (2, .int (nI i)), (3, .int (nI h)), (4, .int (nI (T i)))], [], XM L (xU mi 48 (nI (h - 1)).toNatClampNeg (mi 36 (nI (24 + (8 + 8 * T i + ix7 (mi 48 (h - 1))))).toNatClampNeg)) ml) rfl (xin_of (j := h - 1) (by omega) (by decide) rfl) ?_
    refine xB.go 1 (229, [(0, .ref 32), (1, .int 1), (2, .int (nI i)), (3, .int (nI h)), (4, .int (nI (T i)))], [], XM L (xU mi 48 (nI (h - 1)).toNatClampNeg (mi 36 (nI (24 + (8 + 8 * T i + ix7 (mi 48 (h - 1))))).toNatClampNeg)) ml) rfl ?_
    refine xB.rt none (xU mi 48 (nI (h - 1)).toNatClampNeg (mi 36 (nI (24 + (8 + 8 * T i + ix7 (mi 48 (h - 1))))).toNatClampNeg)) ml rfl ?_
    have ez : (mi 34 i).toNatClampNeg = T i := by rw [hz.1, nI_clamp (by omega)]
    have es : stA (K i) (mi 34 i) h s = (va_up s.1 (h - 1) (s.2.1 (8 + 8 * T i + ix7 (s.1 (h - 1)))), s.2) := by rw [g]; show (va_up s.1 (h - 1) (s.2.1 (8 + 8 * (mi 34 i).toNatClampNeg + ix7 (s.1 (h - 1)))), s.2) = _; rw [ez]
    rw [nI_clamp (n := h - 1) (by omega), nI_clamp (by omega)]
    rw [hA.1 (h - 1) (by omega)] at h7 ⊢
    have ev : mi 36 (24 + (8 + 8 * T i + ix7 (s.1 (h - 1)))) = s.2.1 (8 + 8 * T i + ix7 (s.1 (h - 1))) := hA.2.1 _ (by omega)
    rw [ev]
    have hX := hA.p (k := h - 1) (v := s.2.1 (8 + 8 * T i + ix7 (s.1 (h - 1))))
    exact ⟨rfl, rfl, by rw [es]; exact hX.1, hX.2⟩
  by_cases h8 : (nI (K i)) = 7
  · refine xB.tp h8 ?_
    refine xB.go 1 (181, [(0, .ref 32), (1, .int 1), (2, .int (nI i)), (3, .int (nI h)), (4, .int (mi 34 i))], [], XM L mi ml) rfl ?_
    have g : K i = 7 := k_eq hk (c := 7) (by decide) h8
    have gt : tk (K i) = 2 := by rw [g]; rfl
    have gp : pt (K i) = 0 := by rw [g]; rfl
    have hz := (hN i hin).2.1 (Or.inr g)
    have h7 := (and7_ix (mi 48 (h - 2))).2
    refine xB.cg (181, [(0, .ref 32), (1, .int 1), (2, .int (nI i)), (3, .int (nI h)), (4, .int (nI (T i)))], [], XM L mi ml) (by rw [hz.1]) ?_
    refine xB.go 9 (195, [(0, .ref 32), (1, .int 1), (2, .int (nI i)), (3, .int (nI h)), (4, .int (nI (T i)))], [.int ((nI h) - 2), .ref 48, .int (nI (T i)), .int 1, .ref 36], XM L mi ml) rfl ?_
    refine xB.cg (195, [(0, .ref 32), (1, .int 1), (2, .int (nI i)), (3, .int (nI h)), (4, .int (nI (T i)))], [.int (nI (h - 2)), .ref 48, .int (nI (T i)), .int 1, .ref 36], XM L mi ml) (by rw [show (2 : Int32) = nI 2 from rfl, nI_subeq (by omega)]) ?_
    refine xB.ck (xin (nI (h - 2)) 16) (196, [(0, .ref 32), (1, .int 1), (2, .int (nI i)), (3, .int (nI h)), (4, .int (nI (T i)))], [.int (mi 48 (nI (h - 2)).toNatClampNeg), .int (nI (T i)), .int 1, .ref 36], XM L mi ml) rfl (xin_of (j := h - 2) (by omega) (by decide) rfl) ?_
    refine xB.cg (196, [(0, .ref 32), (1, .int 1), (2, .int (nI i)), (3, .int (nI h)), (4, .int (nI (T i)))], [.int (mi 48 (h - 2)), .int (nI (T i)), .int 1, .ref 36], XM L mi ml) (by rw [nI_clamp (n := h - 2) (by omega)]) ?_
    refine xB.c1 125 [.int 1, .int (nI (T i)), .int (mi 48 (h - 2))] [.ref 36] (c_mcell1 _ L mi ml (nI (T i)) (mi 48 (h - 2)) ) rfl ?_
    refine xB.cg (199, [(0, .ref 32), (1, .int 1), (2, .int (nI i)), (3, .int (nI h)), (4, .int (nI (T i)))], [.int (nI (24 + (8 + 8 * T i + ix7 (mi 48 (h - 2))))), .ref 36], XM L mi ml) (by rw [mcell_ix1 hz.2]) ?_
    refine xB.go 5 (206, [(0, .ref 32), (1, .int 1), (2, .int (nI i)), (3, .int (nI h)), (4, .int (nI (T i)))], [.int ((nI h) - 1), .ref 48, .int (nI (24 + (8 + 8 * T i + ix7 (mi 48 (h - 2))))), .ref 36], XM L mi ml) rfl ?_
    refine xB.cg (206, [(0, .ref 32), (1, .int 1), (2, .int (nI i)), (3, .int (nI h)), (4, .int (nI (T i)))], [.int (nI (h - 1)), .ref 48, .int (nI (24 + (8 + 8 * T i + ix7 (mi 48 (h - 2))))), .ref 36], XM L mi ml) (by rw [show (1 : Int32) = nI 1 from rfl, nI_subeq (by omega)]) ?_
    refine xB.ck (xin (nI (h - 1)) 16) (207, [(0, .ref 32), (1, .int 1), (2, .int (nI i)), (3, .int (nI h)), (4, .int (nI (T i)))], [.int (mi 48 (nI (h - 1)).toNatClampNeg), .int (nI (24 + (8 + 8 * T i + ix7 (mi 48 (h - 2))))), .ref 36], XM L mi ml) rfl (xin_of (j := h - 1) (by omega) (by decide) rfl) ?_
    refine xB.cg (207, [(0, .ref 32), (1, .int 1), (2, .int (nI i)), (3, .int (nI h)), (4, .int (nI (T i)))], [.int (mi 48 (h - 1)), .int (nI (24 + (8 + 8 * T i + ix7 (mi 48 (h - 2))))), .ref 36], XM L mi ml) (by rw [nI_clamp (n := h - 1) (by omega)]) ?_
    refine xB.ck (xin (nI (24 + (8 + 8 * T i + ix7 (mi 48 (h - 2))))) 48) (208, [(0, .ref 32), (1, .int 1), (2, .int (nI i)), (3, .int (nI h)), (4, .int (nI (T i)))], [], XM L (xU mi 36 (nI (24 + (8 + 8 * T i + ix7 (mi 48 (h - 2))))).toNatClampNeg (mi 48 (h - 1))) ml) rfl (xin_of (j := 24 + (8 + 8 * T i + ix7 (mi 48 (h - 2)))) (by omega) (by decide) rfl) ?_
    refine xB.go 1 (229, [(0, .ref 32), (1, .int 1), (2, .int (nI i)), (3, .int (nI h)), (4, .int (nI (T i)))], [], XM L (xU mi 36 (nI (24 + (8 + 8 * T i + ix7 (mi 48 (h - 2))))).toNatClampNeg (mi 48 (h - 1))) ml) rfl ?_
    refine xB.rt none (xU mi 36 (nI (24 + (8 + 8 * T i + ix7 (mi 48 (h - 2))))).toNatClampNeg (mi 48 (h - 1))) ml rfl ?_
    have ez : (mi 34 i).toNatClampNeg = T i := by rw [hz.1, nI_clamp (by omega)]
    have es : stA (K i) (mi 34 i) h s = (s.1, va_up s.2.1 (8 + 8 * T i + ix7 (s.1 (h - 2))) (s.1 (h - 1)), s.2.2) := by rw [g]; show (s.1, va_up s.2.1 (8 + 8 * (mi 34 i).toNatClampNeg + ix7 (s.1 (h - 2))) (s.1 (h - 1)), s.2.2) = _; rw [ez]
    rw [nI_clamp (by omega)]
    rw [hA.1 (h - 2) (by omega)] at h7 ⊢
    rw [hA.1 (h - 1) (by omega)]
    have hX := hA.m (k := 8 + 8 * T i + ix7 (s.1 (h - 2))) (v := s.1 (h - 1)) (by omega)
    exact ⟨rfl, rfl, by rw [es]; exact hX.1, hX.2⟩
  by_cases h9 : (nI (K i)) = 8
  · refine xB.tp h9 ?_
    refine xB.go 1 (211, [(0, .ref 32), (1, .int 1), (2, .int (nI i)), (3, .int (nI h)), (4, .int (mi 34 i))], [], XM L mi ml) rfl ?_
    have g : K i = 8 := k_eq hk (c := 8) (by decide) h9
    have gt : tk (K i) = 1 := by rw [g]; rfl
    have gp : pt (K i) = 0 := by rw [g]; rfl
    refine xB.go 8 (222, [(0, .ref 32), (1, .int 1), (2, .int (nI i)), (3, .int (nI h)), (4, .int (mi 34 i))], [.int ((nI h) - 1), .ref 48, .int (mi 34 i), .int 1, .ref 32], XM L mi ml) rfl ?_
    refine xB.cg (222, [(0, .ref 32), (1, .int 1), (2, .int (nI i)), (3, .int (nI h)), (4, .int (mi 34 i))], [.int (nI (h - 1)), .ref 48, .int (mi 34 i), .int 1, .ref 32], XM L mi ml) (by rw [show (1 : Int32) = nI 1 from rfl, nI_subeq (by omega)]) ?_
    refine xB.ck (xin (nI (h - 1)) 16) (223, [(0, .ref 32), (1, .int 1), (2, .int (nI i)), (3, .int (nI h)), (4, .int (mi 34 i))], [.int (mi 48 (nI (h - 1)).toNatClampNeg), .int (mi 34 i), .int 1, .ref 32], XM L mi ml) rfl (xin_of (j := h - 1) (by omega) (by decide) rfl) ?_
    refine xB.cg (223, [(0, .ref 32), (1, .int 1), (2, .int (nI i)), (3, .int (nI h)), (4, .int (mi 34 i))], [.int (mi 48 (h - 1)), .int (mi 34 i), .int 1, .ref 32], XM L mi ml) (by rw [nI_clamp (n := h - 1) (by omega)]) ?_
    refine xB.c0 124 [.ref 32, .int 1, .int (mi 34 i), .int (mi 48 (h - 1))] [] (c_comes1 _ L _ _ hA.2.2.2.2 hcb _ _) rfl ?_
    refine xB.go 1 (229, [(0, .ref 32), (1, .int 1), (2, .int (nI i)), (3, .int (nI h)), (4, .int (mi 34 i))], [], XM L (if s.2.2.2.2 < 64 then xU (xU (xU mi 46 (64 + s.2.2.2.2) (mi 34 i)) 47 (64 + s.2.2.2.2) (mi 48 (h - 1))) 45 1 (nI (s.2.2.2.2 + 1)) else xU mi 45 1 (nI (s.2.2.2.2 + 1))) ml) rfl ?_
    refine xB.rt none (if s.2.2.2.2 < 64 then xU (xU (xU mi 46 (64 + s.2.2.2.2) (mi 34 i)) 47 (64 + s.2.2.2.2) (mi 48 (h - 1))) 45 1 (nI (s.2.2.2.2 + 1)) else xU mi 45 1 (nI (s.2.2.2.2 + 1))) ml rfl ?_
    rw [hA.1 (h - 1) (by omega)]
    by_cases hc : s.2.2.2.2 < 64
    · rw [if_pos hc]
      have es : stA (K i) (mi 34 i) h s = (s.1, s.2.1, va_up s.2.2.1 s.2.2.2.2 (mi 34 i), va_up s.2.2.2.1 s.2.2.2.2 (s.1 (h - 1)), s.2.2.2.2 + 1) := by rw [g]; exact if_pos hc
      have hX := hA.o (z := mi 34 i) (v := s.1 (h - 1)) hc
      exact ⟨rfl, rfl, by rw [es]; exact hX.1, hX.2⟩
    · rw [if_neg hc]
      have es : stA (K i) (mi 34 i) h s = (s.1, s.2.1, s.2.2.1, s.2.2.2.1, s.2.2.2.2 + 1) := by rw [g]; exact if_neg hc
      have hX := hA.o2
      exact ⟨rfl, rfl, by rw [es]; exact hX.1, hX.2⟩
  refine xB.st (229, [(0, .ref 32), (1, .int 1), (2, .int (nI i)), (3, .int (nI h)), (4, .int (mi 34 i))], [], XM L mi ml) (xsw_d (mt := mX9_work) rfl (xsw_ne 9 (by decide) (fun k hk => by rcases (show k = 0 ∨ k = 1 ∨ k = 2 ∨ k = 3 ∨ k = 4 ∨ k = 5 ∨ k = 6 ∨ k = 7 ∨ k = 8 by omega) with rfl | rfl | rfl | rfl | rfl | rfl | rfl | rfl | rfl; exact h1; exact h2; exact h3; exact h4; exact h5; exact h6; exact h7; exact h8; exact h9)) rfl) ?_
  refine xB.rt none mi ml rfl ?_
  have g : K i = 9 := by
    have e0 := k_ne (c := 0) h1
    have e1 := k_ne (c := 1) h2
    have e2 := k_ne (c := 2) h3
    have e3 := k_ne (c := 3) h4
    have e4 := k_ne (c := 4) h5
    have e5 := k_ne (c := 5) h6
    have e6 := k_ne (c := 6) h7
    have e7 := k_ne (c := 7) h8
    have e8 := k_ne (c := 8) h9
    omega
  exact ⟨rfl, rfl, by rw [show stA (K i) (mi 34 i) h s = s by rw [g]; rfl]; exact hA, FW.rfl'⟩
