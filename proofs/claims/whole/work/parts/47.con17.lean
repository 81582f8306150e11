/-! the class: typesNow, check, surrounding, pile, junction -/
theorem JC.rg {n : Nat} {K T : Nat → Nat} {a : xmi} {b : xml} (h : JC n K T a b) (hw : WF n K T) (hn : n ≤ 64) {i : Nat} (hm : met n K T i) (h5 : K i = 5) (j : Nat) : hb (b 15 i) j = true ↔ RG n K T i j := by
  rcases Nat.lt_or_ge j 64 with z | z
  · exact (h i (hw.lt hm)).2 hm h5 j z
  · rw [hb_big z]
    refine ⟨fun g => (by cases g), fun ⟨v, g1, g2⟩ => ?_⟩
    have := hw.lt (g2.mm hw hm); omega
def TYb (n : Nat) (K T : Nat → Nat) (vL aL : Nat → Nat → Bool) (b j k : Nat) : Prop := TY n K T (rd K T vL aL b) (RG n K T) j k
def UNS (n : Nat) (K T : Nat → Nat) (vL aL cL : Nat → Nat → Bool) (i : Nat) : Prop := ∃ h, Rh n K T i h ∧ ∃ b, b < 2 ∧ (TKN K (TYb n K T vL aL b) i h ∨ TYb n K T vL aL b i 16) ∧ lvl K T vL aL cL b i = false
def CHK (n : Nat) (K T : Nat → Nat) (vL aL cL : Nat → Nat → Bool) (v : Int32) : Prop := (¬ WF n K T ∧ v = -1) ∨ (WF n K T ∧ ∃ w, FU n (UNS n K T vL aL cL) w ∧ v = w + 1)
def tyV (X : Nat → Nat → Nat → Prop) (i k : Nat) (v : Int32) : Prop := ∃ p q : Bool, (p = true ↔ X 0 i k) ∧ (q = true ↔ X 1 i k) ∧ v = lv2 p q
def SUR (n : Nat) (K T : Nat → Nat) (vL aL : Nat → Nat → Bool) (x v : Int32) : Prop := (∃ i, WF n K T ∧ x = nI i ∧ met n K T i ∧ tyV (TYb n K T vL aL) i 16 v) ∨ ((¬ ∃ i, WF n K T ∧ x = nI i ∧ met n K T i) ∧ v = -1)
def PIL (n : Nat) (K T : Nat → Nat) (vL aL : Nat → Nat → Bool) (x y v : Int32) : Prop := (∃ i h k, WF n K T ∧ x = nI i ∧ Rh n K T i h ∧ y = nI k ∧ k < h ∧ tyV (TYb n K T vL aL) i k v) ∨ ((¬ ∃ i h k, WF n K T ∧ x = nI i ∧ Rh n K T i h ∧ y = nI k ∧ k < h) ∧ v = -1)
def JUN (n : Nat) (K T : Nat → Nat) (x v : Int32) : Prop := (∃ i, WF n K T ∧ x = nI i ∧ met n K T i ∧ JX n K T i v) ∨ ((¬ ∃ i, WF n K T ∧ x = nI i ∧ met n K T i) ∧ v = -1)
theorem FU.cg {n : Nat} {P Q : Nat → Prop} {v : Int32} (h : ∀ i, P i ↔ Q i) (g : FU n P v) : FU n Q v := by
  unfold FU at g ⊢; simp only [h] at g; exact g
theorem FU.uq {n : Nat} {P : Nat → Prop} {v w : Int32} (h1 : FU n P v) (h2 : FU n P w) : v = w := by
  rcases h1 with ⟨i, a, b, c, rfl⟩ | ⟨a, rfl⟩ <;> rcases h2 with ⟨i', a', b', c', rfl⟩ | ⟨a', rfl⟩
  · rcases Nat.lt_trichotomy i i' with z | z | z
    · exact absurd b (c' i z)
    · rw [z]
    · exact absurd b' (c i' z)
  · exact absurd b (a' i a)
  · exact absurd b' (a i' a')
  · rfl
theorem CHK.uq {n : Nat} {K T : Nat → Nat} {vL aL cL : Nat → Nat → Bool} {v w : Int32} (h1 : CHK n K T vL aL cL v) (h2 : CHK n K T vL aL cL w) : v = w := by
  rcases h1 with ⟨a, rfl⟩ | ⟨a, x, b, rfl⟩ <;> rcases h2 with ⟨a', rfl⟩ | ⟨a', x', b', rfl⟩
  · rfl
  · exact absurd a' a
  · exact absurd a a'
  · rw [b.uq b']
theorem tyV.uq {X : Nat → Nat → Nat → Prop} {i k : Nat} {v w : Int32} (h1 : tyV X i k v) (h2 : tyV X i k w) : v = w := by
  obtain ⟨p, q, a, b, rfl⟩ := h1
  obtain ⟨p', q', a', b', rfl⟩ := h2
  have e1 : p = p' := Bool.eq_iff_iff.mpr (a.trans a'.symm)
  have e2 : q = q' := Bool.eq_iff_iff.mpr (b.trans b'.symm)
  rw [e1, e2]
theorem met.inj {n : Nat} {K T : Nat → Nat} (hn : n ≤ 64) (hw : WF n K T) {i j : Nat} (hi : met n K T i) (hj : met n K T j) (h : nI i = nI j) : i = j := by
  have := hw.lt hi; have := hw.lt hj
  exact (nI_eq (by omega) (by omega)).mp h
theorem SUR.uq {n : Nat} {K T : Nat → Nat} {vL aL : Nat → Nat → Bool} {x v w : Int32} (hn : n ≤ 64) (h1 : SUR n K T vL aL x v) (h2 : SUR n K T vL aL x w) : v = w := by
  rcases h1 with ⟨i, a, b, c, d⟩ | ⟨a, rfl⟩ <;> rcases h2 with ⟨i', a', b', c', d'⟩ | ⟨a', rfl⟩
  · obtain rfl := met.inj hn a c c' (b.symm.trans b'); exact d.uq d'
  · exact absurd ⟨i, a, b, c⟩ a'
  · exact absurd ⟨i', a', b', c'⟩ a
  · rfl
theorem JUN.uq {n : Nat} {K T : Nat → Nat} {x v w : Int32} (hn : n ≤ 64) (h1 : JUN n K T x v) (h2 : JUN n K T x w) : v = w := by
  rcases h1 with ⟨i, a, b, c, d⟩ | ⟨a, rfl⟩ <;> rcases h2 with ⟨i', a', b', c', d'⟩ | ⟨a', rfl⟩
  · obtain rfl := met.inj hn a c c' (b.symm.trans b'); exact d.uq d'
  · exact absurd ⟨i, a, b, c⟩ a'
  · exact absurd ⟨i', a', b', c'⟩ a
  · rfl
theorem Rh.le16 {n : Nat} {K T : Nat → Nat} {i h : Nat} (hr : Rh n K T i h) : h ≤ 16 := hr (fun _ h => h ≤ 16) (Nat.zero_le _) (fun _ _ _ _ _ _ g _ => g)
theorem PIL.uq {n : Nat} {K T : Nat → Nat} {vL aL : Nat → Nat → Bool} {x y v w : Int32} (hn : n ≤ 64) (h1 : PIL n K T vL aL x y v) (h2 : PIL n K T vL aL x y w) : v = w := by
  rcases h1 with ⟨i, h, k, a, b, c, d, e, f⟩ | ⟨a, rfl⟩ <;> rcases h2 with ⟨i', h', k', a', b', c', d', e', f'⟩ | ⟨a', rfl⟩
  · obtain rfl := met.inj hn a ⟨h, c⟩ ⟨h', c'⟩ (b.symm.trans b')
    have := c.le16; have := c'.le16
    obtain rfl := nI_inj (by omega) (by omega) (d.symm.trans d')
    exact f.uq f'
  · exact absurd ⟨i, h, k, a, b, c, d, e⟩ a'
  · exact absurd ⟨i', h', k', a', b', c', d', e'⟩ a
  · rfl
theorem TYC.tS {n : Nat} {K T : Nat → Nat} {vL aL : Nat → Nat → Bool} {ml : xml} (h : TYC n K T vL aL ml) {b j k : Nat} (hb2 : b < 2) (hj : j < 64) : TYb n K T vL aL b j k ↔ tS ml b j k := (h b j k hb2).trans (gS_tS hj)
theorem usB_iff {n : Nat} {K T : Nat → Nat} {vL aL cL : Nat → Nat → Bool} {ml : xml} (h : TYC n K T vL aL ml) (hw : WF n K T) (hn : n ≤ 64) (i : Nat) : usB n K T vL aL cL ml i ↔ UNS n K T vL aL cL i := by
  unfold usB UNS
  refine exists_congr fun x => and_congr_right fun hr => ?_
  have hi : i < 64 := Nat.lt_of_lt_of_le (hw.1 i x hr).1 hn
  have key : ∀ b, b < 2 → ((tkn K ml b i x = true ∨ hb (ml 16 (5 + b)) i = true) ↔ (TKN K (TYb n K T vL aL b) i x ∨ TYb n K T vL aL b i 16)) := fun b hb2 => by
    rw [tkn_iff hr.le16 (hw.1 i x hr).2.1]
    unfold TKN
    simp only [h.tS hb2 hi]
    have : tS ml b i 16 ↔ hb (ml 16 (5 + b)) i = true := ⟨fun z => z.elim (fun w => by omega) (fun w => w.2), fun z => Or.inr ⟨rfl, z⟩⟩
    rw [this]
  have k0 := key 0 (by decide)
  have k1 := key 1 (by decide)
  constructor
  · intro g
    unfold sfB at g
    rw [Bool.and_eq_false_iff, Bool.or_eq_false_iff, Bool.or_eq_false_iff] at g
    rcases g with ⟨g1, g2⟩ | ⟨g1, g2⟩
    · exact ⟨0, by decide, k0.mp (by rw [Bool.not_eq_false', Bool.or_eq_true] at g1; exact g1), g2⟩
    · exact ⟨1, by decide, k1.mp (by rw [Bool.not_eq_false', Bool.or_eq_true] at g1; exact g1), g2⟩
  · rintro ⟨b, hb2, g1, g2⟩
    have g1 := (key b hb2).mpr g1
    unfold sfB
    rcases (show b = 0 ∨ b = 1 by omega) with rfl | rfl
    · have : (tkn K ml 0 i x || hb (ml 16 5) i) = true := by rw [Bool.or_eq_true]; exact g1
      rw [this, g2]; simp
    · have : (tkn K ml 1 i x || hb (ml 16 6) i) = true := by rw [Bool.or_eq_true]; exact g1
      rw [this, g2]; simp
set_option maxRecDepth 100000 in
set_option maxHeartbeats 1000000 in
theorem c_typesNow (d L : Nat) (mi : xmi) (ml : xml) {n : Nat} {K T : Nat → Nat} {vL aL cL : Nat → Nat → Bool} (hC : CI n K T vL aL cL mi ml) (h08 : mi 0 8 = 0) (h84 : mi 8 4 = 1) : xF (d + 6) 83 [.ref 0] L mi ml (fun rr a b => rr = some (.ref 16) ∧ CI n K T vL aL cL a b ∧ a 0 8 = 0 ∧ a 0 9 = 0 ∧ a 8 4 = 1 ∧ FR mi ml a b) := by
  have hS := (hC.2.2.2.2.2.1 h08).1
  have hJ := (hC.2.2.2.2.2.1 h08).2 h84
  have hW := hS.wf1 h84
  refine xF.mk mX8_typesNow rfl rfl ?_
  refine xB.go 2 (4, [(0, .ref 0)], [.int (mi 0 9)], XM L mi ml) rfl ?_
  refine xB.bp ((mi 0 9) = 0) (19, [(0, .ref 0)], [], XM L mi ml) (7, [(0, .ref 0)], [], XM L mi ml) rfl (fun h1 => ?_) (fun h1 => ?_)
  · refine xB.go 2 (23, [(0, .ref 0)], [.ref 16], XM L mi ml) rfl ?_
    refine xB.rt (some (.ref 16)) mi ml rfl ?_
    exact ⟨rfl, hC, h08, h1, h84, FR.rfl'⟩
  · refine xB.go 2 (11, [(0, .ref 0)], [.ref 16], XM L mi ml) rfl ?_
    refine xB.ca 59 [.ref 16] [] (c_tfind _ L _ _ hC.1 hC.2.1 hC.2.2.1 hW.1 hW.2.1 hW.2.2) rfl ?_
    intro r1 a b hq
    obtain ⟨rfl, hf, hT⟩ := hq
    show xB _ _ L _ (14, [(0, .ref 0)], [], XM L a b)
    refine xB.go 5 (23, [(0, .ref 0)], [.ref 16], XM L (xU a 0 9 0) b) rfl ?_
    refine xB.rt (some (.ref 16)) (xU a 0 9 0) b rfl ?_
    have e0 : xU a 0 9 0 0 8 = mi 0 8 := by rw [xU_at, va_up_ne _ _ (by decide), hf.1 0 (by decide)]
    have e8 : xU a 0 9 0 8 = mi 8 := by rw [xU_ne (by decide), hf.1 8 (by decide)]
    refine ⟨rfl, ⟨hC.1.frame (by rw [xU_ne (by decide)]; exact hf.1 1 (by decide)) (by rw [xU_ne (by decide)]; exact hf.1 2 (by decide)) (by rw [xU_ne (by decide)]; exact hf.1 3 (by decide)) (by rw [xU_ne (by decide)]; exact hf.1 1002 (by decide)) (by rw [xU_ne (by decide)]; exact hf.1 1003 (by decide)), hC.2.1.frame (by rw [xU_ne (by decide)]; exact hf.1 3 (by decide)), hC.2.2.1.frame (by rw [xU_ne (by decide)]; exact hf.1 5 (by decide)) (by rw [xU_ne (by decide)]; exact hf.1 6 (by decide)) (by rw [xU_ne (by decide)]; exact hf.1 7 (by decide)), Or.inl (by rw [e0, h08]), Or.inl (by rw [xU_self]), fun _ => ⟨hS.frame (by rw [xU_ne (by decide)]; exact hf.1 8 (by decide)) (by rw [xU_ne (by decide)]; exact hf.1 9 (by decide)) (hf.2.2 8 (by decide) (by decide)), fun _ => hJ.frame (by rw [xU_ne (by decide)]; exact hf.1 14 (by decide)) (hf.2.2 15 (by decide) (by decide))⟩, fun _ _ _ b' j k hb2 => ?_⟩, by rw [e0, h08], by rw [xU_self], by rw [e8, h84], fun x hx => ⟨by rw [xU_ne (by omega)]; exact hf.1 x (by omega), hf.2.2 x (by omega) (by omega)⟩⟩
    rw [← hT b' j k hb2]
    exact (TY.cg (fun i hm h5 j => hJ.rg hW.1 hC.1.2.1 hm h5 j)).symm
set_option maxRecDepth 100000 in
set_option maxHeartbeats 1000000 in
theorem c_check (d L : Nat) (mi : xmi) (ml : xml) {n : Nat} {K T : Nat → Nat} {vL aL cL : Nat → Nat → Bool} (hC : CI n K T vL aL cL mi ml) : xF (d + 7) 71 [.ref 0] L mi ml (fun rr a b => ∃ v, rr = some (.int v) ∧ CI n K T vL aL cL a b ∧ FR mi ml a b ∧ CHK n K T vL aL cL v) := by
  refine xF.mk mX8_check rfl rfl ?_
  refine xB.go 1 (1, [(0, .ref 0)], [.ref 0], XM L mi ml) rfl ?_
  refine xB.ca 82 [.ref 0] [] (c_iwf _ L _ _ hC) rfl ?_
  intro r1 a b hq
  obtain ⟨v0, rfl, hCa, h08, hv0, hfr⟩ := hq
  have hSa := (hCa.2.2.2.2.2.1 h08).1
  show xB _ _ L _ (4, [(0, .ref 0)], [.int v0], XM L a b)
  refine xB.bp (v0 = 0) (19, [(0, .ref 0)], [], XM L a b) (7, [(0, .ref 0)], [], XM L a b) rfl (fun h1 => ?_) (fun h1 => ?_)
  · refine xB.go 1 (20, [(0, .ref 0)], [.int (-1)], XM L a b) rfl ?_
    refine xB.rt (some (.int (-1))) a b rfl ?_
    exact ⟨_, rfl, hCa, hfr, Or.inl ⟨(hSa.wf0 (by rw [← hv0, h1]; decide)).1, rfl⟩⟩
  · have h84 : a 8 4 = 1 := by rcases hSa with z | z; exact z.1; exact absurd (hv0.trans z.1) h1
    have hWa := hSa.wf1 h84
    refine xB.go 1 (8, [(0, .ref 0)], [.ref 0], XM L a b) rfl ?_
    refine xB.ca 83 [.ref 0] [] (c_typesNow _ L _ _ hCa h08 h84) rfl ?_
    intro r2 a2 b2 hq2
    obtain ⟨rfl, hC2, h082, h092, h842, hfr2⟩ := hq2
    have hS2 := (hC2.2.2.2.2.2.1 h082).1
    have hW2 := hS2.wf1 h842
    have hT2 := hC2.2.2.2.2.2.2 h082 h092 h842
    show xB _ _ L _ (11, [(0, .ref 0)], [.ref 16], XM L a2 b2)
    refine xB.ca 60 [.ref 16] [] (c_firstUnsafe _ L _ _ hC2.1 hC2.2.1 hC2.2.2.1 hW2.1 hW2.2.1 hW2.2.2) rfl ?_
    intro r3 a3 b3 hq3
    obtain ⟨ha3, hb3, w, rfl, hFU⟩ := hq3
    rw [ha3, hb3]
    show xB _ _ L _ (14, [(0, .ref 0)], [.int w], XM L a2 b2)
    refine xB.go 3 (20, [(0, .ref 0)], [.int (w + 1)], XM L a2 b2) rfl ?_
    refine xB.rt (some (.int (w + 1))) a2 b2 rfl ?_
    exact ⟨_, rfl, hC2, hfr.trans hfr2, Or.inr ⟨hW2.1, w, hFU.cg (usB_iff hT2 hW2.1 hC2.1.2.1), rfl⟩⟩
theorem met_x {n : Nat} {K T : Nat → Nat} {b : xml} {x : Int32} (hm : ∀ i, i < 64 → (hb (b 8 2) i = true ↔ ∃ h, Rh n K T i h)) (h : 0 ≤ x ∧ x < 64 ∧ hb (b 8 2) x.toNatClampNeg = true) : ∃ i, i < 64 ∧ x = nI i ∧ met n K T i := by
  obtain ⟨i, hi, e⟩ := xholds_j (i_nlt.mpr h.1) (i_nle.mpr h.2.1)
  refine ⟨i, hi, e, (hm i hi).mp ?_⟩
  have := h.2.2
  rwa [e, nI_clamp (by omega)] at this
theorem nmet_x {n : Nat} {K T : Nat → Nat} {b : xml} {x : Int32} (hn : n ≤ 64) (hm : ∀ i, i < 64 → (hb (b 8 2) i = true ↔ ∃ h, Rh n K T i h)) (h : ¬ (0 ≤ x ∧ x < 64 ∧ hb (b 8 2) x.toNatClampNeg = true)) : ¬ ∃ i, WF n K T ∧ x = nI i ∧ met n K T i := by
  rintro ⟨i, hw, e, hi⟩
  have hi64 : i < 64 := Nat.lt_of_lt_of_le (hw.lt hi) hn
  refine h ⟨by rw [e]; exact nI_pos' (by omega), by rw [e, show (64 : Int32) = nI 64 from rfl, nI_ltI (by omega) (by decide)]; exact hi64, ?_⟩
  rw [e, nI_clamp (by omega)]; exact (hm i hi64).mpr hi
set_option maxRecDepth 100000 in
set_option maxHeartbeats 1000000 in
theorem c_surrounding (d L : Nat) (mi : xmi) (ml : xml) {n : Nat} {K T : Nat → Nat} {vL aL cL : Nat → Nat → Bool} (hC : CI n K T vL aL cL mi ml) (x : Int32) : xF (d + 7) 72 [.ref 0, .int x] L mi ml (fun rr a b => ∃ v, rr = some (.int v) ∧ CI n K T vL aL cL a b ∧ FR mi ml a b ∧ SUR n K T vL aL x v) := by
  refine xF.mk mX8_surrounding rfl rfl ?_
  refine xB.go 1 (1, [(0, .ref 0), (1, .int x)], [.ref 0], XM L mi ml) rfl ?_
  refine xB.ca 82 [.ref 0] [] (c_iwf _ L _ _ hC) rfl ?_
  intro r1 a b hq
  obtain ⟨v0, rfl, hCa, h08, hv0, hfr⟩ := hq
  have hSa := (hCa.2.2.2.2.2.1 h08).1
  show xB _ _ L _ (4, [(0, .ref 0), (1, .int x)], [.int v0], XM L a b)
  refine xB.bp (v0 = 0) (29, [(0, .ref 0), (1, .int x)], [], XM L a b) (7, [(0, .ref 0), (1, .int x)], [], XM L a b) rfl (fun h1 => ?_) (fun h1 => ?_)
  · refine xB.go 1 (30, [(0, .ref 0), (1, .int x)], [.int (-1)], XM L a b) rfl ?_
    refine xB.rt (some (.int (-1))) a b rfl ?_
    exact ⟨_, rfl, hCa, hfr, Or.inr ⟨fun ⟨i, z, _⟩ => (hSa.wf0 (by rw [← hv0, h1]; decide)).1 z, rfl⟩⟩
  · have h84 : a 8 4 = 1 := by rcases hSa with z | z; exact z.1; exact absurd (hv0.trans z.1) h1
    have hWa := hSa.wf1 h84
    refine xB.go 3 (12, [(0, .ref 0), (1, .int x)], [.int x, .ref 8], XM L a b) rfl ?_
    refine xB.c1 51 [.ref 8, .int x] [] (c_isMet _ L a b x ) rfl ?_
    refine xB.bz (0 ≤ x ∧ x < 64 ∧ hb (b 8 2) x.toNatClampNeg = true) (29, [(0, .ref 0), (1, .int x)], [], XM L a b) (18, [(0, .ref 0), (1, .int x)], [], XM L a b) rfl (fun h2 => ?_) (fun h2 => ?_)
    · refine xB.go 1 (30, [(0, .ref 0), (1, .int x)], [.int (-1)], XM L a b) rfl ?_
      refine xB.rt (some (.int (-1))) a b rfl ?_
      exact ⟨_, rfl, hCa, hfr, Or.inr ⟨nmet_x hCa.1.2.1 hWa.2.1 h2, rfl⟩⟩
    · obtain ⟨i, hi64, hx, hmi⟩ := met_x hWa.2.1 h2
      have hin := hWa.1.lt hmi
      refine xB.cg (18, [(0, .ref 0), (1, .int (nI i))], [], XM L a b) (by rw [hx]) ?_
      refine xB.go 1 (19, [(0, .ref 0), (1, .int (nI i))], [.ref 0], XM L a b) rfl ?_
      refine xB.ca 83 [.ref 0] [] (c_typesNow _ L _ _ hCa h08 h84) rfl ?_
      intro r2 a2 b2 hq2
      obtain ⟨rfl, hC2, h082, h092, h842, hfr2⟩ := hq2
      have hS2 := (hC2.2.2.2.2.2.1 h082).1
      have hW2 := hS2.wf1 h842
      have hT2 := hC2.2.2.2.2.2.2 h082 h092 h842
      show xB _ _ L _ (22, [(0, .ref 0), (1, .int (nI i))], [.ref 16], XM L a2 b2)
      refine xB.go 1 (23, [(0, .ref 0), (1, .int (nI i))], [.int (nI i), .ref 16], XM L a2 b2) rfl ?_
      refine xB.c1 57 [.ref 16, .int (nI i)] [] (c_surroundingAt _ L _ _ hi64) rfl ?_
      refine xB.go 1 (30, [(0, .ref 0), (1, .int (nI i))], [.int (lv2 (hb (b2 16 5) i) (hb (b2 16 6) i))], XM L a2 b2) rfl ?_
      refine xB.rt (some (.int (lv2 (hb (b2 16 5) i) (hb (b2 16 6) i)))) a2 b2 rfl ?_
      refine ⟨_, rfl, hC2, hfr.trans hfr2, Or.inl ⟨i, hWa.1, hx, hmi, _, _, ?_, ?_, rfl⟩⟩
      · rw [hT2.tS (by decide) hi64]; exact ⟨fun z => Or.inr ⟨rfl, z⟩, fun z => z.elim (fun w => by omega) (fun w => w.2)⟩
      · rw [hT2.tS (by decide) hi64]; exact ⟨fun z => Or.inr ⟨rfl, z⟩, fun z => z.elim (fun w => by omega) (fun w => w.2)⟩
set_option maxRecDepth 100000 in
set_option maxHeartbeats 1000000 in
theorem c_junction (d L : Nat) (mi : xmi) (ml : xml) {n : Nat} {K T : Nat → Nat} {vL aL cL : Nat → Nat → Bool} (hC : CI n K T vL aL cL mi ml) (x : Int32) : xF (d + 7) 74 [.ref 0, .int x] L mi ml (fun rr a b => ∃ v, rr = some (.int v) ∧ CI n K T vL aL cL a b ∧ FR mi ml a b ∧ JUN n K T x v) := by
  refine xF.mk mX8_junction rfl rfl ?_
  refine xB.go 1 (1, [(0, .ref 0), (1, .int x)], [.ref 0], XM L mi ml) rfl ?_
  refine xB.ca 82 [.ref 0] [] (c_iwf _ L _ _ hC) rfl ?_
  intro r1 a b hq
  obtain ⟨v0, rfl, hCa, h08, hv0, hfr⟩ := hq
  have hSa := (hCa.2.2.2.2.2.1 h08).1
  show xB _ _ L _ (4, [(0, .ref 0), (1, .int x)], [.int v0], XM L a b)
  refine xB.bp (v0 = 0) (29, [(0, .ref 0), (1, .int x)], [], XM L a b) (7, [(0, .ref 0), (1, .int x)], [], XM L a b) rfl (fun h1 => ?_) (fun h1 => ?_)
  · refine xB.go 1 (30, [(0, .ref 0), (1, .int x)], [.int (-1)], XM L a b) rfl ?_
    refine xB.rt (some (.int (-1))) a b rfl ?_
    exact ⟨_, rfl, hCa, hfr, Or.inr ⟨fun ⟨i, z, _⟩ => (hSa.wf0 (by rw [← hv0, h1]; decide)).1 z, rfl⟩⟩
  · have h84 : a 8 4 = 1 := by rcases hSa with z | z; exact z.1; exact absurd (hv0.trans z.1) h1
    have hWa := hSa.wf1 h84
    refine xB.go 3 (12, [(0, .ref 0), (1, .int x)], [.int x, .ref 8], XM L a b) rfl ?_
    refine xB.c1 51 [.ref 8, .int x] [] (c_isMet _ L a b x ) rfl ?_
    refine xB.bz (0 ≤ x ∧ x < 64 ∧ hb (b 8 2) x.toNatClampNeg = true) (29, [(0, .ref 0), (1, .int x)], [], XM L a b) (18, [(0, .ref 0), (1, .int x)], [], XM L a b) rfl (fun h2 => ?_) (fun h2 => ?_)
    · refine xB.go 1 (30, [(0, .ref 0), (1, .int x)], [.int (-1)], XM L a b) rfl ?_
      refine xB.rt (some (.int (-1))) a b rfl ?_
      exact ⟨_, rfl, hCa, hfr, Or.inr ⟨nmet_x hCa.1.2.1 hWa.2.1 h2, rfl⟩⟩
    · obtain ⟨i, hi64, hx, hmi⟩ := met_x hWa.2.1 h2
      have hin := hWa.1.lt hmi
      refine xB.cg (18, [(0, .ref 0), (1, .int (nI i))], [], XM L a b) (by rw [hx]) ?_
      refine xB.go 3 (23, [(0, .ref 0), (1, .int (nI i))], [.int (nI i), .ref 10], XM L a b) rfl ?_
      refine xB.c1 1 [.ref 10, .int (nI i)] [] (c_jat _ L _ _ hCa.1 hin) rfl ?_
      refine xB.go 1 (30, [(0, .ref 0), (1, .int (nI i))], [.int (a 14 i)], XM L a b) rfl ?_
      refine xB.rt (some (.int (a 14 i))) a b rfl ?_
      exact ⟨_, rfl, hCa, hfr, Or.inl ⟨i, hWa.1, hx, hmi, (((hCa.2.2.2.2.2.1 h08).2 h84) i hin).1⟩⟩
theorem pil_t {n : Nat} {K T : Nat → Nat} {a : xmi} {b : xml} {x y : Int32} (hm : ∀ i, i < 64 → (hb (b 8 2) i = true ↔ ∃ h, Rh n K T i h)) (hht : ∀ i h, Rh n K T i h → a 9 i = nI h ∧ h ≤ 16) (h : 0 ≤ y ∧ y < (if 0 ≤ x ∧ x < 64 ∧ hb (b 8 2) x.toNatClampNeg = true then a 9 x.toNatClampNeg else 0)) : ∃ i h k, i < 64 ∧ x = nI i ∧ Rh n K T i h ∧ y = nI k ∧ k < h := by
  by_cases g : 0 ≤ x ∧ x < 64 ∧ hb (b 8 2) x.toNatClampNeg = true
  · rw [if_pos g] at h
    obtain ⟨i, hi, e, x1, hr⟩ := met_x hm g
    rw [e, nI_clamp (by omega), (hht i x1 hr).1] at h
    have h16 := (hht i x1 hr).2
    rcases pk_ix y (show x1 < 2 ^ 31 by omega) with z | z | ⟨k, h1, h2⟩
    · exact absurd z (i_nlt.mpr h.1)
    · exact absurd h.2 (i_nlt.mpr z)
    · exact ⟨i, x1, k, hi, e, hr, h2, h1⟩
  · rw [if_neg g] at h
    exact absurd h.2 (i_nlt.mpr h.1)
theorem pil_f {n : Nat} {K T : Nat → Nat} {a : xmi} {b : xml} {x y : Int32} (hn : n ≤ 64) (hm : ∀ i, i < 64 → (hb (b 8 2) i = true ↔ ∃ h, Rh n K T i h)) (hht : ∀ i h, Rh n K T i h → a 9 i = nI h ∧ h ≤ 16) (h : ¬ (0 ≤ y ∧ y < (if 0 ≤ x ∧ x < 64 ∧ hb (b 8 2) x.toNatClampNeg = true then a 9 x.toNatClampNeg else 0))) : ¬ ∃ i h k, WF n K T ∧ x = nI i ∧ Rh n K T i h ∧ y = nI k ∧ k < h := by
  rintro ⟨i, h1, k, hw, e, hr, ey, hk⟩
  have hi64 : i < 64 := Nat.lt_of_lt_of_le (hw.1 i h1 hr).1 hn
  have h16 := hr.le16
  refine h ⟨by rw [ey]; exact nI_pos' (by omega), ?_⟩
  rw [if_pos ⟨by rw [e]; exact nI_pos' (by omega), by rw [e, show (64 : Int32) = nI 64 from rfl, nI_ltI (by omega) (by decide)]; exact hi64, by rw [e, nI_clamp (by omega)]; exact (hm i hi64).mpr ⟨h1, hr⟩⟩, e, nI_clamp (by omega), (hht i h1 hr).1, ey, nI_ltI (by omega) (by omega)]
  exact hk
set_option maxRecDepth 100000 in
set_option maxHeartbeats 1000000 in
theorem c_pile (d L : Nat) (mi : xmi) (ml : xml) {n : Nat} {K T : Nat → Nat} {vL aL cL : Nat → Nat → Bool} (hC : CI n K T vL aL cL mi ml) (x y : Int32) : xF (d + 7) 73 [.ref 0, .int x, .int y] L mi ml (fun rr a b => ∃ v, rr = some (.int v) ∧ CI n K T vL aL cL a b ∧ FR mi ml a b ∧ PIL n K T vL aL x y v) := by
  refine xF.mk mX8_pile rfl rfl ?_
  refine xB.go 1 (1, [(0, .ref 0), (1, .int x), (2, .int y)], [.ref 0], XM L mi ml) rfl ?_
  refine xB.ca 82 [.ref 0] [] (c_iwf _ L _ _ hC) rfl ?_
  intro r1 a b hq
  obtain ⟨v0, rfl, hCa, h08, hv0, hfr⟩ := hq
  have hSa := (hCa.2.2.2.2.2.1 h08).1
  show xB _ _ L _ (4, [(0, .ref 0), (1, .int x), (2, .int y)], [.int v0], XM L a b)
  refine xB.bp (v0 = 0) (22, [(0, .ref 0), (1, .int x), (2, .int y)], [], XM L a b) (7, [(0, .ref 0), (1, .int x), (2, .int y)], [], XM L a b) rfl (fun h1 => ?_) (fun h1 => ?_)
  · refine xB.go 1 (23, [(0, .ref 0), (1, .int x), (2, .int y)], [.int (-1)], XM L a b) rfl ?_
    refine xB.rt (some (.int (-1))) a b rfl ?_
    exact ⟨_, rfl, hCa, hfr, Or.inr ⟨fun ⟨i, _, _, z, _⟩ => (hSa.wf0 (by rw [← hv0, h1]; decide)).1 z, rfl⟩⟩
  · have h84 : a 8 4 = 1 := by rcases hSa with z | z; exact z.1; exact absurd (hv0.trans z.1) h1
    have hWa := hSa.wf1 h84
    refine xB.go 4 (13, [(0, .ref 0), (1, .int x), (2, .int y)], [.int x, .ref 8, .int y], XM L a b) rfl ?_
    refine xB.c1 52 [.ref 8, .int x] [.int y] (c_heightAt _ L a b x ) rfl ?_
    refine xB.c1 86 [.int y, .int (if 0 ≤ x ∧ x < 64 ∧ hb (b 8 2) x.toNatClampNeg = true then a 9 x.toNatClampNeg else 0)] [] (c_isBetween _ L a b y (if 0 ≤ x ∧ x < 64 ∧ hb (b 8 2) x.toNatClampNeg = true then a 9 x.toNatClampNeg else 0) ) rfl ?_
    refine xB.bn (0 ≤ y ∧ y < (if 0 ≤ x ∧ x < 64 ∧ hb (b 8 2) x.toNatClampNeg = true then a 9 x.toNatClampNeg else 0)) (24, [(0, .ref 0), (1, .int x), (2, .int y)], [], XM L a b) (22, [(0, .ref 0), (1, .int x), (2, .int y)], [], XM L a b) rfl (fun h2 => ?_) (fun h2 => ?_)
    · obtain ⟨i, h, k, hi64, hx, hrh, hy, hkh⟩ := pil_t hWa.2.1 hWa.2.2 h2
      have hin := (hWa.1.1 i h hrh).1
      have hk16 : k < 16 := by have := hrh.le16; omega
      refine xB.cg (24, [(0, .ref 0), (1, .int (nI i)), (2, .int y)], [], XM L a b) (by rw [hx]) ?_
      refine xB.cg (24, [(0, .ref 0), (1, .int (nI i)), (2, .int (nI k))], [], XM L a b) (by rw [hy]) ?_
      refine xB.go 1 (25, [(0, .ref 0), (1, .int (nI i)), (2, .int (nI k))], [.ref 0], XM L a b) rfl ?_
      refine xB.ca 83 [.ref 0] [] (c_typesNow _ L _ _ hCa h08 h84) rfl ?_
      intro r2 a2 b2 hq2
      obtain ⟨rfl, hC2, h082, h092, h842, hfr2⟩ := hq2
      have hS2 := (hC2.2.2.2.2.2.1 h082).1
      have hW2 := hS2.wf1 h842
      have hT2 := hC2.2.2.2.2.2.2 h082 h092 h842
      show xB _ _ L _ (28, [(0, .ref 0), (1, .int (nI i)), (2, .int (nI k))], [.ref 16], XM L a2 b2)
      refine xB.go 2 (30, [(0, .ref 0), (1, .int (nI i)), (2, .int (nI k))], [.int (nI k), .int (nI i), .ref 16], XM L a2 b2) rfl ?_
      refine xB.c1 58 [.ref 16, .int (nI i), .int (nI k)] [] (c_levelOnPile _ L _ _ hC2.1 hin hk16) rfl ?_
      refine xB.rt (some (.int (lv2 (hb (b2 17 i) (2 * k)) (hb (b2 17 i) (2 * k + 1))))) a2 b2 rfl ?_
      refine ⟨_, rfl, hC2, hfr.trans hfr2, Or.inl ⟨i, h, k, hWa.1, hx, hrh, hy, hkh, _, _, ?_, ?_, rfl⟩⟩
      · rw [hT2.tS (by decide) hi64]; exact ⟨fun z => Or.inl ⟨hk16, z⟩, fun z => z.elim (fun w => w.2) (fun w => by omega)⟩
      · rw [hT2.tS (by decide) hi64]; exact ⟨fun z => Or.inl ⟨hk16, z⟩, fun z => z.elim (fun w => w.2) (fun w => by omega)⟩
    · refine xB.go 1 (23, [(0, .ref 0), (1, .int x), (2, .int y)], [.int (-1)], XM L a b) rfl ?_
      refine xB.rt (some (.int (-1))) a b rfl ?_
      exact ⟨_, rfl, hCa, hfr, Or.inr ⟨pil_f hCa.1.2.1 hWa.2.1 hWa.2.2 h2, rfl⟩⟩
