/-! the class: is an instruction safe; what is known of the class; well formed, types now -/
def lvl (K T : Nat → Nat) (vL aL cL : Nat → Nat → Bool) (b i : Nat) : Bool := (decide (K i = 2) && vL b (T i)) || (decide (K i = 7) && aL b (T i)) || (decide (K i = 8) && cL b (T i)) || (!decide (K i = 2) && !decide (K i = 7) && !decide (K i = 8))
theorem belowL : ∀ p q p' q' : Bool, lv2 p q &&& (lv2 p' q' ^^^ (-1)) = 0 ↔ ((!p || p') && (!q || q')) = true := by decide +kernel
def sfB (K T : Nat → Nat) (vL aL cL : Nat → Nat → Bool) (ml : xml) (i h : Nat) : Bool := (!(tkn K ml 0 i h || hb (ml 16 5) i) || lvl K T vL aL cL 0 i) && (!(tkn K ml 1 i h || hb (ml 16 6) i) || lvl K T vL aL cL 1 i)
theorem xb_cg {p q : Prop} [Decidable p] [Decidable q] (h : p ↔ q) : xb p = xb q := by unfold xb; simp only [h]
theorem sf_cls {K T : Nat → Nat} {vL aL cL : Nat → Nat → Bool} {ml : xml} {i h : Nat} {y : Int32} (hy : y = lv2 (lvl K T vL aL cL 0 i) (lvl K T vL aL cL 1 i)) : xb ((lv2 (tkn K ml 0 i h) (tkn K ml 1 i h) ||| lv2 (hb (ml 16 5) i) (hb (ml 16 6) i)) &&& (y ^^^ (-1)) = 0) = xb (sfB K T vL aL cL ml i h = true) := by
  subst hy; rw [lv2_or]; exact xb_cg (belowL _ _ _ _)
set_option maxRecDepth 100000 in
set_option maxHeartbeats 1000000 in
theorem c_isSafe (d L : Nat) (mi : xmi) (ml : xml) {n : Nat} {K T : Nat → Nat} {vL aL cL : Nat → Nat → Bool} (hP : PRG mi n K T) (hN : NUM mi n K T) (hV : LEV mi vL aL cL) {i h : Nat} (hin : i < n) (hmt : hb (ml 8 2) i = true) (hh : mi 9 i = nI h) (h16 : h ≤ 16) (htk : tk (K i) ≤ h) : xFv (d + 4) 61 [.ref 16, .int (nI i)] L mi ml (.int (xb (sfB K T vL aL cL ml i h = true))) mi ml := by
  have hk := (hP.2.2.1 i hin).2
  have hi64 : i < 64 := Nat.lt_of_lt_of_le hin hP.2.1
  refine xF.mk mX7_isSafe rfl rfl ?_
  refine xB.go 3 (5, [(0, .ref 16), (1, .int (nI i))], [.int (nI i), .ref 1], XM L mi ml) rfl ?_
  refine xB.c1 43 [.ref 1, .int (nI i)] [] (c_numberN _ L _ _ hP hin) rfl ?_
  refine xB.go 3 (11, [(0, .ref 16), (1, .int (nI i)), (2, .int (mi 3 i))], [.int (nI i), .ref 16], XM L mi ml) rfl ?_
  refine xB.c1 63 [.ref 16, .int (nI i)] [] (c_takenAt _ L _ _ hP hin hmt hh h16 htk) rfl ?_
  refine xB.go 2 (16, [(0, .ref 16), (1, .int (nI i)), (2, .int (mi 3 i))], [.int (nI i), .ref 16, .int (lv2 (tkn K ml 0 i h) (tkn K ml 1 i h))], XM L mi ml) rfl ?_
  refine xB.c1 57 [.ref 16, .int (nI i)] [.int (lv2 (tkn K ml 0 i h) (tkn K ml 1 i h))] (c_surroundingAt _ L _ _ hi64) rfl ?_
  refine xB.go 5 (26, [(0, .ref 16), (1, .int (nI i)), (2, .int (mi 3 i)), (3, .int ((lv2 (tkn K ml 0 i h) (tkn K ml 1 i h)) ||| (lv2 (hb (ml 16 5) i) (hb (ml 16 6) i))))], [.int (nI i), .ref 1], XM L mi ml) rfl ?_
  refine xB.c1 42 [.ref 1, .int (nI i)] [] (c_kindN _ L _ _ hP hin) rfl ?_
  by_cases h1 : (nI (K i)) = 2
  · refine xB.tp h1 ?_
    refine xB.go 1 (64, [(0, .ref 16), (1, .int (nI i)), (2, .int (mi 3 i)), (3, .int ((lv2 (tkn K ml 0 i h) (tkn K ml 1 i h)) ||| (lv2 (hb (ml 16 5) i) (hb (ml 16 6) i))))], [], XM L mi ml) rfl ?_
    refine xB.go 4 (70, [(0, .ref 16), (1, .int (nI i)), (2, .int (mi 3 i)), (3, .int ((lv2 (tkn K ml 0 i h) (tkn K ml 1 i h)) ||| (lv2 (hb (ml 16 5) i) (hb (ml 16 6) i))))], [.int (mi 3 i), .ref 4, .int ((lv2 (tkn K ml 0 i h) (tkn K ml 1 i h)) ||| (lv2 (hb (ml 16 5) i) (hb (ml 16 6) i)))], XM L mi ml) rfl ?_
    refine xB.c1 11 [.ref 4, .int (mi 3 i)] [.int ((lv2 (tkn K ml 0 i h) (tkn K ml 1 i h)) ||| (lv2 (hb (ml 16 5) i) (hb (ml 16 6) i)))] (c_ofVariable _ L mi ml (mi 3 i) ) rfl ?_
    refine xB.c1 87 [.int ((lv2 (tkn K ml 0 i h) (tkn K ml 1 i h)) ||| (lv2 (hb (ml 16 5) i) (hb (ml 16 6) i))), .int (sl_lv mi 5 8 (mi 3 i))] [] (c_isBelow _ L mi ml ((lv2 (tkn K ml 0 i h) (tkn K ml 1 i h)) ||| (lv2 (hb (ml 16 5) i) (hb (ml 16 6) i))) (sl_lv mi 5 8 (mi 3 i)) ) rfl ?_
    refine xB.rz (xb (((lv2 (tkn K ml 0 i h) (tkn K ml 1 i h)) ||| (lv2 (hb (ml 16 5) i) (hb (ml 16 6) i))) &&& ((sl_lv mi 5 8 (mi 3 i)) ^^^ (-1)) = 0)) mi ml rfl xz_xb ?_
    have g := k_eq hk (c := 2) (by decide) h1
    have g2 := (hN i hin).1 (Or.inr g)
    refine ⟨?_, rfl, rfl⟩
    refine congrArg (fun z => some (Value.int z)) (sf_cls ?_)
    rw [g2.1, show (8 : Int32) = nI 8 from rfl, sl_lvN (by decide) g2.2, hV.1 _ g2.2]; simp [lvl, g]
  by_cases h2 : (nI (K i)) = 7
  · refine xB.tp h2 ?_
    refine xB.go 1 (77, [(0, .ref 16), (1, .int (nI i)), (2, .int (mi 3 i)), (3, .int ((lv2 (tkn K ml 0 i h) (tkn K ml 1 i h)) ||| (lv2 (hb (ml 16 5) i) (hb (ml 16 6) i))))], [], XM L mi ml) rfl ?_
    refine xB.go 4 (83, [(0, .ref 16), (1, .int (nI i)), (2, .int (mi 3 i)), (3, .int ((lv2 (tkn K ml 0 i h) (tkn K ml 1 i h)) ||| (lv2 (hb (ml 16 5) i) (hb (ml 16 6) i))))], [.int (mi 3 i), .ref 4, .int ((lv2 (tkn K ml 0 i h) (tkn K ml 1 i h)) ||| (lv2 (hb (ml 16 5) i) (hb (ml 16 6) i)))], XM L mi ml) rfl ?_
    refine xB.c1 12 [.ref 4, .int (mi 3 i)] [.int ((lv2 (tkn K ml 0 i h) (tkn K ml 1 i h)) ||| (lv2 (hb (ml 16 5) i) (hb (ml 16 6) i)))] (c_ofArray _ L mi ml (mi 3 i) ) rfl ?_
    refine xB.c1 87 [.int ((lv2 (tkn K ml 0 i h) (tkn K ml 1 i h)) ||| (lv2 (hb (ml 16 5) i) (hb (ml 16 6) i))), .int (sl_lv mi 6 2 (mi 3 i))] [] (c_isBelow _ L mi ml ((lv2 (tkn K ml 0 i h) (tkn K ml 1 i h)) ||| (lv2 (hb (ml 16 5) i) (hb (ml 16 6) i))) (sl_lv mi 6 2 (mi 3 i)) ) rfl ?_
    refine xB.rz (xb (((lv2 (tkn K ml 0 i h) (tkn K ml 1 i h)) ||| (lv2 (hb (ml 16 5) i) (hb (ml 16 6) i))) &&& ((sl_lv mi 6 2 (mi 3 i)) ^^^ (-1)) = 0)) mi ml rfl xz_xb ?_
    have g := k_eq hk (c := 7) (by decide) h2
    have g2 := (hN i hin).2.1 (Or.inr g)
    refine ⟨?_, rfl, rfl⟩
    refine congrArg (fun z => some (Value.int z)) (sf_cls ?_)
    rw [g2.1, show (2 : Int32) = nI 2 from rfl, sl_lvN (by decide) g2.2, hV.2.1 _ g2.2]; simp [lvl, g]
  by_cases h3 : (nI (K i)) = 8
  · refine xB.tp h3 ?_
    refine xB.go 1 (90, [(0, .ref 16), (1, .int (nI i)), (2, .int (mi 3 i)), (3, .int ((lv2 (tkn K ml 0 i h) (tkn K ml 1 i h)) ||| (lv2 (hb (ml 16 5) i) (hb (ml 16 6) i))))], [], XM L mi ml) rfl ?_
    refine xB.go 4 (96, [(0, .ref 16), (1, .int (nI i)), (2, .int (mi 3 i)), (3, .int ((lv2 (tkn K ml 0 i h) (tkn K ml 1 i h)) ||| (lv2 (hb (ml 16 5) i) (hb (ml 16 6) i))))], [.int (mi 3 i), .ref 4, .int ((lv2 (tkn K ml 0 i h) (tkn K ml 1 i h)) ||| (lv2 (hb (ml 16 5) i) (hb (ml 16 6) i)))], XM L mi ml) rfl ?_
    refine xB.c1 13 [.ref 4, .int (mi 3 i)] [.int ((lv2 (tkn K ml 0 i h) (tkn K ml 1 i h)) ||| (lv2 (hb (ml 16 5) i) (hb (ml 16 6) i)))] (c_ofChannel _ L mi ml (mi 3 i) ) rfl ?_
    refine xB.c1 87 [.int ((lv2 (tkn K ml 0 i h) (tkn K ml 1 i h)) ||| (lv2 (hb (ml 16 5) i) (hb (ml 16 6) i))), .int (sl_lv mi 7 4 (mi 3 i))] [] (c_isBelow _ L mi ml ((lv2 (tkn K ml 0 i h) (tkn K ml 1 i h)) ||| (lv2 (hb (ml 16 5) i) (hb (ml 16 6) i))) (sl_lv mi 7 4 (mi 3 i)) ) rfl ?_
    refine xB.rz (xb (((lv2 (tkn K ml 0 i h) (tkn K ml 1 i h)) ||| (lv2 (hb (ml 16 5) i) (hb (ml 16 6) i))) &&& ((sl_lv mi 7 4 (mi 3 i)) ^^^ (-1)) = 0)) mi ml rfl xz_xb ?_
    have g := k_eq hk (c := 8) (by decide) h3
    have g2 := (hN i hin).2.2.1 g
    refine ⟨?_, rfl, rfl⟩
    refine congrArg (fun z => some (Value.int z)) (sf_cls ?_)
    rw [g2.1, show (4 : Int32) = nI 4 from rfl, sl_lvN (by decide) g2.2, hV.2.2 _ g2.2]; simp [lvl, g]
  refine xB.st (103, [(0, .ref 16), (1, .int (nI i)), (2, .int (mi 3 i)), (3, .int ((lv2 (tkn K ml 0 i h) (tkn K ml 1 i h)) ||| (lv2 (hb (ml 16 5) i) (hb (ml 16 6) i))))], [], XM L mi ml) (xls_d (mt := mX7_isSafe) rfl rfl (xlk_3 (xne_toInt (k := 2) (by decide) h1) (xne_toInt (k := 7) (by decide) h2) (xne_toInt (k := 8) (by decide) h3)) rfl) ?_
  refine xB.go 1 (104, [(0, .ref 16), (1, .int (nI i)), (2, .int (mi 3 i)), (3, .int ((lv2 (tkn K ml 0 i h) (tkn K ml 1 i h)) ||| (lv2 (hb (ml 16 5) i) (hb (ml 16 6) i))))], [.int 1], XM L mi ml) rfl ?_
  refine xB.rt (some (.int 1)) mi ml rfl ?_
  have g2 := k_ne (c := 2) h1
  have g7 := k_ne (c := 7) h2
  have g8 := k_ne (c := 8) h3
  exact ⟨by rw [xb_t (by simp [sfB, lvl, g2, g7, g8])], rfl, rfl⟩
def usB (n : Nat) (K T : Nat → Nat) (vL aL cL : Nat → Nat → Bool) (ml : xml) (i : Nat) : Prop := ∃ h, Rh n K T i h ∧ sfB K T vL aL cL ml i h = false
def FU (n : Nat) (P : Nat → Prop) (v : Int32) : Prop := (∃ i, i < n ∧ P i ∧ (∀ j, j < i → ¬ P j) ∧ v = nI i) ∨ ((∀ j, j < n → ¬ P j) ∧ v = -1)
set_option maxRecDepth 100000 in
set_option maxHeartbeats 1000000 in
theorem fu_2 (d L : Nat) (mi : xmi) (ml : xml) {n : Nat} {K T : Nat → Nat} {vL aL cL : Nat → Nat → Bool} (hP : PRG mi n K T) (hN : NUM mi n K T) (hV : LEV mi vL aL cL) (hw : WF n K T) (hm : ∀ i, i < 64 → (hb (ml 8 2) i = true ↔ ∃ h, Rh n K T i h)) (hht : ∀ i h, Rh n K T i h → mi 9 i = nI h ∧ h ≤ 16) : ∀ (f i : Nat), i ≤ n → n - i < f → (∀ j, j < i → ¬ usB n K T vL aL cL ml j) → xB (d + 4) mX7_firstUnsafe L (fun rr a b => a = mi ∧ b = ml ∧ ∃ v, rr = some (.int v) ∧ FU n (usB n K T vL aL cL ml) v) (2, [(0, .ref 16), (1, .int (nI i))], [], XM L mi ml) := by
  have hn64 := hP.2.1
  intro f
  induction f with
  | zero => intro i h1 h2; omega
  | succ f ih =>
    intro i hle hlt hno
    refine xB.go 3 (7, [(0, .ref 16), (1, .int (nI i))], [.ref 1, .int (nI i)], XM L mi ml) rfl ?_
    refine xB.c1 40 [.ref 1] [.int (nI i)] (c_size _ L _ _) rfl ?_
    refine xB.cg (10, [(0, .ref 16), (1, .int (nI i))], [.int (nI n), .int (nI i)], XM L mi ml) (by rw [hP.1]) ?_
    refine xB.bp ((nI n) ≤ (nI i)) (40, [(0, .ref 16), (1, .int (nI i))], [], XM L mi ml) (13, [(0, .ref 16), (1, .int (nI i))], [], XM L mi ml) rfl (fun h1 => ?_) (fun h1 => ?_)
    · refine xB.go 1 (41, [(0, .ref 16), (1, .int (nI i))], [.int (-1)], XM L mi ml) rfl ?_
      refine xB.rt (some (.int (-1))) mi ml rfl ?_
      have hge : n ≤ i := (nI_leI (by omega) (by omega)).mp h1
      exact ⟨rfl, rfl, -1, rfl, Or.inr ⟨fun j hj => hno j (by omega), rfl⟩⟩
    · have hin : i < n := (nI_ltI (by omega) (by omega)).mp (i_nle.mp h1)
      have hi64 : i < 64 := by omega
      refine xB.go 3 (18, [(0, .ref 16), (1, .int (nI i))], [.int (nI i), .ref 8], XM L mi ml) rfl ?_
      refine xB.c1 51 [.ref 8, .int (nI i)] [] (c_isMetN _ L _ _ hi64) rfl ?_
      refine xB.bz (hb (ml 8 2) i = true) (34, [(0, .ref 16), (1, .int (nI i))], [], XM L mi ml) (24, [(0, .ref 16), (1, .int (nI i))], [], XM L mi ml) rfl (fun h2 => ?_) (fun h2 => ?_)
      · refine xB.go 2 (2, [(0, .ref 16), (1, .int ((nI i) + 1))], [], XM L mi ml) rfl ?_
        rw [nI_1]
        refine ih (i + 1) (by omega) (by omega) (fun j hj hz => ?_)
        by_cases e : j = i
        · subst e; obtain ⟨h, hr, -⟩ := hz; exact h2 ((hm j hi64).mpr ⟨h, hr⟩)
        · exact hno j (by omega) hz
      · obtain ⟨h, hrh⟩ := (hm i hi64).mp h2
        refine xB.go 2 (26, [(0, .ref 16), (1, .int (nI i))], [.int (nI i), .ref 16], XM L mi ml) rfl ?_
        refine xB.c1 61 [.ref 16, .int (nI i)] [] (c_isSafe _ L _ _ hP hN hV hin h2 (hht i h hrh).1 (hht i h hrh).2 (hw.1 i h hrh).2.1) rfl ?_
        refine xB.bn (sfB K T vL aL cL ml i h = true) (34, [(0, .ref 16), (1, .int (nI i))], [], XM L mi ml) (32, [(0, .ref 16), (1, .int (nI i))], [], XM L mi ml) rfl (fun h3 => ?_) (fun h3 => ?_)
        · refine xB.go 2 (2, [(0, .ref 16), (1, .int ((nI i) + 1))], [], XM L mi ml) rfl ?_
          rw [nI_1]
          refine ih (i + 1) (by omega) (by omega) (fun j hj hz => ?_)
          by_cases e : j = i
          · subst e; obtain ⟨h2, hr2, g⟩ := hz; obtain rfl := hw.2 j h2 h hr2 hrh; rw [h3] at g; cases g
          · exact hno j (by omega) hz
        · refine xB.go 1 (33, [(0, .ref 16), (1, .int (nI i))], [.int (nI i)], XM L mi ml) rfl ?_
          refine xB.rt (some (.int (nI i))) mi ml rfl ?_
          exact ⟨rfl, rfl, nI i, rfl, Or.inl ⟨i, hin, ⟨h, hrh, by simpa using h3⟩, hno, rfl⟩⟩
set_option maxRecDepth 100000 in
set_option maxHeartbeats 1000000 in
theorem c_firstUnsafe (d L : Nat) (mi : xmi) (ml : xml) {n : Nat} {K T : Nat → Nat} {vL aL cL : Nat → Nat → Bool} (hP : PRG mi n K T) (hN : NUM mi n K T) (hV : LEV mi vL aL cL) (hw : WF n K T) (hm : ∀ i, i < 64 → (hb (ml 8 2) i = true ↔ ∃ h, Rh n K T i h)) (hht : ∀ i h, Rh n K T i h → mi 9 i = nI h ∧ h ≤ 16) : xF (d + 5) 60 [.ref 16] L mi ml (fun rr a b => a = mi ∧ b = ml ∧ ∃ v, rr = some (.int v) ∧ FU n (usB n K T vL aL cL ml) v) := by
  refine xF.mk mX7_firstUnsafe rfl rfl ?_
  refine xB.go 2 (2, [(0, .ref 16), (1, .int 0)], [], XM L mi ml) rfl ?_
  exact fu_2 d L mi ml hP hN hV hw hm hht (n + 1) 0 (Nat.zero_le _) (by omega) (fun j hj => absurd hj (Nat.not_lt_zero _))
set_option maxRecDepth 100000 in
set_option maxHeartbeats 1000000 in
theorem c_jat (d L : Nat) (mi : xmi) (ml : xml) {n : Nat} {K T : Nat → Nat} (hP : PRG mi n K T) {i : Nat} (hin : i < n) : xFv (d + 2) 1 [.ref 10, .int (nI i)] L mi ml (.int (mi 14 i)) mi ml := by
  refine xF.mk mX0_at rfl rfl ?_
  refine xB.go 3 (5, [(0, .ref 10), (1, .int (nI i))], [.int (nI i), .ref 1], XM L mi ml) rfl ?_
  refine xB.c1 41 [.ref 1, .int (nI i)] [] (c_has _ L mi ml (nI i) ) rfl ?_
  refine xB.bz (0 ≤ (nI i) ∧ (nI i) < mi 1 2) (20, [(0, .ref 10), (1, .int (nI i))], [], XM L mi ml) (11, [(0, .ref 10), (1, .int (nI i))], [], XM L mi ml) rfl (fun h1 => ?_) (fun h1 => ?_)
  · refine xB.go 1 (21, [(0, .ref 10), (1, .int (nI i))], [.int (-1)], XM L mi ml) rfl ?_
    refine xB.rt (some (.int (-1))) mi ml rfl ?_
    exact absurd ((hP.has (by have := hP.2.1; omega)).mpr hin) h1
  · refine xB.go 3 (16, [(0, .ref 10), (1, .int (nI i))], [.int (nI i), .ref 14], XM L mi ml) rfl ?_
    refine xB.ck (xin (nI i) 64) (17, [(0, .ref 10), (1, .int (nI i))], [.int (mi 14 (nI i).toNatClampNeg)], XM L mi ml) rfl (xck hP.1 hP.2.1 h1) ?_
    refine xB.go 1 (21, [(0, .ref 10), (1, .int (nI i))], [.int (mi 14 (nI i).toNatClampNeg)], XM L mi ml) rfl ?_
    refine xB.rt (some (.int (mi 14 (nI i).toNatClampNeg))) mi ml rfl ?_
    exact ⟨by rw [nI_clamp (by have := hP.2.1; omega)], rfl, rfl⟩
set_option maxRecDepth 100000 in
set_option maxHeartbeats 1000000 in
theorem c_wfget (d L : Nat) (mi : xmi) (ml : xml) (hz : xz (mi 8 4) = true) : xFv (d + 1) 50 [.ref 8] L mi ml (.int (mi 8 4)) mi ml := by
  refine xF.mk mX6_isWellFormed rfl rfl ?_
  refine xB.go 2 (4, [(0, .ref 8)], [.int (mi 8 4)], XM L mi ml) rfl ?_
  refine xB.rz (mi 8 4) mi ml rfl hz ?_
  exact ⟨rfl, rfl, rfl⟩
/-- what is known of the class -/
def TYC (n : Nat) (K T : Nat → Nat) (vL aL : Nat → Nat → Bool) (ml : xml) : Prop := ∀ b j k, b < 2 → (TY n K T (rd K T vL aL b) (RG n K T) j k ↔ gS (tb2 ml) b j k)
def CI (n : Nat) (K T : Nat → Nat) (vL aL cL : Nat → Nat → Bool) (mi : xmi) (ml : xml) : Prop := PRG mi n K T ∧ NUM mi n K T ∧ LEV mi vL aL cL ∧ (mi 0 8 = 0 ∨ mi 0 8 = 1) ∧ (mi 0 9 = 0 ∨ mi 0 9 = 1) ∧ (mi 0 8 = 0 → SHP n K T mi ml ∧ (mi 8 4 = 1 → JC n K T mi ml)) ∧ (mi 0 8 = 0 → mi 0 9 = 0 → mi 8 4 = 1 → TYC n K T vL aL ml)
/-- the rows of others stay -/
def FR (mi : xmi) (ml : xml) (a : xmi) (b : xml) : Prop := ∀ x, 18 ≤ x ∨ x = 3 → a x = mi x ∧ b x = ml x
theorem FR.rfl' {mi : xmi} {ml : xml} : FR mi ml mi ml := fun _ _ => ⟨rfl, rfl⟩
theorem FR.trans {mi a a' : xmi} {ml b b' : xml} (h1 : FR mi ml a b) (h2 : FR a b a' b') : FR mi ml a' b' := fun x hx => ⟨(h2 x hx).1.trans (h1 x hx).1, (h2 x hx).2.trans (h1 x hx).2⟩
theorem SHP.bool {n : Nat} {K T : Nat → Nat} {a : xmi} {b : xml} (h : SHP n K T a b) : xz (a 8 4) = true := by
  rcases h with ⟨h, -⟩ | ⟨h, -⟩ <;> rw [h] <;> rfl
theorem SHP.frame {n : Nat} {K T : Nat → Nat} {a a' : xmi} {b b' : xml} (h : SHP n K T a b) (h8 : a' 8 = a 8) (h9 : a' 9 = a 9) (hb8 : b' 8 = b 8) : SHP n K T a' b' := by unfold SHP at h ⊢; rw [h8, h9, hb8]; exact h
theorem JC.frame {n : Nat} {K T : Nat → Nat} {a a' : xmi} {b b' : xml} (h : JC n K T a b) (h14 : a' 14 = a 14) (h15 : b' 15 = b 15) : JC n K T a' b' := by unfold JC at h ⊢; rw [h14, h15]; exact h
theorem TYC.frame {n : Nat} {K T : Nat → Nat} {vL aL : Nat → Nat → Bool} {b b' : xml} (h : TYC n K T vL aL b) (h16 : b' 16 = b 16) (h17 : b' 17 = b 17) : TYC n K T vL aL b' := by
  unfold TYC gS tb2 at h ⊢; rw [h16, h17]; exact h
theorem SHP.wf1 {n : Nat} {K T : Nat → Nat} {a : xmi} {b : xml} (h : SHP n K T a b) (h1 : a 8 4 = 1) : WF n K T ∧ (∀ i, i < 64 → (hb (b 8 2) i = true ↔ ∃ h, Rh n K T i h)) ∧ (∀ i h, Rh n K T i h → a 9 i = nI h ∧ h ≤ 16) := by
  rcases h with ⟨-, h⟩ | ⟨h, -⟩
  · exact h
  · rw [h1] at h; cases h
theorem SHP.wf0 {n : Nat} {K T : Nat → Nat} {a : xmi} {b : xml} (h : SHP n K T a b) (h1 : ¬ a 8 4 = 1) : ¬ WF n K T ∧ a 8 4 = 0 := by
  rcases h with ⟨h, -⟩ | ⟨h, g⟩
  · exact absurd h h1
  · exact ⟨g, h⟩
set_option maxRecDepth 100000 in
set_option maxHeartbeats 1000000 in
theorem c_iwf (d L : Nat) (mi : xmi) (ml : xml) {n : Nat} {K T : Nat → Nat} {vL aL cL : Nat → Nat → Bool} (hC : CI n K T vL aL cL mi ml) : xF (d + 6) 82 [.ref 0] L mi ml (fun rr a b => ∃ v, rr = some (.int v) ∧ CI n K T vL aL cL a b ∧ a 0 8 = 0 ∧ v = a 8 4 ∧ FR mi ml a b) := by
  refine xF.mk mX8_isWellFormed rfl rfl ?_
  refine xB.go 2 (4, [(0, .ref 0)], [.int (mi 0 8)], XM L mi ml) rfl ?_
  refine xB.bp ((mi 0 8) = 0) (41, [(0, .ref 0)], [], XM L mi ml) (7, [(0, .ref 0)], [], XM L mi ml) rfl (fun h1 => ?_) (fun h1 => ?_)
  · refine xB.go 2 (45, [(0, .ref 0)], [.ref 8], XM L mi ml) rfl ?_
    have hz45 := (hC.2.2.2.2.2.1 h1).1.bool
    refine xB.c1 50 [.ref 8] [] (c_wfget _ L _ _ hz45) rfl ?_
    refine xB.rz (mi 8 4) mi ml rfl (by first | exact hz45) ?_
    exact ⟨_, rfl, hC, h1, rfl, FR.rfl'⟩
  · refine xB.go 2 (11, [(0, .ref 0)], [.ref 8], XM L mi ml) rfl ?_
    refine xB.ca 53 [.ref 8] [] (c_find _ L _ _ hC.1) rfl ?_
    intro r1 a b hq
    obtain ⟨rfl, ha, hb, hS⟩ := hq
    have hPa : PRG a n K T := hC.1.frame (ha 1 (by decide) (by decide)) (ha 2 (by decide) (by decide)) (ha 3 (by decide) (by decide)) (ha 1002 (by decide) (by decide)) (ha 1003 (by decide) (by decide))
    show xB _ _ L _ (14, [(0, .ref 0)], [], XM L a b)
    refine xB.go 2 (18, [(0, .ref 0)], [.ref 8], XM L a b) rfl ?_
    have hz18 := hS.bool
    refine xB.c1 50 [.ref 8] [] (c_wfget _ L _ _ hz18) rfl ?_
    refine xB.bp ((a 8 4) = 0) (31, [(0, .ref 0)], [], XM L a b) (24, [(0, .ref 0)], [], XM L a b) rfl (fun h2 => ?_) (fun h2 => ?_)
    · refine xB.go 8 (45, [(0, .ref 0)], [.ref 8], XM L (xU (xU a 0 8 0) 0 9 1) b) rfl ?_
      have hz45 : xz (xU (xU a 0 8 0) 0 9 1 8 4) = true := by rw [xU_ne (by decide), xU_ne (by decide)]; exact hS.bool
      refine xB.c1 50 [.ref 8] [] (c_wfget _ L _ _ hz45) rfl ?_
      refine xB.rz (a 8 4) (xU (xU a 0 8 0) 0 9 1) b rfl (by first | exact hz45) ?_
      have hne : ¬ a 8 4 = 1 := by rw [h2]; decide
      refine ⟨_, rfl, ⟨hPa.frame (by rw [xU_ne (by decide), xU_ne (by decide)]) (by rw [xU_ne (by decide), xU_ne (by decide)]) (by rw [xU_ne (by decide), xU_ne (by decide)]) (by rw [xU_ne (by decide), xU_ne (by decide)]) (by rw [xU_ne (by decide), xU_ne (by decide)]), (hC.2.1.frame (ha 3 (by decide) (by decide))).frame (by rw [xU_ne (by decide), xU_ne (by decide)]), (hC.2.2.1.frame (ha 5 (by decide) (by decide)) (ha 6 (by decide) (by decide)) (ha 7 (by decide) (by decide))).frame (by rw [xU_ne (by decide), xU_ne (by decide)]) (by rw [xU_ne (by decide), xU_ne (by decide)]) (by rw [xU_ne (by decide), xU_ne (by decide)]), Or.inl (by rw [xU_at, va_up_ne _ _ (by decide), xU_self]), Or.inr (by rw [xU_self]), fun _ => ⟨hS.frame (by rw [xU_ne (by decide), xU_ne (by decide)]) (by rw [xU_ne (by decide), xU_ne (by decide)]) rfl, fun z => absurd (by rw [xU_ne (by decide), xU_ne (by decide)] at z; exact z) hne⟩, fun _ z => ?_⟩, by rw [xU_at, va_up_ne _ _ (by decide), xU_self], rfl, fun x hx => ⟨by rw [xU_ne (by omega), xU_ne (by omega)]; exact ha x (by omega) (by omega), hb x (by omega)⟩⟩
      rw [xU_self] at z; cases z
    · have hW := hS.wf1 (by rcases hS with z | z; exact z.1; exact absurd z.1 h2)
      refine xB.go 2 (28, [(0, .ref 0)], [.ref 10], XM L a b) rfl ?_
      refine xB.ca 3 [.ref 10] [] (c_jfind _ L _ _ hPa hW.1 hW.2.1) rfl ?_
      intro r2 a2 b2 hq2
      obtain ⟨rfl, ha2, hb2, hJ2⟩ := hq2
      show xB _ _ L _ (31, [(0, .ref 0)], [], XM L a2 b2)
      refine xB.go 8 (45, [(0, .ref 0)], [.ref 8], XM L (xU (xU a2 0 8 0) 0 9 1) b2) rfl ?_
      have hz45 : xz (xU (xU a2 0 8 0) 0 9 1 8 4) = true := by rw [xU_ne (by decide), xU_ne (by decide), ha2 8 (by decide)]; exact hS.bool
      refine xB.c1 50 [.ref 8] [] (c_wfget _ L _ _ hz45) rfl ?_
      refine xB.rz (a2 8 4) (xU (xU a2 0 8 0) 0 9 1) b2 rfl (by first | exact hz45) ?_
      refine ⟨_, rfl, ⟨(hPa.frame (ha2 1 (by decide)) (ha2 2 (by decide)) (ha2 3 (by decide)) (ha2 1002 (by decide)) (ha2 1003 (by decide))).frame (by rw [xU_ne (by decide), xU_ne (by decide)]) (by rw [xU_ne (by decide), xU_ne (by decide)]) (by rw [xU_ne (by decide), xU_ne (by decide)]) (by rw [xU_ne (by decide), xU_ne (by decide)]) (by rw [xU_ne (by decide), xU_ne (by decide)]), (hC.2.1.frame ((ha2 3 (by decide)).trans (ha 3 (by decide) (by decide)))).frame (by rw [xU_ne (by decide), xU_ne (by decide)]), (hC.2.2.1.frame ((ha2 5 (by decide)).trans (ha 5 (by decide) (by decide))) ((ha2 6 (by decide)).trans (ha 6 (by decide) (by decide))) ((ha2 7 (by decide)).trans (ha 7 (by decide) (by decide)))).frame (by rw [xU_ne (by decide), xU_ne (by decide)]) (by rw [xU_ne (by decide), xU_ne (by decide)]) (by rw [xU_ne (by decide), xU_ne (by decide)]), Or.inl (by rw [xU_at, va_up_ne _ _ (by decide), xU_self]), Or.inr (by rw [xU_self]), fun _ => ⟨(hS.frame (ha2 8 (by decide)) (ha2 9 (by decide)) (hb2 8 (by decide) (by decide) (by decide) (by decide) (by decide))).frame (by rw [xU_ne (by decide), xU_ne (by decide)]) (by rw [xU_ne (by decide), xU_ne (by decide)]) rfl, fun _ => (hJ2.jc hC.1.2.1 hW.1).frame (by rw [xU_ne (by decide), xU_ne (by decide)]) rfl⟩, fun _ z => ?_⟩, by rw [xU_at, va_up_ne _ _ (by decide), xU_self], rfl, fun x hx => ⟨by rw [xU_ne (by omega), xU_ne (by omega), ha2 x (by omega)]; exact ha x (by omega) (by omega), (hb2 x (by omega) (by omega) (by omega) (by omega) (by omega)).trans (hb x (by omega))⟩⟩
      rw [xU_self] at z; cases z
