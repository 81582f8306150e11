/-! THE CONSTRUCTORS: from the empty memory to both objects -/
theorem xC.mk2 {d j : Nat} {as : List Value} {lay : List (Nat × Nat)} {mr : Nat → Nat → Option Nat} {mi : xmi} {ml : xml} {kc ks : Nat} {Q : Option Value → xM → Prop} (mt : xMt) (l1 l2 : Nat) (hj : xtab[j]? = some mt) (hw : Nat.ble (xwords as) mt.2.2.2.2.2.1 = true) (h1 : lay.length + kc = l1) (h2 : xsuml lay + ks = l2) (h : xR (xC d) mt (l1, l2) (fun r M' => Q r M' ∧ M'.1.length = l1 ∧ xsum M' = l2) (0, xargs 0 as, [], (lay, mr, mi, ml))) : xC (d + 1) j as (lay, mr, mi, ml) kc ks Q := by
  subst h1; subst h2
  exact ⟨mt, hj, Nat.le_of_ble_eq_true hw, h⟩
def yl1 : List (Nat × Nat) := [(8, 10)]
def yr1 (L : Nat) : Nat → Nat → Option Nat := va_up (xmr0 L) 0 (fun _ => none)
def yi1 (xs : Nat → Int32) : xmi := va_up (xmi0 xs) 0 (fun _ => 0)
def yv1 : xml := va_up ((fun _ _ => 0)) 0 (fun _ => 0)
def yl2 : List (Nat × Nat) := [(8, 10), (5, 3)]
def yr2 (L : Nat) : Nat → Nat → Option Nat := va_up (yr1 L) 1 (fun _ => none)
def yi2 (xs : Nat → Int32) : xmi := va_up (yi1 xs) 1 (fun _ => 0)
def yv2 : xml := va_up (yv1) 1 (fun _ => 0)
def yl3 : List (Nat × Nat) := [(8, 10), (5, 3), (20, 64), (20, 64)]
def yr3 (L : Nat) : Nat → Nat → Option Nat := xU (va_up (xU (va_up (yr2 L) 2 (fun _ => none)) 1 0 (some 2)) 3 (fun _ => none)) 1 1 (some 3)
def yi3 (xs : Nat → Int32) : xmi := va_up (va_up (yi2 xs) 2 (fun _ => 0)) 3 (fun _ => 0)
def yv3 : xml := va_up (va_up (yv2) 2 (fun _ => 0)) 3 (fun _ => 0)
set_option maxRecDepth 100000 in
theorem k_1 (d L : Nat) (xs : Nat → Int32) : xC (d + 1) 39 [.ref 1] (yl2, yr2 L, yi2 xs, yv2) 2 128 (fun r M => r = none ∧ M = (yl3, yr3 L, yi3 xs, yv3)) := by
  refine xC.mk2 mX5_init 4 141 rfl rfl (by decide) (by decide) ?_
  refine xR.go 10 (20, [(0, .ref 1)], [], (yl3, yr3 L, yi3 xs, yv3)) rfl ?_
  exact xR.rt none (yl3, yr3 L, yi3 xs, yv3) rfl ⟨⟨rfl, rfl⟩, (by show yl3.length = 4; decide), (by show xsuml yl3 = 141; decide)⟩
def yl4 : List (Nat × Nat) := [(8, 10), (5, 3), (20, 64), (20, 64), (1, 3)]
def yr4 (L : Nat) : Nat → Nat → Option Nat := va_up (xU (yr3 L) 0 0 (some 1)) 4 (fun _ => none)
def yi4 (xs : Nat → Int32) : xmi := va_up (yi3 xs) 4 (fun _ => 0)
def yv4 : xml := va_up (yv3) 4 (fun _ => 0)
def yl5 : List (Nat × Nat) := [(8, 10), (5, 3), (20, 64), (20, 64), (1, 3), (20, 8), (20, 2), (20, 4)]
def yr5 (L : Nat) : Nat → Nat → Option Nat := xU (va_up (xU (va_up (xU (va_up (yr4 L) 5 (fun _ => none)) 4 0 (some 5)) 6 (fun _ => none)) 4 1 (some 6)) 7 (fun _ => none)) 4 2 (some 7)
def yi5 (xs : Nat → Int32) : xmi := va_up (va_up (va_up (yi4 xs) 5 (fun _ => 0)) 6 (fun _ => 0)) 7 (fun _ => 0)
def yv5 : xml := va_up (va_up (va_up (yv4) 5 (fun _ => 0)) 6 (fun _ => 0)) 7 (fun _ => 0)
set_option maxRecDepth 100000 in
theorem k_2 (d L : Nat) (xs : Nat → Int32) : xC (d + 1) 9 [.ref 4] (yl4, yr4 L, yi4 xs, yv4) 3 14 (fun r M => r = none ∧ M = (yl5, yr5 L, yi5 xs, yv5)) := by
  refine xC.mk2 mX1_init 8 158 rfl rfl (by decide) (by decide) ?_
  refine xR.go 14 (26, [(0, .ref 4)], [], (yl5, yr5 L, yi5 xs, yv5)) rfl ?_
  exact xR.rt none (yl5, yr5 L, yi5 xs, yv5) rfl ⟨⟨rfl, rfl⟩, (by show yl5.length = 8; decide), (by show xsuml yl5 = 158; decide)⟩
def yl6 : List (Nat × Nat) := [(8, 10), (5, 3), (20, 64), (20, 64), (1, 3), (20, 8), (20, 2), (20, 4), (6, 5)]
def yr6 (L : Nat) : Nat → Nat → Option Nat := va_up (xU (yr5 L) 0 1 (some 4)) 8 (fun _ => none)
def yi6 (xs : Nat → Int32) : xmi := va_up (yi5 xs) 8 (fun _ => 0)
def yv6 : xml := va_up (yv5) 8 (fun _ => 0)
def yl7 : List (Nat × Nat) := [(8, 10), (5, 3), (20, 64), (20, 64), (1, 3), (20, 8), (20, 2), (20, 4), (6, 5), (20, 64)]
def yr7 (L : Nat) : Nat → Nat → Option Nat := xU (xU (va_up (yr6 L) 9 (fun _ => none)) 8 1 (some 9)) 8 0 (some 1)
def yi7 (xs : Nat → Int32) : xmi := va_up (yi6 xs) 9 (fun _ => 0)
def yv7 : xml := va_up (yv6) 9 (fun _ => 0)
set_option maxRecDepth 100000 in
theorem k_3 (d L : Nat) (xs : Nat → Int32) : xC (d + 1) 49 [.ref 8, .ref 1] (yl6, yr6 L, yi6 xs, yv6) 1 64 (fun r M => r = none ∧ M = (yl7, yr7 L, yi7 xs, yv7)) := by
  refine xC.mk2 mX6_init 10 227 rfl rfl (by decide) (by decide) ?_
  refine xR.go 9 (17, [(0, .ref 8), (1, .ref 1)], [], (yl7, yr7 L, yi7 xs, yv7)) rfl ?_
  exact xR.rt none (yl7, yr7 L, yi7 xs, yv7) rfl ⟨⟨rfl, rfl⟩, (by show yl7.length = 10; decide), (by show xsuml yl7 = 227; decide)⟩
def yl8 : List (Nat × Nat) := [(8, 10), (5, 3), (20, 64), (20, 64), (1, 3), (20, 8), (20, 2), (20, 4), (6, 5), (20, 64), (0, 9)]
def yr8 (L : Nat) : Nat → Nat → Option Nat := va_up (xU (yr7 L) 0 2 (some 8)) 10 (fun _ => none)
def yi8 (xs : Nat → Int32) : xmi := va_up (yi7 xs) 10 (fun _ => 0)
def yv8 : xml := va_up (yv7) 10 (fun _ => 0)
def yl9 : List (Nat × Nat) := [(8, 10), (5, 3), (20, 64), (20, 64), (1, 3), (20, 8), (20, 2), (20, 4), (6, 5), (20, 64), (0, 9), (21, 64), (21, 64), (21, 64)]
def yr9 (L : Nat) : Nat → Nat → Option Nat := xU (va_up (xU (va_up (xU (va_up (yr8 L) 11 (fun _ => none)) 10 2 (some 11)) 12 (fun _ => none)) 10 3 (some 12)) 13 (fun _ => none)) 10 4 (some 13)
def yi9 (xs : Nat → Int32) : xmi := va_up (va_up (va_up (yi8 xs) 11 (fun _ => 0)) 12 (fun _ => 0)) 13 (fun _ => 0)
def yv9 : xml := va_up (va_up (va_up (yv8) 11 (fun _ => 0)) 12 (fun _ => 0)) 13 (fun _ => 0)
def yl10 : List (Nat × Nat) := [(8, 10), (5, 3), (20, 64), (20, 64), (1, 3), (20, 8), (20, 2), (20, 4), (6, 5), (20, 64), (0, 9), (21, 64), (21, 64), (21, 64), (20, 64), (21, 64)]
def yr10 (L : Nat) : Nat → Nat → Option Nat := xU (xU (xU (va_up (xU (va_up (yr9 L) 14 (fun _ => none)) 10 5 (some 14)) 15 (fun _ => none)) 10 6 (some 15)) 10 0 (some 1)) 10 1 (some 8)
def yi10 (xs : Nat → Int32) : xmi := va_up (va_up (yi9 xs) 14 (fun _ => 0)) 15 (fun _ => 0)
def yv10 : xml := va_up (va_up (yv9) 14 (fun _ => 0)) 15 (fun _ => 0)
set_option maxRecDepth 100000 in
theorem k_4 (d L : Nat) (xs : Nat → Int32) : xC (d + 1) 0 [.ref 10, .ref 1, .ref 8] (yl8, yr8 L, yi8 xs, yv8) 5 320 (fun r M => r = none ∧ M = (yl10, yr10 L, yi10 xs, yv10)) := by
  refine xC.mk2 mX0_init 16 556 rfl rfl (by decide) (by decide) ?_
  refine xR.go 14 (28, [(0, .ref 10), (1, .ref 1), (2, .ref 8)], [], (yl9, yr9 L, yi9 xs, yv9)) rfl ?_
  refine xR.go 14 (54, [(0, .ref 10), (1, .ref 1), (2, .ref 8)], [], (yl10, yr10 L, yi10 xs, yv10)) rfl ?_
  exact xR.rt none (yl10, yr10 L, yi10 xs, yv10) rfl ⟨⟨rfl, rfl⟩, (by show yl10.length = 16; decide), (by show xsuml yl10 = 556; decide)⟩
def yl11 : List (Nat × Nat) := [(8, 10), (5, 3), (20, 64), (20, 64), (1, 3), (20, 8), (20, 2), (20, 4), (6, 5), (20, 64), (0, 9), (21, 64), (21, 64), (21, 64), (20, 64), (21, 64), (7, 8)]
def yr11 (L : Nat) : Nat → Nat → Option Nat := va_up (xU (yr10 L) 0 3 (some 10)) 16 (fun _ => none)
def yi11 (xs : Nat → Int32) : xmi := va_up (yi10 xs) 16 (fun _ => 0)
def yv11 : xml := va_up (yv10) 16 (fun _ => 0)
def yl12 : List (Nat × Nat) := [(8, 10), (5, 3), (20, 64), (20, 64), (1, 3), (20, 8), (20, 2), (20, 4), (6, 5), (20, 64), (0, 9), (21, 64), (21, 64), (21, 64), (20, 64), (21, 64), (7, 8), (21, 64)]
def yr12 (L : Nat) : Nat → Nat → Option Nat := xU (xU (xU (xU (xU (va_up (yr11 L) 17 (fun _ => none)) 16 4 (some 17)) 16 0 (some 1)) 16 1 (some 4)) 16 2 (some 8)) 16 3 (some 10)
def yi12 (xs : Nat → Int32) : xmi := va_up (yi11 xs) 17 (fun _ => 0)
def yv12 : xml := va_up (yv11) 17 (fun _ => 0)
set_option maxRecDepth 100000 in
theorem k_5 (d L : Nat) (xs : Nat → Int32) : xC (d + 1) 56 [.ref 16, .ref 1, .ref 4, .ref 8, .ref 10] (yl11, yr11 L, yi11 xs, yv11) 1 64 (fun r M => r = none ∧ M = (yl12, yr12 L, yi12 xs, yv12)) := by
  refine xC.mk2 mX7_init 18 628 rfl rfl (by decide) (by decide) ?_
  refine xR.go 18 (33, [(0, .ref 16), (1, .ref 1), (2, .ref 4), (3, .ref 8), (4, .ref 10)], [], (yl12, yr12 L, yi12 xs, yv12)) rfl ?_
  exact xR.rt none (yl12, yr12 L, yi12 xs, yv12) rfl ⟨⟨rfl, rfl⟩, (by show yl12.length = 18; decide), (by show xsuml yl12 = 628; decide)⟩
def yl13 : List (Nat × Nat) := [(8, 10), (5, 3), (20, 64), (20, 64), (1, 3), (20, 8), (20, 2), (20, 4), (6, 5), (20, 64), (0, 9), (21, 64), (21, 64), (21, 64), (20, 64), (21, 64), (7, 8), (21, 64), (2, 3)]
def yr13 (L : Nat) : Nat → Nat → Option Nat := va_up (xU (yr12 L) 0 4 (some 16)) 18 (fun _ => none)
def yi13 (xs : Nat → Int32) : xmi := va_up (yi12 xs) 18 (fun _ => 0)
def yv13 : xml := va_up (yv12) 18 (fun _ => 0)
def yl14 : List (Nat × Nat) := [(8, 10), (5, 3), (20, 64), (20, 64), (1, 3), (20, 8), (20, 2), (20, 4), (6, 5), (20, 64), (0, 9), (21, 64), (21, 64), (21, 64), (20, 64), (21, 64), (7, 8), (21, 64), (2, 3), (20, 16)]
def yr14 (L : Nat) : Nat → Nat → Option Nat := xU (xU (va_up (yr13 L) 19 (fun _ => none)) 18 1 (some 19)) 18 0 (some 1)
def yi14 (xs : Nat → Int32) : xmi := va_up (yi13 xs) 19 (fun _ => 0)
def yv14 : xml := va_up (yv13) 19 (fun _ => 0)
set_option maxRecDepth 100000 in
theorem k_6 (d L : Nat) (xs : Nat → Int32) : xC (d + 1) 15 [.ref 18, .ref 1] (yl13, yr13 L, yi13 xs, yv13) 1 16 (fun r M => r = none ∧ M = (yl14, yr14 L, yi14 xs, yv14)) := by
  refine xC.mk2 mX2_init 20 647 rfl rfl (by decide) (by decide) ?_
  refine xR.go 9 (17, [(0, .ref 18), (1, .ref 1)], [], (yl14, yr14 L, yi14 xs, yv14)) rfl ?_
  exact xR.rt none (yl14, yr14 L, yi14 xs, yv14) rfl ⟨⟨rfl, rfl⟩, (by show yl14.length = 20; decide), (by show xsuml yl14 = 647; decide)⟩
def yl15 : List (Nat × Nat) := [(8, 10), (5, 3), (20, 64), (20, 64), (1, 3), (20, 8), (20, 2), (20, 4), (6, 5), (20, 64), (0, 9), (21, 64), (21, 64), (21, 64), (20, 64), (21, 64), (7, 8), (21, 64), (2, 3), (20, 16), (23, 2), (24, 2), (3, 1)]
def yr15 (L : Nat) : Nat → Nat → Option Nat := va_up (xU (va_up (xU (va_up (xU (yr14 L) 0 5 (some 18)) 20 (fun _ => none)) 0 6 (some 20)) 21 (fun _ => none)) 0 7 (some 21)) 22 (fun _ => none)
def yi15 (xs : Nat → Int32) : xmi := va_up (va_up (va_up (yi14 xs) 20 (fun _ => 0)) 21 (fun _ => 0)) 22 (fun _ => 0)
def yv15 : xml := va_up (va_up (va_up (yv14) 20 (fun _ => 0)) 21 (fun _ => 0)) 22 (fun _ => 0)
def yl16 : List (Nat × Nat) := [(8, 10), (5, 3), (20, 64), (20, 64), (1, 3), (20, 8), (20, 2), (20, 4), (6, 5), (20, 64), (0, 9), (21, 64), (21, 64), (21, 64), (20, 64), (21, 64), (7, 8), (21, 64), (2, 3), (20, 16), (23, 2), (24, 2), (3, 1), (20, 24)]
def yr16 (L : Nat) : Nat → Nat → Option Nat := xU (va_up (yr15 L) 23 (fun _ => none)) 22 0 (some 23)
def yi16 (xs : Nat → Int32) : xmi := va_up (yi15 xs) 23 (fun _ => 0)
def yv16 : xml := va_up (yv15) 23 (fun _ => 0)
set_option maxRecDepth 100000 in
theorem k_7 (d L : Nat) (xs : Nat → Int32) : xC (d + 1) 23 [.ref 22] (yl15, yr15 L, yi15 xs, yv15) 1 24 (fun r M => r = none ∧ M = (yl16, yr16 L, yi16 xs, yv16)) := by
  refine xC.mk2 mX3_init 24 676 rfl rfl (by decide) (by decide) ?_
  refine xR.go 6 (12, [(0, .ref 22)], [], (yl16, yr16 L, yi16 xs, yv16)) rfl ?_
  exact xR.rt none (yl16, yr16 L, yi16 xs, yv16) rfl ⟨⟨rfl, rfl⟩, (by show yl16.length = 24; decide), (by show xsuml yl16 = 676; decide)⟩
def yl17 : List (Nat × Nat) := [(8, 10), (5, 3), (20, 64), (20, 64), (1, 3), (20, 8), (20, 2), (20, 4), (6, 5), (20, 64), (0, 9), (21, 64), (21, 64), (21, 64), (20, 64), (21, 64), (7, 8), (21, 64), (2, 3), (20, 16), (23, 2), (24, 2), (3, 1), (20, 24), (4, 5)]
def yr17 (L : Nat) : Nat → Nat → Option Nat := va_up (xU (yr16 L) 20 0 (some 22)) 24 (fun _ => none)
def yi17 (xs : Nat → Int32) : xmi := va_up (yi16 xs) 24 (fun _ => 0)
def yv17 : xml := va_up (yv16) 24 (fun _ => 0)
def yl18 : List (Nat × Nat) := [(8, 10), (5, 3), (20, 64), (20, 64), (1, 3), (20, 8), (20, 2), (20, 4), (6, 5), (20, 64), (0, 9), (21, 64), (21, 64), (21, 64), (20, 64), (21, 64), (7, 8), (21, 64), (2, 3), (20, 16), (23, 2), (24, 2), (3, 1), (20, 24), (4, 5), (20, 64), (20, 64)]
def yr18 (L : Nat) : Nat → Nat → Option Nat := xU (va_up (xU (va_up (yr17 L) 25 (fun _ => none)) 24 0 (some 25)) 26 (fun _ => none)) 24 1 (some 26)
def yi18 (xs : Nat → Int32) : xmi := va_up (va_up (yi17 xs) 25 (fun _ => 0)) 26 (fun _ => 0)
def yv18 : xml := va_up (va_up (yv17) 25 (fun _ => 0)) 26 (fun _ => 0)
set_option maxRecDepth 100000 in
theorem k_8 (d L : Nat) (xs : Nat → Int32) : xC (d + 1) 27 [.ref 24] (yl17, yr17 L, yi17 xs, yv17) 2 128 (fun r M => r = none ∧ M = (yl18, yr18 L, yi18 xs, yv18)) := by
  refine xC.mk2 mX4_init 27 809 rfl rfl (by decide) (by decide) ?_
  refine xR.go 10 (20, [(0, .ref 24)], [], (yl18, yr18 L, yi18 xs, yv18)) rfl ?_
  exact xR.rt none (yl18, yr18 L, yi18 xs, yv18) rfl ⟨⟨rfl, rfl⟩, (by show yl18.length = 27; decide), (by show xsuml yl18 = 809; decide)⟩
def yl19 : List (Nat × Nat) := [(8, 10), (5, 3), (20, 64), (20, 64), (1, 3), (20, 8), (20, 2), (20, 4), (6, 5), (20, 64), (0, 9), (21, 64), (21, 64), (21, 64), (20, 64), (21, 64), (7, 8), (21, 64), (2, 3), (20, 16), (23, 2), (24, 2), (3, 1), (20, 24), (4, 5), (20, 64), (20, 64), (3, 1)]
def yr19 (L : Nat) : Nat → Nat → Option Nat := va_up (xU (yr18 L) 21 0 (some 24)) 27 (fun _ => none)
def yi19 (xs : Nat → Int32) : xmi := va_up (yi18 xs) 27 (fun _ => 0)
def yv19 : xml := va_up (yv18) 27 (fun _ => 0)
def yl20 : List (Nat × Nat) := [(8, 10), (5, 3), (20, 64), (20, 64), (1, 3), (20, 8), (20, 2), (20, 4), (6, 5), (20, 64), (0, 9), (21, 64), (21, 64), (21, 64), (20, 64), (21, 64), (7, 8), (21, 64), (2, 3), (20, 16), (23, 2), (24, 2), (3, 1), (20, 24), (4, 5), (20, 64), (20, 64), (3, 1), (20, 24)]
def yr20 (L : Nat) : Nat → Nat → Option Nat := xU (va_up (yr19 L) 28 (fun _ => none)) 27 0 (some 28)
def yi20 (xs : Nat → Int32) : xmi := va_up (yi19 xs) 28 (fun _ => 0)
def yv20 : xml := va_up (yv19) 28 (fun _ => 0)
set_option maxRecDepth 100000 in
theorem k_9 (d L : Nat) (xs : Nat → Int32) : xC (d + 1) 23 [.ref 27] (yl19, yr19 L, yi19 xs, yv19) 1 24 (fun r M => r = none ∧ M = (yl20, yr20 L, yi20 xs, yv20)) := by
  refine xC.mk2 mX3_init 29 834 rfl rfl (by decide) (by decide) ?_
  refine xR.go 6 (12, [(0, .ref 27)], [], (yl20, yr20 L, yi20 xs, yv20)) rfl ?_
  exact xR.rt none (yl20, yr20 L, yi20 xs, yv20) rfl ⟨⟨rfl, rfl⟩, (by show yl20.length = 29; decide), (by show xsuml yl20 = 834; decide)⟩
def yl21 : List (Nat × Nat) := [(8, 10), (5, 3), (20, 64), (20, 64), (1, 3), (20, 8), (20, 2), (20, 4), (6, 5), (20, 64), (0, 9), (21, 64), (21, 64), (21, 64), (20, 64), (21, 64), (7, 8), (21, 64), (2, 3), (20, 16), (23, 2), (24, 2), (3, 1), (20, 24), (4, 5), (20, 64), (20, 64), (3, 1), (20, 24), (4, 5)]
def yr21 (L : Nat) : Nat → Nat → Option Nat := va_up (xU (yr20 L) 20 1 (some 27)) 29 (fun _ => none)
def yi21 (xs : Nat → Int32) : xmi := va_up (yi20 xs) 29 (fun _ => 0)
def yv21 : xml := va_up (yv20) 29 (fun _ => 0)
def yl22 : List (Nat × Nat) := [(8, 10), (5, 3), (20, 64), (20, 64), (1, 3), (20, 8), (20, 2), (20, 4), (6, 5), (20, 64), (0, 9), (21, 64), (21, 64), (21, 64), (20, 64), (21, 64), (7, 8), (21, 64), (2, 3), (20, 16), (23, 2), (24, 2), (3, 1), (20, 24), (4, 5), (20, 64), (20, 64), (3, 1), (20, 24), (4, 5), (20, 64), (20, 64)]
def yr22 (L : Nat) : Nat → Nat → Option Nat := xU (va_up (xU (va_up (yr21 L) 30 (fun _ => none)) 29 0 (some 30)) 31 (fun _ => none)) 29 1 (some 31)
def yi22 (xs : Nat → Int32) : xmi := va_up (va_up (yi21 xs) 30 (fun _ => 0)) 31 (fun _ => 0)
def yv22 : xml := va_up (va_up (yv21) 30 (fun _ => 0)) 31 (fun _ => 0)
set_option maxRecDepth 100000 in
theorem k_10 (d L : Nat) (xs : Nat → Int32) : xC (d + 1) 27 [.ref 29] (yl21, yr21 L, yi21 xs, yv21) 2 128 (fun r M => r = none ∧ M = (yl22, yr22 L, yi22 xs, yv22)) := by
  refine xC.mk2 mX4_init 32 967 rfl rfl (by decide) (by decide) ?_
  refine xR.go 10 (20, [(0, .ref 29)], [], (yl22, yr22 L, yi22 xs, yv22)) rfl ?_
  exact xR.rt none (yl22, yr22 L, yi22 xs, yv22) rfl ⟨⟨rfl, rfl⟩, (by show yl22.length = 32; decide), (by show xsuml yl22 = 967; decide)⟩
def yl23 : List (Nat × Nat) := [(8, 10), (5, 3), (20, 64), (20, 64), (1, 3), (20, 8), (20, 2), (20, 4), (6, 5), (20, 64), (0, 9), (21, 64), (21, 64), (21, 64), (20, 64), (21, 64), (7, 8), (21, 64), (2, 3), (20, 16), (23, 2), (24, 2), (3, 1), (20, 24), (4, 5), (20, 64), (20, 64), (3, 1), (20, 24), (4, 5), (20, 64), (20, 64)]
def yr23 (L : Nat) : Nat → Nat → Option Nat := xU (yr22 L) 21 1 (some 29)
def yi23 (xs : Nat → Int32) : xmi := xU (xU (yi22 xs) 0 8 1) 0 9 1
def yv23 : xml := yv22
set_option maxRecDepth 100000 in
theorem k_11 (d L : Nat) (xs : Nat → Int32) : xC (d + 2) 67 [.ref 0] (yl1, yr1 L, yi1 xs, yv1) 31 957 (fun r M => r = none ∧ M = (yl23, yr23 L, yi23 xs, yv23)) := by
  refine xC.mk2 mX8_init 32 967 rfl rfl (by decide) (by decide) ?_
  refine xR.go 5 (9, [(0, .ref 0)], [.ref 1, .ref 1, .ref 0], (yl2, yr2 L, yi2 xs, yv2)) rfl ?_
  refine xR.ca 39 [.ref 1] [.ref 1, .ref 0] 2 128 rfl (by show yl2.length + 2 ≤ 32; decide) (by show xsuml yl2 + 128 ≤ 967; decide) (k_1 _ L xs) ?_
  rintro r M ⟨rfl, rfl⟩
  refine xR.go 4 (20, [(0, .ref 0)], [.ref 4, .ref 4, .ref 0], (yl4, yr4 L, yi4 xs, yv4)) rfl ?_
  refine xR.ca 9 [.ref 4] [.ref 4, .ref 0] 3 14 rfl (by show yl4.length + 3 ≤ 32; decide) (by show xsuml yl4 + 14 ≤ 967; decide) (k_2 _ L xs) ?_
  rintro r M ⟨rfl, rfl⟩
  refine xR.go 6 (35, [(0, .ref 0)], [.ref 1, .ref 8, .ref 8, .ref 0], (yl6, yr6 L, yi6 xs, yv6)) rfl ?_
  refine xR.ca 49 [.ref 8, .ref 1] [.ref 8, .ref 0] 1 64 rfl (by show yl6.length + 1 ≤ 32; decide) (by show xsuml yl6 + 64 ≤ 967; decide) (k_3 _ L xs) ?_
  rintro r M ⟨rfl, rfl⟩
  refine xR.go 8 (54, [(0, .ref 0)], [.ref 8, .ref 1, .ref 10, .ref 10, .ref 0], (yl8, yr8 L, yi8 xs, yv8)) rfl ?_
  refine xR.ca 0 [.ref 10, .ref 1, .ref 8] [.ref 10, .ref 0] 5 320 rfl (by show yl8.length + 5 ≤ 32; decide) (by show xsuml yl8 + 320 ≤ 967; decide) (k_4 _ L xs) ?_
  rintro r M ⟨rfl, rfl⟩
  refine xR.go 12 (81, [(0, .ref 0)], [.ref 10, .ref 8, .ref 4, .ref 1, .ref 16, .ref 16, .ref 0], (yl11, yr11 L, yi11 xs, yv11)) rfl ?_
  refine xR.ca 56 [.ref 16, .ref 1, .ref 4, .ref 8, .ref 10] [.ref 16, .ref 0] 1 64 rfl (by show yl11.length + 1 ≤ 32; decide) (by show xsuml yl11 + 64 ≤ 967; decide) (k_5 _ L xs) ?_
  rintro r M ⟨rfl, rfl⟩
  refine xR.go 6 (96, [(0, .ref 0)], [.ref 1, .ref 18, .ref 18, .ref 0], (yl13, yr13 L, yi13 xs, yv13)) rfl ?_
  refine xR.ca 15 [.ref 18, .ref 1] [.ref 18, .ref 0] 1 16 rfl (by show yl13.length + 1 ≤ 32; decide) (by show xsuml yl13 + 16 ≤ 967; decide) (k_6 _ L xs) ?_
  rintro r M ⟨rfl, rfl⟩
  refine xR.go 19 (134, [(0, .ref 0), (1, .int 0)], [.ref 22, .ref 22, .int 0, .ref 20], (yl15, yr15 L, yi15 xs, yv15)) rfl ?_
  refine xR.ca 23 [.ref 22] [.ref 22, .int 0, .ref 20] 1 24 rfl (by show yl15.length + 1 ≤ 32; decide) (by show xsuml yl15 + 24 ≤ 967; decide) (k_7 _ L xs) ?_
  rintro r M ⟨rfl, rfl⟩
  refine xR.go 6 (147, [(0, .ref 0), (1, .int 0)], [.ref 24, .ref 24, .int 0, .ref 21], (yl17, yr17 L, yi17 xs, yv17)) rfl ?_
  refine xR.ca 27 [.ref 24] [.ref 24, .int 0, .ref 21] 2 128 rfl (by show yl17.length + 2 ≤ 32; decide) (by show xsuml yl17 + 128 ≤ 967; decide) (k_8 _ L xs) ?_
  rintro r M ⟨rfl, rfl⟩
  refine xR.go 11 (134, [(0, .ref 0), (1, .int 1)], [.ref 27, .ref 27, .int 1, .ref 20], (yl19, yr19 L, yi19 xs, yv19)) rfl ?_
  refine xR.ca 23 [.ref 27] [.ref 27, .int 1, .ref 20] 1 24 rfl (by show yl19.length + 1 ≤ 32; decide) (by show xsuml yl19 + 24 ≤ 967; decide) (k_9 _ L xs) ?_
  rintro r M ⟨rfl, rfl⟩
  refine xR.go 6 (147, [(0, .ref 0), (1, .int 1)], [.ref 29, .ref 29, .int 1, .ref 21], (yl21, yr21 L, yi21 xs, yv21)) rfl ?_
  refine xR.ca 27 [.ref 29] [.ref 29, .int 1, .ref 21] 2 128 rfl (by show yl21.length + 2 ≤ 32; decide) (by show xsuml yl21 + 128 ≤ 967; decide) (k_10 _ L xs) ?_
  rintro r M ⟨rfl, rfl⟩
  refine xR.go 12 (167, [(0, .ref 0), (1, .int 2)], [], (yl23, yr23 L, yi23 xs, yv23)) rfl ?_
  exact xR.rt none (yl23, yr23 L, yi23 xs, yv23) rfl ⟨⟨rfl, rfl⟩, (by show yl23.length = 32; decide), (by show xsuml yl23 = 967; decide)⟩
def yl24 : List (Nat × Nat) := [(8, 10), (5, 3), (20, 64), (20, 64), (1, 3), (20, 8), (20, 2), (20, 4), (6, 5), (20, 64), (0, 9), (21, 64), (21, 64), (21, 64), (20, 64), (21, 64), (7, 8), (21, 64), (2, 3), (20, 16), (23, 2), (24, 2), (3, 1), (20, 24), (4, 5), (20, 64), (20, 64), (3, 1), (20, 24), (4, 5), (20, 64), (20, 64), (9, 21)]
def yr24 (L : Nat) : Nat → Nat → Option Nat := va_up (yr23 L) 32 (fun _ => none)
def yi24 (xs : Nat → Int32) : xmi := va_up (yi23 xs) 32 (fun _ => 0)
def yv24 : xml := va_up (yv23) 32 (fun _ => 0)
def yl25 : List (Nat × Nat) := [(8, 10), (5, 3), (20, 64), (20, 64), (1, 3), (20, 8), (20, 2), (20, 4), (6, 5), (20, 64), (0, 9), (21, 64), (21, 64), (21, 64), (20, 64), (21, 64), (7, 8), (21, 64), (2, 3), (20, 16), (23, 2), (24, 2), (3, 1), (20, 24), (4, 5), (20, 64), (20, 64), (3, 1), (20, 24), (4, 5), (20, 64), (20, 64), (9, 21), (20, 64), (20, 64), (20, 14)]
def yr25 (L : Nat) : Nat → Nat → Option Nat := xU (va_up (xU (va_up (xU (va_up (yr24 L) 33 (fun _ => none)) 32 0 (some 33)) 34 (fun _ => none)) 32 1 (some 34)) 35 (fun _ => none)) 32 3 (some 35)
def yi25 (xs : Nat → Int32) : xmi := va_up (va_up (va_up (yi24 xs) 33 (fun _ => 0)) 34 (fun _ => 0)) 35 (fun _ => 0)
def yv25 : xml := va_up (va_up (va_up (yv24) 33 (fun _ => 0)) 34 (fun _ => 0)) 35 (fun _ => 0)
def yl26 : List (Nat × Nat) := [(8, 10), (5, 3), (20, 64), (20, 64), (1, 3), (20, 8), (20, 2), (20, 4), (6, 5), (20, 64), (0, 9), (21, 64), (21, 64), (21, 64), (20, 64), (21, 64), (7, 8), (21, 64), (2, 3), (20, 16), (23, 2), (24, 2), (3, 1), (20, 24), (4, 5), (20, 64), (20, 64), (3, 1), (20, 24), (4, 5), (20, 64), (20, 64), (9, 21), (20, 64), (20, 64), (20, 14), (20, 48), (20, 64), (20, 64)]
def yr26 (L : Nat) : Nat → Nat → Option Nat := xU (va_up (xU (va_up (xU (va_up (yr25 L) 36 (fun _ => none)) 32 4 (some 36)) 37 (fun _ => none)) 32 7 (some 37)) 38 (fun _ => none)) 32 8 (some 38)
def yi26 (xs : Nat → Int32) : xmi := va_up (va_up (va_up (yi25 xs) 36 (fun _ => 0)) 37 (fun _ => 0)) 38 (fun _ => 0)
def yv26 : xml := va_up (va_up (va_up (yv25) 36 (fun _ => 0)) 37 (fun _ => 0)) 38 (fun _ => 0)
def yl27 : List (Nat × Nat) := [(8, 10), (5, 3), (20, 64), (20, 64), (1, 3), (20, 8), (20, 2), (20, 4), (6, 5), (20, 64), (0, 9), (21, 64), (21, 64), (21, 64), (20, 64), (21, 64), (7, 8), (21, 64), (2, 3), (20, 16), (23, 2), (24, 2), (3, 1), (20, 24), (4, 5), (20, 64), (20, 64), (3, 1), (20, 24), (4, 5), (20, 64), (20, 64), (9, 21), (20, 64), (20, 64), (20, 14), (20, 48), (20, 64), (20, 64), (22, 4096), (20, 1088), (22, 65)]
def yr27 (L : Nat) : Nat → Nat → Option Nat := xU (va_up (xU (va_up (xU (va_up (yr26 L) 39 (fun _ => none)) 32 9 (some 39)) 40 (fun _ => none)) 32 11 (some 40)) 41 (fun _ => none)) 32 12 (some 41)
def yi27 (xs : Nat → Int32) : xmi := va_up (va_up (va_up (yi26 xs) 39 (fun _ => 0)) 40 (fun _ => 0)) 41 (fun _ => 0)
def yv27 : xml := va_up (va_up (va_up (yv26) 39 (fun _ => 0)) 40 (fun _ => 0)) 41 (fun _ => 0)
def yl28 : List (Nat × Nat) := [(8, 10), (5, 3), (20, 64), (20, 64), (1, 3), (20, 8), (20, 2), (20, 4), (6, 5), (20, 64), (0, 9), (21, 64), (21, 64), (21, 64), (20, 64), (21, 64), (7, 8), (21, 64), (2, 3), (20, 16), (23, 2), (24, 2), (3, 1), (20, 24), (4, 5), (20, 64), (20, 64), (3, 1), (20, 24), (4, 5), (20, 64), (20, 64), (9, 21), (20, 64), (20, 64), (20, 14), (20, 48), (20, 64), (20, 64), (22, 4096), (20, 1088), (22, 65), (22, 65), (22, 2), (22, 2)]
def yr28 (L : Nat) : Nat → Nat → Option Nat := xU (va_up (xU (va_up (xU (va_up (yr27 L) 42 (fun _ => none)) 32 13 (some 42)) 43 (fun _ => none)) 32 14 (some 43)) 44 (fun _ => none)) 32 15 (some 44)
def yi28 (xs : Nat → Int32) : xmi := va_up (va_up (va_up (yi27 xs) 42 (fun _ => 0)) 43 (fun _ => 0)) 44 (fun _ => 0)
def yv28 : xml := va_up (va_up (va_up (yv27) 42 (fun _ => 0)) 43 (fun _ => 0)) 44 (fun _ => 0)
def yl29 : List (Nat × Nat) := [(8, 10), (5, 3), (20, 64), (20, 64), (1, 3), (20, 8), (20, 2), (20, 4), (6, 5), (20, 64), (0, 9), (21, 64), (21, 64), (21, 64), (20, 64), (21, 64), (7, 8), (21, 64), (2, 3), (20, 16), (23, 2), (24, 2), (3, 1), (20, 24), (4, 5), (20, 64), (20, 64), (3, 1), (20, 24), (4, 5), (20, 64), (20, 64), (9, 21), (20, 64), (20, 64), (20, 14), (20, 48), (20, 64), (20, 64), (22, 4096), (20, 1088), (22, 65), (22, 65), (22, 2), (22, 2), (20, 2), (20, 128), (20, 128)]
def yr29 (L : Nat) : Nat → Nat → Option Nat := xU (va_up (xU (va_up (xU (va_up (yr28 L) 45 (fun _ => none)) 32 16 (some 45)) 46 (fun _ => none)) 32 17 (some 46)) 47 (fun _ => none)) 32 18 (some 47)
def yi29 (xs : Nat → Int32) : xmi := va_up (va_up (va_up (yi28 xs) 45 (fun _ => 0)) 46 (fun _ => 0)) 47 (fun _ => 0)
def yv29 : xml := va_up (va_up (va_up (yv28) 45 (fun _ => 0)) 46 (fun _ => 0)) 47 (fun _ => 0)
def yl30 : List (Nat × Nat) := [(8, 10), (5, 3), (20, 64), (20, 64), (1, 3), (20, 8), (20, 2), (20, 4), (6, 5), (20, 64), (0, 9), (21, 64), (21, 64), (21, 64), (20, 64), (21, 64), (7, 8), (21, 64), (2, 3), (20, 16), (23, 2), (24, 2), (3, 1), (20, 24), (4, 5), (20, 64), (20, 64), (3, 1), (20, 24), (4, 5), (20, 64), (20, 64), (9, 21), (20, 64), (20, 64), (20, 14), (20, 48), (20, 64), (20, 64), (22, 4096), (20, 1088), (22, 65), (22, 65), (22, 2), (22, 2), (20, 2), (20, 128), (20, 128), (20, 16), (22, 65)]
def yr30 (L : Nat) : Nat → Nat → Option Nat := xU (va_up (xU (va_up (yr29 L) 48 (fun _ => none)) 32 19 (some 48)) 49 (fun _ => none)) 32 20 (some 49)
def yi30 (xs : Nat → Int32) : xmi := va_up (va_up (yi29 xs) 48 (fun _ => 0)) 49 (fun _ => 0)
def yv30 : xml := va_up (va_up (yv29) 48 (fun _ => 0)) 49 (fun _ => 0)
set_option maxRecDepth 100000 in
theorem k_12 (d L : Nat) (xs : Nat → Int32) : xC (d + 1) 91 [.ref 32] (yl24, yr24 L, yi24 xs, yv24) 17 5975 (fun r M => r = none ∧ M = (yl30, yr30 L, yi30 xs, yv30)) := by
  refine xC.mk2 mX9_init 50 6963 rfl rfl (by decide) (by decide) ?_
  refine xR.go 14 (28, [(0, .ref 32)], [], (yl25, yr25 L, yi25 xs, yv25)) rfl ?_
  refine xR.go 12 (52, [(0, .ref 32)], [], (yl26, yr26 L, yi26 xs, yv26)) rfl ?_
  refine xR.go 12 (78, [(0, .ref 32)], [], (yl27, yr27 L, yi27 xs, yv27)) rfl ?_
  refine xR.go 12 (100, [(0, .ref 32)], [], (yl28, yr28 L, yi28 xs, yv28)) rfl ?_
  refine xR.go 12 (125, [(0, .ref 32)], [], (yl29, yr29 L, yi29 xs, yv29)) rfl ?_
  refine xR.go 8 (141, [(0, .ref 32)], [], (yl30, yr30 L, yi30 xs, yv30)) rfl ?_
  exact xR.rt none (yl30, yr30 L, yi30 xs, yv30) rfl ⟨⟨rfl, rfl⟩, (by show yl30.length = 50; decide), (by show xsuml yl30 = 6963; decide)⟩
theorem xMR_no {L a k : Nat} (ha : a ≠ 1000) (h : (xMRT.getD a []).length ≤ k) : xMR L a k = none := by
  have e : Nat.beq a 1000 = false := by
    cases hh : Nat.beq a 1000 with
    | false => rfl
    | true => exact absurd (Nat.eq_of_beq_eq_true hh) ha
  have e2 : (xMRT.getD a []).getD k 0 = 0 := by rw [List.getD_eq_getElem?_getD, List.getElem?_eq_none h]; rfl
  unfold xMR
  rw [e, e2]; rfl
theorem yr1_ge {L a : Nat} (h : 50 ≤ a) : yr1 L a = xmr0 L a := by unfold yr1; rw [va_up_ne _ _ (show a ≠ 0 by omega)]
theorem yr2_ge {L a : Nat} (h : 50 ≤ a) : yr2 L a = xmr0 L a := by unfold yr2; rw [va_up_ne _ _ (show a ≠ 1 by omega), yr1_ge h]
theorem yr3_ge {L a : Nat} (h : 50 ≤ a) : yr3 L a = xmr0 L a := by unfold yr3; rw [xU_ne (show a ≠ 1 by omega), va_up_ne _ _ (show a ≠ 3 by omega), xU_ne (show a ≠ 1 by omega), va_up_ne _ _ (show a ≠ 2 by omega), yr2_ge h]
theorem yr4_ge {L a : Nat} (h : 50 ≤ a) : yr4 L a = xmr0 L a := by unfold yr4; rw [va_up_ne _ _ (show a ≠ 4 by omega), xU_ne (show a ≠ 0 by omega), yr3_ge h]
theorem yr5_ge {L a : Nat} (h : 50 ≤ a) : yr5 L a = xmr0 L a := by unfold yr5; rw [xU_ne (show a ≠ 4 by omega), va_up_ne _ _ (show a ≠ 7 by omega), xU_ne (show a ≠ 4 by omega), va_up_ne _ _ (show a ≠ 6 by omega), xU_ne (show a ≠ 4 by omega), va_up_ne _ _ (show a ≠ 5 by omega), yr4_ge h]
theorem yr6_ge {L a : Nat} (h : 50 ≤ a) : yr6 L a = xmr0 L a := by unfold yr6; rw [va_up_ne _ _ (show a ≠ 8 by omega), xU_ne (show a ≠ 0 by omega), yr5_ge h]
theorem yr7_ge {L a : Nat} (h : 50 ≤ a) : yr7 L a = xmr0 L a := by unfold yr7; rw [xU_ne (show a ≠ 8 by omega), xU_ne (show a ≠ 8 by omega), va_up_ne _ _ (show a ≠ 9 by omega), yr6_ge h]
theorem yr8_ge {L a : Nat} (h : 50 ≤ a) : yr8 L a = xmr0 L a := by unfold yr8; rw [va_up_ne _ _ (show a ≠ 10 by omega), xU_ne (show a ≠ 0 by omega), yr7_ge h]
theorem yr9_ge {L a : Nat} (h : 50 ≤ a) : yr9 L a = xmr0 L a := by unfold yr9; rw [xU_ne (show a ≠ 10 by omega), va_up_ne _ _ (show a ≠ 13 by omega), xU_ne (show a ≠ 10 by omega), va_up_ne _ _ (show a ≠ 12 by omega), xU_ne (show a ≠ 10 by omega), va_up_ne _ _ (show a ≠ 11 by omega), yr8_ge h]
theorem yr10_ge {L a : Nat} (h : 50 ≤ a) : yr10 L a = xmr0 L a := by unfold yr10; rw [xU_ne (show a ≠ 10 by omega), xU_ne (show a ≠ 10 by omega), xU_ne (show a ≠ 10 by omega), va_up_ne _ _ (show a ≠ 15 by omega), xU_ne (show a ≠ 10 by omega), va_up_ne _ _ (show a ≠ 14 by omega), yr9_ge h]
theorem yr11_ge {L a : Nat} (h : 50 ≤ a) : yr11 L a = xmr0 L a := by unfold yr11; rw [va_up_ne _ _ (show a ≠ 16 by omega), xU_ne (show a ≠ 0 by omega), yr10_ge h]
theorem yr12_ge {L a : Nat} (h : 50 ≤ a) : yr12 L a = xmr0 L a := by unfold yr12; rw [xU_ne (show a ≠ 16 by omega), xU_ne (show a ≠ 16 by omega), xU_ne (show a ≠ 16 by omega), xU_ne (show a ≠ 16 by omega), xU_ne (show a ≠ 16 by omega), va_up_ne _ _ (show a ≠ 17 by omega), yr11_ge h]
theorem yr13_ge {L a : Nat} (h : 50 ≤ a) : yr13 L a = xmr0 L a := by unfold yr13; rw [va_up_ne _ _ (show a ≠ 18 by omega), xU_ne (show a ≠ 0 by omega), yr12_ge h]
theorem yr14_ge {L a : Nat} (h : 50 ≤ a) : yr14 L a = xmr0 L a := by unfold yr14; rw [xU_ne (show a ≠ 18 by omega), xU_ne (show a ≠ 18 by omega), va_up_ne _ _ (show a ≠ 19 by omega), yr13_ge h]
theorem yr15_ge {L a : Nat} (h : 50 ≤ a) : yr15 L a = xmr0 L a := by unfold yr15; rw [va_up_ne _ _ (show a ≠ 22 by omega), xU_ne (show a ≠ 0 by omega), va_up_ne _ _ (show a ≠ 21 by omega), xU_ne (show a ≠ 0 by omega), va_up_ne _ _ (show a ≠ 20 by omega), xU_ne (show a ≠ 0 by omega), yr14_ge h]
theorem yr16_ge {L a : Nat} (h : 50 ≤ a) : yr16 L a = xmr0 L a := by unfold yr16; rw [xU_ne (show a ≠ 22 by omega), va_up_ne _ _ (show a ≠ 23 by omega), yr15_ge h]
theorem yr17_ge {L a : Nat} (h : 50 ≤ a) : yr17 L a = xmr0 L a := by unfold yr17; rw [va_up_ne _ _ (show a ≠ 24 by omega), xU_ne (show a ≠ 20 by omega), yr16_ge h]
theorem yr18_ge {L a : Nat} (h : 50 ≤ a) : yr18 L a = xmr0 L a := by unfold yr18; rw [xU_ne (show a ≠ 24 by omega), va_up_ne _ _ (show a ≠ 26 by omega), xU_ne (show a ≠ 24 by omega), va_up_ne _ _ (show a ≠ 25 by omega), yr17_ge h]
theorem yr19_ge {L a : Nat} (h : 50 ≤ a) : yr19 L a = xmr0 L a := by unfold yr19; rw [va_up_ne _ _ (show a ≠ 27 by omega), xU_ne (show a ≠ 21 by omega), yr18_ge h]
theorem yr20_ge {L a : Nat} (h : 50 ≤ a) : yr20 L a = xmr0 L a := by unfold yr20; rw [xU_ne (show a ≠ 27 by omega), va_up_ne _ _ (show a ≠ 28 by omega), yr19_ge h]
theorem yr21_ge {L a : Nat} (h : 50 ≤ a) : yr21 L a = xmr0 L a := by unfold yr21; rw [va_up_ne _ _ (show a ≠ 29 by omega), xU_ne (show a ≠ 20 by omega), yr20_ge h]
theorem yr22_ge {L a : Nat} (h : 50 ≤ a) : yr22 L a = xmr0 L a := by unfold yr22; rw [xU_ne (show a ≠ 29 by omega), va_up_ne _ _ (show a ≠ 31 by omega), xU_ne (show a ≠ 29 by omega), va_up_ne _ _ (show a ≠ 30 by omega), yr21_ge h]
theorem yr23_ge {L a : Nat} (h : 50 ≤ a) : yr23 L a = xmr0 L a := by unfold yr23; rw [xU_ne (show a ≠ 21 by omega), yr22_ge h]
theorem yr24_ge {L a : Nat} (h : 50 ≤ a) : yr24 L a = xmr0 L a := by unfold yr24; rw [va_up_ne _ _ (show a ≠ 32 by omega), yr23_ge h]
theorem yr25_ge {L a : Nat} (h : 50 ≤ a) : yr25 L a = xmr0 L a := by unfold yr25; rw [xU_ne (show a ≠ 32 by omega), va_up_ne _ _ (show a ≠ 35 by omega), xU_ne (show a ≠ 32 by omega), va_up_ne _ _ (show a ≠ 34 by omega), xU_ne (show a ≠ 32 by omega), va_up_ne _ _ (show a ≠ 33 by omega), yr24_ge h]
theorem yr26_ge {L a : Nat} (h : 50 ≤ a) : yr26 L a = xmr0 L a := by unfold yr26; rw [xU_ne (show a ≠ 32 by omega), va_up_ne _ _ (show a ≠ 38 by omega), xU_ne (show a ≠ 32 by omega), va_up_ne _ _ (show a ≠ 37 by omega), xU_ne (show a ≠ 32 by omega), va_up_ne _ _ (show a ≠ 36 by omega), yr25_ge h]
theorem yr27_ge {L a : Nat} (h : 50 ≤ a) : yr27 L a = xmr0 L a := by unfold yr27; rw [xU_ne (show a ≠ 32 by omega), va_up_ne _ _ (show a ≠ 41 by omega), xU_ne (show a ≠ 32 by omega), va_up_ne _ _ (show a ≠ 40 by omega), xU_ne (show a ≠ 32 by omega), va_up_ne _ _ (show a ≠ 39 by omega), yr26_ge h]
theorem yr28_ge {L a : Nat} (h : 50 ≤ a) : yr28 L a = xmr0 L a := by unfold yr28; rw [xU_ne (show a ≠ 32 by omega), va_up_ne _ _ (show a ≠ 44 by omega), xU_ne (show a ≠ 32 by omega), va_up_ne _ _ (show a ≠ 43 by omega), xU_ne (show a ≠ 32 by omega), va_up_ne _ _ (show a ≠ 42 by omega), yr27_ge h]
theorem yr29_ge {L a : Nat} (h : 50 ≤ a) : yr29 L a = xmr0 L a := by unfold yr29; rw [xU_ne (show a ≠ 32 by omega), va_up_ne _ _ (show a ≠ 47 by omega), xU_ne (show a ≠ 32 by omega), va_up_ne _ _ (show a ≠ 46 by omega), xU_ne (show a ≠ 32 by omega), va_up_ne _ _ (show a ≠ 45 by omega), yr28_ge h]
theorem yr30_ge {L a : Nat} (h : 50 ≤ a) : yr30 L a = xmr0 L a := by unfold yr30; rw [xU_ne (show a ≠ 32 by omega), va_up_ne _ _ (show a ≠ 49 by omega), xU_ne (show a ≠ 32 by omega), va_up_ne _ _ (show a ≠ 48 by omega), yr29_ge h]
theorem yr_row0 (L k : Nat) : yr30 L 0 k = xMR L 0 k := by
  by_cases e0 : k = 0
  · subst e0; rfl
  by_cases e1 : k = 1
  · subst e1; rfl
  by_cases e2 : k = 2
  · subst e2; rfl
  by_cases e3 : k = 3
  · subst e3; rfl
  by_cases e4 : k = 4
  · subst e4; rfl
  by_cases e5 : k = 5
  · subst e5; rfl
  by_cases e6 : k = 6
  · subst e6; rfl
  by_cases e7 : k = 7
  · subst e7; rfl
  rw [xMR_no (by decide) (by show 8 ≤ k; omega)]
  show (va_up (va_up (va_up (va_up (va_up (va_up (va_up (va_up ((fun _ => (none : Option Nat))) 0 (some 1)) 1 (some 4)) 2 (some 8)) 3 (some 10)) 4 (some 16)) 5 (some 18)) 6 (some 20)) 7 (some 21)) k = none
  rw [va_up_ne _ _ e7, va_up_ne _ _ e6, va_up_ne _ _ e5, va_up_ne _ _ e4, va_up_ne _ _ e3, va_up_ne _ _ e2, va_up_ne _ _ e1, va_up_ne _ _ e0]
theorem yr_row1 (L k : Nat) : yr30 L 1 k = xMR L 1 k := by
  by_cases e0 : k = 0
  · subst e0; rfl
  by_cases e1 : k = 1
  · subst e1; rfl
  rw [xMR_no (by decide) (by show 2 ≤ k; omega)]
  show (va_up (va_up ((fun _ => (none : Option Nat))) 0 (some 2)) 1 (some 3)) k = none
  rw [va_up_ne _ _ e1, va_up_ne _ _ e0]
theorem yr_row2 (L k : Nat) : yr30 L 2 k = xMR L 2 k := (show yr30 L 2 k = none from rfl).trans (xMR_no (by decide) (Nat.zero_le k)).symm
theorem yr_row3 (L k : Nat) : yr30 L 3 k = xMR L 3 k := (show yr30 L 3 k = none from rfl).trans (xMR_no (by decide) (Nat.zero_le k)).symm
theorem yr_row4 (L k : Nat) : yr30 L 4 k = xMR L 4 k := by
  by_cases e0 : k = 0
  · subst e0; rfl
  by_cases e1 : k = 1
  · subst e1; rfl
  by_cases e2 : k = 2
  · subst e2; rfl
  rw [xMR_no (by decide) (by show 3 ≤ k; omega)]
  show (va_up (va_up (va_up ((fun _ => (none : Option Nat))) 0 (some 5)) 1 (some 6)) 2 (some 7)) k = none
  rw [va_up_ne _ _ e2, va_up_ne _ _ e1, va_up_ne _ _ e0]
theorem yr_row5 (L k : Nat) : yr30 L 5 k = xMR L 5 k := (show yr30 L 5 k = none from rfl).trans (xMR_no (by decide) (Nat.zero_le k)).symm
theorem yr_row6 (L k : Nat) : yr30 L 6 k = xMR L 6 k := (show yr30 L 6 k = none from rfl).trans (xMR_no (by decide) (Nat.zero_le k)).symm
theorem yr_row7 (L k : Nat) : yr30 L 7 k = xMR L 7 k := (show yr30 L 7 k = none from rfl).trans (xMR_no (by decide) (Nat.zero_le k)).symm
theorem yr_row8 (L k : Nat) : yr30 L 8 k = xMR L 8 k := by
  by_cases e0 : k = 0
  · subst e0; rfl
  by_cases e1 : k = 1
  · subst e1; rfl
  rw [xMR_no (by decide) (by show 2 ≤ k; omega)]
  show (va_up (va_up ((fun _ => (none : Option Nat))) 1 (some 9)) 0 (some 1)) k = none
  rw [va_up_ne _ _ e0, va_up_ne _ _ e1]
theorem yr_row9 (L k : Nat) : yr30 L 9 k = xMR L 9 k := (show yr30 L 9 k = none from rfl).trans (xMR_no (by decide) (Nat.zero_le k)).symm
theorem yr_row10 (L k : Nat) : yr30 L 10 k = xMR L 10 k := by
  by_cases e0 : k = 0
  · subst e0; rfl
  by_cases e1 : k = 1
  · subst e1; rfl
  by_cases e2 : k = 2
  · subst e2; rfl
  by_cases e3 : k = 3
  · subst e3; rfl
  by_cases e4 : k = 4
  · subst e4; rfl
  by_cases e5 : k = 5
  · subst e5; rfl
  by_cases e6 : k = 6
  · subst e6; rfl
  rw [xMR_no (by decide) (by show 7 ≤ k; omega)]
  show (va_up (va_up (va_up (va_up (va_up (va_up (va_up ((fun _ => (none : Option Nat))) 2 (some 11)) 3 (some 12)) 4 (some 13)) 5 (some 14)) 6 (some 15)) 0 (some 1)) 1 (some 8)) k = none
  rw [va_up_ne _ _ e1, va_up_ne _ _ e0, va_up_ne _ _ e6, va_up_ne _ _ e5, va_up_ne _ _ e4, va_up_ne _ _ e3, va_up_ne _ _ e2]
theorem yr_row11 (L k : Nat) : yr30 L 11 k = xMR L 11 k := (show yr30 L 11 k = none from rfl).trans (xMR_no (by decide) (Nat.zero_le k)).symm
theorem yr_row12 (L k : Nat) : yr30 L 12 k = xMR L 12 k := (show yr30 L 12 k = none from rfl).trans (xMR_no (by decide) (Nat.zero_le k)).symm
theorem yr_row13 (L k : Nat) : yr30 L 13 k = xMR L 13 k := (show yr30 L 13 k = none from rfl).trans (xMR_no (by decide) (Nat.zero_le k)).symm
theorem yr_row14 (L k : Nat) : yr30 L 14 k = xMR L 14 k := (show yr30 L 14 k = none from rfl).trans (xMR_no (by decide) (Nat.zero_le k)).symm
theorem yr_row15 (L k : Nat) : yr30 L 15 k = xMR L 15 k := (show yr30 L 15 k = none from rfl).trans (xMR_no (by decide) (Nat.zero_le k)).symm
theorem yr_row16 (L k : Nat) : yr30 L 16 k = xMR L 16 k := by
  by_cases e0 : k = 0
  · subst e0; rfl
  by_cases e1 : k = 1
  · subst e1; rfl
  by_cases e2 : k = 2
  · subst e2; rfl
  by_cases e3 : k = 3
  · subst e3; rfl
  by_cases e4 : k = 4
  · subst e4; rfl
  rw [xMR_no (by decide) (by show 5 ≤ k; omega)]
  show (va_up (va_up (va_up (va_up (va_up ((fun _ => (none : Option Nat))) 4 (some 17)) 0 (some 1)) 1 (some 4)) 2 (some 8)) 3 (some 10)) k = none
  rw [va_up_ne _ _ e3, va_up_ne _ _ e2, va_up_ne _ _ e1, va_up_ne _ _ e0, va_up_ne _ _ e4]
theorem yr_row17 (L k : Nat) : yr30 L 17 k = xMR L 17 k := (show yr30 L 17 k = none from rfl).trans (xMR_no (by decide) (Nat.zero_le k)).symm
theorem yr_row18 (L k : Nat) : yr30 L 18 k = xMR L 18 k := by
  by_cases e0 : k = 0
  · subst e0; rfl
  by_cases e1 : k = 1
  · subst e1; rfl
  rw [xMR_no (by decide) (by show 2 ≤ k; omega)]
  show (va_up (va_up ((fun _ => (none : Option Nat))) 1 (some 19)) 0 (some 1)) k = none
  rw [va_up_ne _ _ e0, va_up_ne _ _ e1]
theorem yr_row19 (L k : Nat) : yr30 L 19 k = xMR L 19 k := (show yr30 L 19 k = none from rfl).trans (xMR_no (by decide) (Nat.zero_le k)).symm
theorem yr_row20 (L k : Nat) : yr30 L 20 k = xMR L 20 k := by
  by_cases e0 : k = 0
  · subst e0; rfl
  by_cases e1 : k = 1
  · subst e1; rfl
  rw [xMR_no (by decide) (by show 2 ≤ k; omega)]
  show (va_up (va_up ((fun _ => (none : Option Nat))) 0 (some 22)) 1 (some 27)) k = none
  rw [va_up_ne _ _ e1, va_up_ne _ _ e0]
theorem yr_row21 (L k : Nat) : yr30 L 21 k = xMR L 21 k := by
  by_cases e0 : k = 0
  · subst e0; rfl
  by_cases e1 : k = 1
  · subst e1; rfl
  rw [xMR_no (by decide) (by show 2 ≤ k; omega)]
  show (va_up (va_up ((fun _ => (none : Option Nat))) 0 (some 24)) 1 (some 29)) k = none
  rw [va_up_ne _ _ e1, va_up_ne _ _ e0]
theorem yr_row22 (L k : Nat) : yr30 L 22 k = xMR L 22 k := by
  by_cases e0 : k = 0
  · subst e0; rfl
  rw [xMR_no (by decide) (by show 1 ≤ k; omega)]
  show (va_up ((fun _ => (none : Option Nat))) 0 (some 23)) k = none
  rw [va_up_ne _ _ e0]
theorem yr_row23 (L k : Nat) : yr30 L 23 k = xMR L 23 k := (show yr30 L 23 k = none from rfl).trans (xMR_no (by decide) (Nat.zero_le k)).symm
theorem yr_row24 (L k : Nat) : yr30 L 24 k = xMR L 24 k := by
  by_cases e0 : k = 0
  · subst e0; rfl
  by_cases e1 : k = 1
  · subst e1; rfl
  rw [xMR_no (by decide) (by show 2 ≤ k; omega)]
  show (va_up (va_up ((fun _ => (none : Option Nat))) 0 (some 25)) 1 (some 26)) k = none
  rw [va_up_ne _ _ e1, va_up_ne _ _ e0]
theorem yr_row25 (L k : Nat) : yr30 L 25 k = xMR L 25 k := (show yr30 L 25 k = none from rfl).trans (xMR_no (by decide) (Nat.zero_le k)).symm
theorem yr_row26 (L k : Nat) : yr30 L 26 k = xMR L 26 k := (show yr30 L 26 k = none from rfl).trans (xMR_no (by decide) (Nat.zero_le k)).symm
theorem yr_row27 (L k : Nat) : yr30 L 27 k = xMR L 27 k := by
  by_cases e0 : k = 0
  · subst e0; rfl
  rw [xMR_no (by decide) (by show 1 ≤ k; omega)]
  show (va_up ((fun _ => (none : Option Nat))) 0 (some 28)) k = none
  rw [va_up_ne _ _ e0]
theorem yr_row28 (L k : Nat) : yr30 L 28 k = xMR L 28 k := (show yr30 L 28 k = none from rfl).trans (xMR_no (by decide) (Nat.zero_le k)).symm
theorem yr_row29 (L k : Nat) : yr30 L 29 k = xMR L 29 k := by
  by_cases e0 : k = 0
  · subst e0; rfl
  by_cases e1 : k = 1
  · subst e1; rfl
  rw [xMR_no (by decide) (by show 2 ≤ k; omega)]
  show (va_up (va_up ((fun _ => (none : Option Nat))) 0 (some 30)) 1 (some 31)) k = none
  rw [va_up_ne _ _ e1, va_up_ne _ _ e0]
theorem yr_row30 (L k : Nat) : yr30 L 30 k = xMR L 30 k := (show yr30 L 30 k = none from rfl).trans (xMR_no (by decide) (Nat.zero_le k)).symm
theorem yr_row31 (L k : Nat) : yr30 L 31 k = xMR L 31 k := (show yr30 L 31 k = none from rfl).trans (xMR_no (by decide) (Nat.zero_le k)).symm
theorem yr_row32 (L k : Nat) : yr30 L 32 k = xMR L 32 k := by
  by_cases e0 : k = 0
  · subst e0; rfl
  by_cases e1 : k = 1
  · subst e1; rfl
  by_cases e2 : k = 2
  · subst e2; rfl
  by_cases e3 : k = 3
  · subst e3; rfl
  by_cases e4 : k = 4
  · subst e4; rfl
  by_cases e5 : k = 5
  · subst e5; rfl
  by_cases e6 : k = 6
  · subst e6; rfl
  by_cases e7 : k = 7
  · subst e7; rfl
  by_cases e8 : k = 8
  · subst e8; rfl
  by_cases e9 : k = 9
  · subst e9; rfl
  by_cases e10 : k = 10
  · subst e10; rfl
  by_cases e11 : k = 11
  · subst e11; rfl
  by_cases e12 : k = 12
  · subst e12; rfl
  by_cases e13 : k = 13
  · subst e13; rfl
  by_cases e14 : k = 14
  · subst e14; rfl
  by_cases e15 : k = 15
  · subst e15; rfl
  by_cases e16 : k = 16
  · subst e16; rfl
  by_cases e17 : k = 17
  · subst e17; rfl
  by_cases e18 : k = 18
  · subst e18; rfl
  by_cases e19 : k = 19
  · subst e19; rfl
  by_cases e20 : k = 20
  · subst e20; rfl
  rw [xMR_no (by decide) (by show 21 ≤ k; omega)]
  show (va_up (va_up (va_up (va_up (va_up (va_up (va_up (va_up (va_up (va_up (va_up (va_up (va_up (va_up (va_up (va_up (va_up ((fun _ => (none : Option Nat))) 0 (some 33)) 1 (some 34)) 3 (some 35)) 4 (some 36)) 7 (some 37)) 8 (some 38)) 9 (some 39)) 11 (some 40)) 12 (some 41)) 13 (some 42)) 14 (some 43)) 15 (some 44)) 16 (some 45)) 17 (some 46)) 18 (some 47)) 19 (some 48)) 20 (some 49)) k = none
  rw [va_up_ne _ _ e20, va_up_ne _ _ e19, va_up_ne _ _ e18, va_up_ne _ _ e17, va_up_ne _ _ e16, va_up_ne _ _ e15, va_up_ne _ _ e14, va_up_ne _ _ e13, va_up_ne _ _ e12, va_up_ne _ _ e11, va_up_ne _ _ e9, va_up_ne _ _ e8, va_up_ne _ _ e7, va_up_ne _ _ e4, va_up_ne _ _ e3, va_up_ne _ _ e1, va_up_ne _ _ e0]
theorem yr_row33 (L k : Nat) : yr30 L 33 k = xMR L 33 k := (show yr30 L 33 k = none from rfl).trans (xMR_no (by decide) (Nat.zero_le k)).symm
theorem yr_row34 (L k : Nat) : yr30 L 34 k = xMR L 34 k := (show yr30 L 34 k = none from rfl).trans (xMR_no (by decide) (Nat.zero_le k)).symm
theorem yr_row35 (L k : Nat) : yr30 L 35 k = xMR L 35 k := (show yr30 L 35 k = none from rfl).trans (xMR_no (by decide) (Nat.zero_le k)).symm
theorem yr_row36 (L k : Nat) : yr30 L 36 k = xMR L 36 k := (show yr30 L 36 k = none from rfl).trans (xMR_no (by decide) (Nat.zero_le k)).symm
theorem yr_row37 (L k : Nat) : yr30 L 37 k = xMR L 37 k := (show yr30 L 37 k = none from rfl).trans (xMR_no (by decide) (Nat.zero_le k)).symm
theorem yr_row38 (L k : Nat) : yr30 L 38 k = xMR L 38 k := (show yr30 L 38 k = none from rfl).trans (xMR_no (by decide) (Nat.zero_le k)).symm
theorem yr_row39 (L k : Nat) : yr30 L 39 k = xMR L 39 k := (show yr30 L 39 k = none from rfl).trans (xMR_no (by decide) (Nat.zero_le k)).symm
theorem yr_row40 (L k : Nat) : yr30 L 40 k = xMR L 40 k := (show yr30 L 40 k = none from rfl).trans (xMR_no (by decide) (Nat.zero_le k)).symm
theorem yr_row41 (L k : Nat) : yr30 L 41 k = xMR L 41 k := (show yr30 L 41 k = none from rfl).trans (xMR_no (by decide) (Nat.zero_le k)).symm
theorem yr_row42 (L k : Nat) : yr30 L 42 k = xMR L 42 k := (show yr30 L 42 k = none from rfl).trans (xMR_no (by decide) (Nat.zero_le k)).symm
theorem yr_row43 (L k : Nat) : yr30 L 43 k = xMR L 43 k := (show yr30 L 43 k = none from rfl).trans (xMR_no (by decide) (Nat.zero_le k)).symm
theorem yr_row44 (L k : Nat) : yr30 L 44 k = xMR L 44 k := (show yr30 L 44 k = none from rfl).trans (xMR_no (by decide) (Nat.zero_le k)).symm
theorem yr_row45 (L k : Nat) : yr30 L 45 k = xMR L 45 k := (show yr30 L 45 k = none from rfl).trans (xMR_no (by decide) (Nat.zero_le k)).symm
theorem yr_row46 (L k : Nat) : yr30 L 46 k = xMR L 46 k := (show yr30 L 46 k = none from rfl).trans (xMR_no (by decide) (Nat.zero_le k)).symm
theorem yr_row47 (L k : Nat) : yr30 L 47 k = xMR L 47 k := (show yr30 L 47 k = none from rfl).trans (xMR_no (by decide) (Nat.zero_le k)).symm
theorem yr_row48 (L k : Nat) : yr30 L 48 k = xMR L 48 k := (show yr30 L 48 k = none from rfl).trans (xMR_no (by decide) (Nat.zero_le k)).symm
theorem yr_row49 (L k : Nat) : yr30 L 49 k = xMR L 49 k := (show yr30 L 49 k = none from rfl).trans (xMR_no (by decide) (Nat.zero_le k)).symm
theorem yr_eq (L : Nat) : yr30 L = xMR L := by
  funext a k
  by_cases h : 50 ≤ a
  · rw [yr30_ge h]
    by_cases e : a = 1000
    · subst e; rfl
    · rw [xMR_no e (by
        have : xMRT.getD a [] = [] := by rw [List.getD_eq_getElem?_getD, List.getElem?_eq_none (show xMRT.length ≤ a from h)]; rfl
        rw [this]; exact Nat.zero_le k)]
      unfold xmr0
      split
      · exact absurd rfl e
      · rfl
  · exact (match a, h with
    | 0, _ => yr_row0 L k
    | 1, _ => yr_row1 L k
    | 2, _ => yr_row2 L k
    | 3, _ => yr_row3 L k
    | 4, _ => yr_row4 L k
    | 5, _ => yr_row5 L k
    | 6, _ => yr_row6 L k
    | 7, _ => yr_row7 L k
    | 8, _ => yr_row8 L k
    | 9, _ => yr_row9 L k
    | 10, _ => yr_row10 L k
    | 11, _ => yr_row11 L k
    | 12, _ => yr_row12 L k
    | 13, _ => yr_row13 L k
    | 14, _ => yr_row14 L k
    | 15, _ => yr_row15 L k
    | 16, _ => yr_row16 L k
    | 17, _ => yr_row17 L k
    | 18, _ => yr_row18 L k
    | 19, _ => yr_row19 L k
    | 20, _ => yr_row20 L k
    | 21, _ => yr_row21 L k
    | 22, _ => yr_row22 L k
    | 23, _ => yr_row23 L k
    | 24, _ => yr_row24 L k
    | 25, _ => yr_row25 L k
    | 26, _ => yr_row26 L k
    | 27, _ => yr_row27 L k
    | 28, _ => yr_row28 L k
    | 29, _ => yr_row29 L k
    | 30, _ => yr_row30 L k
    | 31, _ => yr_row31 L k
    | 32, _ => yr_row32 L k
    | 33, _ => yr_row33 L k
    | 34, _ => yr_row34 L k
    | 35, _ => yr_row35 L k
    | 36, _ => yr_row36 L k
    | 37, _ => yr_row37 L k
    | 38, _ => yr_row38 L k
    | 39, _ => yr_row39 L k
    | 40, _ => yr_row40 L k
    | 41, _ => yr_row41 L k
    | 42, _ => yr_row42 L k
    | 43, _ => yr_row43 L k
    | 44, _ => yr_row44 L k
    | 45, _ => yr_row45 L k
    | 46, _ => yr_row46 L k
    | 47, _ => yr_row47 L k
    | 48, _ => yr_row48 L k
    | 49, _ => yr_row49 L k
    | a + 50, h => absurd (Nat.le_add_left 50 a) h)
theorem inv0 (xs : Nat → Int32) : INV xs (yi30 xs) yv30 := by
  refine ⟨0, fun _ => 0, fun _ => 0, fun _ _ => false, fun _ _ => false, fun _ _ => false, ⟨⟨rfl, by omega, fun i hi => absurd hi (Nat.not_lt_zero i), fun i hi => absurd hi (Nat.not_lt_zero i), rfl, rfl⟩, fun i hi => absurd hi (Nat.not_lt_zero i), ⟨fun _ _ => rfl, fun _ _ => rfl, fun _ _ => rfl⟩, Or.inr rfl, Or.inr rfl, fun z => absurd z (by show ¬ (1 : Int32) = 0; decide), fun z => absurd z (by show ¬ (1 : Int32) = 0; decide)⟩, ⟨⟨rfl, by omega, fun i hi => absurd hi (Nat.not_lt_zero i), fun i hi => absurd hi (Nat.not_lt_zero i)⟩, fun i hi => absurd hi (Nat.not_lt_zero i), ⟨fun _ _ => rfl, fun _ _ => rfl, fun _ _ => rfl⟩, Or.inl rfl, Or.inl rfl, fun _ => rfl, fun z => absurd z (by show ¬ (0 : Int32) = 1; decide), fun z => absurd z (by show ¬ (0 : Int32) = 1; decide)⟩, ⟨fun i hi => absurd hi (Nat.not_lt_zero i), fun _ _ => rfl, ?_, ?_⟩, rfl, rfl⟩
  · exact ⟨fun _ _ => rfl, fun _ _ => rfl, fun _ _ => rfl, ⟨0, rfl, rfl, by omega⟩, rfl, Or.inl rfl, rfl, Or.inl rfl, fun _ _ => ⟨0, by omega, rfl⟩⟩
  · exact ⟨fun _ _ => rfl, fun _ _ => rfl, fun _ _ => rfl, ⟨0, rfl, rfl, by omega⟩, rfl, Or.inl rfl, rfl, Or.inl rfl, fun _ _ => ⟨0, by omega, rfl⟩⟩
set_option maxRecDepth 100000 in
theorem xpure : xPure := by
  intro L xs hL
  refine xR.go 2 (4, [(0, .ref 1000)], [.ref 0, .ref 0], (yl1, yr1 L, yi1 xs, yv1)) rfl ?_
  refine xR.ca 67 [.ref 0] [.ref 0] 31 957 rfl (by show yl1.length + 31 ≤ 600000; decide) (by show xsuml yl1 + 957 ≤ 7302250; decide) (k_11 8 L xs) ?_
  rintro r M ⟨rfl, rfl⟩
  refine xR.go 3 (12, [(0, .ref 1000), (1, .ref 0)], [.ref 32, .ref 32], (yl24, yr24 L, yi24 xs, yv24)) rfl ?_
  refine xR.ca 91 [.ref 32] [.ref 32] 17 5975 rfl (by show yl24.length + 17 ≤ 600000; decide) (by show xsuml yl24 + 5975 ≤ 7302250; decide) (k_12 9 L xs) ?_
  rintro r M ⟨rfl, rfl⟩
  refine xR.go 3 (18, [(0, .ref 1000), (1, .ref 0), (2, .ref 32), (3, .int 0)], [], (yl30, yr30 L, yi30 xs, yv30)) rfl ?_
  rw [yr_eq L]
  refine xR.po (law_lp hL (L + 1) 0 (yi30 xs) yv30 (Nat.zero_le L) (by omega) (inv0 xs)) (fun r M ⟨a, b, e, q⟩ => ⟨q, ?_⟩)
  subst e
  show xsuml xLAY ≤ 7302250
  decide
