/-! the links, by class number, entry, what it means; each by its place among the words -/
def xFL : List (Nat × Nat × Nat) := [(0, 9, 2), (0, 15, 3), (0, 18, 4), (0, 21, 5), (0, 25, 6), (0, 28, 0), (0, 32, 1), (0, 80, 7), (0, 94, 8), (1, 9, 64), (1, 15, 65), (1, 18, 66), (2, 9, 129), (2, 15, 128), (2, 24, 130), (3, 11, 192), (4, 9, 256), (4, 15, 257), (4, 18, 258), (4, 22, 259), (4, 25, 260), (5, 9, 320), (5, 15, 321), (5, 18, 322), (6, 9, 385), (6, 15, 384), (6, 19, 388), (6, 23, 386), (6, 31, 387), (7, 11, 452), (7, 15, 448), (7, 19, 449), (7, 23, 450), (7, 27, 451), (7, 31, 453), (7, 39, 454), (7, 58, 455), (8, 10, 512), (8, 19, 513), (8, 28, 514), (8, 37, 515), (8, 46, 516), (8, 53, 517), (8, 59, 518), (8, 65, 519), (8, 71, 520), (8, 75, 521), (9, 7, 576), (9, 13, 577), (9, 16, 579), (9, 19, 580), (9, 22, 583), (9, 25, 584), (9, 28, 585), (9, 32, 587), (9, 35, 588), (9, 38, 589), (9, 41, 590), (9, 44, 591), (9, 47, 592), (9, 50, 593), (9, 53, 594), (9, 56, 595), (9, 59, 596), (9, 69, 578), (9, 73, 581), (9, 77, 586), (9, 114, 582)]
def xSL : List (Nat × Nat × Nat) := [(5, 40, 1), (6, 58, 2), (6, 61, 3), (7, 108, 2), (7, 124, 3)]
def xCL : List (Nat × Nat × Nat) := [(8, 7, 5), (8, 16, 1), (8, 23, 6), (8, 32, 0), (8, 41, 7), (8, 50, 2), (8, 57, 3), (8, 63, 4), (13, 7, 8), (13, 10, 9)]
def xAL : List (Nat × Nat × Nat) := [(8, 57, 23), (8, 63, 24)]
def xDL : List (Nat × Nat × Nat) := [(0, 68, 18446744073709551615), (6, 46, 18446744073709551615), (7, 112, 1431655765), (7, 144, 18446744073709551615), (10, 314, 6148914691236517205), (10, 316, 3689348814741910323), (10, 318, 1085102592571150095)]
def xML : List (Nat × Nat × Nat) := [(0, 36, 41), (0, 42, 4), (0, 45, 6), (0, 48, 40), (0, 52, 51), (0, 57, 42), (0, 61, 7), (0, 70, 8), (0, 74, 137), (0, 84, 46), (0, 87, 5), (0, 91, 47), (1, 21, 14), (2, 19, 34), (2, 28, 29), (2, 32, 17), (2, 36, 43), (2, 42, 42), (2, 45, 21), (2, 49, 25), (2, 54, 22), (2, 58, 26), (2, 62, 19), (2, 65, 24), (2, 69, 18), (2, 73, 36), (2, 76, 35), (2, 79, 20), (3, 15, 135), (4, 29, 136), (4, 35, 31), (4, 43, 32), (4, 47, 13), (4, 55, 33), (5, 22, 41), (5, 26, 48), (5, 30, 42), (5, 34, 43), (6, 34, 55), (6, 48, 54), (6, 52, 42), (6, 64, 46), (6, 67, 47), (6, 70, 41), (7, 42, 41), (7, 52, 137), (7, 62, 40), (7, 66, 51), (7, 71, 62), (7, 75, 61), (7, 78, 43), (7, 82, 63), (7, 85, 57), (7, 88, 42), (7, 91, 11), (7, 99, 12), (7, 102, 13), (7, 105, 52), (7, 114, 2), (7, 120, 66), (7, 127, 64), (7, 130, 46), (7, 133, 65), (7, 137, 47), (7, 140, 58), (8, 25, 49), (8, 34, 0), (8, 43, 56), (8, 52, 15), (8, 78, 44), (8, 82, 45), (8, 85, 10), (8, 89, 82), (8, 93, 83), (8, 97, 60), (8, 101, 51), (8, 105, 57), (8, 109, 52), (8, 112, 86), (8, 116, 58), (8, 119, 1), (8, 122, 85), (8, 125, 26), (8, 128, 24), (8, 131, 136), (8, 136, 16), (8, 140, 28), (8, 143, 29), (8, 146, 30), (8, 149, 31), (8, 152, 32), (8, 155, 33), (8, 158, 84), (8, 161, 25), (8, 164, 53), (8, 167, 50), (8, 168, 3), (8, 169, 59), (8, 170, 37), (8, 174, 38), (8, 178, 134), (9, 62, 92), (9, 66, 93), (9, 80, 99), (9, 84, 97), (9, 87, 98), (9, 91, 100), (9, 94, 103), (9, 97, 102), (9, 100, 104), (9, 103, 105), (9, 106, 106), (9, 110, 101), (9, 117, 107), (9, 120, 109), (9, 124, 111), (9, 127, 110), (9, 130, 112), (9, 133, 108), (9, 136, 113), (9, 139, 114), (9, 142, 116), (9, 145, 115), (9, 148, 123), (9, 152, 125), (9, 155, 124), (9, 159, 126), (9, 162, 130), (9, 165, 131), (13, 9, 67), (13, 12, 91), (13, 13, 68), (13, 17, 94), (13, 18, 69), (13, 21, 95), (13, 22, 70), (13, 26, 96), (13, 27, 71), (13, 31, 117), (13, 32, 72), (13, 36, 118), (13, 37, 73), (13, 40, 119), (13, 41, 74), (13, 44, 120), (13, 45, 75), (13, 48, 121), (13, 49, 76), (13, 53, 122), (13, 54, 77), (13, 57, 127), (13, 58, 78), (13, 61, 128), (13, 62, 79), (13, 66, 129), (13, 67, 80), (13, 70, 132), (13, 71, 81), (13, 74, 133)]
def xMN : List (Nat × Nat × Nat) := [(0, 64, 88), (0, 97, 89), (0, 101, 90), (1, 25, 86), (3, 21, 86), (4, 39, 86), (4, 52, 87), (5, 37, 86), (6, 27, 89), (6, 38, 90), (6, 42, 88), (7, 35, 89), (7, 48, 86), (7, 96, 87), (8, 9, 39), (8, 18, 9), (8, 69, 23), (8, 70, 27)]
def xOL : List (Nat × Nat × Nat) := [(0, 3, 0), (1, 3, 0), (2, 3, 0), (3, 3, 0), (4, 3, 0), (5, 3, 0), (6, 3, 0), (7, 5, 0), (8, 1, 0), (9, 1, 0)]
def xFL_P (q : Nat × Nat × Nat) : Prop := q.2.2 / 64 < 10 ∧ q.2.2 % 64 < xN (q.2.2 / 64) ∧ Cond.fieldLink (xnm q.1) q.2.1 (xT (q.2.2 / 64) (q.2.2 % 64)).1 (xT (q.2.2 / 64) (q.2.2 % 64)).2.1 (xT (q.2.2 / 64) (q.2.2 % 64)).2.2.1 ∈ lw_tbl
theorem xFL_0 : xFL_P (0, 9, 2) := ⟨by decide, by decide, List.mem_of_getElem? (i := 129) (by decide +kernel)⟩
theorem xFL_1 : xFL_P (0, 15, 3) := ⟨by decide, by decide, List.mem_of_getElem? (i := 130) (by decide +kernel)⟩
theorem xFL_2 : xFL_P (0, 18, 4) := ⟨by decide, by decide, List.mem_of_getElem? (i := 131) (by decide +kernel)⟩
theorem xFL_3 : xFL_P (0, 21, 5) := ⟨by decide, by decide, List.mem_of_getElem? (i := 132) (by decide +kernel)⟩
theorem xFL_4 : xFL_P (0, 25, 6) := ⟨by decide, by decide, List.mem_of_getElem? (i := 133) (by decide +kernel)⟩
theorem xFL_5 : xFL_P (0, 28, 0) := ⟨by decide, by decide, List.mem_of_getElem? (i := 127) (by decide +kernel)⟩
theorem xFL_6 : xFL_P (0, 32, 1) := ⟨by decide, by decide, List.mem_of_getElem? (i := 128) (by decide +kernel)⟩
theorem xFL_7 : xFL_P (0, 80, 7) := ⟨by decide, by decide, List.mem_of_getElem? (i := 134) (by decide +kernel)⟩
theorem xFL_8 : xFL_P (0, 94, 8) := ⟨by decide, by decide, List.mem_of_getElem? (i := 135) (by decide +kernel)⟩
theorem xFL_9 : xFL_P (1, 9, 64) := ⟨by decide, by decide, List.mem_of_getElem? (i := 89) (by decide +kernel)⟩
theorem xFL_10 : xFL_P (1, 15, 65) := ⟨by decide, by decide, List.mem_of_getElem? (i := 90) (by decide +kernel)⟩
theorem xFL_11 : xFL_P (1, 18, 66) := ⟨by decide, by decide, List.mem_of_getElem? (i := 91) (by decide +kernel)⟩
theorem xFL_12 : xFL_P (2, 9, 129) := ⟨by decide, by decide, List.mem_of_getElem? (i := 194) (by decide +kernel)⟩
theorem xFL_13 : xFL_P (2, 15, 128) := ⟨by decide, by decide, List.mem_of_getElem? (i := 193) (by decide +kernel)⟩
theorem xFL_14 : xFL_P (2, 24, 130) := ⟨by decide, by decide, List.mem_of_getElem? (i := 195) (by decide +kernel)⟩
theorem xFL_15 : xFL_P (3, 11, 192) := ⟨by decide, by decide, List.mem_of_getElem? (i := 212) (by decide +kernel)⟩
theorem xFL_16 : xFL_P (4, 9, 256) := ⟨by decide, by decide, List.mem_of_getElem? (i := 221) (by decide +kernel)⟩
theorem xFL_17 : xFL_P (4, 15, 257) := ⟨by decide, by decide, List.mem_of_getElem? (i := 222) (by decide +kernel)⟩
theorem xFL_18 : xFL_P (4, 18, 258) := ⟨by decide, by decide, List.mem_of_getElem? (i := 223) (by decide +kernel)⟩
theorem xFL_19 : xFL_P (4, 22, 259) := ⟨by decide, by decide, List.mem_of_getElem? (i := 224) (by decide +kernel)⟩
theorem xFL_20 : xFL_P (4, 25, 260) := ⟨by decide, by decide, List.mem_of_getElem? (i := 225) (by decide +kernel)⟩
theorem xFL_21 : xFL_P (5, 9, 320) := ⟨by decide, by decide, List.mem_of_getElem? (i := 72) (by decide +kernel)⟩
theorem xFL_22 : xFL_P (5, 15, 321) := ⟨by decide, by decide, List.mem_of_getElem? (i := 73) (by decide +kernel)⟩
theorem xFL_23 : xFL_P (5, 18, 322) := ⟨by decide, by decide, List.mem_of_getElem? (i := 74) (by decide +kernel)⟩
theorem xFL_24 : xFL_P (6, 9, 385) := ⟨by decide, by decide, List.mem_of_getElem? (i := 106) (by decide +kernel)⟩
theorem xFL_25 : xFL_P (6, 15, 384) := ⟨by decide, by decide, List.mem_of_getElem? (i := 105) (by decide +kernel)⟩
theorem xFL_26 : xFL_P (6, 19, 388) := ⟨by decide, by decide, List.mem_of_getElem? (i := 109) (by decide +kernel)⟩
theorem xFL_27 : xFL_P (6, 23, 386) := ⟨by decide, by decide, List.mem_of_getElem? (i := 107) (by decide +kernel)⟩
theorem xFL_28 : xFL_P (6, 31, 387) := ⟨by decide, by decide, List.mem_of_getElem? (i := 108) (by decide +kernel)⟩
theorem xFL_29 : xFL_P (7, 11, 452) := ⟨by decide, by decide, List.mem_of_getElem? (i := 166) (by decide +kernel)⟩
theorem xFL_30 : xFL_P (7, 15, 448) := ⟨by decide, by decide, List.mem_of_getElem? (i := 162) (by decide +kernel)⟩
theorem xFL_31 : xFL_P (7, 19, 449) := ⟨by decide, by decide, List.mem_of_getElem? (i := 163) (by decide +kernel)⟩
theorem xFL_32 : xFL_P (7, 23, 450) := ⟨by decide, by decide, List.mem_of_getElem? (i := 164) (by decide +kernel)⟩
theorem xFL_33 : xFL_P (7, 27, 451) := ⟨by decide, by decide, List.mem_of_getElem? (i := 165) (by decide +kernel)⟩
theorem xFL_34 : xFL_P (7, 31, 453) := ⟨by decide, by decide, List.mem_of_getElem? (i := 167) (by decide +kernel)⟩
theorem xFL_35 : xFL_P (7, 39, 454) := ⟨by decide, by decide, List.mem_of_getElem? (i := 168) (by decide +kernel)⟩
theorem xFL_36 : xFL_P (7, 58, 455) := ⟨by decide, by decide, List.mem_of_getElem? (i := 169) (by decide +kernel)⟩
theorem xFL_37 : xFL_P (8, 10, 512) := ⟨by decide, by decide, List.mem_of_getElem? (i := 237) (by decide +kernel)⟩
theorem xFL_38 : xFL_P (8, 19, 513) := ⟨by decide, by decide, List.mem_of_getElem? (i := 238) (by decide +kernel)⟩
theorem xFL_39 : xFL_P (8, 28, 514) := ⟨by decide, by decide, List.mem_of_getElem? (i := 239) (by decide +kernel)⟩
theorem xFL_40 : xFL_P (8, 37, 515) := ⟨by decide, by decide, List.mem_of_getElem? (i := 240) (by decide +kernel)⟩
theorem xFL_41 : xFL_P (8, 46, 516) := ⟨by decide, by decide, List.mem_of_getElem? (i := 241) (by decide +kernel)⟩
theorem xFL_42 : xFL_P (8, 53, 517) := ⟨by decide, by decide, List.mem_of_getElem? (i := 242) (by decide +kernel)⟩
theorem xFL_43 : xFL_P (8, 59, 518) := ⟨by decide, by decide, List.mem_of_getElem? (i := 243) (by decide +kernel)⟩
theorem xFL_44 : xFL_P (8, 65, 519) := ⟨by decide, by decide, List.mem_of_getElem? (i := 244) (by decide +kernel)⟩
theorem xFL_45 : xFL_P (8, 71, 520) := ⟨by decide, by decide, List.mem_of_getElem? (i := 245) (by decide +kernel)⟩
theorem xFL_46 : xFL_P (8, 75, 521) := ⟨by decide, by decide, List.mem_of_getElem? (i := 246) (by decide +kernel)⟩
theorem xFL_47 : xFL_P (9, 7, 576) := ⟨by decide, by decide, List.mem_of_getElem? (i := 657) (by decide +kernel)⟩
theorem xFL_48 : xFL_P (9, 13, 577) := ⟨by decide, by decide, List.mem_of_getElem? (i := 658) (by decide +kernel)⟩
theorem xFL_49 : xFL_P (9, 16, 579) := ⟨by decide, by decide, List.mem_of_getElem? (i := 660) (by decide +kernel)⟩
theorem xFL_50 : xFL_P (9, 19, 580) := ⟨by decide, by decide, List.mem_of_getElem? (i := 661) (by decide +kernel)⟩
theorem xFL_51 : xFL_P (9, 22, 583) := ⟨by decide, by decide, List.mem_of_getElem? (i := 664) (by decide +kernel)⟩
theorem xFL_52 : xFL_P (9, 25, 584) := ⟨by decide, by decide, List.mem_of_getElem? (i := 665) (by decide +kernel)⟩
theorem xFL_53 : xFL_P (9, 28, 585) := ⟨by decide, by decide, List.mem_of_getElem? (i := 666) (by decide +kernel)⟩
theorem xFL_54 : xFL_P (9, 32, 587) := ⟨by decide, by decide, List.mem_of_getElem? (i := 668) (by decide +kernel)⟩
theorem xFL_55 : xFL_P (9, 35, 588) := ⟨by decide, by decide, List.mem_of_getElem? (i := 669) (by decide +kernel)⟩
theorem xFL_56 : xFL_P (9, 38, 589) := ⟨by decide, by decide, List.mem_of_getElem? (i := 670) (by decide +kernel)⟩
theorem xFL_57 : xFL_P (9, 41, 590) := ⟨by decide, by decide, List.mem_of_getElem? (i := 671) (by decide +kernel)⟩
theorem xFL_58 : xFL_P (9, 44, 591) := ⟨by decide, by decide, List.mem_of_getElem? (i := 672) (by decide +kernel)⟩
theorem xFL_59 : xFL_P (9, 47, 592) := ⟨by decide, by decide, List.mem_of_getElem? (i := 673) (by decide +kernel)⟩
theorem xFL_60 : xFL_P (9, 50, 593) := ⟨by decide, by decide, List.mem_of_getElem? (i := 674) (by decide +kernel)⟩
theorem xFL_61 : xFL_P (9, 53, 594) := ⟨by decide, by decide, List.mem_of_getElem? (i := 675) (by decide +kernel)⟩
theorem xFL_62 : xFL_P (9, 56, 595) := ⟨by decide, by decide, List.mem_of_getElem? (i := 676) (by decide +kernel)⟩
theorem xFL_63 : xFL_P (9, 59, 596) := ⟨by decide, by decide, List.mem_of_getElem? (i := 677) (by decide +kernel)⟩
theorem xFL_64 : xFL_P (9, 69, 578) := ⟨by decide, by decide, List.mem_of_getElem? (i := 659) (by decide +kernel)⟩
theorem xFL_65 : xFL_P (9, 73, 581) := ⟨by decide, by decide, List.mem_of_getElem? (i := 662) (by decide +kernel)⟩
theorem xFL_66 : xFL_P (9, 77, 586) := ⟨by decide, by decide, List.mem_of_getElem? (i := 667) (by decide +kernel)⟩
theorem xFL_67 : xFL_P (9, 114, 582) := ⟨by decide, by decide, List.mem_of_getElem? (i := 663) (by decide +kernel)⟩
theorem xFL_ok : ∀ q ∈ xFL, xFL_P q := List.forall_mem_cons.mpr ⟨xFL_0, List.forall_mem_cons.mpr ⟨xFL_1, List.forall_mem_cons.mpr ⟨xFL_2, List.forall_mem_cons.mpr ⟨xFL_3, List.forall_mem_cons.mpr ⟨xFL_4, List.forall_mem_cons.mpr ⟨xFL_5, List.forall_mem_cons.mpr ⟨xFL_6, List.forall_mem_cons.mpr ⟨xFL_7, List.forall_mem_cons.mpr ⟨xFL_8, List.forall_mem_cons.mpr ⟨xFL_9, List.forall_mem_cons.mpr ⟨xFL_10, List.forall_mem_cons.mpr ⟨xFL_11, List.forall_mem_cons.mpr ⟨xFL_12, List.forall_mem_cons.mpr ⟨xFL_13, List.forall_mem_cons.mpr ⟨xFL_14, List.forall_mem_cons.mpr ⟨xFL_15, List.forall_mem_cons.mpr ⟨xFL_16, List.forall_mem_cons.mpr ⟨xFL_17, List.forall_mem_cons.mpr ⟨xFL_18, List.forall_mem_cons.mpr ⟨xFL_19, List.forall_mem_cons.mpr ⟨xFL_20, List.forall_mem_cons.mpr ⟨xFL_21, List.forall_mem_cons.mpr ⟨xFL_22, List.forall_mem_cons.mpr ⟨xFL_23, List.forall_mem_cons.mpr ⟨xFL_24, List.forall_mem_cons.mpr ⟨xFL_25, List.forall_mem_cons.mpr ⟨xFL_26, List.forall_mem_cons.mpr ⟨xFL_27, List.forall_mem_cons.mpr ⟨xFL_28, List.forall_mem_cons.mpr ⟨xFL_29, List.forall_mem_cons.mpr ⟨xFL_30, List.forall_mem_cons.mpr ⟨xFL_31, List.forall_mem_cons.mpr ⟨xFL_32, List.forall_mem_cons.mpr ⟨xFL_33, List.forall_mem_cons.mpr ⟨xFL_34, List.forall_mem_cons.mpr ⟨xFL_35, List.forall_mem_cons.mpr ⟨xFL_36, List.forall_mem_cons.mpr ⟨xFL_37, List.forall_mem_cons.mpr ⟨xFL_38, List.forall_mem_cons.mpr ⟨xFL_39, List.forall_mem_cons.mpr ⟨xFL_40, List.forall_mem_cons.mpr ⟨xFL_41, List.forall_mem_cons.mpr ⟨xFL_42, List.forall_mem_cons.mpr ⟨xFL_43, List.forall_mem_cons.mpr ⟨xFL_44, List.forall_mem_cons.mpr ⟨xFL_45, List.forall_mem_cons.mpr ⟨xFL_46, List.forall_mem_cons.mpr ⟨xFL_47, List.forall_mem_cons.mpr ⟨xFL_48, List.forall_mem_cons.mpr ⟨xFL_49, List.forall_mem_cons.mpr ⟨xFL_50, List.forall_mem_cons.mpr ⟨xFL_51, List.forall_mem_cons.mpr ⟨xFL_52, List.forall_mem_cons.mpr ⟨xFL_53, List.forall_mem_cons.mpr ⟨xFL_54, List.forall_mem_cons.mpr ⟨xFL_55, List.forall_mem_cons.mpr ⟨xFL_56, List.forall_mem_cons.mpr ⟨xFL_57, List.forall_mem_cons.mpr ⟨xFL_58, List.forall_mem_cons.mpr ⟨xFL_59, List.forall_mem_cons.mpr ⟨xFL_60, List.forall_mem_cons.mpr ⟨xFL_61, List.forall_mem_cons.mpr ⟨xFL_62, List.forall_mem_cons.mpr ⟨xFL_63, List.forall_mem_cons.mpr ⟨xFL_64, List.forall_mem_cons.mpr ⟨xFL_65, List.forall_mem_cons.mpr ⟨xFL_66, List.forall_mem_cons.mpr ⟨xFL_67, fun _ h => absurd h List.not_mem_nil⟩⟩⟩⟩⟩⟩⟩⟩⟩⟩⟩⟩⟩⟩⟩⟩⟩⟩⟩⟩⟩⟩⟩⟩⟩⟩⟩⟩⟩⟩⟩⟩⟩⟩⟩⟩⟩⟩⟩⟩⟩⟩⟩⟩⟩⟩⟩⟩⟩⟩⟩⟩⟩⟩⟩⟩⟩⟩⟩⟩⟩⟩⟩⟩⟩⟩⟩⟩
def xSL_P (q : Nat × Nat × Nat) : Prop := 1 ≤ q.2.2 ∧ q.2.2 < 4 ∧ Cond.fieldLinkNest (xnm q.1) q.2.1 "SecretLoom" (xsn q.2.2) "[I" "SecretLoom" ∈ lw_tbl
theorem xSL_0 : xSL_P (5, 40, 1) := ⟨by decide, by decide, List.mem_of_getElem? (i := 282) (by decide +kernel)⟩
theorem xSL_1 : xSL_P (6, 58, 2) := ⟨by decide, by decide, List.mem_of_getElem? (i := 349) (by decide +kernel)⟩
theorem xSL_2 : xSL_P (6, 61, 3) := ⟨by decide, by decide, List.mem_of_getElem? (i := 351) (by decide +kernel)⟩
theorem xSL_3 : xSL_P (7, 108, 2) := ⟨by decide, by decide, List.mem_of_getElem? (i := 436) (by decide +kernel)⟩
theorem xSL_4 : xSL_P (7, 124, 3) := ⟨by decide, by decide, List.mem_of_getElem? (i := 456) (by decide +kernel)⟩
theorem xSL_ok : ∀ q ∈ xSL, xSL_P q := List.forall_mem_cons.mpr ⟨xSL_0, List.forall_mem_cons.mpr ⟨xSL_1, List.forall_mem_cons.mpr ⟨xSL_2, List.forall_mem_cons.mpr ⟨xSL_3, List.forall_mem_cons.mpr ⟨xSL_4, fun _ h => absurd h List.not_mem_nil⟩⟩⟩⟩⟩
def xCL_P (q : Nat × Nat × Nat) : Prop := q.2.2 < 10 ∧ Cond.classLink (xnm q.1) q.2.1 (xnm q.2.2) ∈ lw_tbl ∧ Cond.instantiable (xnm q.2.2) (xN q.2.2) ∈ lw_tbl ∧ Cond.initialized (xnm q.2.2) ∈ lw_tbl
theorem xCL_0 : xCL_P (8, 7, 5) := ⟨by decide, List.mem_of_getElem? (i := 66) (by decide +kernel), List.mem_of_getElem? (i := 67) (by decide +kernel), List.mem_of_getElem? (i := 46) (by decide +kernel)⟩
theorem xCL_1 : xCL_P (8, 16, 1) := ⟨by decide, List.mem_of_getElem? (i := 83) (by decide +kernel), List.mem_of_getElem? (i := 84) (by decide +kernel), List.mem_of_getElem? (i := 47) (by decide +kernel)⟩
theorem xCL_2 : xCL_P (8, 23, 6) := ⟨by decide, List.mem_of_getElem? (i := 99) (by decide +kernel), List.mem_of_getElem? (i := 100) (by decide +kernel), List.mem_of_getElem? (i := 48) (by decide +kernel)⟩
theorem xCL_3 : xCL_P (8, 32, 0) := ⟨by decide, List.mem_of_getElem? (i := 121) (by decide +kernel), List.mem_of_getElem? (i := 122) (by decide +kernel), List.mem_of_getElem? (i := 49) (by decide +kernel)⟩
theorem xCL_4 : xCL_P (8, 41, 7) := ⟨by decide, List.mem_of_getElem? (i := 156) (by decide +kernel), List.mem_of_getElem? (i := 157) (by decide +kernel), List.mem_of_getElem? (i := 50) (by decide +kernel)⟩
theorem xCL_5 : xCL_P (8, 50, 2) := ⟨by decide, List.mem_of_getElem? (i := 187) (by decide +kernel), List.mem_of_getElem? (i := 188) (by decide +kernel), List.mem_of_getElem? (i := 51) (by decide +kernel)⟩
theorem xCL_6 : xCL_P (8, 57, 3) := ⟨by decide, List.mem_of_getElem? (i := 203) (by decide +kernel), List.mem_of_getElem? (i := 207) (by decide +kernel), List.mem_of_getElem? (i := 52) (by decide +kernel)⟩
theorem xCL_7 : xCL_P (8, 63, 4) := ⟨by decide, List.mem_of_getElem? (i := 205) (by decide +kernel), List.mem_of_getElem? (i := 216) (by decide +kernel), List.mem_of_getElem? (i := 53) (by decide +kernel)⟩
theorem xCL_8 : xCL_P (13, 7, 8) := ⟨by decide, List.mem_of_getElem? (i := 58) (by decide +kernel), List.mem_of_getElem? (i := 59) (by decide +kernel), List.mem_of_getElem? (i := 45) (by decide +kernel)⟩
theorem xCL_9 : xCL_P (13, 10, 9) := ⟨by decide, List.mem_of_getElem? (i := 651) (by decide +kernel), List.mem_of_getElem? (i := 652) (by decide +kernel), List.mem_of_getElem? (i := 54) (by decide +kernel)⟩
theorem xCL_ok : ∀ q ∈ xCL, xCL_P q := List.forall_mem_cons.mpr ⟨xCL_0, List.forall_mem_cons.mpr ⟨xCL_1, List.forall_mem_cons.mpr ⟨xCL_2, List.forall_mem_cons.mpr ⟨xCL_3, List.forall_mem_cons.mpr ⟨xCL_4, List.forall_mem_cons.mpr ⟨xCL_5, List.forall_mem_cons.mpr ⟨xCL_6, List.forall_mem_cons.mpr ⟨xCL_7, List.forall_mem_cons.mpr ⟨xCL_8, List.forall_mem_cons.mpr ⟨xCL_9, fun _ h => absurd h List.not_mem_nil⟩⟩⟩⟩⟩⟩⟩⟩⟩⟩
def xAL_P (q : Nat × Nat × Nat) : Prop := (q.2.2 = 23 ∨ q.2.2 = 24) ∧ Cond.classLink (xnm q.1) q.2.1 (xnm (xcomp q.2.2)) ∈ lw_tbl
theorem xAL_0 : xAL_P (8, 57, 23) := ⟨by decide, List.mem_of_getElem? (i := 203) (by decide +kernel)⟩
theorem xAL_1 : xAL_P (8, 63, 24) := ⟨by decide, List.mem_of_getElem? (i := 205) (by decide +kernel)⟩
theorem xAL_ok : ∀ q ∈ xAL, xAL_P q := List.forall_mem_cons.mpr ⟨xAL_0, List.forall_mem_cons.mpr ⟨xAL_1, fun _ h => absurd h List.not_mem_nil⟩⟩
def xDL_P (q : Nat × Nat × Nat) : Prop := Cond.constantLong (xnm q.1) q.2.1 (Int64.ofNat q.2.2) ∈ lw_tbl
theorem xDL_0 : xDL_P (0, 68, 18446744073709551615) := List.mem_of_getElem? (i := 402) (by decide +kernel)
theorem xDL_1 : xDL_P (6, 46, 18446744073709551615) := List.mem_of_getElem? (i := 339) (by decide +kernel)
theorem xDL_2 : xDL_P (7, 112, 1431655765) := List.mem_of_getElem? (i := 443) (by decide +kernel)
theorem xDL_3 : xDL_P (7, 144, 18446744073709551615) := List.mem_of_getElem? (i := 455) (by decide +kernel)
theorem xDL_4 : xDL_P (10, 314, 6148914691236517205) := List.mem_of_getElem? (i := 336) (by decide +kernel)
theorem xDL_5 : xDL_P (10, 316, 3689348814741910323) := List.mem_of_getElem? (i := 337) (by decide +kernel)
theorem xDL_6 : xDL_P (10, 318, 1085102592571150095) := List.mem_of_getElem? (i := 338) (by decide +kernel)
theorem xDL_ok : ∀ q ∈ xDL, xDL_P q := List.forall_mem_cons.mpr ⟨xDL_0, List.forall_mem_cons.mpr ⟨xDL_1, List.forall_mem_cons.mpr ⟨xDL_2, List.forall_mem_cons.mpr ⟨xDL_3, List.forall_mem_cons.mpr ⟨xDL_4, List.forall_mem_cons.mpr ⟨xDL_5, List.forall_mem_cons.mpr ⟨xDL_6, fun _ h => absurd h List.not_mem_nil⟩⟩⟩⟩⟩⟩⟩
def xML_P (q : Nat × Nat × Nat) : Prop := ∀ y, xtab[q.2.2]? = some y → Cond.methodLink (xnm q.1) q.2.1 y.2.2.2.1 ∈ lw_tbl
theorem xML_0 : xML_P (0, 36, 41) := fun y h => by cases h; exact List.mem_of_getElem? (i := 396) (by decide +kernel)
theorem xML_1 : xML_P (0, 42, 4) := fun y h => by cases h; exact List.mem_of_getElem? (i := 374) (by decide +kernel)
theorem xML_2 : xML_P (0, 45, 6) := fun y h => by cases h; exact List.mem_of_getElem? (i := 398) (by decide +kernel)
theorem xML_3 : xML_P (0, 48, 40) := fun y h => by cases h; exact List.mem_of_getElem? (i := 381) (by decide +kernel)
theorem xML_4 : xML_P (0, 52, 51) := fun y h => by cases h; exact List.mem_of_getElem? (i := 385) (by decide +kernel)
theorem xML_5 : xML_P (0, 57, 42) := fun y h => by cases h; exact List.mem_of_getElem? (i := 389) (by decide +kernel)
theorem xML_6 : xML_P (0, 61, 7) := fun y h => by cases h; exact List.mem_of_getElem? (i := 407) (by decide +kernel)
theorem xML_7 : xML_P (0, 70, 8) := fun y h => by cases h; exact List.mem_of_getElem? (i := 403) (by decide +kernel)
theorem xML_8 : xML_P (0, 74, 137) := fun y h => by cases h; exact List.mem_of_getElem? (i := 378) (by decide +kernel)
theorem xML_9 : xML_P (0, 84, 46) := fun y h => by cases h; exact List.mem_of_getElem? (i := 391) (by decide +kernel)
theorem xML_10 : xML_P (0, 87, 5) := fun y h => by cases h; exact List.mem_of_getElem? (i := 392) (by decide +kernel)
theorem xML_11 : xML_P (0, 91, 47) := fun y h => by cases h; exact List.mem_of_getElem? (i := 397) (by decide +kernel)
theorem xML_12 : xML_P (1, 21, 14) := fun y h => by cases h; exact List.mem_of_getElem? (i := 300) (by decide +kernel)
theorem xML_13 : xML_P (2, 19, 34) := fun y h => by cases h; exact List.mem_of_getElem? (i := 547) (by decide +kernel)
theorem xML_14 : xML_P (2, 28, 29) := fun y h => by cases h; exact List.mem_of_getElem? (i := 551) (by decide +kernel)
theorem xML_15 : xML_P (2, 32, 17) := fun y h => by cases h; exact List.mem_of_getElem? (i := 555) (by decide +kernel)
theorem xML_16 : xML_P (2, 36, 43) := fun y h => by cases h; exact List.mem_of_getElem? (i := 559) (by decide +kernel)
theorem xML_17 : xML_P (2, 42, 42) := fun y h => by cases h; exact List.mem_of_getElem? (i := 560) (by decide +kernel)
theorem xML_18 : xML_P (2, 45, 21) := fun y h => by cases h; exact List.mem_of_getElem? (i := 561) (by decide +kernel)
theorem xML_19 : xML_P (2, 49, 25) := fun y h => by cases h; exact List.mem_of_getElem? (i := 565) (by decide +kernel)
theorem xML_20 : xML_P (2, 54, 22) := fun y h => by cases h; exact List.mem_of_getElem? (i := 569) (by decide +kernel)
theorem xML_21 : xML_P (2, 58, 26) := fun y h => by cases h; exact List.mem_of_getElem? (i := 573) (by decide +kernel)
theorem xML_22 : xML_P (2, 62, 19) := fun y h => by cases h; exact List.mem_of_getElem? (i := 574) (by decide +kernel)
theorem xML_23 : xML_P (2, 65, 24) := fun y h => by cases h; exact List.mem_of_getElem? (i := 581) (by decide +kernel)
theorem xML_24 : xML_P (2, 69, 18) := fun y h => by cases h; exact List.mem_of_getElem? (i := 582) (by decide +kernel)
theorem xML_25 : xML_P (2, 73, 36) := fun y h => by cases h; exact List.mem_of_getElem? (i := 586) (by decide +kernel)
theorem xML_26 : xML_P (2, 76, 35) := fun y h => by cases h; exact List.mem_of_getElem? (i := 590) (by decide +kernel)
theorem xML_27 : xML_P (2, 79, 20) := fun y h => by cases h; exact List.mem_of_getElem? (i := 578) (by decide +kernel)
theorem xML_28 : xML_P (3, 15, 135) := fun y h => by cases h; exact List.mem_of_getElem? (i := 533) (by decide +kernel)
theorem xML_29 : xML_P (4, 29, 136) := fun y h => by cases h; exact List.mem_of_getElem? (i := 615) (by decide +kernel)
theorem xML_30 : xML_P (4, 35, 31) := fun y h => by cases h; exact List.mem_of_getElem? (i := 620) (by decide +kernel)
theorem xML_31 : xML_P (4, 43, 32) := fun y h => by cases h; exact List.mem_of_getElem? (i := 638) (by decide +kernel)
theorem xML_32 : xML_P (4, 47, 13) := fun y h => by cases h; exact List.mem_of_getElem? (i := 639) (by decide +kernel)
theorem xML_33 : xML_P (4, 55, 33) := fun y h => by cases h; exact List.mem_of_getElem? (i := 645) (by decide +kernel)
theorem xML_34 : xML_P (5, 22, 41) := fun y h => by cases h; exact List.mem_of_getElem? (i := 348) (by decide +kernel)
theorem xML_35 : xML_P (5, 26, 48) := fun y h => by cases h; exact List.mem_of_getElem? (i := 276) (by decide +kernel)
theorem xML_36 : xML_P (5, 30, 42) := fun y h => by cases h; exact List.mem_of_getElem? (i := 357) (by decide +kernel)
theorem xML_37 : xML_P (5, 34, 43) := fun y h => by cases h; exact List.mem_of_getElem? (i := 358) (by decide +kernel)
theorem xML_38 : xML_P (6, 34, 55) := fun y h => by cases h; exact List.mem_of_getElem? (i := 316) (by decide +kernel)
theorem xML_39 : xML_P (6, 48, 54) := fun y h => by cases h; exact List.mem_of_getElem? (i := 340) (by decide +kernel)
theorem xML_40 : xML_P (6, 52, 42) := fun y h => by cases h; exact List.mem_of_getElem? (i := 344) (by decide +kernel)
theorem xML_41 : xML_P (6, 64, 46) := fun y h => by cases h; exact List.mem_of_getElem? (i := 353) (by decide +kernel)
theorem xML_42 : xML_P (6, 67, 47) := fun y h => by cases h; exact List.mem_of_getElem? (i := 362) (by decide +kernel)
theorem xML_43 : xML_P (6, 70, 41) := fun y h => by cases h; exact List.mem_of_getElem? (i := 320) (by decide +kernel)
theorem xML_44 : xML_P (7, 42, 41) := fun y h => by cases h; exact List.mem_of_getElem? (i := 441) (by decide +kernel)
theorem xML_45 : xML_P (7, 52, 137) := fun y h => by cases h; exact List.mem_of_getElem? (i := 420) (by decide +kernel)
theorem xML_46 : xML_P (7, 62, 40) := fun y h => by cases h; exact List.mem_of_getElem? (i := 421) (by decide +kernel)
theorem xML_47 : xML_P (7, 66, 51) := fun y h => by cases h; exact List.mem_of_getElem? (i := 422) (by decide +kernel)
theorem xML_48 : xML_P (7, 71, 62) := fun y h => by cases h; exact List.mem_of_getElem? (i := 423) (by decide +kernel)
theorem xML_49 : xML_P (7, 75, 61) := fun y h => by cases h; exact List.mem_of_getElem? (i := 485) (by decide +kernel)
theorem xML_50 : xML_P (7, 78, 43) := fun y h => by cases h; exact List.mem_of_getElem? (i := 466) (by decide +kernel)
theorem xML_51 : xML_P (7, 82, 63) := fun y h => by cases h; exact List.mem_of_getElem? (i := 428) (by decide +kernel)
theorem xML_52 : xML_P (7, 85, 57) := fun y h => by cases h; exact List.mem_of_getElem? (i := 457) (by decide +kernel)
theorem xML_53 : xML_P (7, 88, 42) := fun y h => by cases h; exact List.mem_of_getElem? (i := 427) (by decide +kernel)
theorem xML_54 : xML_P (7, 91, 11) := fun y h => by cases h; exact List.mem_of_getElem? (i := 467) (by decide +kernel)
theorem xML_55 : xML_P (7, 99, 12) := fun y h => by cases h; exact List.mem_of_getElem? (i := 471) (by decide +kernel)
theorem xML_56 : xML_P (7, 102, 13) := fun y h => by cases h; exact List.mem_of_getElem? (i := 489) (by decide +kernel)
theorem xML_57 : xML_P (7, 105, 52) := fun y h => by cases h; exact List.mem_of_getElem? (i := 432) (by decide +kernel)
theorem xML_58 : xML_P (7, 114, 2) := fun y h => by cases h; exact List.mem_of_getElem? (i := 444) (by decide +kernel)
theorem xML_59 : xML_P (7, 120, 66) := fun y h => by cases h; exact List.mem_of_getElem? (i := 448) (by decide +kernel)
theorem xML_60 : xML_P (7, 127, 64) := fun y h => by cases h; exact List.mem_of_getElem? (i := 462) (by decide +kernel)
theorem xML_61 : xML_P (7, 130, 46) := fun y h => by cases h; exact List.mem_of_getElem? (i := 475) (by decide +kernel)
theorem xML_62 : xML_P (7, 133, 65) := fun y h => by cases h; exact List.mem_of_getElem? (i := 476) (by decide +kernel)
theorem xML_63 : xML_P (7, 137, 47) := fun y h => by cases h; exact List.mem_of_getElem? (i := 480) (by decide +kernel)
theorem xML_64 : xML_P (7, 140, 58) := fun y h => by cases h; exact List.mem_of_getElem? (i := 437) (by decide +kernel)
theorem xML_65 : xML_P (8, 25, 49) := fun y h => by cases h; exact List.mem_of_getElem? (i := 101) (by decide +kernel)
theorem xML_66 : xML_P (8, 34, 0) := fun y h => by cases h; exact List.mem_of_getElem? (i := 123) (by decide +kernel)
theorem xML_67 : xML_P (8, 43, 56) := fun y h => by cases h; exact List.mem_of_getElem? (i := 158) (by decide +kernel)
theorem xML_68 : xML_P (8, 52, 15) := fun y h => by cases h; exact List.mem_of_getElem? (i := 189) (by decide +kernel)
theorem xML_69 : xML_P (8, 78, 44) := fun y h => by cases h; exact List.mem_of_getElem? (i := 272) (by decide +kernel)
theorem xML_70 : xML_P (8, 82, 45) := fun y h => by cases h; exact List.mem_of_getElem? (i := 288) (by decide +kernel)
theorem xML_71 : xML_P (8, 85, 10) := fun y h => by cases h; exact List.mem_of_getElem? (i := 296) (by decide +kernel)
theorem xML_72 : xML_P (8, 89, 82) := fun y h => by cases h; exact List.mem_of_getElem? (i := 308) (by decide +kernel)
theorem xML_73 : xML_P (8, 93, 83) := fun y h => by cases h; exact List.mem_of_getElem? (i := 412) (by decide +kernel)
theorem xML_74 : xML_P (8, 97, 60) := fun y h => by cases h; exact List.mem_of_getElem? (i := 481) (by decide +kernel)
theorem xML_75 : xML_P (8, 101, 51) := fun y h => by cases h; exact List.mem_of_getElem? (i := 497) (by decide +kernel)
theorem xML_76 : xML_P (8, 105, 57) := fun y h => by cases h; exact List.mem_of_getElem? (i := 498) (by decide +kernel)
theorem xML_77 : xML_P (8, 109, 52) := fun y h => by cases h; exact List.mem_of_getElem? (i := 503) (by decide +kernel)
theorem xML_78 : xML_P (8, 112, 86) := fun y h => by cases h; exact List.mem_of_getElem? (i := 504) (by decide +kernel)
theorem xML_79 : xML_P (8, 116, 58) := fun y h => by cases h; exact List.mem_of_getElem? (i := 505) (by decide +kernel)
theorem xML_80 : xML_P (8, 119, 1) := fun y h => by cases h; exact List.mem_of_getElem? (i := 510) (by decide +kernel)
theorem xML_81 : xML_P (8, 122, 85) := fun y h => by cases h; exact List.mem_of_getElem? (i := 518) (by decide +kernel)
theorem xML_82 : xML_P (8, 125, 26) := fun y h => by cases h; exact List.mem_of_getElem? (i := 521) (by decide +kernel)
theorem xML_83 : xML_P (8, 128, 24) := fun y h => by cases h; exact List.mem_of_getElem? (i := 530) (by decide +kernel)
theorem xML_84 : xML_P (8, 131, 136) := fun y h => by cases h; exact List.mem_of_getElem? (i := 540) (by decide +kernel)
theorem xML_85 : xML_P (8, 136, 16) := fun y h => by cases h; exact List.mem_of_getElem? (i := 543) (by decide +kernel)
theorem xML_86 : xML_P (8, 140, 28) := fun y h => by cases h; exact List.mem_of_getElem? (i := 598) (by decide +kernel)
theorem xML_87 : xML_P (8, 143, 29) := fun y h => by cases h; exact List.mem_of_getElem? (i := 602) (by decide +kernel)
theorem xML_88 : xML_P (8, 146, 30) := fun y h => by cases h; exact List.mem_of_getElem? (i := 603) (by decide +kernel)
theorem xML_89 : xML_P (8, 149, 31) := fun y h => by cases h; exact List.mem_of_getElem? (i := 611) (by decide +kernel)
theorem xML_90 : xML_P (8, 152, 32) := fun y h => by cases h; exact List.mem_of_getElem? (i := 616) (by decide +kernel)
theorem xML_91 : xML_P (8, 155, 33) := fun y h => by cases h; exact List.mem_of_getElem? (i := 622) (by decide +kernel)
theorem xML_92 : xML_P (8, 158, 84) := fun y h => by cases h; exact List.mem_of_getElem? (i := 630) (by decide +kernel)
theorem xML_93 : xML_P (8, 161, 25) := fun y h => by cases h; exact List.mem_of_getElem? (i := 650) (by decide +kernel)
theorem xML_94 : xML_P (8, 164, 53) := fun y h => by cases h; exact List.mem_of_getElem? (i := 312) (by decide +kernel)
theorem xML_95 : xML_P (8, 167, 50) := fun y h => by cases h; exact List.mem_of_getElem? (i := 366) (by decide +kernel)
theorem xML_96 : xML_P (8, 168, 3) := fun y h => by cases h; exact List.mem_of_getElem? (i := 370) (by decide +kernel)
theorem xML_97 : xML_P (8, 169, 59) := fun y h => by cases h; exact List.mem_of_getElem? (i := 416) (by decide +kernel)
theorem xML_98 : xML_P (8, 170, 37) := fun y h => by cases h; exact List.mem_of_getElem? (i := 634) (by decide +kernel)
theorem xML_99 : xML_P (8, 174, 38) := fun y h => by cases h; exact List.mem_of_getElem? (i := 641) (by decide +kernel)
theorem xML_100 : xML_P (8, 178, 134) := fun y h => by cases h; exact List.mem_of_getElem? (i := 333) (by decide +kernel)
theorem xML_101 : xML_P (9, 62, 92) := fun y h => by cases h; exact List.mem_of_getElem? (i := 729) (by decide +kernel)
theorem xML_102 : xML_P (9, 66, 93) := fun y h => by cases h; exact List.mem_of_getElem? (i := 726) (by decide +kernel)
theorem xML_103 : xML_P (9, 80, 99) := fun y h => by cases h; exact List.mem_of_getElem? (i := 764) (by decide +kernel)
theorem xML_104 : xML_P (9, 84, 97) := fun y h => by cases h; exact List.mem_of_getElem? (i := 756) (by decide +kernel)
theorem xML_105 : xML_P (9, 87, 98) := fun y h => by cases h; exact List.mem_of_getElem? (i := 760) (by decide +kernel)
theorem xML_106 : xML_P (9, 91, 100) := fun y h => by cases h; exact List.mem_of_getElem? (i := 768) (by decide +kernel)
theorem xML_107 : xML_P (9, 94, 103) := fun y h => by cases h; exact List.mem_of_getElem? (i := 780) (by decide +kernel)
theorem xML_108 : xML_P (9, 97, 102) := fun y h => by cases h; exact List.mem_of_getElem? (i := 784) (by decide +kernel)
theorem xML_109 : xML_P (9, 100, 104) := fun y h => by cases h; exact List.mem_of_getElem? (i := 788) (by decide +kernel)
theorem xML_110 : xML_P (9, 103, 105) := fun y h => by cases h; exact List.mem_of_getElem? (i := 776) (by decide +kernel)
theorem xML_111 : xML_P (9, 106, 106) := fun y h => by cases h; exact List.mem_of_getElem? (i := 792) (by decide +kernel)
theorem xML_112 : xML_P (9, 110, 101) := fun y h => by cases h; exact List.mem_of_getElem? (i := 752) (by decide +kernel)
theorem xML_113 : xML_P (9, 117, 107) := fun y h => by cases h; exact List.mem_of_getElem? (i := 772) (by decide +kernel)
theorem xML_114 : xML_P (9, 120, 109) := fun y h => by cases h; exact List.mem_of_getElem? (i := 804) (by decide +kernel)
theorem xML_115 : xML_P (9, 124, 111) := fun y h => by cases h; exact List.mem_of_getElem? (i := 800) (by decide +kernel)
theorem xML_116 : xML_P (9, 127, 110) := fun y h => by cases h; exact List.mem_of_getElem? (i := 808) (by decide +kernel)
theorem xML_117 : xML_P (9, 130, 112) := fun y h => by cases h; exact List.mem_of_getElem? (i := 812) (by decide +kernel)
theorem xML_118 : xML_P (9, 133, 108) := fun y h => by cases h; exact List.mem_of_getElem? (i := 748) (by decide +kernel)
theorem xML_119 : xML_P (9, 136, 113) := fun y h => by cases h; exact List.mem_of_getElem? (i := 796) (by decide +kernel)
theorem xML_120 : xML_P (9, 139, 114) := fun y h => by cases h; exact List.mem_of_getElem? (i := 744) (by decide +kernel)
theorem xML_121 : xML_P (9, 142, 116) := fun y h => by cases h; exact List.mem_of_getElem? (i := 816) (by decide +kernel)
theorem xML_122 : xML_P (9, 145, 115) := fun y h => by cases h; exact List.mem_of_getElem? (i := 824) (by decide +kernel)
theorem xML_123 : xML_P (9, 148, 123) := fun y h => by cases h; exact List.mem_of_getElem? (i := 852) (by decide +kernel)
theorem xML_124 : xML_P (9, 152, 125) := fun y h => by cases h; exact List.mem_of_getElem? (i := 855) (by decide +kernel)
theorem xML_125 : xML_P (9, 155, 124) := fun y h => by cases h; exact List.mem_of_getElem? (i := 858) (by decide +kernel)
theorem xML_126 : xML_P (9, 159, 126) := fun y h => by cases h; exact List.mem_of_getElem? (i := 848) (by decide +kernel)
theorem xML_127 : xML_P (9, 162, 130) := fun y h => by cases h; exact List.mem_of_getElem? (i := 878) (by decide +kernel)
theorem xML_128 : xML_P (9, 165, 131) := fun y h => by cases h; exact List.mem_of_getElem? (i := 874) (by decide +kernel)
theorem xML_129 : xML_P (13, 9, 67) := fun y h => by cases h; exact List.mem_of_getElem? (i := 60) (by decide +kernel)
theorem xML_130 : xML_P (13, 12, 91) := fun y h => by cases h; exact List.mem_of_getElem? (i := 653) (by decide +kernel)
theorem xML_131 : xML_P (13, 13, 68) := fun y h => by cases h; exact List.mem_of_getElem? (i := 268) (by decide +kernel)
theorem xML_132 : xML_P (13, 17, 94) := fun y h => by cases h; exact List.mem_of_getElem? (i := 722) (by decide +kernel)
theorem xML_133 : xML_P (13, 18, 69) := fun y h => by cases h; exact List.mem_of_getElem? (i := 284) (by decide +kernel)
theorem xML_134 : xML_P (13, 21, 95) := fun y h => by cases h; exact List.mem_of_getElem? (i := 732) (by decide +kernel)
theorem xML_135 : xML_P (13, 22, 70) := fun y h => by cases h; exact List.mem_of_getElem? (i := 292) (by decide +kernel)
theorem xML_136 : xML_P (13, 26, 96) := fun y h => by cases h; exact List.mem_of_getElem? (i := 736) (by decide +kernel)
theorem xML_137 : xML_P (13, 27, 71) := fun y h => by cases h; exact List.mem_of_getElem? (i := 304) (by decide +kernel)
theorem xML_138 : xML_P (13, 31, 117) := fun y h => by cases h; exact List.mem_of_getElem? (i := 740) (by decide +kernel)
theorem xML_139 : xML_P (13, 32, 72) := fun y h => by cases h; exact List.mem_of_getElem? (i := 493) (by decide +kernel)
theorem xML_140 : xML_P (13, 36, 118) := fun y h => by cases h; exact List.mem_of_getElem? (i := 820) (by decide +kernel)
theorem xML_141 : xML_P (13, 37, 73) := fun y h => by cases h; exact List.mem_of_getElem? (i := 499) (by decide +kernel)
theorem xML_142 : xML_P (13, 40, 119) := fun y h => by cases h; exact List.mem_of_getElem? (i := 828) (by decide +kernel)
theorem xML_143 : xML_P (13, 41, 74) := fun y h => by cases h; exact List.mem_of_getElem? (i := 506) (by decide +kernel)
theorem xML_144 : xML_P (13, 44, 120) := fun y h => by cases h; exact List.mem_of_getElem? (i := 832) (by decide +kernel)
theorem xML_145 : xML_P (13, 45, 75) := fun y h => by cases h; exact List.mem_of_getElem? (i := 514) (by decide +kernel)
theorem xML_146 : xML_P (13, 48, 121) := fun y h => by cases h; exact List.mem_of_getElem? (i := 836) (by decide +kernel)
theorem xML_147 : xML_P (13, 49, 76) := fun y h => by cases h; exact List.mem_of_getElem? (i := 526) (by decide +kernel)
theorem xML_148 : xML_P (13, 53, 122) := fun y h => by cases h; exact List.mem_of_getElem? (i := 840) (by decide +kernel)
theorem xML_149 : xML_P (13, 54, 77) := fun y h => by cases h; exact List.mem_of_getElem? (i := 536) (by decide +kernel)
theorem xML_150 : xML_P (13, 57, 127) := fun y h => by cases h; exact List.mem_of_getElem? (i := 844) (by decide +kernel)
theorem xML_151 : xML_P (13, 58, 78) := fun y h => by cases h; exact List.mem_of_getElem? (i := 594) (by decide +kernel)
theorem xML_152 : xML_P (13, 61, 128) := fun y h => by cases h; exact List.mem_of_getElem? (i := 862) (by decide +kernel)
theorem xML_153 : xML_P (13, 62, 79) := fun y h => by cases h; exact List.mem_of_getElem? (i := 607) (by decide +kernel)
theorem xML_154 : xML_P (13, 66, 129) := fun y h => by cases h; exact List.mem_of_getElem? (i := 866) (by decide +kernel)
theorem xML_155 : xML_P (13, 67, 80) := fun y h => by cases h; exact List.mem_of_getElem? (i := 626) (by decide +kernel)
theorem xML_156 : xML_P (13, 70, 132) := fun y h => by cases h; exact List.mem_of_getElem? (i := 870) (by decide +kernel)
theorem xML_157 : xML_P (13, 71, 81) := fun y h => by cases h; exact List.mem_of_getElem? (i := 646) (by decide +kernel)
theorem xML_158 : xML_P (13, 74, 133) := fun y h => by cases h; exact List.mem_of_getElem? (i := 882) (by decide +kernel)
theorem xML_ok : ∀ q ∈ xML, xML_P q := List.forall_mem_cons.mpr ⟨xML_0, List.forall_mem_cons.mpr ⟨xML_1, List.forall_mem_cons.mpr ⟨xML_2, List.forall_mem_cons.mpr ⟨xML_3, List.forall_mem_cons.mpr ⟨xML_4, List.forall_mem_cons.mpr ⟨xML_5, List.forall_mem_cons.mpr ⟨xML_6, List.forall_mem_cons.mpr ⟨xML_7, List.forall_mem_cons.mpr ⟨xML_8, List.forall_mem_cons.mpr ⟨xML_9, List.forall_mem_cons.mpr ⟨xML_10, List.forall_mem_cons.mpr ⟨xML_11, List.forall_mem_cons.mpr ⟨xML_12, List.forall_mem_cons.mpr ⟨xML_13, List.forall_mem_cons.mpr ⟨xML_14, List.forall_mem_cons.mpr ⟨xML_15, List.forall_mem_cons.mpr ⟨xML_16, List.forall_mem_cons.mpr ⟨xML_17, List.forall_mem_cons.mpr ⟨xML_18, List.forall_mem_cons.mpr ⟨xML_19, List.forall_mem_cons.mpr ⟨xML_20, List.forall_mem_cons.mpr ⟨xML_21, List.forall_mem_cons.mpr ⟨xML_22, List.forall_mem_cons.mpr ⟨xML_23, List.forall_mem_cons.mpr ⟨xML_24, List.forall_mem_cons.mpr ⟨xML_25, List.forall_mem_cons.mpr ⟨xML_26, List.forall_mem_cons.mpr ⟨xML_27, List.forall_mem_cons.mpr ⟨xML_28, List.forall_mem_cons.mpr ⟨xML_29, List.forall_mem_cons.mpr ⟨xML_30, List.forall_mem_cons.mpr ⟨xML_31, List.forall_mem_cons.mpr ⟨xML_32, List.forall_mem_cons.mpr ⟨xML_33, List.forall_mem_cons.mpr ⟨xML_34, List.forall_mem_cons.mpr ⟨xML_35, List.forall_mem_cons.mpr ⟨xML_36, List.forall_mem_cons.mpr ⟨xML_37, List.forall_mem_cons.mpr ⟨xML_38, List.forall_mem_cons.mpr ⟨xML_39, List.forall_mem_cons.mpr ⟨xML_40, List.forall_mem_cons.mpr ⟨xML_41, List.forall_mem_cons.mpr ⟨xML_42, List.forall_mem_cons.mpr ⟨xML_43, List.forall_mem_cons.mpr ⟨xML_44, List.forall_mem_cons.mpr ⟨xML_45, List.forall_mem_cons.mpr ⟨xML_46, List.forall_mem_cons.mpr ⟨xML_47, List.forall_mem_cons.mpr ⟨xML_48, List.forall_mem_cons.mpr ⟨xML_49, List.forall_mem_cons.mpr ⟨xML_50, List.forall_mem_cons.mpr ⟨xML_51, List.forall_mem_cons.mpr ⟨xML_52, List.forall_mem_cons.mpr ⟨xML_53, List.forall_mem_cons.mpr ⟨xML_54, List.forall_mem_cons.mpr ⟨xML_55, List.forall_mem_cons.mpr ⟨xML_56, List.forall_mem_cons.mpr ⟨xML_57, List.forall_mem_cons.mpr ⟨xML_58, List.forall_mem_cons.mpr ⟨xML_59, List.forall_mem_cons.mpr ⟨xML_60, List.forall_mem_cons.mpr ⟨xML_61, List.forall_mem_cons.mpr ⟨xML_62, List.forall_mem_cons.mpr ⟨xML_63, List.forall_mem_cons.mpr ⟨xML_64, List.forall_mem_cons.mpr ⟨xML_65, List.forall_mem_cons.mpr ⟨xML_66, List.forall_mem_cons.mpr ⟨xML_67, List.forall_mem_cons.mpr ⟨xML_68, List.forall_mem_cons.mpr ⟨xML_69, List.forall_mem_cons.mpr ⟨xML_70, List.forall_mem_cons.mpr ⟨xML_71, List.forall_mem_cons.mpr ⟨xML_72, List.forall_mem_cons.mpr ⟨xML_73, List.forall_mem_cons.mpr ⟨xML_74, List.forall_mem_cons.mpr ⟨xML_75, List.forall_mem_cons.mpr ⟨xML_76, List.forall_mem_cons.mpr ⟨xML_77, List.forall_mem_cons.mpr ⟨xML_78, List.forall_mem_cons.mpr ⟨xML_79, List.forall_mem_cons.mpr ⟨xML_80, List.forall_mem_cons.mpr ⟨xML_81, List.forall_mem_cons.mpr ⟨xML_82, List.forall_mem_cons.mpr ⟨xML_83, List.forall_mem_cons.mpr ⟨xML_84, List.forall_mem_cons.mpr ⟨xML_85, List.forall_mem_cons.mpr ⟨xML_86, List.forall_mem_cons.mpr ⟨xML_87, List.forall_mem_cons.mpr ⟨xML_88, List.forall_mem_cons.mpr ⟨xML_89, List.forall_mem_cons.mpr ⟨xML_90, List.forall_mem_cons.mpr ⟨xML_91, List.forall_mem_cons.mpr ⟨xML_92, List.forall_mem_cons.mpr ⟨xML_93, List.forall_mem_cons.mpr ⟨xML_94, List.forall_mem_cons.mpr ⟨xML_95, List.forall_mem_cons.mpr ⟨xML_96, List.forall_mem_cons.mpr ⟨xML_97, List.forall_mem_cons.mpr ⟨xML_98, List.forall_mem_cons.mpr ⟨xML_99, List.forall_mem_cons.mpr ⟨xML_100, List.forall_mem_cons.mpr ⟨xML_101, List.forall_mem_cons.mpr ⟨xML_102, List.forall_mem_cons.mpr ⟨xML_103, List.forall_mem_cons.mpr ⟨xML_104, List.forall_mem_cons.mpr ⟨xML_105, List.forall_mem_cons.mpr ⟨xML_106, List.forall_mem_cons.mpr ⟨xML_107, List.forall_mem_cons.mpr ⟨xML_108, List.forall_mem_cons.mpr ⟨xML_109, List.forall_mem_cons.mpr ⟨xML_110, List.forall_mem_cons.mpr ⟨xML_111, List.forall_mem_cons.mpr ⟨xML_112, List.forall_mem_cons.mpr ⟨xML_113, List.forall_mem_cons.mpr ⟨xML_114, List.forall_mem_cons.mpr ⟨xML_115, List.forall_mem_cons.mpr ⟨xML_116, List.forall_mem_cons.mpr ⟨xML_117, List.forall_mem_cons.mpr ⟨xML_118, List.forall_mem_cons.mpr ⟨xML_119, List.forall_mem_cons.mpr ⟨xML_120, List.forall_mem_cons.mpr ⟨xML_121, List.forall_mem_cons.mpr ⟨xML_122, List.forall_mem_cons.mpr ⟨xML_123, List.forall_mem_cons.mpr ⟨xML_124, List.forall_mem_cons.mpr ⟨xML_125, List.forall_mem_cons.mpr ⟨xML_126, List.forall_mem_cons.mpr ⟨xML_127, List.forall_mem_cons.mpr ⟨xML_128, List.forall_mem_cons.mpr ⟨xML_129, List.forall_mem_cons.mpr ⟨xML_130, List.forall_mem_cons.mpr ⟨xML_131, List.forall_mem_cons.mpr ⟨xML_132, List.forall_mem_cons.mpr ⟨xML_133, List.forall_mem_cons.mpr ⟨xML_134, List.forall_mem_cons.mpr ⟨xML_135, List.forall_mem_cons.mpr ⟨xML_136, List.forall_mem_cons.mpr ⟨xML_137, List.forall_mem_cons.mpr ⟨xML_138, List.forall_mem_cons.mpr ⟨xML_139, List.forall_mem_cons.mpr ⟨xML_140, List.forall_mem_cons.mpr ⟨xML_141, List.forall_mem_cons.mpr ⟨xML_142, List.forall_mem_cons.mpr ⟨xML_143, List.forall_mem_cons.mpr ⟨xML_144, List.forall_mem_cons.mpr ⟨xML_145, List.forall_mem_cons.mpr ⟨xML_146, List.forall_mem_cons.mpr ⟨xML_147, List.forall_mem_cons.mpr ⟨xML_148, List.forall_mem_cons.mpr ⟨xML_149, List.forall_mem_cons.mpr ⟨xML_150, List.forall_mem_cons.mpr ⟨xML_151, List.forall_mem_cons.mpr ⟨xML_152, List.forall_mem_cons.mpr ⟨xML_153, List.forall_mem_cons.mpr ⟨xML_154, List.forall_mem_cons.mpr ⟨xML_155, List.forall_mem_cons.mpr ⟨xML_156, List.forall_mem_cons.mpr ⟨xML_157, List.forall_mem_cons.mpr ⟨xML_158, fun _ h => absurd h List.not_mem_nil⟩⟩⟩⟩⟩⟩⟩⟩⟩⟩⟩⟩⟩⟩⟩⟩⟩⟩⟩⟩⟩⟩⟩⟩⟩⟩⟩⟩⟩⟩⟩⟩⟩⟩⟩⟩⟩⟩⟩⟩⟩⟩⟩⟩⟩⟩⟩⟩⟩⟩⟩⟩⟩⟩⟩⟩⟩⟩⟩⟩⟩⟩⟩⟩⟩⟩⟩⟩⟩⟩⟩⟩⟩⟩⟩⟩⟩⟩⟩⟩⟩⟩⟩⟩⟩⟩⟩⟩⟩⟩⟩⟩⟩⟩⟩⟩⟩⟩⟩⟩⟩⟩⟩⟩⟩⟩⟩⟩⟩⟩⟩⟩⟩⟩⟩⟩⟩⟩⟩⟩⟩⟩⟩⟩⟩⟩⟩⟩⟩⟩⟩⟩⟩⟩⟩⟩⟩⟩⟩⟩⟩⟩⟩⟩⟩⟩⟩⟩⟩⟩⟩⟩⟩⟩⟩⟩⟩⟩⟩
def xMN_P (q : Nat × Nat × Nat) : Prop := ∀ y, xtab[q.2.2]? = some y → Cond.methodLinkNest (xnm q.1) q.2.1 y.2.2.2.1 "SecretLoom" ∈ lw_tbl
theorem xMN_0 : xMN_P (0, 64, 88) := fun y h => by cases h; exact List.mem_of_getElem? (i := 390) (by decide +kernel)
theorem xMN_1 : xMN_P (0, 97, 89) := fun y h => by cases h; exact List.mem_of_getElem? (i := 411) (by decide +kernel)
theorem xMN_2 : xMN_P (0, 101, 90) := fun y h => by cases h; exact List.mem_of_getElem? (i := 406) (by decide +kernel)
theorem xMN_3 : xMN_P (1, 25, 86) := fun y h => by cases h; exact List.mem_of_getElem? (i := 303) (by decide +kernel)
theorem xMN_4 : xMN_P (3, 21, 86) := fun y h => by cases h; exact List.mem_of_getElem? (i := 525) (by decide +kernel)
theorem xMN_5 : xMN_P (4, 39, 86) := fun y h => by cases h; exact List.mem_of_getElem? (i := 621) (by decide +kernel)
theorem xMN_6 : xMN_P (4, 52, 87) := fun y h => by cases h; exact List.mem_of_getElem? (i := 640) (by decide +kernel)
theorem xMN_7 : xMN_P (5, 37, 86) := fun y h => by cases h; exact List.mem_of_getElem? (i := 279) (by decide +kernel)
theorem xMN_8 : xMN_P (6, 27, 89) := fun y h => by cases h; exact List.mem_of_getElem? (i := 324) (by decide +kernel)
theorem xMN_9 : xMN_P (6, 38, 90) := fun y h => by cases h; exact List.mem_of_getElem? (i := 330) (by decide +kernel)
theorem xMN_10 : xMN_P (6, 42, 88) := fun y h => by cases h; exact List.mem_of_getElem? (i := 327) (by decide +kernel)
theorem xMN_11 : xMN_P (7, 35, 89) := fun y h => by cases h; exact List.mem_of_getElem? (i := 461) (by decide +kernel)
theorem xMN_12 : xMN_P (7, 48, 86) := fun y h => by cases h; exact List.mem_of_getElem? (i := 442) (by decide +kernel)
theorem xMN_13 : xMN_P (7, 96, 87) := fun y h => by cases h; exact List.mem_of_getElem? (i := 452) (by decide +kernel)
theorem xMN_14 : xMN_P (8, 9, 39) := fun y h => by cases h; exact List.mem_of_getElem? (i := 68) (by decide +kernel)
theorem xMN_15 : xMN_P (8, 18, 9) := fun y h => by cases h; exact List.mem_of_getElem? (i := 85) (by decide +kernel)
theorem xMN_16 : xMN_P (8, 69, 23) := fun y h => by cases h; exact List.mem_of_getElem? (i := 208) (by decide +kernel)
theorem xMN_17 : xMN_P (8, 70, 27) := fun y h => by cases h; exact List.mem_of_getElem? (i := 217) (by decide +kernel)
theorem xMN_ok : ∀ q ∈ xMN, xMN_P q := List.forall_mem_cons.mpr ⟨xMN_0, List.forall_mem_cons.mpr ⟨xMN_1, List.forall_mem_cons.mpr ⟨xMN_2, List.forall_mem_cons.mpr ⟨xMN_3, List.forall_mem_cons.mpr ⟨xMN_4, List.forall_mem_cons.mpr ⟨xMN_5, List.forall_mem_cons.mpr ⟨xMN_6, List.forall_mem_cons.mpr ⟨xMN_7, List.forall_mem_cons.mpr ⟨xMN_8, List.forall_mem_cons.mpr ⟨xMN_9, List.forall_mem_cons.mpr ⟨xMN_10, List.forall_mem_cons.mpr ⟨xMN_11, List.forall_mem_cons.mpr ⟨xMN_12, List.forall_mem_cons.mpr ⟨xMN_13, List.forall_mem_cons.mpr ⟨xMN_14, List.forall_mem_cons.mpr ⟨xMN_15, List.forall_mem_cons.mpr ⟨xMN_16, List.forall_mem_cons.mpr ⟨xMN_17, fun _ h => absurd h List.not_mem_nil⟩⟩⟩⟩⟩⟩⟩⟩⟩⟩⟩⟩⟩⟩⟩⟩⟩⟩
def xOL_P (q : Nat × Nat × Nat) : Prop := Cond.methodLink (xnm q.1) q.2.1 objectInit ∈ lw_tbl
theorem xOL_0 : xOL_P (0, 3, 0) := List.mem_of_getElem? (i := 126) (by decide +kernel)
theorem xOL_1 : xOL_P (1, 3, 0) := List.mem_of_getElem? (i := 88) (by decide +kernel)
theorem xOL_2 : xOL_P (2, 3, 0) := List.mem_of_getElem? (i := 192) (by decide +kernel)
theorem xOL_3 : xOL_P (3, 3, 0) := List.mem_of_getElem? (i := 211) (by decide +kernel)
theorem xOL_4 : xOL_P (4, 3, 0) := List.mem_of_getElem? (i := 220) (by decide +kernel)
theorem xOL_5 : xOL_P (5, 3, 0) := List.mem_of_getElem? (i := 71) (by decide +kernel)
theorem xOL_6 : xOL_P (6, 3, 0) := List.mem_of_getElem? (i := 104) (by decide +kernel)
theorem xOL_7 : xOL_P (7, 5, 0) := List.mem_of_getElem? (i := 161) (by decide +kernel)
theorem xOL_8 : xOL_P (8, 1, 0) := List.mem_of_getElem? (i := 63) (by decide +kernel)
theorem xOL_9 : xOL_P (9, 1, 0) := List.mem_of_getElem? (i := 656) (by decide +kernel)
theorem xOL_ok : ∀ q ∈ xOL, xOL_P q := List.forall_mem_cons.mpr ⟨xOL_0, List.forall_mem_cons.mpr ⟨xOL_1, List.forall_mem_cons.mpr ⟨xOL_2, List.forall_mem_cons.mpr ⟨xOL_3, List.forall_mem_cons.mpr ⟨xOL_4, List.forall_mem_cons.mpr ⟨xOL_5, List.forall_mem_cons.mpr ⟨xOL_6, List.forall_mem_cons.mpr ⟨xOL_7, List.forall_mem_cons.mpr ⟨xOL_8, List.forall_mem_cons.mpr ⟨xOL_9, fun _ h => absurd h List.not_mem_nil⟩⟩⟩⟩⟩⟩⟩⟩⟩⟩
