section
-- ===== PART A: goes FIRST, ahead of the names: the tables' words, and 'selects' of the private methods out of them =====
/-- a private method of a class that the tables say can be made, by its rows of tables_1 -/
def lw_okq (q : MethodName × Nat) : Prop := (q.1.cls ≠ "java/lang/invoke/MethodHandle" ∧ q.1.cls ≠ "java/lang/invoke/VarHandle") ∧ Cond.instantiable q.1.cls q.2 ∈ tables_1 ∧ Cond.privateMethod q.1 ∈ tables_1 ∧ Cond.instanceMethod q.1 ∈ tables_1
theorem lw_p0 : lw_okq (⟨"SecretLoom", "isWellFormed", "()Z"⟩, 10) := ⟨⟨by decide +kernel, by decide +kernel⟩, List.mem_of_getElem? (i := 15) (by decide +kernel), List.mem_of_getElem? (i := 265) (by decide +kernel), List.mem_of_getElem? (i := 266) (by decide +kernel)⟩
theorem lw_p1 : lw_okq (⟨"SecretLoom$Shape", "comeTo", "(II)V"⟩, 5) := ⟨⟨by decide +kernel, by decide +kernel⟩, List.mem_of_getElem? (i := 56) (by decide +kernel), List.mem_of_getElem? (i := 273) (by decide +kernel), List.mem_of_getElem? (i := 274) (by decide +kernel)⟩
theorem lw_p2 : lw_okq (⟨"SecretLoom$Shape", "goOnFrom", "(I)V"⟩, 5) := ⟨⟨by decide +kernel, by decide +kernel⟩, List.mem_of_getElem? (i := 56) (by decide +kernel), List.mem_of_getElem? (i := 297) (by decide +kernel), List.mem_of_getElem? (i := 298) (by decide +kernel)⟩
theorem lw_p3 : lw_okq (⟨"SecretLoom$Junctions", "findEdges", "()V"⟩, 9) := ⟨⟨by decide +kernel, by decide +kernel⟩, List.mem_of_getElem? (i := 78) (by decide +kernel), List.mem_of_getElem? (i := 331) (by decide +kernel), List.mem_of_getElem? (i := 332) (by decide +kernel)⟩
theorem lw_p4 : lw_okq (⟨"SecretLoom$Junctions", "addEdge", "(II)V"⟩, 9) := ⟨⟨by decide +kernel, by decide +kernel⟩, List.mem_of_getElem? (i := 78) (by decide +kernel), List.mem_of_getElem? (i := 349) (by decide +kernel), List.mem_of_getElem? (i := 350) (by decide +kernel)⟩
theorem lw_p5 : lw_okq (⟨"SecretLoom$Junctions", "findPassing", "()V"⟩, 9) := ⟨⟨by decide +kernel, by decide +kernel⟩, List.mem_of_getElem? (i := 78) (by decide +kernel), List.mem_of_getElem? (i := 355) (by decide +kernel), List.mem_of_getElem? (i := 356) (by decide +kernel)⟩
theorem lw_p6 : lw_okq (⟨"SecretLoom$Junctions", "nearestFor", "(I)I"⟩, 9) := ⟨⟨by decide +kernel, by decide +kernel⟩, List.mem_of_getElem? (i := 78) (by decide +kernel), List.mem_of_getElem? (i := 364) (by decide +kernel), List.mem_of_getElem? (i := 365) (by decide +kernel)⟩
theorem lw_p7 : lw_okq (⟨"SecretLoom", "typesNow", "()LSecretLoom$Types;"⟩, 10) := ⟨⟨by decide +kernel, by decide +kernel⟩, List.mem_of_getElem? (i := 15) (by decide +kernel), List.mem_of_getElem? (i := 369) (by decide +kernel), List.mem_of_getElem? (i := 370) (by decide +kernel)⟩
theorem lw_p8 : lw_okq (⟨"SecretLoom$Types", "spreadFrom", "(I)V"⟩, 8) := ⟨⟨by decide +kernel, by decide +kernel⟩, List.mem_of_getElem? (i := 113) (by decide +kernel), List.mem_of_getElem? (i := 380) (by decide +kernel), List.mem_of_getElem? (i := 381) (by decide +kernel)⟩
theorem lw_p9 : lw_okq (⟨"SecretLoom$Types", "takenAt", "(I)I"⟩, 8) := ⟨⟨by decide +kernel, by decide +kernel⟩, List.mem_of_getElem? (i := 113) (by decide +kernel), List.mem_of_getElem? (i := 385) (by decide +kernel), List.mem_of_getElem? (i := 386) (by decide +kernel)⟩
theorem lw_p10 : lw_okq (⟨"SecretLoom$Types", "growSurroundings", "(JI)V"⟩, 8) := ⟨⟨by decide +kernel, by decide +kernel⟩, List.mem_of_getElem? (i := 113) (by decide +kernel), List.mem_of_getElem? (i := 405) (by decide +kernel), List.mem_of_getElem? (i := 406) (by decide +kernel)⟩
theorem lw_p11 : lw_okq (⟨"SecretLoom$Types", "readBy", "(I)I"⟩, 8) := ⟨⟨by decide +kernel, by decide +kernel⟩, List.mem_of_getElem? (i := 113) (by decide +kernel), List.mem_of_getElem? (i := 419) (by decide +kernel), List.mem_of_getElem? (i := 420) (by decide +kernel)⟩
theorem lw_p12 : lw_okq (⟨"SecretLoom$Types", "growPile", "(IJ)V"⟩, 8) := ⟨⟨by decide +kernel, by decide +kernel⟩, List.mem_of_getElem? (i := 113) (by decide +kernel), List.mem_of_getElem? (i := 433) (by decide +kernel), List.mem_of_getElem? (i := 434) (by decide +kernel)⟩
theorem lw_p13 : lw_okq (⟨"SecretLoom$Types", "isSafe", "(I)Z"⟩, 8) := ⟨⟨by decide +kernel, by decide +kernel⟩, List.mem_of_getElem? (i := 113) (by decide +kernel), List.mem_of_getElem? (i := 442) (by decide +kernel), List.mem_of_getElem? (i := 443) (by decide +kernel)⟩
theorem lw_p14 : lw_okq (⟨"SecretLoom$Machine", "doAt", "(ILSecretLoom$Memory;LSecretLoom$Outcome;)I"⟩, 3) := ⟨⟨by decide +kernel, by decide +kernel⟩, List.mem_of_getElem? (i := 144) (by decide +kernel), List.mem_of_getElem? (i := 512) (by decide +kernel), List.mem_of_getElem? (i := 513) (by decide +kernel)⟩
theorem lw_p15 : lw_okq (⟨"SecretLoom$Machine", "put", "(I)V"⟩, 3) := ⟨⟨by decide +kernel, by decide +kernel⟩, List.mem_of_getElem? (i := 144) (by decide +kernel), List.mem_of_getElem? (i := 518) (by decide +kernel), List.mem_of_getElem? (i := 519) (by decide +kernel)⟩
def lw_privs_1 : List (MethodName × Nat) := [(⟨"SecretLoom", "isWellFormed", "()Z"⟩, 10), (⟨"SecretLoom$Shape", "comeTo", "(II)V"⟩, 5), (⟨"SecretLoom$Shape", "goOnFrom", "(I)V"⟩, 5), (⟨"SecretLoom$Junctions", "findEdges", "()V"⟩, 9), (⟨"SecretLoom$Junctions", "addEdge", "(II)V"⟩, 9), (⟨"SecretLoom$Junctions", "findPassing", "()V"⟩, 9), (⟨"SecretLoom$Junctions", "nearestFor", "(I)I"⟩, 9), (⟨"SecretLoom", "typesNow", "()LSecretLoom$Types;"⟩, 10), (⟨"SecretLoom$Types", "spreadFrom", "(I)V"⟩, 8), (⟨"SecretLoom$Types", "takenAt", "(I)I"⟩, 8), (⟨"SecretLoom$Types", "growSurroundings", "(JI)V"⟩, 8), (⟨"SecretLoom$Types", "readBy", "(I)I"⟩, 8), (⟨"SecretLoom$Types", "growPile", "(IJ)V"⟩, 8), (⟨"SecretLoom$Types", "isSafe", "(I)Z"⟩, 8), (⟨"SecretLoom$Machine", "doAt", "(ILSecretLoom$Memory;LSecretLoom$Outcome;)I"⟩, 3), (⟨"SecretLoom$Machine", "put", "(I)V"⟩, 3)]
theorem lw_r1 : ∀ q ∈ lw_privs_1, lw_okq q := List.forall_mem_cons.mpr ⟨lw_p0, List.forall_mem_cons.mpr ⟨lw_p1, List.forall_mem_cons.mpr ⟨lw_p2, List.forall_mem_cons.mpr ⟨lw_p3, List.forall_mem_cons.mpr ⟨lw_p4, List.forall_mem_cons.mpr ⟨lw_p5, List.forall_mem_cons.mpr ⟨lw_p6, List.forall_mem_cons.mpr ⟨lw_p7, List.forall_mem_cons.mpr ⟨lw_p8, List.forall_mem_cons.mpr ⟨lw_p9, List.forall_mem_cons.mpr ⟨lw_p10, List.forall_mem_cons.mpr ⟨lw_p11, List.forall_mem_cons.mpr ⟨lw_p12, List.forall_mem_cons.mpr ⟨lw_p13, List.forall_mem_cons.mpr ⟨lw_p14, List.forall_mem_cons.mpr ⟨lw_p15, fun _ h => absurd h List.not_mem_nil⟩⟩⟩⟩⟩⟩⟩⟩⟩⟩⟩⟩⟩⟩⟩⟩
theorem lw_p16 : lw_okq (⟨"SecretLoom$Machine", "take", "()I"⟩, 3) := ⟨⟨by decide +kernel, by decide +kernel⟩, List.mem_of_getElem? (i := 144) (by decide +kernel), List.mem_of_getElem? (i := 526) (by decide +kernel), List.mem_of_getElem? (i := 527) (by decide +kernel)⟩
theorem lw_p17 : lw_okq (⟨"SecretLoom$Machine", "doWithTwo", "(I)V"⟩, 3) := ⟨⟨by decide +kernel, by decide +kernel⟩, List.mem_of_getElem? (i := 144) (by decide +kernel), List.mem_of_getElem? (i := 531) (by decide +kernel), List.mem_of_getElem? (i := 532) (by decide +kernel)⟩
theorem lw_p18 : lw_okq (⟨"SecretLoom$Machine", "layInto", "(LSecretLoom$Memory;I)V"⟩, 3) := ⟨⟨by decide +kernel, by decide +kernel⟩, List.mem_of_getElem? (i := 144) (by decide +kernel), List.mem_of_getElem? (i := 539) (by decide +kernel), List.mem_of_getElem? (i := 540) (by decide +kernel)⟩
theorem lw_p19 : lw_okq (⟨"SecretLoom", "rowsAgree", "(I)Z"⟩, 10) := ⟨⟨by decide +kernel, by decide +kernel⟩, List.mem_of_getElem? (i := 15) (by decide +kernel), List.mem_of_getElem? (i := 587) (by decide +kernel), List.mem_of_getElem? (i := 588) (by decide +kernel)⟩
theorem lw_p20 : lw_okq (⟨"SecretLoomModel", "type", "()Z"⟩, 21) := ⟨⟨by decide +kernel, by decide +kernel⟩, List.mem_of_getElem? (i := 608) (by decide +kernel), List.mem_of_getElem? (i := 701) (by decide +kernel), List.mem_of_getElem? (i := 702) (by decide +kernel)⟩
theorem lw_p21 : lw_okq (⟨"SecretLoomModel", "look", "()V"⟩, 21) := ⟨⟨by decide +kernel, by decide +kernel⟩, List.mem_of_getElem? (i := 608) (by decide +kernel), List.mem_of_getElem? (i := 705) (by decide +kernel), List.mem_of_getElem? (i := 706) (by decide +kernel)⟩
theorem lw_p22 : lw_okq (⟨"SecretLoomModel", "walk", "()Z"⟩, 21) := ⟨⟨by decide +kernel, by decide +kernel⟩, List.mem_of_getElem? (i := 608) (by decide +kernel), List.mem_of_getElem? (i := 709) (by decide +kernel), List.mem_of_getElem? (i := 710) (by decide +kernel)⟩
theorem lw_p23 : lw_okq (⟨"SecretLoomModel", "takes", "(I)I"⟩, 21) := ⟨⟨by decide +kernel, by decide +kernel⟩, List.mem_of_getElem? (i := 608) (by decide +kernel), List.mem_of_getElem? (i := 713) (by decide +kernel), List.mem_of_getElem? (i := 714) (by decide +kernel)⟩
theorem lw_p24 : lw_okq (⟨"SecretLoomModel", "gives", "(I)Z"⟩, 21) := ⟨⟨by decide +kernel, by decide +kernel⟩, List.mem_of_getElem? (i := 608) (by decide +kernel), List.mem_of_getElem? (i := 717) (by decide +kernel), List.mem_of_getElem? (i := 718) (by decide +kernel)⟩
theorem lw_p25 : lw_okq (⟨"SecretLoomModel", "next", "(I)I"⟩, 21) := ⟨⟨by decide +kernel, by decide +kernel⟩, List.mem_of_getElem? (i := 608) (by decide +kernel), List.mem_of_getElem? (i := 721) (by decide +kernel), List.mem_of_getElem? (i := 722) (by decide +kernel)⟩
theorem lw_p26 : lw_okq (⟨"SecretLoomModel", "other", "(I)I"⟩, 21) := ⟨⟨by decide +kernel, by decide +kernel⟩, List.mem_of_getElem? (i := 608) (by decide +kernel), List.mem_of_getElem? (i := 725) (by decide +kernel), List.mem_of_getElem? (i := 726) (by decide +kernel)⟩
theorem lw_p27 : lw_okq (⟨"SecretLoomModel", "junctionOf", "(I)I"⟩, 21) := ⟨⟨by decide +kernel, by decide +kernel⟩, List.mem_of_getElem? (i := 608) (by decide +kernel), List.mem_of_getElem? (i := 729) (by decide +kernel), List.mem_of_getElem? (i := 730) (by decide +kernel)⟩
theorem lw_p28 : lw_okq (⟨"SecretLoomModel", "leads", "(II)Z"⟩, 21) := ⟨⟨by decide +kernel, by decide +kernel⟩, List.mem_of_getElem? (i := 608) (by decide +kernel), List.mem_of_getElem? (i := 733) (by decide +kernel), List.mem_of_getElem? (i := 734) (by decide +kernel)⟩
theorem lw_p29 : lw_okq (⟨"SecretLoomModel", "unwall", "()V"⟩, 21) := ⟨⟨by decide +kernel, by decide +kernel⟩, List.mem_of_getElem? (i := 608) (by decide +kernel), List.mem_of_getElem? (i := 737) (by decide +kernel), List.mem_of_getElem? (i := 738) (by decide +kernel)⟩
theorem lw_p30 : lw_okq (⟨"SecretLoomModel", "unmark", "()V"⟩, 21) := ⟨⟨by decide +kernel, by decide +kernel⟩, List.mem_of_getElem? (i := 608) (by decide +kernel), List.mem_of_getElem? (i := 741) (by decide +kernel), List.mem_of_getElem? (i := 742) (by decide +kernel)⟩
theorem lw_p31 : lw_okq (⟨"SecretLoomModel", "spread", "()V"⟩, 21) := ⟨⟨by decide +kernel, by decide +kernel⟩, List.mem_of_getElem? (i := 608) (by decide +kernel), List.mem_of_getElem? (i := 745) (by decide +kernel), List.mem_of_getElem? (i := 746) (by decide +kernel)⟩
def lw_privs_2 : List (MethodName × Nat) := [(⟨"SecretLoom$Machine", "take", "()I"⟩, 3), (⟨"SecretLoom$Machine", "doWithTwo", "(I)V"⟩, 3), (⟨"SecretLoom$Machine", "layInto", "(LSecretLoom$Memory;I)V"⟩, 3), (⟨"SecretLoom", "rowsAgree", "(I)Z"⟩, 10), (⟨"SecretLoomModel", "type", "()Z"⟩, 21), (⟨"SecretLoomModel", "look", "()V"⟩, 21), (⟨"SecretLoomModel", "walk", "()Z"⟩, 21), (⟨"SecretLoomModel", "takes", "(I)I"⟩, 21), (⟨"SecretLoomModel", "gives", "(I)Z"⟩, 21), (⟨"SecretLoomModel", "next", "(I)I"⟩, 21), (⟨"SecretLoomModel", "other", "(I)I"⟩, 21), (⟨"SecretLoomModel", "junctionOf", "(I)I"⟩, 21), (⟨"SecretLoomModel", "leads", "(II)Z"⟩, 21), (⟨"SecretLoomModel", "unwall", "()V"⟩, 21), (⟨"SecretLoomModel", "unmark", "()V"⟩, 21), (⟨"SecretLoomModel", "spread", "()V"⟩, 21)]
theorem lw_r2 : ∀ q ∈ lw_privs_2, lw_okq q := List.forall_mem_cons.mpr ⟨lw_p16, List.forall_mem_cons.mpr ⟨lw_p17, List.forall_mem_cons.mpr ⟨lw_p18, List.forall_mem_cons.mpr ⟨lw_p19, List.forall_mem_cons.mpr ⟨lw_p20, List.forall_mem_cons.mpr ⟨lw_p21, List.forall_mem_cons.mpr ⟨lw_p22, List.forall_mem_cons.mpr ⟨lw_p23, List.forall_mem_cons.mpr ⟨lw_p24, List.forall_mem_cons.mpr ⟨lw_p25, List.forall_mem_cons.mpr ⟨lw_p26, List.forall_mem_cons.mpr ⟨lw_p27, List.forall_mem_cons.mpr ⟨lw_p28, List.forall_mem_cons.mpr ⟨lw_p29, List.forall_mem_cons.mpr ⟨lw_p30, List.forall_mem_cons.mpr ⟨lw_p31, fun _ h => absurd h List.not_mem_nil⟩⟩⟩⟩⟩⟩⟩⟩⟩⟩⟩⟩⟩⟩⟩⟩
theorem lw_p32 : lw_okq (⟨"SecretLoomModel", "follow", "(I)V"⟩, 21) := ⟨⟨by decide +kernel, by decide +kernel⟩, List.mem_of_getElem? (i := 608) (by decide +kernel), List.mem_of_getElem? (i := 749) (by decide +kernel), List.mem_of_getElem? (i := 750) (by decide +kernel)⟩
theorem lw_p33 : lw_okq (⟨"SecretLoomModel", "flow", "(I)Z"⟩, 21) := ⟨⟨by decide +kernel, by decide +kernel⟩, List.mem_of_getElem? (i := 608) (by decide +kernel), List.mem_of_getElem? (i := 753) (by decide +kernel), List.mem_of_getElem? (i := 754) (by decide +kernel)⟩
theorem lw_p34 : lw_okq (⟨"SecretLoomModel", "taken", "(I)I"⟩, 21) := ⟨⟨by decide +kernel, by decide +kernel⟩, List.mem_of_getElem? (i := 608) (by decide +kernel), List.mem_of_getElem? (i := 757) (by decide +kernel), List.mem_of_getElem? (i := 758) (by decide +kernel)⟩
theorem lw_p35 : lw_okq (⟨"SecretLoomModel", "pileOf", "(II)I"⟩, 21) := ⟨⟨by decide +kernel, by decide +kernel⟩, List.mem_of_getElem? (i := 608) (by decide +kernel), List.mem_of_getElem? (i := 761) (by decide +kernel), List.mem_of_getElem? (i := 762) (by decide +kernel)⟩
theorem lw_p36 : lw_okq (⟨"SecretLoomModel", "grows", "(II)Z"⟩, 21) := ⟨⟨by decide +kernel, by decide +kernel⟩, List.mem_of_getElem? (i := 608) (by decide +kernel), List.mem_of_getElem? (i := 765) (by decide +kernel), List.mem_of_getElem? (i := 766) (by decide +kernel)⟩
theorem lw_p37 : lw_okq (⟨"SecretLoomModel", "put", "(I)I"⟩, 21) := ⟨⟨by decide +kernel, by decide +kernel⟩, List.mem_of_getElem? (i := 608) (by decide +kernel), List.mem_of_getElem? (i := 769) (by decide +kernel), List.mem_of_getElem? (i := 770) (by decide +kernel)⟩
theorem lw_p38 : lw_okq (⟨"SecretLoomModel", "isSafe", "(I)Z"⟩, 21) := ⟨⟨by decide +kernel, by decide +kernel⟩, List.mem_of_getElem? (i := 608) (by decide +kernel), List.mem_of_getElem? (i := 773) (by decide +kernel), List.mem_of_getElem? (i := 774) (by decide +kernel)⟩
theorem lw_p39 : lw_okq (⟨"SecretLoomModel", "isMet", "(I)Z"⟩, 21) := ⟨⟨by decide +kernel, by decide +kernel⟩, List.mem_of_getElem? (i := 608) (by decide +kernel), List.mem_of_getElem? (i := 781) (by decide +kernel), List.mem_of_getElem? (i := 782) (by decide +kernel)⟩
theorem lw_p40 : lw_okq (⟨"SecretLoomModel", "work", "(III)V"⟩, 21) := ⟨⟨by decide +kernel, by decide +kernel⟩, List.mem_of_getElem? (i := 608) (by decide +kernel), List.mem_of_getElem? (i := 805) (by decide +kernel), List.mem_of_getElem? (i := 806) (by decide +kernel)⟩
theorem lw_p41 : lw_okq (⟨"SecretLoomModel", "comes", "(III)V"⟩, 21) := ⟨⟨by decide +kernel, by decide +kernel⟩, List.mem_of_getElem? (i := 608) (by decide +kernel), List.mem_of_getElem? (i := 815) (by decide +kernel), List.mem_of_getElem? (i := 816) (by decide +kernel)⟩
theorem lw_p42 : lw_okq (⟨"SecretLoomModel", "low", "(III)I"⟩, 21) := ⟨⟨by decide +kernel, by decide +kernel⟩, List.mem_of_getElem? (i := 608) (by decide +kernel), List.mem_of_getElem? (i := 831) (by decide +kernel), List.mem_of_getElem? (i := 832) (by decide +kernel)⟩
theorem lw_p43 : lw_okq (⟨"SecretLoomModel", "isLow", "(II)Z"⟩, 21) := ⟨⟨by decide +kernel, by decide +kernel⟩, List.mem_of_getElem? (i := 608) (by decide +kernel), List.mem_of_getElem? (i := 835) (by decide +kernel), List.mem_of_getElem? (i := 836) (by decide +kernel)⟩
def lw_privs_3 : List (MethodName × Nat) := [(⟨"SecretLoomModel", "follow", "(I)V"⟩, 21), (⟨"SecretLoomModel", "flow", "(I)Z"⟩, 21), (⟨"SecretLoomModel", "taken", "(I)I"⟩, 21), (⟨"SecretLoomModel", "pileOf", "(II)I"⟩, 21), (⟨"SecretLoomModel", "grows", "(II)Z"⟩, 21), (⟨"SecretLoomModel", "put", "(I)I"⟩, 21), (⟨"SecretLoomModel", "isSafe", "(I)Z"⟩, 21), (⟨"SecretLoomModel", "isMet", "(I)Z"⟩, 21), (⟨"SecretLoomModel", "work", "(III)V"⟩, 21), (⟨"SecretLoomModel", "comes", "(III)V"⟩, 21), (⟨"SecretLoomModel", "low", "(III)I"⟩, 21), (⟨"SecretLoomModel", "isLow", "(II)Z"⟩, 21)]
theorem lw_r3 : ∀ q ∈ lw_privs_3, lw_okq q := List.forall_mem_cons.mpr ⟨lw_p32, List.forall_mem_cons.mpr ⟨lw_p33, List.forall_mem_cons.mpr ⟨lw_p34, List.forall_mem_cons.mpr ⟨lw_p35, List.forall_mem_cons.mpr ⟨lw_p36, List.forall_mem_cons.mpr ⟨lw_p37, List.forall_mem_cons.mpr ⟨lw_p38, List.forall_mem_cons.mpr ⟨lw_p39, List.forall_mem_cons.mpr ⟨lw_p40, List.forall_mem_cons.mpr ⟨lw_p41, List.forall_mem_cons.mpr ⟨lw_p42, List.forall_mem_cons.mpr ⟨lw_p43, fun _ h => absurd h List.not_mem_nil⟩⟩⟩⟩⟩⟩⟩⟩⟩⟩⟩⟩
def lw_privs : List (MethodName × Nat) := lw_privs_1 ++ (lw_privs_2 ++ (lw_privs_3))
def lw_tbl : List Cond := k2_sels lw_privs ++ tables_1
theorem lw_privs_ok : ∀ q ∈ lw_privs, lw_okq q := by
  show ∀ q ∈ lw_privs_1 ++ (lw_privs_2 ++ (lw_privs_3)), lw_okq q
  exact List.forall_mem_append.mpr ⟨lw_r1, List.forall_mem_append.mpr ⟨lw_r2, lw_r3⟩⟩
end
section
def RX0 : String := "SecretLoom$Junctions"
def TX0 : u_T := fun k => match k with
  | 0 => ("SecretLoom$Junctions", "program", "LSecretLoom$Program;", true)
  | 1 => ("SecretLoom$Junctions", "shape", "LSecretLoom$Shape;", true)
  | 2 => ("SecretLoom$Junctions", "followers", "[J", true)
  | 3 => ("SecretLoom$Junctions", "leaders", "[J", true)
  | 4 => ("SecretLoom$Junctions", "passing", "[J", true)
  | 5 => ("SecretLoom$Junctions", "junctionAt", "[I", true)
  | 6 => ("SecretLoom$Junctions", "regionAt", "[J", true)
  | 7 => ("SecretLoom$Junctions", "halts", "J", false)
  | _ => ("SecretLoom$Junctions", "halting", "J", false)
def tyX0 : Nat → FieldType := fun k => match k with
  | 0 => .object "SecretLoom$Program"
  | 1 => .object "SecretLoom$Shape"
  | 2 => .array .long
  | 3 => .array .long
  | 4 => .array .long
  | 5 => .array .int
  | 6 => .array .long
  | 7 => .long
  | _ => .long
abbrev wsX00 : List Cond := u_ws RX0 TX0 9
theorem nmX0 : ∀ a, a < 9 → ∀ b, b < 9 → a ≠ b → (TX0 a).2.1 ≠ (TX0 b).2.1 := by decide +kernel
theorem tyX0_ok : ∀ k, k < 9 → parseFieldDescriptor (TX0 k).2.2.1 = some (tyX0 k) := by decide +kernel
abbrev cX0_init : ByteArray := prog_2_method_1_code
def yX0_init : MethodName := ⟨RX0, "<init>", "(LSecretLoom$Program;LSecretLoom$Shape;)V"⟩
abbrev cX0_at : ByteArray := prog_2_method_2_code
def yX0_at : MethodName := ⟨RX0, "at", "(I)I"⟩
abbrev cX0_regionOf : ByteArray := prog_2_method_3_code
def yX0_regionOf : MethodName := ⟨RX0, "regionOf", "(I)J"⟩
abbrev cX0_find : ByteArray := prog_2_method_4_code
def yX0_find : MethodName := ⟨RX0, "find", "()V"⟩
abbrev cX0_findEdges : ByteArray := prog_2_method_5_code
def yX0_findEdges : MethodName := ⟨RX0, "findEdges", "()V"⟩
abbrev cX0_addEdge : ByteArray := prog_2_method_6_code
def yX0_addEdge : MethodName := ⟨RX0, "addEdge", "(II)V"⟩
abbrev cX0_findPassing : ByteArray := prog_2_method_7_code
def yX0_findPassing : MethodName := ⟨RX0, "findPassing", "()V"⟩
abbrev cX0_nearestFor : ByteArray := prog_2_method_8_code
def yX0_nearestFor : MethodName := ⟨RX0, "nearestFor", "(I)I"⟩
abbrev cX0_reach : ByteArray := prog_2_method_9_code
def yX0_reach : MethodName := ⟨RX0, "reach", "(J[JJ)J"⟩
def RX1 : String := "SecretLoom$Levels"
def TX1 : u_T := fun k => match k with
  | 0 => ("SecretLoom$Levels", "ofVariables", "[I", true)
  | 1 => ("SecretLoom$Levels", "ofArrays", "[I", true)
  | _ => ("SecretLoom$Levels", "ofChannels", "[I", true)
def tyX1 : Nat → FieldType := fun k => match k with
  | 0 => .array .int
  | 1 => .array .int
  | _ => .array .int
abbrev wsX10 : List Cond := u_ws RX1 TX1 3
theorem nmX1 : ∀ a, a < 3 → ∀ b, b < 3 → a ≠ b → (TX1 a).2.1 ≠ (TX1 b).2.1 := by decide +kernel
theorem tyX1_ok : ∀ k, k < 3 → parseFieldDescriptor (TX1 k).2.2.1 = some (tyX1 k) := by decide +kernel
abbrev cX1_init : ByteArray := prog_3_method_1_code
def yX1_init : MethodName := ⟨RX1, "<init>", "()V"⟩
abbrev cX1_set : ByteArray := prog_3_method_2_code
def yX1_set : MethodName := ⟨RX1, "set", "(III)Z"⟩
abbrev cX1_ofVariable : ByteArray := prog_3_method_3_code
def yX1_ofVariable : MethodName := ⟨RX1, "ofVariable", "(I)I"⟩
abbrev cX1_ofArray : ByteArray := prog_3_method_4_code
def yX1_ofArray : MethodName := ⟨RX1, "ofArray", "(I)I"⟩
abbrev cX1_ofChannel : ByteArray := prog_3_method_5_code
def yX1_ofChannel : MethodName := ⟨RX1, "ofChannel", "(I)I"⟩
abbrev cX1_setIn : ByteArray := prog_3_method_6_code
def yX1_setIn : MethodName := ⟨RX1, "setIn", "([III)Z"⟩
def RX2 : String := "SecretLoom$Machine"
def TX2 : u_T := fun k => match k with
  | 0 => ("SecretLoom$Machine", "program", "LSecretLoom$Program;", true)
  | 1 => ("SecretLoom$Machine", "onPile", "[I", true)
  | _ => ("SecretLoom$Machine", "height", "I", false)
def tyX2 : Nat → FieldType := fun k => match k with
  | 0 => .object "SecretLoom$Program"
  | 1 => .array .int
  | _ => .int
abbrev wsX20 : List Cond := u_ws RX2 TX2 3
theorem nmX2 : ∀ a, a < 3 → ∀ b, b < 3 → a ≠ b → (TX2 a).2.1 ≠ (TX2 b).2.1 := by decide +kernel
theorem tyX2_ok : ∀ k, k < 3 → parseFieldDescriptor (TX2 k).2.2.1 = some (tyX2 k) := by decide +kernel
abbrev cX2_init : ByteArray := prog_4_method_1_code
def yX2_init : MethodName := ⟨RX2, "<init>", "(LSecretLoom$Program;)V"⟩
abbrev cX2_work : ByteArray := prog_4_method_2_code
def yX2_work : MethodName := ⟨RX2, "work", "(LSecretLoom$Memory;LSecretLoom$Outcome;I)I"⟩
abbrev cX2_doAt : ByteArray := prog_4_method_3_code
def yX2_doAt : MethodName := ⟨RX2, "doAt", "(ILSecretLoom$Memory;LSecretLoom$Outcome;)I"⟩
abbrev cX2_layInto : ByteArray := prog_4_method_4_code
def yX2_layInto : MethodName := ⟨RX2, "layInto", "(LSecretLoom$Memory;I)V"⟩
abbrev cX2_doWithTwo : ByteArray := prog_4_method_5_code
def yX2_doWithTwo : MethodName := ⟨RX2, "doWithTwo", "(I)V"⟩
abbrev cX2_resultOf : ByteArray := prog_4_method_6_code
def yX2_resultOf : MethodName := ⟨RX2, "resultOf", "(III)I"⟩
abbrev cX2_put : ByteArray := prog_4_method_7_code
def yX2_put : MethodName := ⟨RX2, "put", "(I)V"⟩
abbrev cX2_take : ByteArray := prog_4_method_8_code
def yX2_take : MethodName := ⟨RX2, "take", "()I"⟩
def RX3 : String := "SecretLoom$Memory"
def TX3 : u_T := fun k => match k with
  | _ => ("SecretLoom$Memory", "cells", "[I", true)
def tyX3 : Nat → FieldType := fun k => match k with
  | _ => .array .int
abbrev wsX30 : List Cond := u_ws RX3 TX3 1
theorem nmX3 : ∀ a, a < 1 → ∀ b, b < 1 → a ≠ b → (TX3 a).2.1 ≠ (TX3 b).2.1 := by decide +kernel
theorem tyX3_ok : ∀ k, k < 1 → parseFieldDescriptor (TX3 k).2.2.1 = some (tyX3 k) := by decide +kernel
abbrev cX3_init : ByteArray := prog_5_method_1_code
def yX3_init : MethodName := ⟨RX3, "<init>", "()V"⟩
abbrev cX3_cellOf : ByteArray := prog_5_method_2_code
def yX3_cellOf : MethodName := ⟨RX3, "cellOf", "(II)I"⟩
abbrev cX3_get : ByteArray := prog_5_method_3_code
def yX3_get : MethodName := ⟨RX3, "get", "(I)I"⟩
abbrev cX3_set : ByteArray := prog_5_method_4_code
def yX3_set : MethodName := ⟨RX3, "set", "(II)V"⟩
def RX4 : String := "SecretLoom$Outcome"
def TX4 : u_T := fun k => match k with
  | 0 => ("SecretLoom$Outcome", "channels", "[I", true)
  | 1 => ("SecretLoom$Outcome", "ints", "[I", true)
  | 2 => ("SecretLoom$Outcome", "there", "Z", false)
  | 3 => ("SecretLoom$Outcome", "halted", "Z", false)
  | _ => ("SecretLoom$Outcome", "count", "I", false)
def tyX4 : Nat → FieldType := fun k => match k with
  | 0 => .array .int
  | 1 => .array .int
  | 2 => .boolean
  | 3 => .boolean
  | _ => .int
abbrev wsX40 : List Cond := u_ws RX4 TX4 5
theorem nmX4 : ∀ a, a < 5 → ∀ b, b < 5 → a ≠ b → (TX4 a).2.1 ≠ (TX4 b).2.1 := by decide +kernel
theorem tyX4_ok : ∀ k, k < 5 → parseFieldDescriptor (TX4 k).2.2.1 = some (tyX4 k) := by decide +kernel
abbrev cX4_init : ByteArray := prog_6_method_1_code
def yX4_init : MethodName := ⟨RX4, "<init>", "()V"⟩
abbrev cX4_isThere : ByteArray := prog_6_method_2_code
def yX4_isThere : MethodName := ⟨RX4, "isThere", "()Z"⟩
abbrev cX4_isHalted : ByteArray := prog_6_method_3_code
def yX4_isHalted : MethodName := ⟨RX4, "isHalted", "()Z"⟩
abbrev cX4_count : ByteArray := prog_6_method_4_code
def yX4_count : MethodName := ⟨RX4, "count", "()I"⟩
abbrev cX4_kept : ByteArray := prog_6_method_5_code
def yX4_kept : MethodName := ⟨RX4, "kept", "()I"⟩
abbrev cX4_channelAt : ByteArray := prog_6_method_6_code
def yX4_channelAt : MethodName := ⟨RX4, "channelAt", "(I)I"⟩
abbrev cX4_intAt : ByteArray := prog_6_method_7_code
def yX4_intAt : MethodName := ⟨RX4, "intAt", "(I)I"⟩
abbrev cX4_begin : ByteArray := prog_6_method_8_code
def yX4_begin : MethodName := ⟨RX4, "begin", "()V"⟩
abbrev cX4_halt : ByteArray := prog_6_method_9_code
def yX4_halt : MethodName := ⟨RX4, "halt", "()V"⟩
abbrev cX4_add : ByteArray := prog_6_method_10_code
def yX4_add : MethodName := ⟨RX4, "add", "(II)V"⟩
abbrev cX4_nextSeen : ByteArray := prog_6_method_11_code
def yX4_nextSeen : MethodName := ⟨RX4, "nextSeen", "(IILSecretLoom$Levels;)I"⟩
abbrev cX4_isAlike : ByteArray := prog_6_method_12_code
def yX4_isAlike : MethodName := ⟨RX4, "isAlike", "(ILSecretLoom$Outcome;I)Z"⟩
def RX5 : String := "SecretLoom$Program"
def TX5 : u_T := fun k => match k with
  | 0 => ("SecretLoom$Program", "kinds", "[I", true)
  | 1 => ("SecretLoom$Program", "numbers", "[I", true)
  | _ => ("SecretLoom$Program", "size", "I", false)
def tyX5 : Nat → FieldType := fun k => match k with
  | 0 => .array .int
  | 1 => .array .int
  | _ => .int
abbrev wsX50 : List Cond := u_ws RX5 TX5 3
theorem nmX5 : ∀ a, a < 3 → ∀ b, b < 3 → a ≠ b → (TX5 a).2.1 ≠ (TX5 b).2.1 := by decide +kernel
theorem tyX5_ok : ∀ k, k < 3 → parseFieldDescriptor (TX5 k).2.2.1 = some (tyX5 k) := by decide +kernel
abbrev cX5_init : ByteArray := prog_7_method_1_code
def yX5_init : MethodName := ⟨RX5, "<init>", "()V"⟩
abbrev cX5_size : ByteArray := prog_7_method_2_code
def yX5_size : MethodName := ⟨RX5, "size", "()I"⟩
abbrev cX5_has : ByteArray := prog_7_method_3_code
def yX5_has : MethodName := ⟨RX5, "has", "(I)Z"⟩
abbrev cX5_kindAt : ByteArray := prog_7_method_4_code
def yX5_kindAt : MethodName := ⟨RX5, "kindAt", "(I)I"⟩
abbrev cX5_numberAt : ByteArray := prog_7_method_5_code
def yX5_numberAt : MethodName := ⟨RX5, "numberAt", "(I)I"⟩
abbrev cX5_add : ByteArray := prog_7_method_6_code
def yX5_add : MethodName := ⟨RX5, "add", "(II)I"⟩
abbrev cX5_removeAll : ByteArray := prog_7_method_7_code
def yX5_removeAll : MethodName := ⟨RX5, "removeAll", "()V"⟩
abbrev cX5_plainFollower : ByteArray := prog_7_method_8_code
def yX5_plainFollower : MethodName := ⟨RX5, "plainFollower", "(I)I"⟩
abbrev cX5_otherFollower : ByteArray := prog_7_method_9_code
def yX5_otherFollower : MethodName := ⟨RX5, "otherFollower", "(I)I"⟩
abbrev cX5_canBe : ByteArray := prog_7_method_10_code
def yX5_canBe : MethodName := ⟨RX5, "canBe", "(II)Z"⟩
def RX6 : String := "SecretLoom$Shape"
def TX6 : u_T := fun k => match k with
  | 0 => ("SecretLoom$Shape", "program", "LSecretLoom$Program;", true)
  | 1 => ("SecretLoom$Shape", "heights", "[I", true)
  | 2 => ("SecretLoom$Shape", "met", "J", false)
  | 3 => ("SecretLoom$Shape", "open", "J", false)
  | _ => ("SecretLoom$Shape", "wellFormed", "Z", false)
def tyX6 : Nat → FieldType := fun k => match k with
  | 0 => .object "SecretLoom$Program"
  | 1 => .array .int
  | 2 => .long
  | 3 => .long
  | _ => .boolean
abbrev wsX60 : List Cond := u_ws RX6 TX6 5
theorem nmX6 : ∀ a, a < 5 → ∀ b, b < 5 → a ≠ b → (TX6 a).2.1 ≠ (TX6 b).2.1 := by decide +kernel
theorem tyX6_ok : ∀ k, k < 5 → parseFieldDescriptor (TX6 k).2.2.1 = some (tyX6 k) := by decide +kernel
abbrev cX6_init : ByteArray := prog_8_method_1_code
def yX6_init : MethodName := ⟨RX6, "<init>", "(LSecretLoom$Program;)V"⟩
abbrev cX6_isWellFormed : ByteArray := prog_8_method_2_code
def yX6_isWellFormed : MethodName := ⟨RX6, "isWellFormed", "()Z"⟩
abbrev cX6_isMet : ByteArray := prog_8_method_3_code
def yX6_isMet : MethodName := ⟨RX6, "isMet", "(I)Z"⟩
abbrev cX6_heightAt : ByteArray := prog_8_method_4_code
def yX6_heightAt : MethodName := ⟨RX6, "heightAt", "(I)I"⟩
abbrev cX6_find : ByteArray := prog_8_method_5_code
def yX6_find : MethodName := ⟨RX6, "find", "()V"⟩
abbrev cX6_goOnFrom : ByteArray := prog_8_method_6_code
def yX6_goOnFrom : MethodName := ⟨RX6, "goOnFrom", "(I)V"⟩
abbrev cX6_comeTo : ByteArray := prog_8_method_7_code
def yX6_comeTo : MethodName := ⟨RX6, "comeTo", "(II)V"⟩
def RX7 : String := "SecretLoom$Types"
def TX7 : u_T := fun k => match k with
  | 0 => ("SecretLoom$Types", "program", "LSecretLoom$Program;", true)
  | 1 => ("SecretLoom$Types", "levels", "LSecretLoom$Levels;", true)
  | 2 => ("SecretLoom$Types", "shape", "LSecretLoom$Shape;", true)
  | 3 => ("SecretLoom$Types", "junctions", "LSecretLoom$Junctions;", true)
  | 4 => ("SecretLoom$Types", "piles", "[J", true)
  | 5 => ("SecretLoom$Types", "surroundedByOne", "J", false)
  | 6 => ("SecretLoom$Types", "surroundedByTwo", "J", false)
  | _ => ("SecretLoom$Types", "grown", "Z", false)
def tyX7 : Nat → FieldType := fun k => match k with
  | 0 => .object "SecretLoom$Program"
  | 1 => .object "SecretLoom$Levels"
  | 2 => .object "SecretLoom$Shape"
  | 3 => .object "SecretLoom$Junctions"
  | 4 => .array .long
  | 5 => .long
  | 6 => .long
  | _ => .boolean
abbrev wsX70 : List Cond := u_ws RX7 TX7 8
theorem nmX7 : ∀ a, a < 8 → ∀ b, b < 8 → a ≠ b → (TX7 a).2.1 ≠ (TX7 b).2.1 := by decide +kernel
theorem tyX7_ok : ∀ k, k < 8 → parseFieldDescriptor (TX7 k).2.2.1 = some (tyX7 k) := by decide +kernel
abbrev cX7_init : ByteArray := prog_9_method_1_code
def yX7_init : MethodName := ⟨RX7, "<init>", "(LSecretLoom$Program;LSecretLoom$Levels;LSecretLoom$Shape;LSecretLoom$Junctions;)V"⟩
abbrev cX7_surroundingAt : ByteArray := prog_9_method_2_code
def yX7_surroundingAt : MethodName := ⟨RX7, "surroundingAt", "(I)I"⟩
abbrev cX7_levelOnPile : ByteArray := prog_9_method_3_code
def yX7_levelOnPile : MethodName := ⟨RX7, "levelOnPile", "(II)I"⟩
abbrev cX7_find : ByteArray := prog_9_method_4_code
def yX7_find : MethodName := ⟨RX7, "find", "()V"⟩
abbrev cX7_firstUnsafe : ByteArray := prog_9_method_5_code
def yX7_firstUnsafe : MethodName := ⟨RX7, "firstUnsafe", "()I"⟩
abbrev cX7_isSafe : ByteArray := prog_9_method_6_code
def yX7_isSafe : MethodName := ⟨RX7, "isSafe", "(I)Z"⟩
abbrev cX7_spreadFrom : ByteArray := prog_9_method_7_code
def yX7_spreadFrom : MethodName := ⟨RX7, "spreadFrom", "(I)V"⟩
abbrev cX7_takenAt : ByteArray := prog_9_method_8_code
def yX7_takenAt : MethodName := ⟨RX7, "takenAt", "(I)I"⟩
abbrev cX7_readBy : ByteArray := prog_9_method_9_code
def yX7_readBy : MethodName := ⟨RX7, "readBy", "(I)I"⟩
abbrev cX7_growPile : ByteArray := prog_9_method_10_code
def yX7_growPile : MethodName := ⟨RX7, "growPile", "(IJ)V"⟩
abbrev cX7_growSurroundings : ByteArray := prog_9_method_11_code
def yX7_growSurroundings : MethodName := ⟨RX7, "growSurroundings", "(JI)V"⟩
def RX8 : String := "SecretLoom"
def TX8 : u_T := fun k => match k with
  | 0 => ("SecretLoom", "program", "LSecretLoom$Program;", true)
  | 1 => ("SecretLoom", "levels", "LSecretLoom$Levels;", true)
  | 2 => ("SecretLoom", "shape", "LSecretLoom$Shape;", true)
  | 3 => ("SecretLoom", "junctions", "LSecretLoom$Junctions;", true)
  | 4 => ("SecretLoom", "types", "LSecretLoom$Types;", true)
  | 5 => ("SecretLoom", "machine", "LSecretLoom$Machine;", true)
  | 6 => ("SecretLoom", "memories", "[LSecretLoom$Memory;", true)
  | 7 => ("SecretLoom", "latest", "[LSecretLoom$Outcome;", true)
  | 8 => ("SecretLoom", "shapeIsOld", "Z", false)
  | _ => ("SecretLoom", "typesAreOld", "Z", false)
def tyX8 : Nat → FieldType := fun k => match k with
  | 0 => .object "SecretLoom$Program"
  | 1 => .object "SecretLoom$Levels"
  | 2 => .object "SecretLoom$Shape"
  | 3 => .object "SecretLoom$Junctions"
  | 4 => .object "SecretLoom$Types"
  | 5 => .object "SecretLoom$Machine"
  | 6 => .array (.object "SecretLoom$Memory")
  | 7 => .array (.object "SecretLoom$Outcome")
  | 8 => .boolean
  | _ => .boolean
abbrev wsX80 : List Cond := u_ws RX8 TX8 10
theorem nmX8 : ∀ a, a < 10 → ∀ b, b < 10 → a ≠ b → (TX8 a).2.1 ≠ (TX8 b).2.1 := by decide +kernel
theorem tyX8_ok : ∀ k, k < 10 → parseFieldDescriptor (TX8 k).2.2.1 = some (tyX8 k) := by decide +kernel
abbrev cX8_init : ByteArray := prog_1_method_1_code
def yX8_init : MethodName := ⟨RX8, "<init>", "()V"⟩
abbrev cX8_instruction : ByteArray := prog_1_method_2_code
def yX8_instruction : MethodName := ⟨RX8, "instruction", "(II)I"⟩
abbrev cX8_clear : ByteArray := prog_1_method_3_code
def yX8_clear : MethodName := ⟨RX8, "clear", "()V"⟩
abbrev cX8_level : ByteArray := prog_1_method_4_code
def yX8_level : MethodName := ⟨RX8, "level", "(III)Z"⟩
abbrev cX8_check : ByteArray := prog_1_method_5_code
def yX8_check : MethodName := ⟨RX8, "check", "()I"⟩
abbrev cX8_surrounding : ByteArray := prog_1_method_6_code
def yX8_surrounding : MethodName := ⟨RX8, "surrounding", "(I)I"⟩
abbrev cX8_pile : ByteArray := prog_1_method_7_code
def yX8_pile : MethodName := ⟨RX8, "pile", "(II)I"⟩
abbrev cX8_junction : ByteArray := prog_1_method_8_code
def yX8_junction : MethodName := ⟨RX8, "junction", "(I)I"⟩
abbrev cX8_let : ByteArray := prog_1_method_9_code
def yX8_let : MethodName := ⟨RX8, "let", "(III)Z"⟩
abbrev cX8_lay : ByteArray := prog_1_method_10_code
def yX8_lay : MethodName := ⟨RX8, "lay", "(IIII)Z"⟩
abbrev cX8_run : ByteArray := prog_1_method_11_code
def yX8_run : MethodName := ⟨RX8, "run", "(II)I"⟩
abbrev cX8_ran : ByteArray := prog_1_method_12_code
def yX8_ran : MethodName := ⟨RX8, "ran", "(II)I"⟩
abbrev cX8_out : ByteArray := prog_1_method_13_code
def yX8_out : MethodName := ⟨RX8, "out", "(III)I"⟩
abbrev cX8_same : ByteArray := prog_1_method_14_code
def yX8_same : MethodName := ⟨RX8, "same", "(I)I"⟩
abbrev cX8_memory : ByteArray := prog_1_method_15_code
def yX8_memory : MethodName := ⟨RX8, "memory", "(II)I"⟩
abbrev cX8_isWellFormed : ByteArray := prog_1_method_16_code
def yX8_isWellFormed : MethodName := ⟨RX8, "isWellFormed", "()Z"⟩
abbrev cX8_typesNow : ByteArray := prog_1_method_17_code
def yX8_typesNow : MethodName := ⟨RX8, "typesNow", "()LSecretLoom$Types;"⟩
abbrev cX8_rowsAgree : ByteArray := prog_1_method_18_code
def yX8_rowsAgree : MethodName := ⟨RX8, "rowsAgree", "(I)Z"⟩
abbrev cX8_isMemory : ByteArray := prog_1_method_19_code
def yX8_isMemory : MethodName := ⟨RX8, "isMemory", "(I)Z"⟩
abbrev cX8_isBetween : ByteArray := prog_1_method_20_code
def yX8_isBetween : MethodName := ⟨RX8, "isBetween", "(II)Z"⟩
abbrev cX8_isBelow : ByteArray := prog_1_method_21_code
def yX8_isBelow : MethodName := ⟨RX8, "isBelow", "(II)Z"⟩
abbrev cX8_bit : ByteArray := prog_1_method_22_code
def yX8_bit : MethodName := ⟨RX8, "bit", "(I)J"⟩
abbrev cX8_holds : ByteArray := prog_1_method_23_code
def yX8_holds : MethodName := ⟨RX8, "holds", "(JI)Z"⟩
abbrev cX8_lowest : ByteArray := prog_1_method_24_code
def yX8_lowest : MethodName := ⟨RX8, "lowest", "(J)I"⟩
def RX9 : String := "SecretLoomModel"
def TX9 : u_T := fun k => match k with
  | 0 => ("SecretLoomModel", "kinds", "[I", true)
  | 1 => ("SecretLoomModel", "numbers", "[I", true)
  | 2 => ("SecretLoomModel", "count", "I", false)
  | 3 => ("SecretLoomModel", "levels", "[I", true)
  | 4 => ("SecretLoomModel", "memory", "[I", true)
  | 5 => ("SecretLoomModel", "seen", "Z", false)
  | 6 => ("SecretLoomModel", "fine", "Z", false)
  | 7 => ("SecretLoomModel", "heights", "[I", true)
  | 8 => ("SecretLoomModel", "junctions", "[I", true)
  | 9 => ("SecretLoomModel", "regions", "[Z", true)
  | 10 => ("SecretLoomModel", "typed", "Z", false)
  | 11 => ("SecretLoomModel", "types", "[I", true)
  | 12 => ("SecretLoomModel", "mark", "[Z", true)
  | 13 => ("SecretLoomModel", "wall", "[Z", true)
  | 14 => ("SecretLoomModel", "ran", "[Z", true)
  | 15 => ("SecretLoomModel", "halted", "[Z", true)
  | 16 => ("SecretLoomModel", "outs", "[I", true)
  | 17 => ("SecretLoomModel", "outChannel", "[I", true)
  | 18 => ("SecretLoomModel", "outValue", "[I", true)
  | 19 => ("SecretLoomModel", "heap", "[I", true)
  | _ => ("SecretLoomModel", "all", "[Z", true)
def tyX9 : Nat → FieldType := fun k => match k with
  | 0 => .array .int
  | 1 => .array .int
  | 2 => .int
  | 3 => .array .int
  | 4 => .array .int
  | 5 => .boolean
  | 6 => .boolean
  | 7 => .array .int
  | 8 => .array .int
  | 9 => .array .boolean
  | 10 => .boolean
  | 11 => .array .int
  | 12 => .array .boolean
  | 13 => .array .boolean
  | 14 => .array .boolean
  | 15 => .array .boolean
  | 16 => .array .int
  | 17 => .array .int
  | 18 => .array .int
  | 19 => .array .int
  | _ => .array .boolean
abbrev wsX90 : List Cond := u_ws RX9 TX9 21
theorem nmX9 : ∀ a, a < 21 → ∀ b, b < 21 → a ≠ b → (TX9 a).2.1 ≠ (TX9 b).2.1 := by decide +kernel
theorem tyX9_ok : ∀ k, k < 21 → parseFieldDescriptor (TX9 k).2.2.1 = some (tyX9 k) := by decide +kernel
abbrev cX9_init : ByteArray := prog_11_method_1_code
def yX9_init : MethodName := ⟨RX9, "<init>", "()V"⟩
abbrev cX9_in : ByteArray := prog_11_method_2_code
def yX9_in : MethodName := ⟨RX9, "in", "(II)Z"⟩
abbrev cX9_canHave : ByteArray := prog_11_method_3_code
def yX9_canHave : MethodName := ⟨RX9, "canHave", "(II)Z"⟩
abbrev cX9_instruction : ByteArray := prog_11_method_4_code
def yX9_instruction : MethodName := ⟨RX9, "instruction", "(II)I"⟩
abbrev cX9_clear : ByteArray := prog_11_method_5_code
def yX9_clear : MethodName := ⟨RX9, "clear", "()V"⟩
abbrev cX9_level : ByteArray := prog_11_method_6_code
def yX9_level : MethodName := ⟨RX9, "level", "(III)Z"⟩
abbrev cX9_takes : ByteArray := prog_11_method_7_code
def yX9_takes : MethodName := ⟨RX9, "takes", "(I)I"⟩
abbrev cX9_gives : ByteArray := prog_11_method_8_code
def yX9_gives : MethodName := ⟨RX9, "gives", "(I)Z"⟩
abbrev cX9_next : ByteArray := prog_11_method_9_code
def yX9_next : MethodName := ⟨RX9, "next", "(I)I"⟩
abbrev cX9_other : ByteArray := prog_11_method_10_code
def yX9_other : MethodName := ⟨RX9, "other", "(I)I"⟩
abbrev cX9_walk : ByteArray := prog_11_method_11_code
def yX9_walk : MethodName := ⟨RX9, "walk", "()Z"⟩
abbrev cX9_unmark : ByteArray := prog_11_method_12_code
def yX9_unmark : MethodName := ⟨RX9, "unmark", "()V"⟩
abbrev cX9_unwall : ByteArray := prog_11_method_13_code
def yX9_unwall : MethodName := ⟨RX9, "unwall", "()V"⟩
abbrev cX9_spread : ByteArray := prog_11_method_14_code
def yX9_spread : MethodName := ⟨RX9, "spread", "()V"⟩
abbrev cX9_leads : ByteArray := prog_11_method_15_code
def yX9_leads : MethodName := ⟨RX9, "leads", "(II)Z"⟩
abbrev cX9_follow : ByteArray := prog_11_method_16_code
def yX9_follow : MethodName := ⟨RX9, "follow", "(I)V"⟩
abbrev cX9_junctionOf : ByteArray := prog_11_method_17_code
def yX9_junctionOf : MethodName := ⟨RX9, "junctionOf", "(I)I"⟩
abbrev cX9_look : ByteArray := prog_11_method_18_code
def yX9_look : MethodName := ⟨RX9, "look", "()V"⟩
abbrev cX9_pileOf : ByteArray := prog_11_method_19_code
def yX9_pileOf : MethodName := ⟨RX9, "pileOf", "(II)I"⟩
abbrev cX9_grows : ByteArray := prog_11_method_20_code
def yX9_grows : MethodName := ⟨RX9, "grows", "(II)Z"⟩
abbrev cX9_taken : ByteArray := prog_11_method_21_code
def yX9_taken : MethodName := ⟨RX9, "taken", "(I)I"⟩
abbrev cX9_put : ByteArray := prog_11_method_22_code
def yX9_put : MethodName := ⟨RX9, "put", "(I)I"⟩
abbrev cX9_flow : ByteArray := prog_11_method_23_code
def yX9_flow : MethodName := ⟨RX9, "flow", "(I)Z"⟩
abbrev cX9_type : ByteArray := prog_11_method_24_code
def yX9_type : MethodName := ⟨RX9, "type", "()Z"⟩
abbrev cX9_isMet : ByteArray := prog_11_method_25_code
def yX9_isMet : MethodName := ⟨RX9, "isMet", "(I)Z"⟩
abbrev cX9_isSafe : ByteArray := prog_11_method_26_code
def yX9_isSafe : MethodName := ⟨RX9, "isSafe", "(I)Z"⟩
abbrev cX9_check : ByteArray := prog_11_method_27_code
def yX9_check : MethodName := ⟨RX9, "check", "()I"⟩
abbrev cX9_surrounding : ByteArray := prog_11_method_28_code
def yX9_surrounding : MethodName := ⟨RX9, "surrounding", "(I)I"⟩
abbrev cX9_pile : ByteArray := prog_11_method_29_code
def yX9_pile : MethodName := ⟨RX9, "pile", "(II)I"⟩
abbrev cX9_junction : ByteArray := prog_11_method_30_code
def yX9_junction : MethodName := ⟨RX9, "junction", "(I)I"⟩
abbrev cX9_let : ByteArray := prog_11_method_31_code
def yX9_let : MethodName := ⟨RX9, "let", "(III)Z"⟩
abbrev cX9_lay : ByteArray := prog_11_method_32_code
def yX9_lay : MethodName := ⟨RX9, "lay", "(IIII)Z"⟩
abbrev cX9_done : ByteArray := prog_11_method_33_code
def yX9_done : MethodName := ⟨RX9, "done", "(III)I"⟩
abbrev cX9_comes : ByteArray := prog_11_method_34_code
def yX9_comes : MethodName := ⟨RX9, "comes", "(III)V"⟩
abbrev cX9_cell : ByteArray := prog_11_method_35_code
def yX9_cell : MethodName := ⟨RX9, "cell", "(III)I"⟩
abbrev cX9_work : ByteArray := prog_11_method_36_code
def yX9_work : MethodName := ⟨RX9, "work", "(III)V"⟩
abbrev cX9_run : ByteArray := prog_11_method_37_code
def yX9_run : MethodName := ⟨RX9, "run", "(II)I"⟩
abbrev cX9_ran : ByteArray := prog_11_method_38_code
def yX9_ran : MethodName := ⟨RX9, "ran", "(II)I"⟩
abbrev cX9_out : ByteArray := prog_11_method_39_code
def yX9_out : MethodName := ⟨RX9, "out", "(III)I"⟩
abbrev cX9_isLow : ByteArray := prog_11_method_40_code
def yX9_isLow : MethodName := ⟨RX9, "isLow", "(II)Z"⟩
abbrev cX9_low : ByteArray := prog_11_method_41_code
def yX9_low : MethodName := ⟨RX9, "low", "(III)I"⟩
abbrev cX9_same : ByteArray := prog_11_method_42_code
def yX9_same : MethodName := ⟨RX9, "same", "(I)I"⟩
abbrev cX9_memory : ByteArray := prog_11_method_43_code
def yX9_memory : MethodName := ⟨RX9, "memory", "(II)I"⟩
def RJ13 : String := "java/lang/Long"
def TJ13 : u_T := fun k => match k with
  | _ => ("", "", "", false)
def tyJ13 : Nat → FieldType := fun k => match k with
  | _ => .int
abbrev wsJ130 : List Cond := u_ws RJ13 TJ13 0
theorem nmJ13 : ∀ a, a < 0 → ∀ b, b < 0 → a ≠ b → (TJ13 a).2.1 ≠ (TJ13 b).2.1 := by decide +kernel
theorem tyJ13_ok : ∀ k, k < 0 → parseFieldDescriptor (TJ13 k).2.2.1 = some (tyJ13 k) := by decide +kernel
abbrev cJ13_bitCount_95d88 : ByteArray := prog_12_method_50_code
def yJ13_bitCount_95d88 : MethodName := ⟨RJ13, "bitCount", "(J)I"⟩
def RJ9 : String := "java/lang/Math"
def TJ9 : u_T := fun k => match k with
  | _ => ("", "", "", false)
def tyJ9 : Nat → FieldType := fun k => match k with
  | _ => .int
abbrev wsJ90 : List Cond := u_ws RJ9 TJ9 0
theorem nmJ9 : ∀ a, a < 0 → ∀ b, b < 0 → a ≠ b → (TJ9 a).2.1 ≠ (TJ9 b).2.1 := by decide +kernel
theorem tyJ9_ok : ∀ k, k < 0 → parseFieldDescriptor (TJ9 k).2.2.1 = some (tyJ9 k) := by decide +kernel
abbrev cJ9_floorMod_7cf53 : ByteArray := prog_13_method_50_code
def yJ9_floorMod_7cf53 : MethodName := ⟨RJ9, "floorMod", "(II)I"⟩
abbrev cJ9_min_7cf53 : ByteArray := prog_13_method_69_code
def yJ9_min_7cf53 : MethodName := ⟨RJ9, "min", "(II)I"⟩
def RJ7 : String := "java/util/Arrays"
def TJ7 : u_T := fun k => match k with
  | _ => ("", "", "", false)
def tyJ7 : Nat → FieldType := fun k => match k with
  | _ => .int
abbrev wsJ70 : List Cond := u_ws RJ7 TJ7 0
theorem nmJ7 : ∀ a, a < 0 → ∀ b, b < 0 → a ≠ b → (TJ7 a).2.1 ≠ (TJ7 b).2.1 := by decide +kernel
theorem tyJ7_ok : ∀ k, k < 0 → parseFieldDescriptor (TJ7 k).2.2.1 = some (tyJ7 k) := by decide +kernel
abbrev cJ7_fill_d0a16 : ByteArray := prog_14_method_101_code
def yJ7_fill_d0a16 : MethodName := ⟨RJ7, "fill", "([JJ)V"⟩
def RL : String := "SecretLoomLaw"
abbrev cL_law : ByteArray := code
def yL_law : MethodName := ⟨RL, "law", "([I)Z"⟩
/-! by class number -/
def xT (c : Nat) : u_T := match c with
  | 0 => TX0
  | 1 => TX1
  | 2 => TX2
  | 3 => TX3
  | 4 => TX4
  | 5 => TX5
  | 6 => TX6
  | 7 => TX7
  | 8 => TX8
  | _ => TX9
def xty (c : Nat) : Nat → FieldType := match c with
  | 0 => tyX0
  | 1 => tyX1
  | 2 => tyX2
  | 3 => tyX3
  | 4 => tyX4
  | 5 => tyX5
  | 6 => tyX6
  | 7 => tyX7
  | 8 => tyX8
  | _ => tyX9
def xN (c : Nat) : Nat := match c with
  | 0 => 9
  | 1 => 3
  | 2 => 3
  | 3 => 1
  | 4 => 5
  | 5 => 3
  | 6 => 5
  | 7 => 8
  | 8 => 10
  | _ => 21
def xnm (c : Nat) : String := match c with
  | 0 => RX0
  | 1 => RX1
  | 2 => RX2
  | 3 => RX3
  | 4 => RX4
  | 5 => RX5
  | 6 => RX6
  | 7 => RX7
  | 8 => RX8
  | 9 => RX9
  | 10 => RJ13
  | 11 => RJ9
  | 12 => RJ7
  | _ => RL
def xcl : List vw_C := [(RX0, TX0, 9), (RX1, TX1, 3), (RX2, TX2, 3), (RX3, TX3, 1), (RX4, TX4, 5), (RX5, TX5, 3), (RX6, TX6, 5), (RX7, TX7, 8), (RX8, TX8, 10), (RX9, TX9, 21)]
def xcomp (k : Nat) : Nat := match k with
  | 23 => 3
  | 24 => 4
  | _ => 99
def xsn (k : Nat) : String := match k with
  | 1 => "NUMBERS"
  | 2 => "TAKES"
  | _ => "PUTS"
end
section
/-- an instruction, its length, what its operand means -/
abbrev xI : Type := Instr × Nat × Nat
/-- class, kind (0 static, 1 instance, 2 constructor), parameters, name, bytes, locals, answer, code by sixteens -/
abbrev xMt : Type := Nat × Nat × Nat × MethodName × ByteArray × Nat × Option FieldType × List (List (Nat × xI))
def mX0_init : xMt := (0, 2, 2, yX0_init, cX0_init, 3, none, [[(0, .aload_n 0, 1, 0), (1, .invokespecial 3, 3, 9999), (4, .aload_n 0, 1, 0), (5, .bipush 64, 2, 0), (7, .newarray .long, 2, 21), (9, .putfield 9, 3, 2), (12, .aload_n 0, 1, 0), (13, .bipush 64, 2, 0), (15, .newarray .long, 2, 21)],
   [(17, .putfield 15, 3, 3), (20, .aload_n 0, 1, 0), (21, .bipush 64, 2, 0), (23, .newarray .long, 2, 21), (25, .putfield 18, 3, 4), (28, .aload_n 0, 1, 0), (29, .bipush 64, 2, 0), (31, .newarray .int, 2, 20)],
   [(33, .putfield 21, 3, 5), (36, .aload_n 0, 1, 0), (37, .bipush 64, 2, 0), (39, .newarray .long, 2, 21), (41, .putfield 25, 3, 6), (44, .aload_n 0, 1, 0), (45, .aload_n 1, 1, 0), (46, .putfield 28, 3, 0)],
   [(49, .aload_n 0, 1, 0), (50, .aload_n 2, 1, 0), (51, .putfield 32, 3, 1), (54, .return_, 1, 0)]])
def mX0_at : xMt := (0, 1, 1, yX0_at, cX0_at, 2, (some .int), [[(0, .aload_n 0, 1, 0), (1, .getfield 28, 3, 0), (4, .iload_n 1, 1, 0), (5, .invokevirtual 36, 3, 41), (8, .ifCond .eq 12, 3, 20), (11, .aload_n 0, 1, 0), (12, .getfield 21, 3, 5), (15, .iload_n 1, 1, 0)],
   [(16, .iaload, 1, 0), (17, .goto 4, 3, 21), (20, .iconst (-1), 1, 0), (21, .ireturn, 1, 0)]])
def mX0_regionOf : xMt := (0, 1, 1, yX0_regionOf, cX0_regionOf, 2, (some .long), [[(0, .aload_n 0, 1, 0), (1, .getfield 28, 3, 0), (4, .iload_n 1, 1, 0), (5, .invokevirtual 36, 3, 41), (8, .ifCond .eq 12, 3, 20), (11, .aload_n 0, 1, 0), (12, .getfield 25, 3, 6), (15, .iload_n 1, 1, 0)],
   [(16, .laload, 1, 0), (17, .goto 4, 3, 21), (20, .lconst 0, 1, 0), (21, .lreturn, 1, 0)]])
def mX0_find : xMt := (0, 1, 0, yX0_find, cX0_find, 2, none, [[(0, .aload_n 0, 1, 0), (1, .invokevirtual 42, 3, 4), (4, .aload_n 0, 1, 0), (5, .invokevirtual 45, 3, 6), (8, .iconst 0, 1, 0), (9, .istore_n 1, 1, 0), (10, .iload_n 1, 1, 0), (11, .aload_n 0, 1, 0), (12, .getfield 28, 3, 0), (15, .invokevirtual 48, 3, 40)],
   [(18, .if_icmp .ge 89, 3, 107), (21, .aload_n 0, 1, 0), (22, .getfield 21, 3, 5), (25, .iload_n 1, 1, 0), (26, .iconst (-1), 1, 0), (27, .iastore, 1, 0), (28, .aload_n 0, 1, 0), (29, .getfield 25, 3, 6)],
   [(32, .iload_n 1, 1, 0), (33, .lconst 0, 1, 0), (34, .lastore, 1, 0), (35, .aload_n 0, 1, 0), (36, .getfield 32, 3, 1), (39, .iload_n 1, 1, 0), (40, .invokevirtual 52, 3, 51), (43, .ifCond .eq 58, 3, 101), (46, .aload_n 0, 1, 0), (47, .getfield 28, 3, 0)],
   [(50, .iload_n 1, 1, 0), (51, .invokevirtual 57, 3, 42), (54, .iconst 5, 1, 0), (55, .if_icmp .ne 46, 3, 101), (58, .aload_n 0, 1, 0), (59, .getfield 21, 3, 5), (62, .iload_n 1, 1, 0), (63, .aload_n 0, 1, 0)],
   [(64, .iload_n 1, 1, 0), (65, .invokevirtual 61, 3, 7), (68, .iastore, 1, 0), (69, .aload_n 0, 1, 0), (70, .getfield 25, 3, 6), (73, .iload_n 1, 1, 0), (74, .aload_n 0, 1, 0), (75, .getfield 9, 3, 2), (78, .iload_n 1, 1, 0), (79, .laload, 1, 0)],
   [(80, .aload_n 0, 1, 0), (81, .getfield 9, 3, 2), (84, .aload_n 0, 1, 0), (85, .getfield 21, 3, 5), (88, .iload_n 1, 1, 0), (89, .iaload, 1, 0), (90, .invokestatic 64, 3, 88), (93, .ldc2_w 68, 3, 18446744073709551615)],
   [(96, .lxor, 1, 0), (97, .invokestatic 70, 3, 8), (100, .lastore, 1, 0), (101, .iinc 1 1, 3, 0), (104, .goto (-94), 3, 10), (107, .return_, 1, 0)]])
def mX0_findEdges : xMt := (0, 1, 0, yX0_findEdges, cX0_findEdges, 2, none, [[(0, .aload_n 0, 1, 0), (1, .getfield 9, 3, 2), (4, .lconst 0, 1, 0), (5, .invokestatic 74, 3, 137), (8, .aload_n 0, 1, 0), (9, .getfield 15, 3, 3), (12, .lconst 0, 1, 0), (13, .invokestatic 74, 3, 137)],
   [(16, .aload_n 0, 1, 0), (17, .lconst 0, 1, 0), (18, .putfield 80, 3, 7), (21, .iconst 0, 1, 0), (22, .istore_n 1, 1, 0), (23, .iload_n 1, 1, 0), (24, .aload_n 0, 1, 0), (25, .getfield 28, 3, 0), (28, .invokevirtual 48, 3, 40), (31, .if_icmp .ge 75, 3, 106)],
   [(34, .aload_n 0, 1, 0), (35, .getfield 32, 3, 1), (38, .iload_n 1, 1, 0), (39, .invokevirtual 52, 3, 51), (42, .ifCond .ne 6, 3, 48), (45, .goto 55, 3, 100)],
   [(48, .aload_n 0, 1, 0), (49, .getfield 28, 3, 0), (52, .iload_n 1, 1, 0), (53, .invokevirtual 57, 3, 42), (56, .bipush 9, 2, 0), (58, .if_icmp .ne 16, 3, 74), (61, .aload_n 0, 1, 0), (62, .dup, 1, 0), (63, .getfield 80, 3, 7)],
   [(66, .iload_n 1, 1, 0), (67, .invokestatic 64, 3, 88), (70, .lor, 1, 0), (71, .putfield 80, 3, 7), (74, .aload_n 0, 1, 0), (75, .iload_n 1, 1, 0), (76, .aload_n 0, 1, 0), (77, .getfield 28, 3, 0)],
   [(80, .iload_n 1, 1, 0), (81, .invokevirtual 84, 3, 46), (84, .invokevirtual 87, 3, 5), (87, .aload_n 0, 1, 0), (88, .iload_n 1, 1, 0), (89, .aload_n 0, 1, 0), (90, .getfield 28, 3, 0), (93, .iload_n 1, 1, 0), (94, .invokevirtual 91, 3, 47)],
   [(97, .invokevirtual 87, 3, 5), (100, .iinc 1 1, 3, 0), (103, .goto (-80), 3, 23), (106, .return_, 1, 0)]])
def mX0_addEdge : xMt := (0, 1, 2, yX0_addEdge, cX0_addEdge, 3, none, [[(0, .aload_n 0, 1, 0), (1, .getfield 28, 3, 0), (4, .iload_n 2, 1, 0), (5, .invokevirtual 36, 3, 41), (8, .ifCond .eq 29, 3, 37), (11, .aload_n 0, 1, 0), (12, .getfield 9, 3, 2), (15, .iload_n 1, 1, 0)],
   [(16, .dup2, 1, 0), (17, .laload, 1, 0), (18, .iload_n 2, 1, 0), (19, .invokestatic 64, 3, 88), (22, .lor, 1, 0), (23, .lastore, 1, 0), (24, .aload_n 0, 1, 0), (25, .getfield 15, 3, 3), (28, .iload_n 2, 1, 0), (29, .dup2, 1, 0), (30, .laload, 1, 0), (31, .iload_n 1, 1, 0)],
   [(32, .invokestatic 64, 3, 88), (35, .lor, 1, 0), (36, .lastore, 1, 0), (37, .return_, 1, 0)]])
def mX0_findPassing : xMt := (0, 1, 0, yX0_findPassing, cX0_findPassing, 4, none, [[(0, .aload_n 0, 1, 0), (1, .aload_n 0, 1, 0), (2, .getfield 80, 3, 7), (5, .aload_n 0, 1, 0), (6, .getfield 15, 3, 3), (9, .ldc2_w 68, 3, 18446744073709551615), (12, .invokestatic 70, 3, 8), (15, .putfield 94, 3, 8)],
   [(18, .iconst 0, 1, 0), (19, .istore_n 1, 1, 0), (20, .iload_n 1, 1, 0), (21, .aload_n 0, 1, 0), (22, .getfield 28, 3, 0), (25, .invokevirtual 48, 3, 40), (28, .if_icmp .ge 47, 3, 75), (31, .iload_n 1, 1, 0)],
   [(32, .invokestatic 64, 3, 88), (35, .ldc2_w 68, 3, 18446744073709551615), (38, .lxor, 1, 0), (39, .lstore_n 2, 1, 0), (40, .aload_n 0, 1, 0), (41, .getfield 18, 3, 4), (44, .iload_n 1, 1, 0), (45, .aload_n 0, 1, 0), (46, .getfield 94, 3, 8)],
   [(49, .lload_n 2, 1, 0), (50, .land, 1, 0), (51, .aload_n 0, 1, 0), (52, .getfield 80, 3, 7), (55, .aload_n 0, 1, 0), (56, .getfield 15, 3, 3), (59, .lload_n 2, 1, 0), (60, .invokestatic 70, 3, 8), (63, .ldc2_w 68, 3, 18446744073709551615)],
   [(66, .lxor, 1, 0), (67, .land, 1, 0), (68, .lastore, 1, 0), (69, .iinc 1 1, 3, 0), (72, .goto (-52), 3, 20), (75, .return_, 1, 0)]])
def mX0_nearestFor : xMt := (0, 1, 1, yX0_nearestFor, cX0_nearestFor, 8, (some .int), [[(0, .aload_n 0, 1, 0), (1, .getfield 94, 3, 8), (4, .iload_n 1, 1, 0), (5, .invokestatic 97, 3, 89), (8, .ifCond .ne 5, 3, 13), (11, .iconst (-1), 1, 0), (12, .ireturn, 1, 0), (13, .lconst 0, 1, 0), (14, .lstore_n 2, 1, 0), (15, .ldc2_w 68, 3, 18446744073709551615)],
   [(18, .lstore 4, 2, 0), (20, .iconst 0, 1, 0), (21, .istore 6, 2, 0), (23, .iload 6, 2, 0), (25, .aload_n 0, 1, 0), (26, .getfield 28, 3, 0), (29, .invokevirtual 48, 3, 40)],
   [(32, .if_icmp .ge 49, 3, 81), (35, .aload_n 0, 1, 0), (36, .getfield 18, 3, 4), (39, .iload 6, 2, 0), (41, .laload, 1, 0), (42, .iload_n 1, 1, 0), (43, .invokestatic 97, 3, 89), (46, .ifCond .eq 29, 3, 75)],
   [(49, .lload_n 2, 1, 0), (50, .iload 6, 2, 0), (52, .invokestatic 64, 3, 88), (55, .lor, 1, 0), (56, .lstore_n 2, 1, 0), (57, .lload 4, 2, 0), (59, .aload_n 0, 1, 0), (60, .getfield 18, 3, 4), (63, .iload 6, 2, 0)],
   [(65, .laload, 1, 0), (66, .iload 6, 2, 0), (68, .invokestatic 64, 3, 88), (71, .lor, 1, 0), (72, .land, 1, 0), (73, .lstore 4, 2, 0), (75, .iinc 6 1, 3, 0), (78, .goto (-55), 3, 23)],
   [(81, .lload_n 2, 1, 0), (82, .lload 4, 2, 0), (84, .land, 1, 0), (85, .lstore 6, 2, 0), (87, .lload 6, 2, 0), (89, .lconst 0, 1, 0), (90, .lcmp, 1, 0), (91, .ifCond .ne 13, 3, 104), (94, .aload_n 0, 1, 0), (95, .getfield 28, 3, 0)],
   [(98, .invokevirtual 48, 3, 40), (101, .goto 8, 3, 109), (104, .lload 6, 2, 0), (106, .invokestatic 101, 3, 90), (109, .ireturn, 1, 0)]])
def mX0_reach : xMt := (0, 0, 3, yX0_reach, cX0_reach, 11, (some .long), [[(0, .lconst 0, 1, 0), (1, .lstore 5, 2, 0), (3, .lload_n 0, 1, 0), (4, .lload_n 3, 1, 0), (5, .land, 1, 0), (6, .lstore 7, 2, 0), (8, .iconst 0, 1, 0), (9, .istore 9, 2, 0), (11, .iload 9, 2, 0), (13, .bipush 64, 2, 0), (15, .if_icmp .ge 51, 3, 66)],
   [(18, .lload 7, 2, 0), (20, .lconst 0, 1, 0), (21, .lcmp, 1, 0), (22, .ifCond .eq 44, 3, 66), (25, .lload 7, 2, 0), (27, .invokestatic 101, 3, 90), (30, .istore 10, 2, 0)],
   [(32, .lload 5, 2, 0), (34, .iload 10, 2, 0), (36, .invokestatic 64, 3, 88), (39, .lor, 1, 0), (40, .lstore 5, 2, 0), (42, .lload 7, 2, 0), (44, .aload_n 2, 1, 0), (45, .iload 10, 2, 0), (47, .laload, 1, 0)],
   [(48, .lor, 1, 0), (49, .lload_n 3, 1, 0), (50, .land, 1, 0), (51, .lload 5, 2, 0), (53, .ldc2_w 68, 3, 18446744073709551615), (56, .lxor, 1, 0), (57, .land, 1, 0), (58, .lstore 7, 2, 0), (60, .iinc 9 1, 3, 0), (63, .goto (-52), 3, 11)],
   [(66, .lload 5, 2, 0), (68, .lreturn, 1, 0)]])
def mX1_init : xMt := (1, 2, 0, yX1_init, cX1_init, 1, none, [[(0, .aload_n 0, 1, 0), (1, .invokespecial 3, 3, 9999), (4, .aload_n 0, 1, 0), (5, .bipush 8, 2, 0), (7, .newarray .int, 2, 20), (9, .putfield 9, 3, 64), (12, .aload_n 0, 1, 0), (13, .iconst 2, 1, 0), (14, .newarray .int, 2, 20)],
   [(16, .putfield 15, 3, 65), (19, .aload_n 0, 1, 0), (20, .iconst 4, 1, 0), (21, .newarray .int, 2, 20), (23, .putfield 18, 3, 66), (26, .return_, 1, 0)]])
def mX1_set : xMt := (1, 1, 3, yX1_set, cX1_set, 4, (some .boolean), [[(0, .iload_n 1, 1, 0), (1, .tableswitch 57 0 2 #[27, 37, 47], 27, 0)],
   [(28, .aload_n 0, 1, 0), (29, .getfield 9, 3, 64)],
   [(32, .iload_n 2, 1, 0), (33, .iload_n 3, 1, 0), (34, .invokestatic 21, 3, 14), (37, .ireturn, 1, 0), (38, .aload_n 0, 1, 0), (39, .getfield 15, 3, 65), (42, .iload_n 2, 1, 0), (43, .iload_n 3, 1, 0), (44, .invokestatic 21, 3, 14), (47, .ireturn, 1, 0)],
   [(48, .aload_n 0, 1, 0), (49, .getfield 18, 3, 66), (52, .iload_n 2, 1, 0), (53, .iload_n 3, 1, 0), (54, .invokestatic 21, 3, 14), (57, .ireturn, 1, 0), (58, .iconst 0, 1, 0), (59, .ireturn, 1, 0)]])
def mX1_ofVariable : xMt := (1, 1, 1, yX1_ofVariable, cX1_ofVariable, 2, (some .int), [[(0, .iload_n 1, 1, 0), (1, .bipush 8, 2, 0), (3, .invokestatic 25, 3, 86), (6, .ifCond .eq 12, 3, 18), (9, .aload_n 0, 1, 0), (10, .getfield 9, 3, 64), (13, .iload_n 1, 1, 0), (14, .iaload, 1, 0), (15, .goto 4, 3, 19)],
   [(18, .iconst 0, 1, 0), (19, .ireturn, 1, 0)]])
def mX1_ofArray : xMt := (1, 1, 1, yX1_ofArray, cX1_ofArray, 2, (some .int), [[(0, .iload_n 1, 1, 0), (1, .iconst 2, 1, 0), (2, .invokestatic 25, 3, 86), (5, .ifCond .eq 12, 3, 17), (8, .aload_n 0, 1, 0), (9, .getfield 15, 3, 65), (12, .iload_n 1, 1, 0), (13, .iaload, 1, 0), (14, .goto 4, 3, 18)],
   [(17, .iconst 0, 1, 0), (18, .ireturn, 1, 0)]])
def mX1_ofChannel : xMt := (1, 1, 1, yX1_ofChannel, cX1_ofChannel, 2, (some .int), [[(0, .iload_n 1, 1, 0), (1, .iconst 4, 1, 0), (2, .invokestatic 25, 3, 86), (5, .ifCond .eq 12, 3, 17), (8, .aload_n 0, 1, 0), (9, .getfield 18, 3, 66), (12, .iload_n 1, 1, 0), (13, .iaload, 1, 0), (14, .goto 4, 3, 18)],
   [(17, .iconst 0, 1, 0), (18, .ireturn, 1, 0)]])
def mX1_setIn : xMt := (1, 0, 3, yX1_setIn, cX1_setIn, 3, (some .boolean), [[(0, .iload_n 1, 1, 0), (1, .aload_n 0, 1, 0), (2, .arraylength, 1, 0), (3, .invokestatic 25, 3, 86), (6, .ifCond .eq 11, 3, 17), (9, .iload_n 2, 1, 0), (10, .iconst 4, 1, 0), (11, .invokestatic 25, 3, 86), (14, .ifCond .ne 5, 3, 19)],
   [(17, .iconst 0, 1, 0), (18, .ireturn, 1, 0), (19, .aload_n 0, 1, 0), (20, .iload_n 1, 1, 0), (21, .iload_n 2, 1, 0), (22, .iastore, 1, 0), (23, .iconst 1, 1, 0), (24, .ireturn, 1, 0)]])
def mX2_init : xMt := (2, 2, 1, yX2_init, cX2_init, 2, none, [[(0, .aload_n 0, 1, 0), (1, .invokespecial 3, 3, 9999), (4, .aload_n 0, 1, 0), (5, .bipush 16, 2, 0), (7, .newarray .int, 2, 20), (9, .putfield 9, 3, 129), (12, .aload_n 0, 1, 0), (13, .aload_n 1, 1, 0), (14, .putfield 15, 3, 128)],
   [(17, .return_, 1, 0)]])
def mX2_work : xMt := (2, 1, 3, yX2_work, cX2_work, 6, (some .int), [[(0, .aload_n 2, 1, 0), (1, .invokevirtual 19, 3, 34), (4, .aload_n 0, 1, 0), (5, .iconst 0, 1, 0), (6, .putfield 24, 3, 130), (9, .iconst 0, 1, 0), (10, .istore 4, 2, 0), (12, .iconst 0, 1, 0), (13, .istore 5, 2, 0), (15, .iload 5, 2, 0)],
   [(17, .iload_n 3, 1, 0), (18, .if_icmp .ge 26, 3, 44), (21, .aload_n 2, 1, 0), (22, .invokevirtual 28, 3, 29), (25, .ifCond .ne 19, 3, 44), (28, .aload_n 0, 1, 0), (29, .iload 4, 2, 0), (31, .aload_n 1, 1, 0)],
   [(32, .aload_n 2, 1, 0), (33, .invokevirtual 32, 3, 17), (36, .istore 4, 2, 0), (38, .iinc 5 1, 3, 0), (41, .goto (-26), 3, 15), (44, .iload 5, 2, 0), (46, .ireturn, 1, 0)]])
def mX2_doAt : xMt := (2, 1, 3, yX2_doAt, cX2_doAt, 5, (some .int), [[(0, .aload_n 0, 1, 0), (1, .getfield 15, 3, 128), (4, .iload_n 1, 1, 0), (5, .invokevirtual 36, 3, 43), (8, .istore 4, 2, 0), (10, .aload_n 0, 1, 0), (11, .getfield 15, 3, 128), (14, .iload_n 1, 1, 0), (15, .invokevirtual 42, 3, 42)],
   [(18, .tableswitch 156 0 8 #[50, 59, 72, 85, 94, 97, 113, 133, 143], 50, 0)],
   [],
   [],
   [(68, .aload_n 0, 1, 0), (69, .iload 4, 2, 0), (71, .invokevirtual 45, 3, 21), (74, .goto 104, 3, 178), (77, .aload_n 0, 1, 0), (78, .aload_n 2, 1, 0), (79, .iload 4, 2, 0)],
   [(81, .invokevirtual 49, 3, 25), (84, .invokevirtual 45, 3, 21), (87, .goto 91, 3, 178), (90, .aload_n 2, 1, 0), (91, .iload 4, 2, 0), (93, .aload_n 0, 1, 0), (94, .invokevirtual 54, 3, 22)],
   [(97, .invokevirtual 58, 3, 26), (100, .goto 78, 3, 178), (103, .aload_n 0, 1, 0), (104, .iload 4, 2, 0), (106, .invokevirtual 62, 3, 19), (109, .goto 69, 3, 178)],
   [(112, .iload 4, 2, 0), (114, .ireturn, 1, 0), (115, .aload_n 0, 1, 0), (116, .invokevirtual 54, 3, 22), (119, .ifCond .ne 8, 3, 127), (122, .iload 4, 2, 0), (124, .goto 6, 3, 130), (127, .iload_n 1, 1, 0)],
   [(128, .iconst 1, 1, 0), (129, .iadd, 1, 0), (130, .ireturn, 1, 0), (131, .aload_n 0, 1, 0), (132, .aload_n 2, 1, 0), (133, .iload 4, 2, 0), (135, .aload_n 0, 1, 0), (136, .invokevirtual 54, 3, 22), (139, .invokestatic 65, 3, 24), (142, .invokevirtual 49, 3, 25)],
   [(145, .invokevirtual 45, 3, 21), (148, .goto 30, 3, 178), (151, .aload_n 0, 1, 0), (152, .aload_n 2, 1, 0), (153, .iload 4, 2, 0), (155, .invokevirtual 69, 3, 18), (158, .goto 20, 3, 178)],
   [(161, .aload_n 3, 1, 0), (162, .iload 4, 2, 0), (164, .aload_n 0, 1, 0), (165, .invokevirtual 54, 3, 22), (168, .invokevirtual 73, 3, 36), (171, .goto 7, 3, 178), (174, .aload_n 3, 1, 0), (175, .invokevirtual 76, 3, 35)],
   [(178, .iload_n 1, 1, 0), (179, .iconst 1, 1, 0), (180, .iadd, 1, 0), (181, .ireturn, 1, 0)]])
def mX2_layInto : xMt := (2, 1, 2, yX2_layInto, cX2_layInto, 5, none, [[(0, .aload_n 0, 1, 0), (1, .invokevirtual 54, 3, 22), (4, .istore_n 3, 1, 0), (5, .aload_n 0, 1, 0), (6, .invokevirtual 54, 3, 22), (9, .istore 4, 2, 0), (11, .aload_n 1, 1, 0), (12, .iload_n 2, 1, 0), (13, .iload 4, 2, 0), (15, .invokestatic 65, 3, 24)],
   [(18, .iload_n 3, 1, 0), (19, .invokevirtual 58, 3, 26), (22, .return_, 1, 0)]])
def mX2_doWithTwo : xMt := (2, 1, 1, yX2_doWithTwo, cX2_doWithTwo, 4, none, [[(0, .aload_n 0, 1, 0), (1, .invokevirtual 54, 3, 22), (4, .istore_n 2, 1, 0), (5, .aload_n 0, 1, 0), (6, .invokevirtual 54, 3, 22), (9, .istore_n 3, 1, 0), (10, .aload_n 0, 1, 0), (11, .iload_n 1, 1, 0), (12, .iload_n 3, 1, 0), (13, .iload_n 2, 1, 0), (14, .invokestatic 79, 3, 20)],
   [(17, .invokevirtual 45, 3, 21), (20, .return_, 1, 0)]])
def mX2_resultOf : xMt := (2, 0, 3, yX2_resultOf, cX2_resultOf, 3, (some .int), [[(0, .iload_n 0, 1, 0), (1, .tableswitch 77 0 5 #[39, 43, 47, 51, 62, 73], 39, 0)],
   [],
   [(40, .iload_n 1, 1, 0), (41, .iload_n 2, 1, 0), (42, .iadd, 1, 0), (43, .ireturn, 1, 0), (44, .iload_n 1, 1, 0), (45, .iload_n 2, 1, 0), (46, .isub, 1, 0), (47, .ireturn, 1, 0)],
   [(48, .iload_n 1, 1, 0), (49, .iload_n 2, 1, 0), (50, .imul, 1, 0), (51, .ireturn, 1, 0), (52, .iload_n 1, 1, 0), (53, .iload_n 2, 1, 0), (54, .if_icmp .ge 7, 3, 61), (57, .iconst 1, 1, 0), (58, .goto 4, 3, 62), (61, .iconst 0, 1, 0), (62, .ireturn, 1, 0), (63, .iload_n 1, 1, 0)],
   [(64, .iload_n 2, 1, 0), (65, .if_icmp .ne 7, 3, 72), (68, .iconst 1, 1, 0), (69, .goto 4, 3, 73), (72, .iconst 0, 1, 0), (73, .ireturn, 1, 0), (74, .iload_n 1, 1, 0), (75, .iload_n 2, 1, 0), (76, .iand, 1, 0), (77, .ireturn, 1, 0), (78, .iload_n 1, 1, 0), (79, .iload_n 2, 1, 0)],
   [(80, .ior, 1, 0), (81, .ireturn, 1, 0)]])
def mX2_put : xMt := (2, 1, 1, yX2_put, cX2_put, 2, none, [[(0, .aload_n 0, 1, 0), (1, .getfield 24, 3, 130), (4, .bipush 16, 2, 0), (6, .if_icmp .ge 23, 3, 29), (9, .aload_n 0, 1, 0), (10, .getfield 9, 3, 129), (13, .aload_n 0, 1, 0), (14, .getfield 24, 3, 130)],
   [(17, .iload_n 1, 1, 0), (18, .iastore, 1, 0), (19, .aload_n 0, 1, 0), (20, .dup, 1, 0), (21, .getfield 24, 3, 130), (24, .iconst 1, 1, 0), (25, .iadd, 1, 0), (26, .putfield 24, 3, 130), (29, .return_, 1, 0)]])
def mX2_take : xMt := (2, 1, 0, yX2_take, cX2_take, 1, (some .int), [[(0, .aload_n 0, 1, 0), (1, .getfield 24, 3, 130), (4, .ifCond .gt 5, 3, 9), (7, .iconst 0, 1, 0), (8, .ireturn, 1, 0), (9, .aload_n 0, 1, 0), (10, .dup, 1, 0), (11, .getfield 24, 3, 130), (14, .iconst 1, 1, 0), (15, .isub, 1, 0)],
   [(16, .putfield 24, 3, 130), (19, .aload_n 0, 1, 0), (20, .getfield 9, 3, 129), (23, .aload_n 0, 1, 0), (24, .getfield 24, 3, 130), (27, .iaload, 1, 0), (28, .ireturn, 1, 0)]])
def mX3_init : xMt := (3, 2, 0, yX3_init, cX3_init, 1, none, [[(0, .aload_n 0, 1, 0), (1, .invokespecial 3, 3, 9999), (4, .aload_n 0, 1, 0), (5, .bipush 24, 2, 0), (7, .newarray .int, 2, 20), (9, .putfield 11, 3, 192), (12, .return_, 1, 0)]])
def mX3_cellOf : xMt := (3, 0, 2, yX3_cellOf, cX3_cellOf, 2, (some .int), [[(0, .bipush 8, 2, 0), (2, .iload_n 0, 1, 0), (3, .bipush 8, 2, 0), (5, .imul, 1, 0), (6, .iadd, 1, 0), (7, .iload_n 1, 1, 0), (8, .bipush 8, 2, 0), (10, .invokestatic 15, 3, 135), (13, .iadd, 1, 0), (14, .ireturn, 1, 0)]])
def mX3_get : xMt := (3, 1, 1, yX3_get, cX3_get, 2, (some .int), [[(0, .iload_n 1, 1, 0), (1, .bipush 24, 2, 0), (3, .invokestatic 21, 3, 86), (6, .ifCond .eq 12, 3, 18), (9, .aload_n 0, 1, 0), (10, .getfield 11, 3, 192), (13, .iload_n 1, 1, 0), (14, .iaload, 1, 0), (15, .goto 4, 3, 19)],
   [(18, .iconst 0, 1, 0), (19, .ireturn, 1, 0)]])
def mX3_set : xMt := (3, 1, 2, yX3_set, cX3_set, 3, none, [[(0, .iload_n 1, 1, 0), (1, .bipush 24, 2, 0), (3, .invokestatic 21, 3, 86), (6, .ifCond .eq 10, 3, 16), (9, .aload_n 0, 1, 0), (10, .getfield 11, 3, 192), (13, .iload_n 1, 1, 0), (14, .iload_n 2, 1, 0), (15, .iastore, 1, 0)],
   [(16, .return_, 1, 0)]])
def mX4_init : xMt := (4, 2, 0, yX4_init, cX4_init, 1, none, [[(0, .aload_n 0, 1, 0), (1, .invokespecial 3, 3, 9999), (4, .aload_n 0, 1, 0), (5, .bipush 64, 2, 0), (7, .newarray .int, 2, 20), (9, .putfield 9, 3, 256), (12, .aload_n 0, 1, 0), (13, .bipush 64, 2, 0), (15, .newarray .int, 2, 20)],
   [(17, .putfield 15, 3, 257), (20, .return_, 1, 0)]])
def mX4_isThere : xMt := (4, 1, 0, yX4_isThere, cX4_isThere, 1, (some .boolean), [[(0, .aload_n 0, 1, 0), (1, .getfield 18, 3, 258), (4, .ireturn, 1, 0)]])
def mX4_isHalted : xMt := (4, 1, 0, yX4_isHalted, cX4_isHalted, 1, (some .boolean), [[(0, .aload_n 0, 1, 0), (1, .getfield 22, 3, 259), (4, .ireturn, 1, 0)]])
def mX4_count : xMt := (4, 1, 0, yX4_count, cX4_count, 1, (some .int), [[(0, .aload_n 0, 1, 0), (1, .getfield 25, 3, 260), (4, .ireturn, 1, 0)]])
def mX4_kept : xMt := (4, 1, 0, yX4_kept, cX4_kept, 1, (some .int), [[(0, .aload_n 0, 1, 0), (1, .getfield 25, 3, 260), (4, .bipush 64, 2, 0), (6, .invokestatic 29, 3, 136), (9, .ireturn, 1, 0)]])
def mX4_channelAt : xMt := (4, 1, 1, yX4_channelAt, cX4_channelAt, 2, (some .int), [[(0, .iload_n 1, 1, 0), (1, .aload_n 0, 1, 0), (2, .invokevirtual 35, 3, 31), (5, .invokestatic 39, 3, 86), (8, .ifCond .eq 12, 3, 20), (11, .aload_n 0, 1, 0), (12, .getfield 9, 3, 256), (15, .iload_n 1, 1, 0)],
   [(16, .iaload, 1, 0), (17, .goto 4, 3, 21), (20, .iconst 0, 1, 0), (21, .ireturn, 1, 0)]])
def mX4_intAt : xMt := (4, 1, 1, yX4_intAt, cX4_intAt, 2, (some .int), [[(0, .iload_n 1, 1, 0), (1, .aload_n 0, 1, 0), (2, .invokevirtual 35, 3, 31), (5, .invokestatic 39, 3, 86), (8, .ifCond .eq 12, 3, 20), (11, .aload_n 0, 1, 0), (12, .getfield 15, 3, 257), (15, .iload_n 1, 1, 0)],
   [(16, .iaload, 1, 0), (17, .goto 4, 3, 21), (20, .iconst 0, 1, 0), (21, .ireturn, 1, 0)]])
def mX4_begin : xMt := (4, 1, 0, yX4_begin, cX4_begin, 1, none, [[(0, .aload_n 0, 1, 0), (1, .iconst 1, 1, 0), (2, .putfield 18, 3, 258), (5, .aload_n 0, 1, 0), (6, .iconst 0, 1, 0), (7, .putfield 22, 3, 259), (10, .aload_n 0, 1, 0), (11, .iconst 0, 1, 0), (12, .putfield 25, 3, 260), (15, .return_, 1, 0)]])
def mX4_halt : xMt := (4, 1, 0, yX4_halt, cX4_halt, 1, none, [[(0, .aload_n 0, 1, 0), (1, .iconst 1, 1, 0), (2, .putfield 22, 3, 259), (5, .return_, 1, 0)]])
def mX4_add : xMt := (4, 1, 2, yX4_add, cX4_add, 3, none, [[(0, .aload_n 0, 1, 0), (1, .getfield 25, 3, 260), (4, .bipush 64, 2, 0), (6, .if_icmp .ge 23, 3, 29), (9, .aload_n 0, 1, 0), (10, .getfield 9, 3, 256), (13, .aload_n 0, 1, 0), (14, .getfield 25, 3, 260)],
   [(17, .iload_n 1, 1, 0), (18, .iastore, 1, 0), (19, .aload_n 0, 1, 0), (20, .getfield 15, 3, 257), (23, .aload_n 0, 1, 0), (24, .getfield 25, 3, 260), (27, .iload_n 2, 1, 0), (28, .iastore, 1, 0), (29, .aload_n 0, 1, 0), (30, .dup, 1, 0), (31, .getfield 25, 3, 260)],
   [(34, .iconst 1, 1, 0), (35, .iadd, 1, 0), (36, .putfield 25, 3, 260), (39, .return_, 1, 0)]])
def mX4_nextSeen : xMt := (4, 1, 3, yX4_nextSeen, cX4_nextSeen, 5, (some .int), [[(0, .iload_n 1, 1, 0), (1, .istore 4, 2, 0), (3, .iload 4, 2, 0), (5, .aload_n 0, 1, 0), (6, .invokevirtual 35, 3, 31), (9, .if_icmp .ge 29, 3, 38), (12, .aload_n 3, 1, 0), (13, .aload_n 0, 1, 0), (14, .iload 4, 2, 0)],
   [(16, .invokevirtual 43, 3, 32), (19, .invokevirtual 47, 3, 13), (22, .iload_n 2, 1, 0), (23, .invokestatic 52, 3, 87), (26, .ifCond .eq 6, 3, 32), (29, .iload 4, 2, 0), (31, .ireturn, 1, 0)],
   [(32, .iinc 4 1, 3, 0), (35, .goto (-32), 3, 3), (38, .iconst (-1), 1, 0), (39, .ireturn, 1, 0)]])
def mX4_isAlike : xMt := (4, 1, 3, yX4_isAlike, cX4_isAlike, 4, (some .boolean), [[(0, .aload_n 0, 1, 0), (1, .iload_n 1, 1, 0), (2, .invokevirtual 43, 3, 32), (5, .aload_n 2, 1, 0), (6, .iload_n 3, 1, 0), (7, .invokevirtual 43, 3, 32), (10, .if_icmp .ne 20, 3, 30), (13, .aload_n 0, 1, 0), (14, .iload_n 1, 1, 0), (15, .invokevirtual 55, 3, 33)],
   [(18, .aload_n 2, 1, 0), (19, .iload_n 3, 1, 0), (20, .invokevirtual 55, 3, 33), (23, .if_icmp .ne 7, 3, 30), (26, .iconst 1, 1, 0), (27, .goto 4, 3, 31), (30, .iconst 0, 1, 0), (31, .ireturn, 1, 0)]])
def mX5_init : xMt := (5, 2, 0, yX5_init, cX5_init, 1, none, [[(0, .aload_n 0, 1, 0), (1, .invokespecial 3, 3, 9999), (4, .aload_n 0, 1, 0), (5, .bipush 64, 2, 0), (7, .newarray .int, 2, 20), (9, .putfield 9, 3, 320), (12, .aload_n 0, 1, 0), (13, .bipush 64, 2, 0), (15, .newarray .int, 2, 20)],
   [(17, .putfield 15, 3, 321), (20, .return_, 1, 0)]])
def mX5_size : xMt := (5, 1, 0, yX5_size, cX5_size, 1, (some .int), [[(0, .aload_n 0, 1, 0), (1, .getfield 18, 3, 322), (4, .ireturn, 1, 0)]])
def mX5_has : xMt := (5, 1, 1, yX5_has, cX5_has, 2, (some .boolean), [[(0, .iload_n 1, 1, 0), (1, .ifCond .lt 15, 3, 16), (4, .iload_n 1, 1, 0), (5, .aload_n 0, 1, 0), (6, .getfield 18, 3, 322), (9, .if_icmp .ge 7, 3, 16), (12, .iconst 1, 1, 0), (13, .goto 4, 3, 17)],
   [(16, .iconst 0, 1, 0), (17, .ireturn, 1, 0)]])
def mX5_kindAt : xMt := (5, 1, 1, yX5_kindAt, cX5_kindAt, 2, (some .int), [[(0, .aload_n 0, 1, 0), (1, .iload_n 1, 1, 0), (2, .invokevirtual 22, 3, 41), (5, .ifCond .eq 12, 3, 17), (8, .aload_n 0, 1, 0), (9, .getfield 9, 3, 320), (12, .iload_n 1, 1, 0), (13, .iaload, 1, 0), (14, .goto 5, 3, 19)],
   [(17, .bipush 9, 2, 0), (19, .ireturn, 1, 0)]])
def mX5_numberAt : xMt := (5, 1, 1, yX5_numberAt, cX5_numberAt, 2, (some .int), [[(0, .aload_n 0, 1, 0), (1, .iload_n 1, 1, 0), (2, .invokevirtual 22, 3, 41), (5, .ifCond .eq 12, 3, 17), (8, .aload_n 0, 1, 0), (9, .getfield 15, 3, 321), (12, .iload_n 1, 1, 0), (13, .iaload, 1, 0), (14, .goto 4, 3, 18)],
   [(17, .iconst 0, 1, 0), (18, .ireturn, 1, 0)]])
def mX5_add : xMt := (5, 1, 2, yX5_add, cX5_add, 3, (some .int), [[(0, .aload_n 0, 1, 0), (1, .getfield 18, 3, 322), (4, .bipush 64, 2, 0), (6, .if_icmp .ge 11, 3, 17), (9, .iload_n 1, 1, 0), (10, .iload_n 2, 1, 0), (11, .invokestatic 26, 3, 48), (14, .ifCond .ne 5, 3, 19)],
   [(17, .iconst (-1), 1, 0), (18, .ireturn, 1, 0), (19, .aload_n 0, 1, 0), (20, .getfield 9, 3, 320), (23, .aload_n 0, 1, 0), (24, .getfield 18, 3, 322), (27, .iload_n 1, 1, 0), (28, .iastore, 1, 0), (29, .aload_n 0, 1, 0), (30, .getfield 15, 3, 321)],
   [(33, .aload_n 0, 1, 0), (34, .getfield 18, 3, 322), (37, .iload_n 2, 1, 0), (38, .iastore, 1, 0), (39, .aload_n 0, 1, 0), (40, .dup, 1, 0), (41, .getfield 18, 3, 322), (44, .iconst 1, 1, 0), (45, .iadd, 1, 0), (46, .putfield 18, 3, 322)],
   [(49, .aload_n 0, 1, 0), (50, .getfield 18, 3, 322), (53, .iconst 1, 1, 0), (54, .isub, 1, 0), (55, .ireturn, 1, 0)]])
def mX5_removeAll : xMt := (5, 1, 0, yX5_removeAll, cX5_removeAll, 1, none, [[(0, .aload_n 0, 1, 0), (1, .iconst 0, 1, 0), (2, .putfield 18, 3, 322), (5, .return_, 1, 0)]])
def mX5_plainFollower : xMt := (5, 1, 1, yX5_plainFollower, cX5_plainFollower, 2, (some .int), [[(0, .aload_n 0, 1, 0), (1, .iload_n 1, 1, 0), (2, .invokevirtual 30, 3, 42), (5, .lookupswitch 35 #[(4, 29), (9, 27)], 27, 0)],
   [],
   [(32, .iconst (-1), 1, 0), (33, .ireturn, 1, 0), (34, .aload_n 0, 1, 0), (35, .iload_n 1, 1, 0), (36, .invokevirtual 34, 3, 43), (39, .ireturn, 1, 0), (40, .iload_n 1, 1, 0), (41, .iconst 1, 1, 0), (42, .iadd, 1, 0), (43, .ireturn, 1, 0)]])
def mX5_otherFollower : xMt := (5, 1, 1, yX5_otherFollower, cX5_otherFollower, 2, (some .int), [[(0, .aload_n 0, 1, 0), (1, .iload_n 1, 1, 0), (2, .invokevirtual 30, 3, 42), (5, .iconst 5, 1, 0), (6, .if_icmp .ne 11, 3, 17), (9, .aload_n 0, 1, 0), (10, .iload_n 1, 1, 0), (11, .invokevirtual 34, 3, 43), (14, .goto 4, 3, 18)],
   [(17, .iconst (-1), 1, 0), (18, .ireturn, 1, 0)]])
def mX5_canBe : xMt := (5, 0, 2, yX5_canBe, cX5_canBe, 2, (some .boolean), [[(0, .iload_n 0, 1, 0), (1, .bipush 10, 2, 0), (3, .invokestatic 37, 3, 86), (6, .ifCond .ne 5, 3, 11), (9, .iconst 0, 1, 0), (10, .ireturn, 1, 0), (11, .getstatic 40, 3, 1), (14, .iload_n 0, 1, 0), (15, .iaload, 1, 0)],
   [(16, .ifCond .eq 15, 3, 31), (19, .iload_n 1, 1, 0), (20, .getstatic 40, 3, 1), (23, .iload_n 0, 1, 0), (24, .iaload, 1, 0), (25, .invokestatic 37, 3, 86), (28, .ifCond .eq 7, 3, 35), (31, .iconst 1, 1, 0)],
   [(32, .goto 4, 3, 36), (35, .iconst 0, 1, 0), (36, .ireturn, 1, 0)]])
def mX6_init : xMt := (6, 2, 1, yX6_init, cX6_init, 2, none, [[(0, .aload_n 0, 1, 0), (1, .invokespecial 3, 3, 9999), (4, .aload_n 0, 1, 0), (5, .bipush 64, 2, 0), (7, .newarray .int, 2, 20), (9, .putfield 9, 3, 385), (12, .aload_n 0, 1, 0), (13, .aload_n 1, 1, 0), (14, .putfield 15, 3, 384)],
   [(17, .return_, 1, 0)]])
def mX6_isWellFormed : xMt := (6, 1, 0, yX6_isWellFormed, cX6_isWellFormed, 1, (some .boolean), [[(0, .aload_n 0, 1, 0), (1, .getfield 19, 3, 388), (4, .ireturn, 1, 0)]])
def mX6_isMet : xMt := (6, 1, 1, yX6_isMet, cX6_isMet, 2, (some .boolean), [[(0, .aload_n 0, 1, 0), (1, .getfield 23, 3, 386), (4, .iload_n 1, 1, 0), (5, .invokestatic 27, 3, 89), (8, .ireturn, 1, 0)]])
def mX6_heightAt : xMt := (6, 1, 1, yX6_heightAt, cX6_heightAt, 2, (some .int), [[(0, .aload_n 0, 1, 0), (1, .getfield 23, 3, 386), (4, .iload_n 1, 1, 0), (5, .invokestatic 27, 3, 89), (8, .ifCond .eq 12, 3, 20), (11, .aload_n 0, 1, 0), (12, .getfield 9, 3, 385), (15, .iload_n 1, 1, 0)],
   [(16, .iaload, 1, 0), (17, .goto 4, 3, 21), (20, .iconst 0, 1, 0), (21, .ireturn, 1, 0)]])
def mX6_find : xMt := (6, 1, 0, yX6_find, cX6_find, 3, none, [[(0, .aload_n 0, 1, 0), (1, .lconst 0, 1, 0), (2, .putfield 23, 3, 386), (5, .aload_n 0, 1, 0), (6, .lconst 0, 1, 0), (7, .putfield 31, 3, 387), (10, .aload_n 0, 1, 0), (11, .iconst 1, 1, 0), (12, .putfield 19, 3, 388), (15, .aload_n 0, 1, 0)],
   [(16, .iconst 0, 1, 0), (17, .iconst 0, 1, 0), (18, .invokevirtual 34, 3, 55), (21, .iconst 0, 1, 0), (22, .istore_n 1, 1, 0), (23, .iload_n 1, 1, 0), (24, .bipush 64, 2, 0), (26, .if_icmp .ge 55, 3, 81), (29, .aload_n 0, 1, 0), (30, .getfield 19, 3, 388)],
   [(33, .ifCond .eq 48, 3, 81), (36, .aload_n 0, 1, 0), (37, .getfield 31, 3, 387), (40, .lconst 0, 1, 0), (41, .lcmp, 1, 0), (42, .ifCond .eq 39, 3, 81), (45, .aload_n 0, 1, 0), (46, .getfield 31, 3, 387)],
   [(49, .invokestatic 38, 3, 90), (52, .istore_n 2, 1, 0), (53, .aload_n 0, 1, 0), (54, .dup, 1, 0), (55, .getfield 31, 3, 387), (58, .iload_n 2, 1, 0), (59, .invokestatic 42, 3, 88), (62, .ldc2_w 46, 3, 18446744073709551615)],
   [(65, .lxor, 1, 0), (66, .land, 1, 0), (67, .putfield 31, 3, 387), (70, .aload_n 0, 1, 0), (71, .iload_n 2, 1, 0), (72, .invokevirtual 48, 3, 54), (75, .iinc 1 1, 3, 0), (78, .goto (-55), 3, 23)],
   [(81, .return_, 1, 0)]])
def mX6_goOnFrom : xMt := (6, 1, 1, yX6_goOnFrom, cX6_goOnFrom, 5, none, [[(0, .aload_n 0, 1, 0), (1, .getfield 15, 3, 384), (4, .iload_n 1, 1, 0), (5, .invokevirtual 52, 3, 42), (8, .istore_n 2, 1, 0), (9, .aload_n 0, 1, 0), (10, .getfield 9, 3, 385), (13, .iload_n 1, 1, 0), (14, .iaload, 1, 0), (15, .getstatic 58, 3, 2)],
   [(18, .iload_n 2, 1, 0), (19, .iaload, 1, 0), (20, .isub, 1, 0), (21, .istore_n 3, 1, 0), (22, .iload_n 3, 1, 0), (23, .getstatic 61, 3, 3), (26, .iload_n 2, 1, 0), (27, .iaload, 1, 0), (28, .iadd, 1, 0), (29, .istore 4, 2, 0), (31, .iload_n 3, 1, 0)],
   [(32, .ifCond .lt 10, 3, 42), (35, .iload 4, 2, 0), (37, .bipush 16, 2, 0), (39, .if_icmp .le 9, 3, 48), (42, .aload_n 0, 1, 0), (43, .iconst 0, 1, 0), (44, .putfield 19, 3, 388), (47, .return_, 1, 0)],
   [(48, .iload_n 2, 1, 0), (49, .bipush 9, 2, 0), (51, .if_icmp .eq 17, 3, 68), (54, .aload_n 0, 1, 0), (55, .aload_n 0, 1, 0), (56, .getfield 15, 3, 384), (59, .iload_n 1, 1, 0), (60, .invokevirtual 64, 3, 46), (63, .iload 4, 2, 0)],
   [(65, .invokevirtual 34, 3, 55), (68, .iload_n 2, 1, 0), (69, .iconst 5, 1, 0), (70, .if_icmp .ne 17, 3, 87), (73, .aload_n 0, 1, 0), (74, .aload_n 0, 1, 0), (75, .getfield 15, 3, 384), (78, .iload_n 1, 1, 0), (79, .invokevirtual 67, 3, 47)],
   [(82, .iload 4, 2, 0), (84, .invokevirtual 34, 3, 55), (87, .return_, 1, 0)]])
def mX6_comeTo : xMt := (6, 1, 2, yX6_comeTo, cX6_comeTo, 3, none, [[(0, .aload_n 0, 1, 0), (1, .getfield 15, 3, 384), (4, .iload_n 1, 1, 0), (5, .invokevirtual 70, 3, 41), (8, .ifCond .ne 11, 3, 19), (11, .aload_n 0, 1, 0), (12, .iconst 0, 1, 0), (13, .putfield 19, 3, 388)],
   [(16, .goto 65, 3, 81), (19, .aload_n 0, 1, 0), (20, .getfield 23, 3, 386), (23, .iload_n 1, 1, 0), (24, .invokestatic 27, 3, 89), (27, .ifCond .ne 39, 3, 66), (30, .aload_n 0, 1, 0), (31, .dup, 1, 0)],
   [(32, .getfield 23, 3, 386), (35, .iload_n 1, 1, 0), (36, .invokestatic 42, 3, 88), (39, .lor, 1, 0), (40, .putfield 23, 3, 386), (43, .aload_n 0, 1, 0), (44, .dup, 1, 0), (45, .getfield 31, 3, 387)],
   [(48, .iload_n 1, 1, 0), (49, .invokestatic 42, 3, 88), (52, .lor, 1, 0), (53, .putfield 31, 3, 387), (56, .aload_n 0, 1, 0), (57, .getfield 9, 3, 385), (60, .iload_n 1, 1, 0), (61, .iload_n 2, 1, 0), (62, .iastore, 1, 0), (63, .goto 18, 3, 81)],
   [(66, .aload_n 0, 1, 0), (67, .getfield 9, 3, 385), (70, .iload_n 1, 1, 0), (71, .iaload, 1, 0), (72, .iload_n 2, 1, 0), (73, .if_icmp .eq 8, 3, 81), (76, .aload_n 0, 1, 0), (77, .iconst 0, 1, 0), (78, .putfield 19, 3, 388)],
   [(81, .return_, 1, 0)]])
def mX7_init : xMt := (7, 2, 4, yX7_init, cX7_init, 5, none, [[(0, .aload_n 0, 1, 0), (1, .invokespecial 5, 3, 9999), (4, .aload_n 0, 1, 0), (5, .bipush 64, 2, 0), (7, .newarray .long, 2, 21), (9, .putfield 11, 3, 452), (12, .aload_n 0, 1, 0), (13, .aload_n 1, 1, 0), (14, .putfield 15, 3, 448)],
   [(17, .aload_n 0, 1, 0), (18, .aload_n 2, 1, 0), (19, .putfield 19, 3, 449), (22, .aload_n 0, 1, 0), (23, .aload_n 3, 1, 0), (24, .putfield 23, 3, 450), (27, .aload_n 0, 1, 0), (28, .aload 4, 2, 0), (30, .putfield 27, 3, 451)],
   [(33, .return_, 1, 0)]])
def mX7_surroundingAt : xMt := (7, 1, 1, yX7_surroundingAt, cX7_surroundingAt, 2, (some .int), [[(0, .aload_n 0, 1, 0), (1, .getfield 31, 3, 453), (4, .iload_n 1, 1, 0), (5, .invokestatic 35, 3, 89), (8, .ifCond .eq 7, 3, 15), (11, .iconst 1, 1, 0), (12, .goto 4, 3, 16), (15, .iconst 0, 1, 0)],
   [(16, .aload_n 0, 1, 0), (17, .getfield 39, 3, 454), (20, .iload_n 1, 1, 0), (21, .invokestatic 35, 3, 89), (24, .ifCond .eq 7, 3, 31), (27, .iconst 2, 1, 0), (28, .goto 4, 3, 32), (31, .iconst 0, 1, 0)],
   [(32, .ior, 1, 0), (33, .ireturn, 1, 0)]])
def mX7_levelOnPile : xMt := (7, 1, 2, yX7_levelOnPile, cX7_levelOnPile, 3, (some .int), [[(0, .aload_n 0, 1, 0), (1, .getfield 15, 3, 448), (4, .iload_n 1, 1, 0), (5, .invokevirtual 42, 3, 41), (8, .ifCond .eq 12, 3, 20), (11, .iload_n 2, 1, 0), (12, .bipush 16, 2, 0), (14, .invokestatic 48, 3, 86)],
   [(17, .ifCond .ne 5, 3, 22), (20, .iconst 0, 1, 0), (21, .ireturn, 1, 0), (22, .aload_n 0, 1, 0), (23, .getfield 11, 3, 452), (26, .iload_n 1, 1, 0), (27, .laload, 1, 0), (28, .iconst 2, 1, 0), (29, .iload_n 2, 1, 0), (30, .imul, 1, 0), (31, .lushr, 1, 0)],
   [(32, .l2i, 1, 0), (33, .iconst 3, 1, 0), (34, .iand, 1, 0), (35, .ireturn, 1, 0)]])
def mX7_find : xMt := (7, 1, 0, yX7_find, cX7_find, 3, none, [[(0, .aload_n 0, 1, 0), (1, .getfield 11, 3, 452), (4, .lconst 0, 1, 0), (5, .invokestatic 52, 3, 137), (8, .aload_n 0, 1, 0), (9, .lconst 0, 1, 0), (10, .putfield 31, 3, 453), (13, .aload_n 0, 1, 0), (14, .lconst 0, 1, 0), (15, .putfield 39, 3, 454)],
   [(18, .aload_n 0, 1, 0), (19, .iconst 1, 1, 0), (20, .putfield 58, 3, 455), (23, .iconst 0, 1, 0), (24, .istore_n 1, 1, 0), (25, .iload_n 1, 1, 0), (26, .sipush 2177, 3, 0), (29, .if_icmp .ge 56, 3, 85)],
   [(32, .aload_n 0, 1, 0), (33, .getfield 58, 3, 455), (36, .ifCond .eq 49, 3, 85), (39, .aload_n 0, 1, 0), (40, .iconst 0, 1, 0), (41, .putfield 58, 3, 455), (44, .iconst 0, 1, 0), (45, .istore_n 2, 1, 0), (46, .iload_n 2, 1, 0), (47, .aload_n 0, 1, 0)],
   [(48, .getfield 15, 3, 448), (51, .invokevirtual 62, 3, 40), (54, .if_icmp .ge 25, 3, 79), (57, .aload_n 0, 1, 0), (58, .getfield 23, 3, 450), (61, .iload_n 2, 1, 0), (62, .invokevirtual 66, 3, 51)],
   [(65, .ifCond .eq 8, 3, 73), (68, .aload_n 0, 1, 0), (69, .iload_n 2, 1, 0), (70, .invokevirtual 71, 3, 62), (73, .iinc 2 1, 3, 0), (76, .goto (-30), 3, 46), (79, .iinc 1 1, 3, 0)],
   [(82, .goto (-57), 3, 25), (85, .return_, 1, 0)]])
def mX7_firstUnsafe : xMt := (7, 1, 0, yX7_firstUnsafe, cX7_firstUnsafe, 2, (some .int), [[(0, .iconst 0, 1, 0), (1, .istore_n 1, 1, 0), (2, .iload_n 1, 1, 0), (3, .aload_n 0, 1, 0), (4, .getfield 15, 3, 448), (7, .invokevirtual 62, 3, 40), (10, .if_icmp .ge 30, 3, 40), (13, .aload_n 0, 1, 0), (14, .getfield 23, 3, 450)],
   [(17, .iload_n 1, 1, 0), (18, .invokevirtual 66, 3, 51), (21, .ifCond .eq 13, 3, 34), (24, .aload_n 0, 1, 0), (25, .iload_n 1, 1, 0), (26, .invokevirtual 75, 3, 61), (29, .ifCond .ne 5, 3, 34)],
   [(32, .iload_n 1, 1, 0), (33, .ireturn, 1, 0), (34, .iinc 1 1, 3, 0), (37, .goto (-35), 3, 2), (40, .iconst (-1), 1, 0), (41, .ireturn, 1, 0)]])
def mX7_isSafe : xMt := (7, 1, 1, yX7_isSafe, cX7_isSafe, 4, (some .boolean), [[(0, .aload_n 0, 1, 0), (1, .getfield 15, 3, 448), (4, .iload_n 1, 1, 0), (5, .invokevirtual 78, 3, 43), (8, .istore_n 2, 1, 0), (9, .aload_n 0, 1, 0), (10, .iload_n 1, 1, 0), (11, .invokevirtual 82, 3, 63), (14, .aload_n 0, 1, 0), (15, .iload_n 1, 1, 0)],
   [(16, .invokevirtual 85, 3, 57), (19, .ior, 1, 0), (20, .istore_n 3, 1, 0), (21, .aload_n 0, 1, 0), (22, .getfield 15, 3, 448), (25, .iload_n 1, 1, 0), (26, .invokevirtual 88, 3, 42), (29, .lookupswitch 74 #[(2, 35), (7, 48), (8, 61)], 35, 0)],
   [],
   [],
   [(64, .iload_n 3, 1, 0), (65, .aload_n 0, 1, 0), (66, .getfield 19, 3, 449), (69, .iload_n 2, 1, 0), (70, .invokevirtual 91, 3, 11), (73, .invokestatic 96, 3, 87), (76, .ireturn, 1, 0), (77, .iload_n 3, 1, 0), (78, .aload_n 0, 1, 0), (79, .getfield 19, 3, 449)],
   [(82, .iload_n 2, 1, 0), (83, .invokevirtual 99, 3, 12), (86, .invokestatic 96, 3, 87), (89, .ireturn, 1, 0), (90, .iload_n 3, 1, 0), (91, .aload_n 0, 1, 0), (92, .getfield 19, 3, 449), (95, .iload_n 2, 1, 0)],
   [(96, .invokevirtual 102, 3, 13), (99, .invokestatic 96, 3, 87), (102, .ireturn, 1, 0), (103, .iconst 1, 1, 0), (104, .ireturn, 1, 0)]])
def mX7_spreadFrom : xMt := (7, 1, 1, yX7_spreadFrom, cX7_spreadFrom, 11, none, [[(0, .aload_n 0, 1, 0), (1, .getfield 15, 3, 448), (4, .iload_n 1, 1, 0), (5, .invokevirtual 88, 3, 42), (8, .istore_n 2, 1, 0), (9, .aload_n 0, 1, 0), (10, .iload_n 1, 1, 0), (11, .invokevirtual 82, 3, 63), (14, .istore_n 3, 1, 0), (15, .aload_n 0, 1, 0)],
   [(16, .getfield 23, 3, 450), (19, .iload_n 1, 1, 0), (20, .invokevirtual 105, 3, 52), (23, .getstatic 108, 3, 2), (26, .iload_n 2, 1, 0), (27, .iaload, 1, 0), (28, .isub, 1, 0), (29, .istore 4, 2, 0), (31, .lconst 1, 1, 0)],
   [(32, .iconst 2, 1, 0), (33, .iload 4, 2, 0), (35, .imul, 1, 0), (36, .lshl, 1, 0), (37, .lconst 1, 1, 0), (38, .lsub, 1, 0), (39, .lstore 5, 2, 0), (41, .aload_n 0, 1, 0), (42, .getfield 11, 3, 452), (45, .iload_n 1, 1, 0), (46, .laload, 1, 0), (47, .lload 5, 2, 0)],
   [(49, .land, 1, 0), (50, .lstore 7, 2, 0), (52, .iload_n 2, 1, 0), (53, .iconst 5, 1, 0), (54, .if_icmp .ne 30, 3, 84), (57, .lload 7, 2, 0), (59, .iload_n 3, 1, 0), (60, .i2l, 1, 0), (61, .ldc2_w 112, 3, 1431655765)],
   [(64, .lmul, 1, 0), (65, .lload 5, 2, 0), (67, .land, 1, 0), (68, .lor, 1, 0), (69, .lstore 7, 2, 0), (71, .aload_n 0, 1, 0), (72, .aload_n 0, 1, 0), (73, .getfield 27, 3, 451), (76, .iload_n 1, 1, 0), (77, .invokevirtual 114, 3, 2)],
   [(80, .iload_n 3, 1, 0), (81, .invokevirtual 120, 3, 66), (84, .getstatic 124, 3, 3), (87, .iload_n 2, 1, 0), (88, .iaload, 1, 0), (89, .ifCond .eq 31, 3, 120), (92, .iload_n 3, 1, 0), (93, .aload_n 0, 1, 0), (94, .iload_n 1, 1, 0), (95, .invokevirtual 85, 3, 57)],
   [(98, .ior, 1, 0), (99, .aload_n 0, 1, 0), (100, .iload_n 1, 1, 0), (101, .invokevirtual 127, 3, 64), (104, .ior, 1, 0), (105, .i2l, 1, 0), (106, .lstore 9, 2, 0), (108, .lload 7, 2, 0), (110, .lload 9, 2, 0)],
   [(112, .iconst 2, 1, 0), (113, .iload 4, 2, 0), (115, .imul, 1, 0), (116, .lshl, 1, 0), (117, .lor, 1, 0), (118, .lstore 7, 2, 0), (120, .aload_n 0, 1, 0), (121, .aload_n 0, 1, 0), (122, .getfield 15, 3, 448), (125, .iload_n 1, 1, 0), (126, .invokevirtual 130, 3, 46)],
   [(129, .lload 7, 2, 0), (131, .invokevirtual 133, 3, 65), (134, .aload_n 0, 1, 0), (135, .aload_n 0, 1, 0), (136, .getfield 15, 3, 448), (139, .iload_n 1, 1, 0), (140, .invokevirtual 137, 3, 47), (143, .lload 7, 2, 0)],
   [(145, .invokevirtual 133, 3, 65), (148, .return_, 1, 0)]])
def mX7_takenAt : xMt := (7, 1, 1, yX7_takenAt, cX7_takenAt, 5, (some .int), [[(0, .aload_n 0, 1, 0), (1, .getfield 23, 3, 450), (4, .iload_n 1, 1, 0), (5, .invokevirtual 105, 3, 52), (8, .istore_n 2, 1, 0), (9, .iconst 0, 1, 0), (10, .istore_n 3, 1, 0), (11, .iload_n 2, 1, 0), (12, .getstatic 108, 3, 2), (15, .aload_n 0, 1, 0)],
   [(16, .getfield 15, 3, 448), (19, .iload_n 1, 1, 0), (20, .invokevirtual 88, 3, 42), (23, .iaload, 1, 0), (24, .isub, 1, 0), (25, .istore 4, 2, 0), (27, .iload 4, 2, 0), (29, .iload_n 2, 1, 0), (30, .if_icmp .ge 19, 3, 49)],
   [(33, .iload_n 3, 1, 0), (34, .aload_n 0, 1, 0), (35, .iload_n 1, 1, 0), (36, .iload 4, 2, 0), (38, .invokevirtual 140, 3, 58), (41, .ior, 1, 0), (42, .istore_n 3, 1, 0), (43, .iinc 4 1, 3, 0), (46, .goto (-19), 3, 27)],
   [(49, .iload_n 3, 1, 0), (50, .ireturn, 1, 0)]])
def mX7_readBy : xMt := (7, 1, 1, yX7_readBy, cX7_readBy, 3, (some .int), [[(0, .aload_n 0, 1, 0), (1, .getfield 15, 3, 448), (4, .iload_n 1, 1, 0), (5, .invokevirtual 78, 3, 43), (8, .istore_n 2, 1, 0), (9, .aload_n 0, 1, 0), (10, .getfield 15, 3, 448), (13, .iload_n 1, 1, 0), (14, .invokevirtual 88, 3, 42)],
   [(17, .lookupswitch 45 #[(1, 27), (6, 36)], 27, 0)],
   [(44, .aload_n 0, 1, 0), (45, .getfield 19, 3, 449)],
   [(48, .iload_n 2, 1, 0), (49, .invokevirtual 91, 3, 11), (52, .ireturn, 1, 0), (53, .aload_n 0, 1, 0), (54, .getfield 19, 3, 449), (57, .iload_n 2, 1, 0), (58, .invokevirtual 99, 3, 12), (61, .ireturn, 1, 0), (62, .iconst 0, 1, 0), (63, .ireturn, 1, 0)]])
def mX7_growPile : xMt := (7, 1, 2, yX7_growPile, cX7_growPile, 4, none, [[(0, .aload_n 0, 1, 0), (1, .getfield 15, 3, 448), (4, .iload_n 1, 1, 0), (5, .invokevirtual 42, 3, 41), (8, .ifCond .eq 35, 3, 43), (11, .lload_n 2, 1, 0), (12, .aload_n 0, 1, 0), (13, .getfield 11, 3, 452)],
   [(16, .iload_n 1, 1, 0), (17, .laload, 1, 0), (18, .ldc2_w 144, 3, 18446744073709551615), (21, .lxor, 1, 0), (22, .land, 1, 0), (23, .lconst 0, 1, 0), (24, .lcmp, 1, 0), (25, .ifCond .eq 18, 3, 43), (28, .aload_n 0, 1, 0), (29, .getfield 11, 3, 452)],
   [(32, .iload_n 1, 1, 0), (33, .dup2, 1, 0), (34, .laload, 1, 0), (35, .lload_n 2, 1, 0), (36, .lor, 1, 0), (37, .lastore, 1, 0), (38, .aload_n 0, 1, 0), (39, .iconst 1, 1, 0), (40, .putfield 58, 3, 455), (43, .return_, 1, 0)]])
def mX7_growSurroundings : xMt := (7, 1, 2, yX7_growSurroundings, cX7_growSurroundings, 8, none, [[(0, .iconst 1, 1, 0), (1, .iload_n 3, 1, 0), (2, .invokestatic 96, 3, 87), (5, .ifCond .eq 16, 3, 21), (8, .lload_n 1, 1, 0), (9, .aload_n 0, 1, 0), (10, .getfield 31, 3, 453), (13, .ldc2_w 144, 3, 18446744073709551615)],
   [(16, .lxor, 1, 0), (17, .land, 1, 0), (18, .goto 4, 3, 22), (21, .lconst 0, 1, 0), (22, .lstore 4, 2, 0), (24, .iconst 2, 1, 0), (25, .iload_n 3, 1, 0), (26, .invokestatic 96, 3, 87), (29, .ifCond .eq 16, 3, 45)],
   [(32, .lload_n 1, 1, 0), (33, .aload_n 0, 1, 0), (34, .getfield 39, 3, 454), (37, .ldc2_w 144, 3, 18446744073709551615), (40, .lxor, 1, 0), (41, .land, 1, 0), (42, .goto 4, 3, 46), (45, .lconst 0, 1, 0), (46, .lstore 6, 2, 0)],
   [(48, .lload 4, 2, 0), (50, .lload 6, 2, 0), (52, .lor, 1, 0), (53, .lconst 0, 1, 0), (54, .lcmp, 1, 0), (55, .ifCond .eq 30, 3, 85), (58, .aload_n 0, 1, 0), (59, .dup, 1, 0), (60, .getfield 31, 3, 453), (63, .lload 4, 2, 0)],
   [(65, .lor, 1, 0), (66, .putfield 31, 3, 453), (69, .aload_n 0, 1, 0), (70, .dup, 1, 0), (71, .getfield 39, 3, 454), (74, .lload 6, 2, 0), (76, .lor, 1, 0), (77, .putfield 39, 3, 454)],
   [(80, .aload_n 0, 1, 0), (81, .iconst 1, 1, 0), (82, .putfield 58, 3, 455), (85, .return_, 1, 0)]])
def mX8_init : xMt := (8, 2, 0, yX8_init, cX8_init, 2, none, [[(0, .aload_n 0, 1, 0), (1, .invokespecial 1, 3, 9999), (4, .aload_n 0, 1, 0), (5, .new 7, 3, 5), (8, .dup, 1, 0), (9, .invokespecial 9, 3, 39), (12, .putfield 10, 3, 512), (15, .aload_n 0, 1, 0)],
   [(16, .new 16, 3, 1), (19, .dup, 1, 0), (20, .invokespecial 18, 3, 9), (23, .putfield 19, 3, 513), (26, .aload_n 0, 1, 0), (27, .new 23, 3, 6), (30, .dup, 1, 0), (31, .aload_n 0, 1, 0)],
   [(32, .getfield 10, 3, 512), (35, .invokespecial 25, 3, 49), (38, .putfield 28, 3, 514), (41, .aload_n 0, 1, 0), (42, .new 32, 3, 0), (45, .dup, 1, 0), (46, .aload_n 0, 1, 0), (47, .getfield 10, 3, 512)],
   [(50, .aload_n 0, 1, 0), (51, .getfield 28, 3, 514), (54, .invokespecial 34, 3, 0), (57, .putfield 37, 3, 515), (60, .aload_n 0, 1, 0), (61, .new 41, 3, 7)],
   [(64, .dup, 1, 0), (65, .aload_n 0, 1, 0), (66, .getfield 10, 3, 512), (69, .aload_n 0, 1, 0), (70, .getfield 19, 3, 513), (73, .aload_n 0, 1, 0), (74, .getfield 28, 3, 514), (77, .aload_n 0, 1, 0), (78, .getfield 37, 3, 515)],
   [(81, .invokespecial 43, 3, 56), (84, .putfield 46, 3, 516), (87, .aload_n 0, 1, 0), (88, .new 50, 3, 2), (91, .dup, 1, 0), (92, .aload_n 0, 1, 0), (93, .getfield 10, 3, 512)],
   [(96, .invokespecial 52, 3, 15), (99, .putfield 53, 3, 517), (102, .aload_n 0, 1, 0), (103, .iconst 2, 1, 0), (104, .anewarray 57, 3, 23), (107, .putfield 59, 3, 518), (110, .aload_n 0, 1, 0), (111, .iconst 2, 1, 0)],
   [(112, .anewarray 63, 3, 24), (115, .putfield 65, 3, 519), (118, .iconst 0, 1, 0), (119, .istore_n 1, 1, 0), (120, .iload_n 1, 1, 0), (121, .iconst 2, 1, 0), (122, .if_icmp .ge 35, 3, 157), (125, .aload_n 0, 1, 0), (126, .getfield 59, 3, 518)],
   [(129, .iload_n 1, 1, 0), (130, .new 57, 3, 3), (133, .dup, 1, 0), (134, .invokespecial 69, 3, 23), (137, .aastore, 1, 0), (138, .aload_n 0, 1, 0), (139, .getfield 65, 3, 519), (142, .iload_n 1, 1, 0), (143, .new 63, 3, 4)],
   [(146, .dup, 1, 0), (147, .invokespecial 70, 3, 27), (150, .aastore, 1, 0), (151, .iinc 1 1, 3, 0), (154, .goto (-34), 3, 120), (157, .aload_n 0, 1, 0), (158, .iconst 1, 1, 0), (159, .putfield 71, 3, 520)],
   [(162, .aload_n 0, 1, 0), (163, .iconst 1, 1, 0), (164, .putfield 75, 3, 521), (167, .return_, 1, 0)]])
def mX8_instruction : xMt := (8, 1, 2, yX8_instruction, cX8_instruction, 4, (some .int), [[(0, .aload_n 0, 1, 0), (1, .getfield 10, 3, 512), (4, .iload_n 1, 1, 0), (5, .iload_n 2, 1, 0), (6, .invokevirtual 78, 3, 44), (9, .istore_n 3, 1, 0), (10, .iload_n 3, 1, 0), (11, .iconst (-1), 1, 0), (12, .if_icmp .eq 8, 3, 20), (15, .aload_n 0, 1, 0)],
   [(16, .iconst 1, 1, 0), (17, .putfield 71, 3, 520), (20, .iload_n 3, 1, 0), (21, .ireturn, 1, 0)]])
def mX8_clear : xMt := (8, 1, 0, yX8_clear, cX8_clear, 1, none, [[(0, .aload_n 0, 1, 0), (1, .getfield 10, 3, 512), (4, .invokevirtual 82, 3, 45), (7, .aload_n 0, 1, 0), (8, .iconst 1, 1, 0), (9, .putfield 71, 3, 520), (12, .return_, 1, 0)]])
def mX8_level : xMt := (8, 1, 3, yX8_level, cX8_level, 4, (some .boolean), [[(0, .aload_n 0, 1, 0), (1, .getfield 19, 3, 513), (4, .iload_n 1, 1, 0), (5, .iload_n 2, 1, 0), (6, .iload_n 3, 1, 0), (7, .invokevirtual 85, 3, 10), (10, .ifCond .ne 5, 3, 15), (13, .iconst 0, 1, 0), (14, .ireturn, 1, 0), (15, .aload_n 0, 1, 0)],
   [(16, .iconst 1, 1, 0), (17, .putfield 75, 3, 521), (20, .iconst 1, 1, 0), (21, .ireturn, 1, 0)]])
def mX8_check : xMt := (8, 1, 0, yX8_check, cX8_check, 1, (some .int), [[(0, .aload_n 0, 1, 0), (1, .invokevirtual 89, 3, 82), (4, .ifCond .eq 15, 3, 19), (7, .aload_n 0, 1, 0), (8, .invokevirtual 93, 3, 83), (11, .invokevirtual 97, 3, 60), (14, .iconst 1, 1, 0), (15, .iadd, 1, 0)],
   [(16, .goto 4, 3, 20), (19, .iconst (-1), 1, 0), (20, .ireturn, 1, 0)]])
def mX8_surrounding : xMt := (8, 1, 1, yX8_surrounding, cX8_surrounding, 2, (some .int), [[(0, .aload_n 0, 1, 0), (1, .invokevirtual 89, 3, 82), (4, .ifCond .eq 25, 3, 29), (7, .aload_n 0, 1, 0), (8, .getfield 28, 3, 514), (11, .iload_n 1, 1, 0), (12, .invokevirtual 101, 3, 51), (15, .ifCond .eq 14, 3, 29)],
   [(18, .aload_n 0, 1, 0), (19, .invokevirtual 93, 3, 83), (22, .iload_n 1, 1, 0), (23, .invokevirtual 105, 3, 57), (26, .goto 4, 3, 30), (29, .iconst (-1), 1, 0), (30, .ireturn, 1, 0)]])
def mX8_pile : xMt := (8, 1, 2, yX8_pile, cX8_pile, 3, (some .int), [[(0, .aload_n 0, 1, 0), (1, .invokevirtual 89, 3, 82), (4, .ifCond .eq 18, 3, 22), (7, .iload_n 2, 1, 0), (8, .aload_n 0, 1, 0), (9, .getfield 28, 3, 514), (12, .iload_n 1, 1, 0), (13, .invokevirtual 109, 3, 52)],
   [(16, .invokestatic 112, 3, 86), (19, .ifCond .ne 5, 3, 24), (22, .iconst (-1), 1, 0), (23, .ireturn, 1, 0), (24, .aload_n 0, 1, 0), (25, .invokevirtual 93, 3, 83), (28, .iload_n 1, 1, 0), (29, .iload_n 2, 1, 0), (30, .invokevirtual 116, 3, 58)],
   [(33, .ireturn, 1, 0)]])
def mX8_junction : xMt := (8, 1, 1, yX8_junction, cX8_junction, 2, (some .int), [[(0, .aload_n 0, 1, 0), (1, .invokevirtual 89, 3, 82), (4, .ifCond .eq 25, 3, 29), (7, .aload_n 0, 1, 0), (8, .getfield 28, 3, 514), (11, .iload_n 1, 1, 0), (12, .invokevirtual 101, 3, 51), (15, .ifCond .eq 14, 3, 29)],
   [(18, .aload_n 0, 1, 0), (19, .getfield 37, 3, 515), (22, .iload_n 1, 1, 0), (23, .invokevirtual 119, 3, 1), (26, .goto 4, 3, 30), (29, .iconst (-1), 1, 0), (30, .ireturn, 1, 0)]])
def mX8_let : xMt := (8, 1, 3, yX8_let, cX8_let, 4, (some .boolean), [[(0, .iload_n 1, 1, 0), (1, .invokestatic 122, 3, 85), (4, .ifCond .eq 12, 3, 16), (7, .iload_n 2, 1, 0), (8, .bipush 8, 2, 0), (10, .invokestatic 112, 3, 86), (13, .ifCond .ne 5, 3, 18)],
   [(16, .iconst 0, 1, 0), (17, .ireturn, 1, 0), (18, .aload_n 0, 1, 0), (19, .getfield 59, 3, 518), (22, .iload_n 1, 1, 0), (23, .aaload, 1, 0), (24, .iload_n 2, 1, 0), (25, .iload_n 3, 1, 0), (26, .invokevirtual 125, 3, 26), (29, .iconst 1, 1, 0), (30, .ireturn, 1, 0)]])
def mX8_lay : xMt := (8, 1, 4, yX8_lay, cX8_lay, 5, (some .boolean), [[(0, .iload_n 1, 1, 0), (1, .invokestatic 122, 3, 85), (4, .ifCond .eq 20, 3, 24), (7, .iload_n 2, 1, 0), (8, .iconst 2, 1, 0), (9, .invokestatic 112, 3, 86), (12, .ifCond .eq 12, 3, 24), (15, .iload_n 3, 1, 0)],
   [(16, .bipush 8, 2, 0), (18, .invokestatic 112, 3, 86), (21, .ifCond .ne 5, 3, 26), (24, .iconst 0, 1, 0), (25, .ireturn, 1, 0), (26, .aload_n 0, 1, 0), (27, .getfield 59, 3, 518), (30, .iload_n 1, 1, 0), (31, .aaload, 1, 0)],
   [(32, .iload_n 2, 1, 0), (33, .iload_n 3, 1, 0), (34, .invokestatic 128, 3, 24), (37, .iload 4, 2, 0), (39, .invokevirtual 125, 3, 26), (42, .iconst 1, 1, 0), (43, .ireturn, 1, 0)]])
def mX8_run : xMt := (8, 1, 2, yX8_run, cX8_run, 3, (some .int), [[(0, .iload_n 1, 1, 0), (1, .invokestatic 122, 3, 85), (4, .ifCond .eq 10, 3, 14), (7, .aload_n 0, 1, 0), (8, .invokevirtual 89, 3, 82), (11, .ifCond .ne 5, 3, 16), (14, .iconst (-1), 1, 0), (15, .ireturn, 1, 0)],
   [(16, .aload_n 0, 1, 0), (17, .getfield 53, 3, 517), (20, .aload_n 0, 1, 0), (21, .getfield 59, 3, 518), (24, .iload_n 1, 1, 0), (25, .aaload, 1, 0), (26, .aload_n 0, 1, 0), (27, .getfield 65, 3, 519), (30, .iload_n 1, 1, 0), (31, .aaload, 1, 0)],
   [(32, .iload_n 2, 1, 0), (33, .sipush 10000, 3, 0), (36, .invokestatic 131, 3, 136), (39, .invokevirtual 136, 3, 16), (42, .ireturn, 1, 0)]])
def mX8_ran : xMt := (8, 1, 2, yX8_ran, cX8_ran, 3, (some .int), [[(0, .iload_n 1, 1, 0), (1, .invokestatic 122, 3, 85), (4, .ifCond .eq 15, 3, 19), (7, .aload_n 0, 1, 0), (8, .getfield 65, 3, 519), (11, .iload_n 1, 1, 0), (12, .aaload, 1, 0), (13, .invokevirtual 140, 3, 28)],
   [(16, .ifCond .ne 5, 3, 21), (19, .iconst (-1), 1, 0), (20, .ireturn, 1, 0), (21, .iload_n 2, 1, 0), (22, .lookupswitch 54 #[(0, 26), (1, 44)], 26, 0)],
   [],
   [(48, .aload_n 0, 1, 0), (49, .getfield 65, 3, 519), (52, .iload_n 1, 1, 0), (53, .aaload, 1, 0), (54, .invokevirtual 143, 3, 29), (57, .ifCond .eq 7, 3, 64), (60, .iconst 1, 1, 0), (61, .goto 4, 3, 65)],
   [(64, .iconst 0, 1, 0), (65, .ireturn, 1, 0), (66, .aload_n 0, 1, 0), (67, .getfield 65, 3, 519), (70, .iload_n 1, 1, 0), (71, .aaload, 1, 0), (72, .invokevirtual 146, 3, 30), (75, .ireturn, 1, 0), (76, .iconst (-1), 1, 0), (77, .ireturn, 1, 0)]])
def mX8_out : xMt := (8, 1, 3, yX8_out, cX8_out, 4, (some .int), [[(0, .iload_n 1, 1, 0), (1, .invokestatic 122, 3, 85), (4, .ifCond .eq 19, 3, 23), (7, .iload_n 2, 1, 0), (8, .aload_n 0, 1, 0), (9, .getfield 65, 3, 519), (12, .iload_n 1, 1, 0), (13, .aaload, 1, 0), (14, .invokevirtual 149, 3, 31)],
   [(17, .invokestatic 112, 3, 86), (20, .ifCond .ne 5, 3, 25), (23, .iconst 0, 1, 0), (24, .ireturn, 1, 0), (25, .iload_n 3, 1, 0), (26, .lookupswitch 48 #[(0, 26), (1, 37)], 26, 0)],
   [],
   [(52, .aload_n 0, 1, 0), (53, .getfield 65, 3, 519), (56, .iload_n 1, 1, 0), (57, .aaload, 1, 0), (58, .iload_n 2, 1, 0), (59, .invokevirtual 152, 3, 32), (62, .ireturn, 1, 0), (63, .aload_n 0, 1, 0)],
   [(64, .getfield 65, 3, 519), (67, .iload_n 1, 1, 0), (68, .aaload, 1, 0), (69, .iload_n 2, 1, 0), (70, .invokevirtual 155, 3, 33), (73, .ireturn, 1, 0), (74, .iconst 0, 1, 0), (75, .ireturn, 1, 0)]])
def mX8_same : xMt := (8, 1, 1, yX8_same, cX8_same, 2, (some .int), [[(0, .iload_n 1, 1, 0), (1, .iconst 4, 1, 0), (2, .invokestatic 112, 3, 86), (5, .ifCond .eq 27, 3, 32), (8, .aload_n 0, 1, 0), (9, .getfield 65, 3, 519), (12, .iconst 0, 1, 0), (13, .aaload, 1, 0), (14, .invokevirtual 143, 3, 29)],
   [(17, .ifCond .eq 15, 3, 32), (20, .aload_n 0, 1, 0), (21, .getfield 65, 3, 519), (24, .iconst 1, 1, 0), (25, .aaload, 1, 0), (26, .invokevirtual 143, 3, 29), (29, .ifCond .ne 5, 3, 34)],
   [(32, .iconst (-1), 1, 0), (33, .ireturn, 1, 0), (34, .aload_n 0, 1, 0), (35, .iload_n 1, 1, 0), (36, .invokevirtual 158, 3, 84), (39, .ifCond .eq 7, 3, 46), (42, .iconst 1, 1, 0), (43, .goto 4, 3, 47), (46, .iconst 0, 1, 0), (47, .ireturn, 1, 0)]])
def mX8_memory : xMt := (8, 1, 2, yX8_memory, cX8_memory, 3, (some .int), [[(0, .iload_n 1, 1, 0), (1, .invokestatic 122, 3, 85), (4, .ifCond .eq 16, 3, 20), (7, .aload_n 0, 1, 0), (8, .getfield 59, 3, 518), (11, .iload_n 1, 1, 0), (12, .aaload, 1, 0), (13, .iload_n 2, 1, 0), (14, .invokevirtual 161, 3, 25)],
   [(17, .goto 4, 3, 21), (20, .iconst 0, 1, 0), (21, .ireturn, 1, 0)]])
def mX8_isWellFormed : xMt := (8, 1, 0, yX8_isWellFormed, cX8_isWellFormed, 1, (some .boolean), [[(0, .aload_n 0, 1, 0), (1, .getfield 71, 3, 520), (4, .ifCond .eq 37, 3, 41), (7, .aload_n 0, 1, 0), (8, .getfield 28, 3, 514), (11, .invokevirtual 164, 3, 53), (14, .aload_n 0, 1, 0), (15, .getfield 28, 3, 514)],
   [(18, .invokevirtual 167, 3, 50), (21, .ifCond .eq 10, 3, 31), (24, .aload_n 0, 1, 0), (25, .getfield 37, 3, 515), (28, .invokevirtual 168, 3, 3), (31, .aload_n 0, 1, 0)],
   [(32, .iconst 0, 1, 0), (33, .putfield 71, 3, 520), (36, .aload_n 0, 1, 0), (37, .iconst 1, 1, 0), (38, .putfield 75, 3, 521), (41, .aload_n 0, 1, 0), (42, .getfield 28, 3, 514), (45, .invokevirtual 167, 3, 50)],
   [(48, .ireturn, 1, 0)]])
def mX8_typesNow : xMt := (8, 1, 0, yX8_typesNow, cX8_typesNow, 1, (some (.object "SecretLoom$Types")), [[(0, .aload_n 0, 1, 0), (1, .getfield 75, 3, 521), (4, .ifCond .eq 15, 3, 19), (7, .aload_n 0, 1, 0), (8, .getfield 46, 3, 516), (11, .invokevirtual 169, 3, 59), (14, .aload_n 0, 1, 0), (15, .iconst 0, 1, 0)],
   [(16, .putfield 75, 3, 521), (19, .aload_n 0, 1, 0), (20, .getfield 46, 3, 516), (23, .areturn, 1, 0)]])
def mX8_rowsAgree : xMt := (8, 1, 1, yX8_rowsAgree, cX8_rowsAgree, 5, (some .boolean), [[(0, .aload_n 0, 1, 0), (1, .getfield 65, 3, 519), (4, .iconst 0, 1, 0), (5, .aaload, 1, 0), (6, .iconst 0, 1, 0), (7, .iload_n 1, 1, 0), (8, .aload_n 0, 1, 0), (9, .getfield 19, 3, 513), (12, .invokevirtual 170, 3, 37), (15, .istore_n 2, 1, 0)],
   [(16, .aload_n 0, 1, 0), (17, .getfield 65, 3, 519), (20, .iconst 1, 1, 0), (21, .aaload, 1, 0), (22, .iconst 0, 1, 0), (23, .iload_n 1, 1, 0), (24, .aload_n 0, 1, 0), (25, .getfield 19, 3, 513), (28, .invokevirtual 170, 3, 37), (31, .istore_n 3, 1, 0)],
   [(32, .iconst 0, 1, 0), (33, .istore 4, 2, 0), (35, .iload 4, 2, 0), (37, .bipush 64, 2, 0), (39, .if_icmp .ge 77, 3, 116), (42, .iload_n 2, 1, 0), (43, .iconst (-1), 1, 0), (44, .if_icmp .eq 72, 3, 116), (47, .iload_n 3, 1, 0)],
   [(48, .iconst (-1), 1, 0), (49, .if_icmp .eq 67, 3, 116), (52, .aload_n 0, 1, 0), (53, .getfield 65, 3, 519), (56, .iconst 0, 1, 0), (57, .aaload, 1, 0), (58, .iload_n 2, 1, 0), (59, .aload_n 0, 1, 0), (60, .getfield 65, 3, 519), (63, .iconst 1, 1, 0)],
   [(64, .aaload, 1, 0), (65, .iload_n 3, 1, 0), (66, .invokevirtual 174, 3, 38), (69, .ifCond .ne 5, 3, 74), (72, .iconst 0, 1, 0), (73, .ireturn, 1, 0), (74, .aload_n 0, 1, 0), (75, .getfield 65, 3, 519), (78, .iconst 0, 1, 0), (79, .aaload, 1, 0)],
   [(80, .iload_n 2, 1, 0), (81, .iconst 1, 1, 0), (82, .iadd, 1, 0), (83, .iload_n 1, 1, 0), (84, .aload_n 0, 1, 0), (85, .getfield 19, 3, 513), (88, .invokevirtual 170, 3, 37), (91, .istore_n 2, 1, 0), (92, .aload_n 0, 1, 0), (93, .getfield 65, 3, 519)],
   [(96, .iconst 1, 1, 0), (97, .aaload, 1, 0), (98, .iload_n 3, 1, 0), (99, .iconst 1, 1, 0), (100, .iadd, 1, 0), (101, .iload_n 1, 1, 0), (102, .aload_n 0, 1, 0), (103, .getfield 19, 3, 513), (106, .invokevirtual 170, 3, 37), (109, .istore_n 3, 1, 0), (110, .iinc 4 1, 3, 0)],
   [(113, .goto (-78), 3, 35), (116, .iload_n 2, 1, 0), (117, .iconst (-1), 1, 0), (118, .if_icmp .ne 12, 3, 130), (121, .iload_n 3, 1, 0), (122, .iconst (-1), 1, 0), (123, .if_icmp .ne 7, 3, 130), (126, .iconst 1, 1, 0), (127, .goto 4, 3, 131)],
   [(130, .iconst 0, 1, 0), (131, .ireturn, 1, 0)]])
def mX8_isMemory : xMt := (8, 0, 1, yX8_isMemory, cX8_isMemory, 1, (some .boolean), [[(0, .iload_n 0, 1, 0), (1, .iconst 2, 1, 0), (2, .invokestatic 112, 3, 86), (5, .ireturn, 1, 0)]])
def mX8_isBetween : xMt := (8, 0, 2, yX8_isBetween, cX8_isBetween, 2, (some .boolean), [[(0, .iload_n 0, 1, 0), (1, .ifCond .lt 12, 3, 13), (4, .iload_n 0, 1, 0), (5, .iload_n 1, 1, 0), (6, .if_icmp .ge 7, 3, 13), (9, .iconst 1, 1, 0), (10, .goto 4, 3, 14), (13, .iconst 0, 1, 0), (14, .ireturn, 1, 0)]])
def mX8_isBelow : xMt := (8, 0, 2, yX8_isBelow, cX8_isBelow, 2, (some .boolean), [[(0, .iload_n 0, 1, 0), (1, .iload_n 1, 1, 0), (2, .iconst (-1), 1, 0), (3, .ixor, 1, 0), (4, .iand, 1, 0), (5, .ifCond .ne 7, 3, 12), (8, .iconst 1, 1, 0), (9, .goto 4, 3, 13), (12, .iconst 0, 1, 0), (13, .ireturn, 1, 0)]])
def mX8_bit : xMt := (8, 0, 1, yX8_bit, cX8_bit, 1, (some .long), [[(0, .iload_n 0, 1, 0), (1, .ifCond .lt 15, 3, 16), (4, .iload_n 0, 1, 0), (5, .bipush 64, 2, 0), (7, .if_icmp .ge 9, 3, 16), (10, .lconst 1, 1, 0), (11, .iload_n 0, 1, 0), (12, .lshl, 1, 0), (13, .goto 4, 3, 17)],
   [(16, .lconst 0, 1, 0), (17, .lreturn, 1, 0)]])
def mX8_holds : xMt := (8, 0, 2, yX8_holds, cX8_holds, 3, (some .boolean), [[(0, .iload_n 2, 1, 0), (1, .ifCond .lt 23, 3, 24), (4, .iload_n 2, 1, 0), (5, .bipush 64, 2, 0), (7, .if_icmp .ge 17, 3, 24), (10, .lload_n 0, 1, 0), (11, .iload_n 2, 1, 0), (12, .lushr, 1, 0), (13, .lconst 1, 1, 0), (14, .land, 1, 0), (15, .lconst 0, 1, 0)],
   [(16, .lcmp, 1, 0), (17, .ifCond .eq 7, 3, 24), (20, .iconst 1, 1, 0), (21, .goto 4, 3, 25), (24, .iconst 0, 1, 0), (25, .ireturn, 1, 0)]])
def mX8_lowest : xMt := (8, 0, 1, yX8_lowest, cX8_lowest, 2, (some .int), [[(0, .lload_n 0, 1, 0), (1, .lload_n 0, 1, 0), (2, .lneg, 1, 0), (3, .land, 1, 0), (4, .lconst 1, 1, 0), (5, .lsub, 1, 0), (6, .invokestatic 178, 3, 134), (9, .ireturn, 1, 0)]])
def mX9_init : xMt := (9, 2, 0, yX9_init, cX9_init, 1, none, [[(0, .aload_n 0, 1, 0), (1, .invokespecial 1, 3, 9999), (4, .aload_n 0, 1, 0), (5, .bipush 64, 2, 0), (7, .newarray .int, 2, 20), (9, .putfield 7, 3, 576), (12, .aload_n 0, 1, 0), (13, .bipush 64, 2, 0), (15, .newarray .int, 2, 20)],
   [(17, .putfield 13, 3, 577), (20, .aload_n 0, 1, 0), (21, .bipush 14, 2, 0), (23, .newarray .int, 2, 20), (25, .putfield 16, 3, 579), (28, .aload_n 0, 1, 0), (29, .bipush 48, 2, 0), (31, .newarray .int, 2, 20)],
   [(33, .putfield 19, 3, 580), (36, .aload_n 0, 1, 0), (37, .bipush 64, 2, 0), (39, .newarray .int, 2, 20), (41, .putfield 22, 3, 583), (44, .aload_n 0, 1, 0), (45, .bipush 64, 2, 0), (47, .newarray .int, 2, 20)],
   [(49, .putfield 25, 3, 584), (52, .aload_n 0, 1, 0), (53, .sipush 4096, 3, 0), (56, .newarray .boolean, 2, 22), (58, .putfield 28, 3, 585), (61, .aload_n 0, 1, 0), (62, .sipush 1088, 3, 0)],
   [(65, .newarray .int, 2, 20), (67, .putfield 32, 3, 587), (70, .aload_n 0, 1, 0), (71, .bipush 65, 2, 0), (73, .newarray .boolean, 2, 22), (75, .putfield 35, 3, 588), (78, .aload_n 0, 1, 0), (79, .bipush 65, 2, 0)],
   [(81, .newarray .boolean, 2, 22), (83, .putfield 38, 3, 589), (86, .aload_n 0, 1, 0), (87, .iconst 2, 1, 0), (88, .newarray .boolean, 2, 22), (90, .putfield 41, 3, 590), (93, .aload_n 0, 1, 0), (94, .iconst 2, 1, 0), (95, .newarray .boolean, 2, 22)],
   [(97, .putfield 44, 3, 591), (100, .aload_n 0, 1, 0), (101, .iconst 2, 1, 0), (102, .newarray .int, 2, 20), (104, .putfield 47, 3, 592), (107, .aload_n 0, 1, 0), (108, .sipush 128, 3, 0), (111, .newarray .int, 2, 20)],
   [(113, .putfield 50, 3, 593), (116, .aload_n 0, 1, 0), (117, .sipush 128, 3, 0), (120, .newarray .int, 2, 20), (122, .putfield 53, 3, 594), (125, .aload_n 0, 1, 0), (126, .bipush 16, 2, 0)],
   [(128, .newarray .int, 2, 20), (130, .putfield 56, 3, 595), (133, .aload_n 0, 1, 0), (134, .bipush 65, 2, 0), (136, .newarray .boolean, 2, 22), (138, .putfield 59, 3, 596), (141, .return_, 1, 0)]])
def mX9_in : xMt := (9, 0, 2, yX9_in, cX9_in, 2, (some .boolean), [[(0, .iload_n 0, 1, 0), (1, .ifCond .lt 12, 3, 13), (4, .iload_n 0, 1, 0), (5, .iload_n 1, 1, 0), (6, .if_icmp .ge 7, 3, 13), (9, .iconst 1, 1, 0), (10, .goto 4, 3, 14), (13, .iconst 0, 1, 0), (14, .ireturn, 1, 0)]])
def mX9_canHave : xMt := (9, 0, 2, yX9_canHave, cX9_canHave, 2, (some .boolean), [[(0, .iload_n 0, 1, 0), (1, .ifCond .eq 9, 3, 10), (4, .iload_n 0, 1, 0), (5, .bipush 9, 2, 0), (7, .if_icmp .ne 5, 3, 12), (10, .iconst 1, 1, 0), (11, .ireturn, 1, 0), (12, .iload_n 0, 1, 0), (13, .iconst 1, 1, 0), (14, .if_icmp .eq 8, 3, 22)],
   [(17, .iload_n 0, 1, 0), (18, .iconst 2, 1, 0), (19, .if_icmp .ne 10, 3, 29), (22, .iload_n 1, 1, 0), (23, .bipush 8, 2, 0), (25, .invokestatic 62, 3, 92), (28, .ireturn, 1, 0), (29, .iload_n 0, 1, 0), (30, .iconst 3, 1, 0), (31, .if_icmp .ne 10, 3, 41)],
   [(34, .iload_n 1, 1, 0), (35, .bipush 7, 2, 0), (37, .invokestatic 62, 3, 92), (40, .ireturn, 1, 0), (41, .iload_n 0, 1, 0), (42, .iconst 4, 1, 0), (43, .if_icmp .eq 8, 3, 51), (46, .iload_n 0, 1, 0), (47, .iconst 5, 1, 0)],
   [(48, .if_icmp .ne 10, 3, 58), (51, .iload_n 1, 1, 0), (52, .bipush 64, 2, 0), (54, .invokestatic 62, 3, 92), (57, .ireturn, 1, 0), (58, .iload_n 0, 1, 0), (59, .bipush 6, 2, 0), (61, .if_icmp .eq 9, 3, 70)],
   [(64, .iload_n 0, 1, 0), (65, .bipush 7, 2, 0), (67, .if_icmp .ne 9, 3, 76), (70, .iload_n 1, 1, 0), (71, .iconst 2, 1, 0), (72, .invokestatic 62, 3, 92), (75, .ireturn, 1, 0), (76, .iload_n 0, 1, 0), (77, .bipush 8, 2, 0), (79, .if_icmp .ne 15, 3, 94)],
   [(82, .iload_n 1, 1, 0), (83, .iconst 4, 1, 0), (84, .invokestatic 62, 3, 92), (87, .ifCond .eq 7, 3, 94), (90, .iconst 1, 1, 0), (91, .goto 4, 3, 95), (94, .iconst 0, 1, 0), (95, .ireturn, 1, 0)]])
def mX9_instruction : xMt := (9, 1, 2, yX9_instruction, cX9_instruction, 3, (some .int), [[(0, .iload_n 1, 1, 0), (1, .iload_n 2, 1, 0), (2, .invokestatic 66, 3, 93), (5, .ifCond .eq 12, 3, 17), (8, .aload_n 0, 1, 0), (9, .getfield 69, 3, 578), (12, .bipush 64, 2, 0), (14, .if_icmp .ne 5, 3, 19)],
   [(17, .iconst (-1), 1, 0), (18, .ireturn, 1, 0), (19, .aload_n 0, 1, 0), (20, .getfield 7, 3, 576), (23, .aload_n 0, 1, 0), (24, .getfield 69, 3, 578), (27, .iload_n 1, 1, 0), (28, .iastore, 1, 0), (29, .aload_n 0, 1, 0), (30, .getfield 13, 3, 577)],
   [(33, .aload_n 0, 1, 0), (34, .getfield 69, 3, 578), (37, .iload_n 2, 1, 0), (38, .iastore, 1, 0), (39, .aload_n 0, 1, 0), (40, .dup, 1, 0), (41, .getfield 69, 3, 578), (44, .iconst 1, 1, 0), (45, .iadd, 1, 0), (46, .putfield 69, 3, 578)],
   [(49, .aload_n 0, 1, 0), (50, .iconst 0, 1, 0), (51, .putfield 73, 3, 581), (54, .aload_n 0, 1, 0), (55, .iconst 0, 1, 0), (56, .putfield 77, 3, 586), (59, .aload_n 0, 1, 0), (60, .getfield 69, 3, 578), (63, .iconst 1, 1, 0)],
   [(64, .isub, 1, 0), (65, .ireturn, 1, 0)]])
def mX9_clear : xMt := (9, 1, 0, yX9_clear, cX9_clear, 1, none, [[(0, .aload_n 0, 1, 0), (1, .iconst 0, 1, 0), (2, .putfield 69, 3, 578), (5, .aload_n 0, 1, 0), (6, .iconst 0, 1, 0), (7, .putfield 73, 3, 581), (10, .aload_n 0, 1, 0), (11, .iconst 0, 1, 0), (12, .putfield 77, 3, 586), (15, .return_, 1, 0)]])
def mX9_level : xMt := (9, 1, 3, yX9_level, cX9_level, 4, (some .boolean), [[(0, .iload_n 1, 1, 0), (1, .iconst 3, 1, 0), (2, .invokestatic 62, 3, 92), (5, .ifCond .eq 37, 3, 42), (8, .iload_n 3, 1, 0), (9, .iconst 4, 1, 0), (10, .invokestatic 62, 3, 92), (13, .ifCond .eq 29, 3, 42)],
   [(16, .iload_n 2, 1, 0), (17, .iload_n 1, 1, 0), (18, .ifCond .ne 8, 3, 26), (21, .bipush 8, 2, 0), (23, .goto 13, 3, 36), (26, .iload_n 1, 1, 0), (27, .iconst 1, 1, 0), (28, .if_icmp .ne 7, 3, 35), (31, .iconst 2, 1, 0)],
   [(32, .goto 4, 3, 36), (35, .iconst 4, 1, 0), (36, .invokestatic 62, 3, 92), (39, .ifCond .ne 5, 3, 44), (42, .iconst 0, 1, 0), (43, .ireturn, 1, 0), (44, .aload_n 0, 1, 0), (45, .getfield 16, 3, 579)],
   [(48, .iload_n 1, 1, 0), (49, .ifCond .ne 7, 3, 56), (52, .iload_n 2, 1, 0), (53, .goto 19, 3, 72), (56, .iload_n 1, 1, 0), (57, .iconst 1, 1, 0), (58, .if_icmp .ne 10, 3, 68), (61, .bipush 8, 2, 0), (63, .iload_n 2, 1, 0)],
   [(64, .iadd, 1, 0), (65, .goto 7, 3, 72), (68, .bipush 10, 2, 0), (70, .iload_n 2, 1, 0), (71, .iadd, 1, 0), (72, .iload_n 3, 1, 0), (73, .iastore, 1, 0), (74, .aload_n 0, 1, 0), (75, .iconst 0, 1, 0), (76, .putfield 77, 3, 586), (79, .iconst 1, 1, 0)],
   [(80, .ireturn, 1, 0)]])
def mX9_takes : xMt := (9, 1, 1, yX9_takes, cX9_takes, 3, (some .int), [[(0, .aload_n 0, 1, 0), (1, .getfield 7, 3, 576), (4, .iload_n 1, 1, 0), (5, .iaload, 1, 0), (6, .istore_n 2, 1, 0), (7, .iload_n 2, 1, 0), (8, .iconst 3, 1, 0), (9, .if_icmp .eq 9, 3, 18), (12, .iload_n 2, 1, 0), (13, .bipush 7, 2, 0), (15, .if_icmp .ne 7, 3, 22)],
   [(18, .iconst 2, 1, 0), (19, .goto 30, 3, 49), (22, .iload_n 2, 1, 0), (23, .iconst 2, 1, 0), (24, .if_icmp .eq 20, 3, 44), (27, .iload_n 2, 1, 0), (28, .iconst 5, 1, 0), (29, .if_icmp .eq 15, 3, 44)],
   [(32, .iload_n 2, 1, 0), (33, .bipush 6, 2, 0), (35, .if_icmp .eq 9, 3, 44), (38, .iload_n 2, 1, 0), (39, .bipush 8, 2, 0), (41, .if_icmp .ne 7, 3, 48), (44, .iconst 1, 1, 0), (45, .goto 4, 3, 49)],
   [(48, .iconst 0, 1, 0), (49, .ireturn, 1, 0)]])
def mX9_gives : xMt := (9, 1, 1, yX9_gives, cX9_gives, 3, (some .boolean), [[(0, .aload_n 0, 1, 0), (1, .getfield 7, 3, 576), (4, .iload_n 1, 1, 0), (5, .iaload, 1, 0), (6, .istore_n 2, 1, 0), (7, .iload_n 2, 1, 0), (8, .ifCond .eq 19, 3, 27), (11, .iload_n 2, 1, 0), (12, .iconst 1, 1, 0), (13, .if_icmp .eq 14, 3, 27)],
   [(16, .iload_n 2, 1, 0), (17, .iconst 3, 1, 0), (18, .if_icmp .eq 9, 3, 27), (21, .iload_n 2, 1, 0), (22, .bipush 6, 2, 0), (24, .if_icmp .ne 7, 3, 31), (27, .iconst 1, 1, 0), (28, .goto 4, 3, 32), (31, .iconst 0, 1, 0)],
   [(32, .ireturn, 1, 0)]])
def mX9_next : xMt := (9, 1, 1, yX9_next, cX9_next, 2, (some .int), [[(0, .aload_n 0, 1, 0), (1, .getfield 7, 3, 576), (4, .iload_n 1, 1, 0), (5, .iaload, 1, 0), (6, .iconst 4, 1, 0), (7, .if_icmp .ne 12, 3, 19), (10, .aload_n 0, 1, 0), (11, .getfield 13, 3, 577), (14, .iload_n 1, 1, 0), (15, .iaload, 1, 0)],
   [(16, .goto 24, 3, 40), (19, .aload_n 0, 1, 0), (20, .getfield 7, 3, 576), (23, .iload_n 1, 1, 0), (24, .iaload, 1, 0), (25, .bipush 9, 2, 0), (27, .if_icmp .ne 10, 3, 37), (30, .aload_n 0, 1, 0), (31, .getfield 69, 3, 578)],
   [(34, .goto 6, 3, 40), (37, .iload_n 1, 1, 0), (38, .iconst 1, 1, 0), (39, .iadd, 1, 0), (40, .ireturn, 1, 0)]])
def mX9_other : xMt := (9, 1, 1, yX9_other, cX9_other, 2, (some .int), [[(0, .aload_n 0, 1, 0), (1, .getfield 7, 3, 576), (4, .iload_n 1, 1, 0), (5, .iaload, 1, 0), (6, .iconst 5, 1, 0), (7, .if_icmp .ne 12, 3, 19), (10, .aload_n 0, 1, 0), (11, .getfield 13, 3, 577), (14, .iload_n 1, 1, 0), (15, .iaload, 1, 0)],
   [(16, .goto 8, 3, 24), (19, .aload_n 0, 1, 0), (20, .iload_n 1, 1, 0), (21, .invokevirtual 80, 3, 99), (24, .ireturn, 1, 0)]])
def mX9_walk : xMt := (9, 1, 0, yX9_walk, cX9_walk, 7, (some .boolean), [[(0, .iconst 0, 1, 0), (1, .istore_n 1, 1, 0), (2, .iload_n 1, 1, 0), (3, .bipush 64, 2, 0), (5, .if_icmp .ge 16, 3, 21), (8, .aload_n 0, 1, 0), (9, .getfield 22, 3, 583), (12, .iload_n 1, 1, 0), (13, .iconst (-1), 1, 0), (14, .iastore, 1, 0), (15, .iinc 1 1, 3, 0)],
   [(18, .goto (-16), 3, 2), (21, .aload_n 0, 1, 0), (22, .getfield 69, 3, 578), (25, .ifCond .ne 5, 3, 30), (28, .iconst 0, 1, 0), (29, .ireturn, 1, 0), (30, .aload_n 0, 1, 0), (31, .getfield 22, 3, 583)],
   [(34, .iconst 0, 1, 0), (35, .iconst 0, 1, 0), (36, .iastore, 1, 0), (37, .iconst 1, 1, 0), (38, .istore_n 1, 1, 0), (39, .iconst 0, 1, 0), (40, .istore_n 2, 1, 0), (41, .iload_n 2, 1, 0), (42, .bipush 64, 2, 0), (44, .if_icmp .gt 202, 3, 246), (47, .iload_n 1, 1, 0)],
   [(48, .ifCond .eq 198, 3, 246), (51, .iconst 0, 1, 0), (52, .istore_n 1, 1, 0), (53, .iconst 0, 1, 0), (54, .istore_n 3, 1, 0), (55, .iload_n 3, 1, 0), (56, .aload_n 0, 1, 0), (57, .getfield 69, 3, 578), (60, .if_icmp .ge 180, 3, 240), (63, .aload_n 0, 1, 0)],
   [(64, .getfield 22, 3, 583), (67, .iload_n 3, 1, 0), (68, .iaload, 1, 0), (69, .ifCond .ge 6, 3, 75), (72, .goto 162, 3, 234), (75, .aload_n 0, 1, 0), (76, .getfield 22, 3, 583), (79, .iload_n 3, 1, 0)],
   [(80, .iaload, 1, 0), (81, .aload_n 0, 1, 0), (82, .iload_n 3, 1, 0), (83, .invokevirtual 84, 3, 97), (86, .isub, 1, 0), (87, .istore 4, 2, 0), (89, .iload 4, 2, 0), (91, .ifCond .ge 5, 3, 96), (94, .iconst 0, 1, 0), (95, .ireturn, 1, 0)],
   [(96, .iload 4, 2, 0), (98, .aload_n 0, 1, 0), (99, .iload_n 3, 1, 0), (100, .invokevirtual 87, 3, 98), (103, .ifCond .eq 7, 3, 110), (106, .iconst 1, 1, 0), (107, .goto 4, 3, 111), (110, .iconst 0, 1, 0), (111, .iadd, 1, 0)],
   [(112, .istore 4, 2, 0), (114, .iload 4, 2, 0), (116, .bipush 16, 2, 0), (118, .if_icmp .le 5, 3, 123), (121, .iconst 0, 1, 0), (122, .ireturn, 1, 0), (123, .aload_n 0, 1, 0), (124, .getfield 7, 3, 576), (127, .iload_n 3, 1, 0)],
   [(128, .iaload, 1, 0), (129, .bipush 9, 2, 0), (131, .if_icmp .ne 6, 3, 137), (134, .goto 100, 3, 234), (137, .iconst 0, 1, 0), (138, .istore 5, 2, 0), (140, .iload 5, 2, 0), (142, .iconst 2, 1, 0), (143, .if_icmp .ge 91, 3, 234)],
   [(146, .iload 5, 2, 0), (148, .ifCond .ne 11, 3, 159), (151, .aload_n 0, 1, 0), (152, .iload_n 3, 1, 0), (153, .invokevirtual 80, 3, 99), (156, .goto 8, 3, 164), (159, .aload_n 0, 1, 0)],
   [(160, .iload_n 3, 1, 0), (161, .invokevirtual 91, 3, 100), (164, .istore 6, 2, 0), (166, .iload 6, 2, 0), (168, .aload_n 0, 1, 0), (169, .getfield 69, 3, 578), (172, .if_icmp .ge 25, 3, 197), (175, .aload_n 0, 1, 0)],
   [(176, .getfield 22, 3, 583), (179, .iload 6, 2, 0), (181, .iaload, 1, 0), (182, .ifCond .lt 17, 3, 199), (185, .aload_n 0, 1, 0), (186, .getfield 22, 3, 583), (189, .iload 6, 2, 0), (191, .iaload, 1, 0)],
   [(192, .iload 4, 2, 0), (194, .if_icmp .eq 5, 3, 199), (197, .iconst 0, 1, 0), (198, .ireturn, 1, 0), (199, .iload_n 1, 1, 0), (200, .ifCond .ne 13, 3, 213), (203, .aload_n 0, 1, 0), (204, .getfield 22, 3, 583), (207, .iload 6, 2, 0)],
   [(209, .iaload, 1, 0), (210, .ifCond .ge 7, 3, 217), (213, .iconst 1, 1, 0), (214, .goto 4, 3, 218), (217, .iconst 0, 1, 0), (218, .istore_n 1, 1, 0), (219, .aload_n 0, 1, 0), (220, .getfield 22, 3, 583), (223, .iload 6, 2, 0)],
   [(225, .iload 4, 2, 0), (227, .iastore, 1, 0), (228, .iinc 5 1, 3, 0), (231, .goto (-91), 3, 140), (234, .iinc 3 1, 3, 0), (237, .goto (-182), 3, 55)],
   [(240, .iinc 2 1, 3, 0), (243, .goto (-202), 3, 41), (246, .iconst 1, 1, 0), (247, .ireturn, 1, 0)]])
def mX9_unmark : xMt := (9, 1, 0, yX9_unmark, cX9_unmark, 2, none, [[(0, .iconst 0, 1, 0), (1, .istore_n 1, 1, 0), (2, .iload_n 1, 1, 0), (3, .bipush 64, 2, 0), (5, .if_icmp .gt 16, 3, 21), (8, .aload_n 0, 1, 0), (9, .getfield 35, 3, 588), (12, .iload_n 1, 1, 0), (13, .iconst 0, 1, 0), (14, .bastore, 1, 0), (15, .iinc 1 1, 3, 0)],
   [(18, .goto (-16), 3, 2), (21, .return_, 1, 0)]])
def mX9_unwall : xMt := (9, 1, 0, yX9_unwall, cX9_unwall, 2, none, [[(0, .iconst 0, 1, 0), (1, .istore_n 1, 1, 0), (2, .iload_n 1, 1, 0), (3, .bipush 64, 2, 0), (5, .if_icmp .gt 16, 3, 21), (8, .aload_n 0, 1, 0), (9, .getfield 38, 3, 589), (12, .iload_n 1, 1, 0), (13, .iconst 0, 1, 0), (14, .bastore, 1, 0), (15, .iinc 1 1, 3, 0)],
   [(18, .goto (-16), 3, 2), (21, .return_, 1, 0)]])
def mX9_spread : xMt := (9, 1, 0, yX9_spread, cX9_spread, 6, none, [[(0, .iconst 1, 1, 0), (1, .istore_n 1, 1, 0), (2, .iconst 0, 1, 0), (3, .istore_n 2, 1, 0), (4, .iload_n 2, 1, 0), (5, .bipush 64, 2, 0), (7, .if_icmp .gt 112, 3, 119), (10, .iload_n 1, 1, 0), (11, .ifCond .eq 108, 3, 119), (14, .iconst 0, 1, 0), (15, .istore_n 1, 1, 0)],
   [(16, .iconst 0, 1, 0), (17, .istore_n 3, 1, 0), (18, .iload_n 3, 1, 0), (19, .aload_n 0, 1, 0), (20, .getfield 69, 3, 578), (23, .if_icmp .ge 90, 3, 113), (26, .aload_n 0, 1, 0), (27, .getfield 35, 3, 588), (30, .iload_n 3, 1, 0), (31, .baload, 1, 0)],
   [(32, .ifCond .eq 75, 3, 107), (35, .aload_n 0, 1, 0), (36, .getfield 38, 3, 589), (39, .iload_n 3, 1, 0), (40, .baload, 1, 0), (41, .ifCond .eq 6, 3, 47), (44, .goto 63, 3, 107), (47, .aload_n 0, 1, 0)],
   [(48, .iload_n 3, 1, 0), (49, .invokevirtual 80, 3, 99), (52, .istore 4, 2, 0), (54, .aload_n 0, 1, 0), (55, .iload_n 3, 1, 0), (56, .invokevirtual 91, 3, 100), (59, .istore 5, 2, 0), (61, .iload_n 1, 1, 0), (62, .ifCond .ne 23, 3, 85)],
   [(65, .aload_n 0, 1, 0), (66, .getfield 35, 3, 588), (69, .iload 4, 2, 0), (71, .baload, 1, 0), (72, .ifCond .eq 13, 3, 85), (75, .aload_n 0, 1, 0), (76, .getfield 35, 3, 588), (79, .iload 5, 2, 0)],
   [(81, .baload, 1, 0), (82, .ifCond .ne 7, 3, 89), (85, .iconst 1, 1, 0), (86, .goto 4, 3, 90), (89, .iconst 0, 1, 0), (90, .istore_n 1, 1, 0), (91, .aload_n 0, 1, 0), (92, .getfield 35, 3, 588), (95, .iload 4, 2, 0)],
   [(97, .iconst 1, 1, 0), (98, .bastore, 1, 0), (99, .aload_n 0, 1, 0), (100, .getfield 35, 3, 588), (103, .iload 5, 2, 0), (105, .iconst 1, 1, 0), (106, .bastore, 1, 0), (107, .iinc 3 1, 3, 0), (110, .goto (-92), 3, 18)],
   [(113, .iinc 2 1, 3, 0), (116, .goto (-112), 3, 4), (119, .return_, 1, 0)]])
def mX9_leads : xMt := (9, 1, 2, yX9_leads, cX9_leads, 3, (some .boolean), [[(0, .aload_n 0, 1, 0), (1, .invokevirtual 94, 3, 103), (4, .iload_n 2, 1, 0), (5, .ifCond .lt 10, 3, 15), (8, .aload_n 0, 1, 0), (9, .getfield 38, 3, 589), (12, .iload_n 2, 1, 0), (13, .iconst 1, 1, 0), (14, .bastore, 1, 0), (15, .aload_n 0, 1, 0)],
   [(16, .invokevirtual 97, 3, 102), (19, .aload_n 0, 1, 0), (20, .getfield 35, 3, 588), (23, .iload_n 1, 1, 0), (24, .iconst 1, 1, 0), (25, .bastore, 1, 0), (26, .aload_n 0, 1, 0), (27, .invokevirtual 100, 3, 104), (30, .aload_n 0, 1, 0), (31, .getfield 35, 3, 588)],
   [(34, .aload_n 0, 1, 0), (35, .getfield 69, 3, 578), (38, .baload, 1, 0), (39, .ireturn, 1, 0)]])
def mX9_follow : xMt := (9, 1, 1, yX9_follow, cX9_follow, 2, none, [[(0, .aload_n 0, 1, 0), (1, .invokevirtual 97, 3, 102), (4, .aload_n 0, 1, 0), (5, .getfield 35, 3, 588), (8, .aload_n 0, 1, 0), (9, .iload_n 1, 1, 0), (10, .invokevirtual 80, 3, 99), (13, .iconst 1, 1, 0), (14, .bastore, 1, 0), (15, .aload_n 0, 1, 0)],
   [(16, .getfield 35, 3, 588), (19, .aload_n 0, 1, 0), (20, .iload_n 1, 1, 0), (21, .invokevirtual 91, 3, 100), (24, .iconst 1, 1, 0), (25, .bastore, 1, 0), (26, .aload_n 0, 1, 0), (27, .invokevirtual 100, 3, 104), (30, .return_, 1, 0)]])
def mX9_junctionOf : xMt := (9, 1, 1, yX9_junctionOf, cX9_junctionOf, 3, (some .int), [[(0, .aload_n 0, 1, 0), (1, .iload_n 1, 1, 0), (2, .iconst (-1), 1, 0), (3, .invokevirtual 103, 3, 105), (6, .ifCond .ne 5, 3, 11), (9, .iconst (-1), 1, 0), (10, .ireturn, 1, 0), (11, .iconst 0, 1, 0), (12, .istore_n 2, 1, 0), (13, .iload_n 2, 1, 0), (14, .aload_n 0, 1, 0), (15, .getfield 69, 3, 578)],
   [(18, .if_icmp .ge 34, 3, 52), (21, .aload_n 0, 1, 0), (22, .getfield 59, 3, 596), (25, .iload_n 2, 1, 0), (26, .iload_n 2, 1, 0), (27, .iload_n 1, 1, 0), (28, .if_icmp .eq 16, 3, 44), (31, .aload_n 0, 1, 0)],
   [(32, .iload_n 1, 1, 0), (33, .iload_n 2, 1, 0), (34, .invokevirtual 103, 3, 105), (37, .ifCond .ne 7, 3, 44), (40, .iconst 1, 1, 0), (41, .goto 4, 3, 45), (44, .iconst 0, 1, 0), (45, .bastore, 1, 0), (46, .iinc 2 1, 3, 0)],
   [(49, .goto (-36), 3, 13), (52, .aload_n 0, 1, 0), (53, .invokevirtual 94, 3, 103), (56, .iconst 0, 1, 0), (57, .istore_n 2, 1, 0), (58, .iload_n 2, 1, 0), (59, .aload_n 0, 1, 0), (60, .getfield 69, 3, 578), (63, .if_icmp .ge 21, 3, 84)],
   [(66, .aload_n 0, 1, 0), (67, .getfield 38, 3, 589), (70, .iload_n 2, 1, 0), (71, .aload_n 0, 1, 0), (72, .getfield 59, 3, 596), (75, .iload_n 2, 1, 0), (76, .baload, 1, 0), (77, .bastore, 1, 0), (78, .iinc 2 1, 3, 0)],
   [(81, .goto (-23), 3, 58), (84, .aload_n 0, 1, 0), (85, .getfield 38, 3, 589), (88, .aload_n 0, 1, 0), (89, .getfield 69, 3, 578), (92, .iconst 1, 1, 0), (93, .bastore, 1, 0), (94, .aload_n 0, 1, 0), (95, .iload_n 1, 1, 0)],
   [(96, .invokevirtual 106, 3, 106), (99, .iconst 0, 1, 0), (100, .istore_n 2, 1, 0), (101, .iload_n 2, 1, 0), (102, .aload_n 0, 1, 0), (103, .getfield 69, 3, 578), (106, .if_icmp .ge 29, 3, 135), (109, .aload_n 0, 1, 0), (110, .getfield 35, 3, 588)],
   [(113, .iload_n 2, 1, 0), (114, .baload, 1, 0), (115, .ifCond .eq 14, 3, 129), (118, .aload_n 0, 1, 0), (119, .getfield 38, 3, 589), (122, .iload_n 2, 1, 0), (123, .baload, 1, 0), (124, .ifCond .eq 5, 3, 129), (127, .iload_n 2, 1, 0)],
   [(128, .ireturn, 1, 0), (129, .iinc 2 1, 3, 0), (132, .goto (-31), 3, 101), (135, .aload_n 0, 1, 0), (136, .getfield 69, 3, 578), (139, .ireturn, 1, 0)]])
def mX9_look : xMt := (9, 1, 0, yX9_look, cX9_look, 3, none, [[(0, .aload_n 0, 1, 0), (1, .getfield 73, 3, 581), (4, .ifCond .eq 4, 3, 8), (7, .return_, 1, 0), (8, .aload_n 0, 1, 0), (9, .iconst 1, 1, 0), (10, .putfield 73, 3, 581), (13, .aload_n 0, 1, 0), (14, .aload_n 0, 1, 0), (15, .invokevirtual 110, 3, 101)],
   [(18, .putfield 114, 3, 582), (21, .iconst 0, 1, 0), (22, .istore_n 1, 1, 0), (23, .iload_n 1, 1, 0), (24, .sipush 4096, 3, 0), (27, .if_icmp .ge 16, 3, 43), (30, .aload_n 0, 1, 0), (31, .getfield 28, 3, 585)],
   [(34, .iload_n 1, 1, 0), (35, .iconst 0, 1, 0), (36, .bastore, 1, 0), (37, .iinc 1 1, 3, 0), (40, .goto (-17), 3, 23), (43, .iconst 0, 1, 0), (44, .istore_n 1, 1, 0), (45, .iload_n 1, 1, 0), (46, .bipush 64, 2, 0)],
   [(48, .if_icmp .ge 16, 3, 64), (51, .aload_n 0, 1, 0), (52, .getfield 25, 3, 584), (55, .iload_n 1, 1, 0), (56, .iconst (-1), 1, 0), (57, .iastore, 1, 0), (58, .iinc 1 1, 3, 0), (61, .goto (-16), 3, 45)],
   [(64, .iconst 0, 1, 0), (65, .istore_n 1, 1, 0), (66, .iload_n 1, 1, 0), (67, .aload_n 0, 1, 0), (68, .getfield 69, 3, 578), (71, .if_icmp .ge 129, 3, 200), (74, .aload_n 0, 1, 0), (75, .getfield 114, 3, 582), (78, .ifCond .eq 122, 3, 200)],
   [(81, .aload_n 0, 1, 0), (82, .getfield 7, 3, 576), (85, .iload_n 1, 1, 0), (86, .iaload, 1, 0), (87, .iconst 5, 1, 0), (88, .if_icmp .ne 106, 3, 194), (91, .aload_n 0, 1, 0), (92, .getfield 22, 3, 583), (95, .iload_n 1, 1, 0)],
   [(96, .iaload, 1, 0), (97, .ifCond .ge 6, 3, 103), (100, .goto 94, 3, 194), (103, .aload_n 0, 1, 0), (104, .getfield 25, 3, 584), (107, .iload_n 1, 1, 0), (108, .aload_n 0, 1, 0), (109, .iload_n 1, 1, 0), (110, .invokevirtual 117, 3, 107)],
   [(113, .iastore, 1, 0), (114, .aload_n 0, 1, 0), (115, .invokevirtual 94, 3, 103), (118, .aload_n 0, 1, 0), (119, .getfield 25, 3, 584), (122, .iload_n 1, 1, 0), (123, .iaload, 1, 0), (124, .ifCond .lt 15, 3, 139), (127, .aload_n 0, 1, 0)],
   [(128, .getfield 38, 3, 589), (131, .aload_n 0, 1, 0), (132, .getfield 25, 3, 584), (135, .iload_n 1, 1, 0), (136, .iaload, 1, 0), (137, .iconst 1, 1, 0), (138, .bastore, 1, 0), (139, .aload_n 0, 1, 0), (140, .iload_n 1, 1, 0), (141, .invokevirtual 106, 3, 106)],
   [(144, .iconst 0, 1, 0), (145, .istore_n 2, 1, 0), (146, .iload_n 2, 1, 0), (147, .aload_n 0, 1, 0), (148, .getfield 69, 3, 578), (151, .if_icmp .ge 43, 3, 194), (154, .aload_n 0, 1, 0), (155, .getfield 28, 3, 585), (158, .bipush 64, 2, 0)],
   [(160, .iload_n 1, 1, 0), (161, .imul, 1, 0), (162, .iload_n 2, 1, 0), (163, .iadd, 1, 0), (164, .aload_n 0, 1, 0), (165, .getfield 35, 3, 588), (168, .iload_n 2, 1, 0), (169, .baload, 1, 0), (170, .ifCond .eq 16, 3, 186), (173, .aload_n 0, 1, 0), (174, .getfield 38, 3, 589)],
   [(177, .iload_n 2, 1, 0), (178, .baload, 1, 0), (179, .ifCond .ne 7, 3, 186), (182, .iconst 1, 1, 0), (183, .goto 4, 3, 187), (186, .iconst 0, 1, 0), (187, .bastore, 1, 0), (188, .iinc 2 1, 3, 0), (191, .goto (-45), 3, 146)],
   [(194, .iinc 1 1, 3, 0), (197, .goto (-131), 3, 66), (200, .return_, 1, 0)]])
def mX9_pileOf : xMt := (9, 1, 2, yX9_pileOf, cX9_pileOf, 3, (some .int), [[(0, .bipush 64, 2, 0), (2, .bipush 16, 2, 0), (4, .iload_n 1, 1, 0), (5, .imul, 1, 0), (6, .iadd, 1, 0), (7, .iload_n 2, 1, 0), (8, .iadd, 1, 0), (9, .ireturn, 1, 0)]])
def mX9_grows : xMt := (9, 1, 2, yX9_grows, cX9_grows, 4, (some .boolean), [[(0, .aload_n 0, 1, 0), (1, .getfield 32, 3, 587), (4, .iload_n 1, 1, 0), (5, .iaload, 1, 0), (6, .istore_n 3, 1, 0), (7, .aload_n 0, 1, 0), (8, .getfield 32, 3, 587), (11, .iload_n 1, 1, 0), (12, .iload_n 3, 1, 0), (13, .iload_n 2, 1, 0), (14, .ior, 1, 0), (15, .iastore, 1, 0)],
   [(16, .aload_n 0, 1, 0), (17, .getfield 32, 3, 587), (20, .iload_n 1, 1, 0), (21, .iaload, 1, 0), (22, .iload_n 3, 1, 0), (23, .if_icmp .eq 7, 3, 30), (26, .iconst 1, 1, 0), (27, .goto 4, 3, 31), (30, .iconst 0, 1, 0), (31, .ireturn, 1, 0)]])
def mX9_taken : xMt := (9, 1, 1, yX9_taken, cX9_taken, 4, (some .int), [[(0, .iconst 0, 1, 0), (1, .istore_n 2, 1, 0), (2, .aload_n 0, 1, 0), (3, .getfield 22, 3, 583), (6, .iload_n 1, 1, 0), (7, .iaload, 1, 0), (8, .aload_n 0, 1, 0), (9, .iload_n 1, 1, 0), (10, .invokevirtual 84, 3, 97), (13, .isub, 1, 0), (14, .istore_n 3, 1, 0), (15, .iload_n 3, 1, 0)],
   [(16, .aload_n 0, 1, 0), (17, .getfield 22, 3, 583), (20, .iload_n 1, 1, 0), (21, .iaload, 1, 0), (22, .if_icmp .ge 23, 3, 45), (25, .iload_n 2, 1, 0), (26, .aload_n 0, 1, 0), (27, .getfield 32, 3, 587), (30, .aload_n 0, 1, 0), (31, .iload_n 1, 1, 0)],
   [(32, .iload_n 3, 1, 0), (33, .invokevirtual 120, 3, 109), (36, .iaload, 1, 0), (37, .ior, 1, 0), (38, .istore_n 2, 1, 0), (39, .iinc 3 1, 3, 0), (42, .goto (-27), 3, 15), (45, .iload_n 2, 1, 0), (46, .ireturn, 1, 0)]])
def mX9_put : xMt := (9, 1, 1, yX9_put, cX9_put, 3, (some .int), [[(0, .aload_n 0, 1, 0), (1, .getfield 32, 3, 587), (4, .iload_n 1, 1, 0), (5, .iaload, 1, 0), (6, .aload_n 0, 1, 0), (7, .iload_n 1, 1, 0), (8, .invokevirtual 124, 3, 111), (11, .ior, 1, 0), (12, .istore_n 2, 1, 0), (13, .aload_n 0, 1, 0), (14, .getfield 7, 3, 576)],
   [(17, .iload_n 1, 1, 0), (18, .iaload, 1, 0), (19, .iconst 1, 1, 0), (20, .if_icmp .ne 19, 3, 39), (23, .iload_n 2, 1, 0), (24, .aload_n 0, 1, 0), (25, .getfield 16, 3, 579), (28, .aload_n 0, 1, 0), (29, .getfield 13, 3, 577)],
   [(32, .iload_n 1, 1, 0), (33, .iaload, 1, 0), (34, .iaload, 1, 0), (35, .ior, 1, 0), (36, .goto 34, 3, 70), (39, .aload_n 0, 1, 0), (40, .getfield 7, 3, 576), (43, .iload_n 1, 1, 0), (44, .iaload, 1, 0), (45, .bipush 6, 2, 0), (47, .if_icmp .ne 22, 3, 69)],
   [(50, .iload_n 2, 1, 0), (51, .aload_n 0, 1, 0), (52, .getfield 16, 3, 579), (55, .bipush 8, 2, 0), (57, .aload_n 0, 1, 0), (58, .getfield 13, 3, 577), (61, .iload_n 1, 1, 0), (62, .iaload, 1, 0), (63, .iadd, 1, 0)],
   [(64, .iaload, 1, 0), (65, .ior, 1, 0), (66, .goto 4, 3, 70), (69, .iload_n 2, 1, 0), (70, .ireturn, 1, 0)]])
def mX9_flow : xMt := (9, 1, 1, yX9_flow, cX9_flow, 8, (some .boolean), [[(0, .iconst 0, 1, 0), (1, .istore_n 2, 1, 0), (2, .aload_n 0, 1, 0), (3, .getfield 22, 3, 583), (6, .iload_n 1, 1, 0), (7, .iaload, 1, 0), (8, .aload_n 0, 1, 0), (9, .iload_n 1, 1, 0), (10, .invokevirtual 84, 3, 97), (13, .isub, 1, 0), (14, .istore_n 3, 1, 0), (15, .aload_n 0, 1, 0)],
   [(16, .getfield 7, 3, 576), (19, .iload_n 1, 1, 0), (20, .iaload, 1, 0), (21, .iconst 5, 1, 0), (22, .if_icmp .ne 11, 3, 33), (25, .aload_n 0, 1, 0), (26, .iload_n 1, 1, 0), (27, .invokevirtual 124, 3, 111), (30, .goto 4, 3, 34)],
   [(33, .iconst 0, 1, 0), (34, .istore 4, 2, 0), (36, .iconst 0, 1, 0), (37, .istore 5, 2, 0), (39, .iload 5, 2, 0), (41, .iconst 2, 1, 0), (42, .if_icmp .ge 132, 3, 174), (45, .aload_n 0, 1, 0), (46, .getfield 7, 3, 576)],
   [(49, .iload_n 1, 1, 0), (50, .iaload, 1, 0), (51, .bipush 9, 2, 0), (53, .if_icmp .eq 121, 3, 174), (56, .iload 5, 2, 0), (58, .ifCond .ne 11, 3, 69), (61, .aload_n 0, 1, 0), (62, .iload_n 1, 1, 0), (63, .invokevirtual 80, 3, 99)],
   [(66, .goto 8, 3, 74), (69, .aload_n 0, 1, 0), (70, .iload_n 1, 1, 0), (71, .invokevirtual 91, 3, 100), (74, .istore 6, 2, 0), (76, .iconst 0, 1, 0), (77, .istore 7, 2, 0), (79, .iload 7, 2, 0)],
   [(81, .iload_n 3, 1, 0), (82, .if_icmp .ge 49, 3, 131), (85, .aload_n 0, 1, 0), (86, .aload_n 0, 1, 0), (87, .iload 6, 2, 0), (89, .iload 7, 2, 0), (91, .invokevirtual 120, 3, 109), (94, .aload_n 0, 1, 0), (95, .getfield 32, 3, 587)],
   [(98, .aload_n 0, 1, 0), (99, .iload_n 1, 1, 0), (100, .iload 7, 2, 0), (102, .invokevirtual 120, 3, 109), (105, .iaload, 1, 0), (106, .iload 4, 2, 0), (108, .ior, 1, 0), (109, .invokevirtual 127, 3, 110)],
   [(112, .ifCond .ne 7, 3, 119), (115, .iload_n 2, 1, 0), (116, .ifCond .eq 7, 3, 123), (119, .iconst 1, 1, 0), (120, .goto 4, 3, 124), (123, .iconst 0, 1, 0), (124, .istore_n 2, 1, 0), (125, .iinc 7 1, 3, 0)],
   [(128, .goto (-49), 3, 79), (131, .aload_n 0, 1, 0), (132, .iload_n 1, 1, 0), (133, .invokevirtual 87, 3, 98), (136, .ifCond .eq 32, 3, 168), (139, .aload_n 0, 1, 0), (140, .aload_n 0, 1, 0), (141, .iload 6, 2, 0), (143, .iload_n 3, 1, 0)],
   [(144, .invokevirtual 120, 3, 109), (147, .aload_n 0, 1, 0), (148, .iload_n 1, 1, 0), (149, .invokevirtual 130, 3, 112), (152, .invokevirtual 127, 3, 110), (155, .ifCond .ne 7, 3, 162), (158, .iload_n 2, 1, 0), (159, .ifCond .eq 7, 3, 166)],
   [(162, .iconst 1, 1, 0), (163, .goto 4, 3, 167), (166, .iconst 0, 1, 0), (167, .istore_n 2, 1, 0), (168, .iinc 5 1, 3, 0), (171, .goto (-132), 3, 39), (174, .iconst 0, 1, 0), (175, .istore 5, 2, 0)],
   [(177, .iload 5, 2, 0), (179, .aload_n 0, 1, 0), (180, .getfield 69, 3, 578), (183, .if_icmp .ge 50, 3, 233), (186, .iload 4, 2, 0), (188, .ifCond .le 45, 3, 233), (191, .aload_n 0, 1, 0)],
   [(192, .getfield 28, 3, 585), (195, .bipush 64, 2, 0), (197, .iload_n 1, 1, 0), (198, .imul, 1, 0), (199, .iload 5, 2, 0), (201, .iadd, 1, 0), (202, .baload, 1, 0), (203, .ifCond .eq 24, 3, 227), (206, .aload_n 0, 1, 0), (207, .iload 5, 2, 0)],
   [(209, .iload 4, 2, 0), (211, .invokevirtual 127, 3, 110), (214, .ifCond .ne 7, 3, 221), (217, .iload_n 2, 1, 0), (218, .ifCond .eq 7, 3, 225), (221, .iconst 1, 1, 0), (222, .goto 4, 3, 226)],
   [(225, .iconst 0, 1, 0), (226, .istore_n 2, 1, 0), (227, .iinc 5 1, 3, 0), (230, .goto (-53), 3, 177), (233, .iload_n 2, 1, 0), (234, .ireturn, 1, 0)]])
def mX9_type : xMt := (9, 1, 0, yX9_type, cX9_type, 4, (some .boolean), [[(0, .aload_n 0, 1, 0), (1, .invokevirtual 133, 3, 108), (4, .aload_n 0, 1, 0), (5, .getfield 114, 3, 582), (8, .ifCond .eq 10, 3, 18), (11, .aload_n 0, 1, 0), (12, .getfield 77, 3, 586), (15, .ifCond .eq 8, 3, 23)],
   [(18, .aload_n 0, 1, 0), (19, .getfield 114, 3, 582), (22, .ireturn, 1, 0), (23, .aload_n 0, 1, 0), (24, .iconst 1, 1, 0), (25, .putfield 77, 3, 586), (28, .iconst 0, 1, 0), (29, .istore_n 1, 1, 0), (30, .iload_n 1, 1, 0), (31, .sipush 1088, 3, 0)],
   [(34, .if_icmp .ge 16, 3, 50), (37, .aload_n 0, 1, 0), (38, .getfield 32, 3, 587), (41, .iload_n 1, 1, 0), (42, .iconst 0, 1, 0), (43, .iastore, 1, 0), (44, .iinc 1 1, 3, 0), (47, .goto (-17), 3, 30)],
   [(50, .iconst 1, 1, 0), (51, .istore_n 1, 1, 0), (52, .iconst 0, 1, 0), (53, .istore_n 2, 1, 0), (54, .iload_n 2, 1, 0), (55, .sipush 2200, 3, 0), (58, .if_icmp .ge 58, 3, 116), (61, .iload_n 1, 1, 0), (62, .ifCond .eq 54, 3, 116)],
   [(65, .iconst 0, 1, 0), (66, .istore_n 1, 1, 0), (67, .iconst 0, 1, 0), (68, .istore_n 3, 1, 0), (69, .iload_n 3, 1, 0), (70, .aload_n 0, 1, 0), (71, .getfield 69, 3, 578), (74, .if_icmp .ge 36, 3, 110), (77, .aload_n 0, 1, 0), (78, .getfield 22, 3, 583)],
   [(81, .iload_n 3, 1, 0), (82, .iaload, 1, 0), (83, .ifCond .lt 21, 3, 104), (86, .aload_n 0, 1, 0), (87, .iload_n 3, 1, 0), (88, .invokevirtual 136, 3, 113), (91, .ifCond .ne 7, 3, 98), (94, .iload_n 1, 1, 0), (95, .ifCond .eq 7, 3, 102)],
   [(98, .iconst 1, 1, 0), (99, .goto 4, 3, 103), (102, .iconst 0, 1, 0), (103, .istore_n 1, 1, 0), (104, .iinc 3 1, 3, 0), (107, .goto (-38), 3, 69), (110, .iinc 2 1, 3, 0)],
   [(113, .goto (-59), 3, 54), (116, .iconst 1, 1, 0), (117, .ireturn, 1, 0)]])
def mX9_isMet : xMt := (9, 1, 1, yX9_isMet, cX9_isMet, 2, (some .boolean), [[(0, .aload_n 0, 1, 0), (1, .invokevirtual 139, 3, 114), (4, .ifCond .eq 27, 3, 31), (7, .iload_n 1, 1, 0), (8, .aload_n 0, 1, 0), (9, .getfield 69, 3, 578), (12, .invokestatic 62, 3, 92), (15, .ifCond .eq 16, 3, 31)],
   [(18, .aload_n 0, 1, 0), (19, .getfield 22, 3, 583), (22, .iload_n 1, 1, 0), (23, .iaload, 1, 0), (24, .ifCond .lt 7, 3, 31), (27, .iconst 1, 1, 0), (28, .goto 4, 3, 32), (31, .iconst 0, 1, 0)],
   [(32, .ireturn, 1, 0)]])
def mX9_isSafe : xMt := (9, 1, 1, yX9_isSafe, cX9_isSafe, 4, (some .boolean), [[(0, .aload_n 0, 1, 0), (1, .getfield 7, 3, 576), (4, .iload_n 1, 1, 0), (5, .iaload, 1, 0), (6, .istore_n 2, 1, 0), (7, .iload_n 2, 1, 0), (8, .iconst 2, 1, 0), (9, .if_icmp .ne 12, 3, 21), (12, .aload_n 0, 1, 0), (13, .getfield 13, 3, 577)],
   [(16, .iload_n 1, 1, 0), (17, .iaload, 1, 0), (18, .goto 40, 3, 58), (21, .iload_n 2, 1, 0), (22, .bipush 7, 2, 0), (24, .if_icmp .ne 15, 3, 39), (27, .bipush 8, 2, 0), (29, .aload_n 0, 1, 0), (30, .getfield 13, 3, 577)],
   [(33, .iload_n 1, 1, 0), (34, .iaload, 1, 0), (35, .iadd, 1, 0), (36, .goto 22, 3, 58), (39, .iload_n 2, 1, 0), (40, .bipush 8, 2, 0), (42, .if_icmp .ne 15, 3, 57), (45, .bipush 10, 2, 0), (47, .aload_n 0, 1, 0)],
   [(48, .getfield 13, 3, 577), (51, .iload_n 1, 1, 0), (52, .iaload, 1, 0), (53, .iadd, 1, 0), (54, .goto 4, 3, 58), (57, .iconst (-1), 1, 0), (58, .istore_n 3, 1, 0), (59, .iload_n 3, 1, 0), (60, .ifCond .lt 27, 3, 87), (63, .aload_n 0, 1, 0)],
   [(64, .getfield 32, 3, 587), (67, .iload_n 1, 1, 0), (68, .iaload, 1, 0), (69, .aload_n 0, 1, 0), (70, .iload_n 1, 1, 0), (71, .invokevirtual 124, 3, 111), (74, .ior, 1, 0), (75, .aload_n 0, 1, 0), (76, .getfield 16, 3, 579), (79, .iload_n 3, 1, 0)],
   [(80, .iaload, 1, 0), (81, .iconst (-1), 1, 0), (82, .ixor, 1, 0), (83, .iand, 1, 0), (84, .ifCond .ne 7, 3, 91), (87, .iconst 1, 1, 0), (88, .goto 4, 3, 92), (91, .iconst 0, 1, 0), (92, .ireturn, 1, 0)]])
def mX9_check : xMt := (9, 1, 0, yX9_check, cX9_check, 2, (some .int), [[(0, .aload_n 0, 1, 0), (1, .invokevirtual 139, 3, 114), (4, .ifCond .ne 5, 3, 9), (7, .iconst (-1), 1, 0), (8, .ireturn, 1, 0), (9, .iconst 0, 1, 0), (10, .istore_n 1, 1, 0), (11, .iload_n 1, 1, 0), (12, .aload_n 0, 1, 0), (13, .getfield 69, 3, 578)],
   [(16, .if_icmp .ge 30, 3, 46), (19, .aload_n 0, 1, 0), (20, .getfield 22, 3, 583), (23, .iload_n 1, 1, 0), (24, .iaload, 1, 0), (25, .ifCond .lt 15, 3, 40), (28, .aload_n 0, 1, 0), (29, .iload_n 1, 1, 0), (30, .invokevirtual 142, 3, 116)],
   [(33, .ifCond .ne 7, 3, 40), (36, .iload_n 1, 1, 0), (37, .iconst 1, 1, 0), (38, .iadd, 1, 0), (39, .ireturn, 1, 0), (40, .iinc 1 1, 3, 0), (43, .goto (-32), 3, 11), (46, .iconst 0, 1, 0), (47, .ireturn, 1, 0)]])
def mX9_surrounding : xMt := (9, 1, 1, yX9_surrounding, cX9_surrounding, 2, (some .int), [[(0, .aload_n 0, 1, 0), (1, .iload_n 1, 1, 0), (2, .invokevirtual 145, 3, 115), (5, .ifCond .eq 12, 3, 17), (8, .aload_n 0, 1, 0), (9, .getfield 32, 3, 587), (12, .iload_n 1, 1, 0), (13, .iaload, 1, 0), (14, .goto 4, 3, 18)],
   [(17, .iconst (-1), 1, 0), (18, .ireturn, 1, 0)]])
def mX9_pile : xMt := (9, 1, 2, yX9_pile, cX9_pile, 3, (some .int), [[(0, .aload_n 0, 1, 0), (1, .iload_n 1, 1, 0), (2, .invokevirtual 145, 3, 115), (5, .ifCond .eq 30, 3, 35), (8, .iload_n 2, 1, 0), (9, .aload_n 0, 1, 0), (10, .getfield 22, 3, 583), (13, .iload_n 1, 1, 0), (14, .iaload, 1, 0), (15, .invokestatic 62, 3, 92)],
   [(18, .ifCond .eq 17, 3, 35), (21, .aload_n 0, 1, 0), (22, .getfield 32, 3, 587), (25, .aload_n 0, 1, 0), (26, .iload_n 1, 1, 0), (27, .iload_n 2, 1, 0), (28, .invokevirtual 120, 3, 109), (31, .iaload, 1, 0)],
   [(32, .goto 4, 3, 36), (35, .iconst (-1), 1, 0), (36, .ireturn, 1, 0)]])
def mX9_junction : xMt := (9, 1, 1, yX9_junction, cX9_junction, 2, (some .int), [[(0, .aload_n 0, 1, 0), (1, .iload_n 1, 1, 0), (2, .invokevirtual 145, 3, 115), (5, .ifCond .eq 12, 3, 17), (8, .aload_n 0, 1, 0), (9, .getfield 25, 3, 584), (12, .iload_n 1, 1, 0), (13, .iaload, 1, 0), (14, .goto 4, 3, 18)],
   [(17, .iconst (-1), 1, 0), (18, .ireturn, 1, 0)]])
def mX9_let : xMt := (9, 1, 3, yX9_let, cX9_let, 4, (some .boolean), [[(0, .iload_n 1, 1, 0), (1, .iconst 2, 1, 0), (2, .invokestatic 62, 3, 92), (5, .ifCond .eq 12, 3, 17), (8, .iload_n 2, 1, 0), (9, .bipush 8, 2, 0), (11, .invokestatic 62, 3, 92), (14, .ifCond .ne 5, 3, 19)],
   [(17, .iconst 0, 1, 0), (18, .ireturn, 1, 0), (19, .aload_n 0, 1, 0), (20, .getfield 19, 3, 580), (23, .bipush 24, 2, 0), (25, .iload_n 1, 1, 0), (26, .imul, 1, 0), (27, .iload_n 2, 1, 0), (28, .iadd, 1, 0), (29, .iload_n 3, 1, 0), (30, .iastore, 1, 0), (31, .iconst 1, 1, 0)],
   [(32, .ireturn, 1, 0)]])
def mX9_lay : xMt := (9, 1, 4, yX9_lay, cX9_lay, 5, (some .boolean), [[(0, .iload_n 1, 1, 0), (1, .iconst 2, 1, 0), (2, .invokestatic 62, 3, 92), (5, .ifCond .eq 20, 3, 25), (8, .iload_n 2, 1, 0), (9, .iconst 2, 1, 0), (10, .invokestatic 62, 3, 92), (13, .ifCond .eq 12, 3, 25)],
   [(16, .iload_n 3, 1, 0), (17, .bipush 8, 2, 0), (19, .invokestatic 62, 3, 92), (22, .ifCond .ne 5, 3, 27), (25, .iconst 0, 1, 0), (26, .ireturn, 1, 0), (27, .aload_n 0, 1, 0), (28, .getfield 19, 3, 580), (31, .bipush 24, 2, 0)],
   [(33, .iload_n 1, 1, 0), (34, .imul, 1, 0), (35, .bipush 8, 2, 0), (37, .iadd, 1, 0), (38, .bipush 8, 2, 0), (40, .iload_n 2, 1, 0), (41, .imul, 1, 0), (42, .iadd, 1, 0), (43, .iload_n 3, 1, 0), (44, .iadd, 1, 0), (45, .iload 4, 2, 0), (47, .iastore, 1, 0)],
   [(48, .iconst 1, 1, 0), (49, .ireturn, 1, 0)]])
def mX9_done : xMt := (9, 0, 3, yX9_done, cX9_done, 3, (some .int), [[(0, .iload_n 0, 1, 0), (1, .tableswitch 77 0 5 #[39, 43, 47, 51, 62, 73], 39, 0)],
   [],
   [(40, .iload_n 1, 1, 0), (41, .iload_n 2, 1, 0), (42, .iadd, 1, 0), (43, .ireturn, 1, 0), (44, .iload_n 1, 1, 0), (45, .iload_n 2, 1, 0), (46, .isub, 1, 0), (47, .ireturn, 1, 0)],
   [(48, .iload_n 1, 1, 0), (49, .iload_n 2, 1, 0), (50, .imul, 1, 0), (51, .ireturn, 1, 0), (52, .iload_n 1, 1, 0), (53, .iload_n 2, 1, 0), (54, .if_icmp .ge 7, 3, 61), (57, .iconst 1, 1, 0), (58, .goto 4, 3, 62), (61, .iconst 0, 1, 0), (62, .ireturn, 1, 0), (63, .iload_n 1, 1, 0)],
   [(64, .iload_n 2, 1, 0), (65, .if_icmp .ne 7, 3, 72), (68, .iconst 1, 1, 0), (69, .goto 4, 3, 73), (72, .iconst 0, 1, 0), (73, .ireturn, 1, 0), (74, .iload_n 1, 1, 0), (75, .iload_n 2, 1, 0), (76, .iand, 1, 0), (77, .ireturn, 1, 0), (78, .iload_n 1, 1, 0), (79, .iload_n 2, 1, 0)],
   [(80, .ior, 1, 0), (81, .ireturn, 1, 0)]])
def mX9_comes : xMt := (9, 1, 3, yX9_comes, cX9_comes, 4, none, [[(0, .aload_n 0, 1, 0), (1, .getfield 47, 3, 592), (4, .iload_n 1, 1, 0), (5, .iaload, 1, 0), (6, .bipush 64, 2, 0), (8, .if_icmp .ge 37, 3, 45), (11, .aload_n 0, 1, 0), (12, .getfield 50, 3, 593), (15, .bipush 64, 2, 0)],
   [(17, .iload_n 1, 1, 0), (18, .imul, 1, 0), (19, .aload_n 0, 1, 0), (20, .getfield 47, 3, 592), (23, .iload_n 1, 1, 0), (24, .iaload, 1, 0), (25, .iadd, 1, 0), (26, .iload_n 2, 1, 0), (27, .iastore, 1, 0), (28, .aload_n 0, 1, 0), (29, .getfield 53, 3, 594)],
   [(32, .bipush 64, 2, 0), (34, .iload_n 1, 1, 0), (35, .imul, 1, 0), (36, .aload_n 0, 1, 0), (37, .getfield 47, 3, 592), (40, .iload_n 1, 1, 0), (41, .iaload, 1, 0), (42, .iadd, 1, 0), (43, .iload_n 3, 1, 0), (44, .iastore, 1, 0), (45, .aload_n 0, 1, 0), (46, .getfield 47, 3, 592)],
   [(49, .iload_n 1, 1, 0), (50, .dup2, 1, 0), (51, .iaload, 1, 0), (52, .iconst 1, 1, 0), (53, .iadd, 1, 0), (54, .iastore, 1, 0), (55, .return_, 1, 0)]])
def mX9_cell : xMt := (9, 0, 3, yX9_cell, cX9_cell, 3, (some .int), [[(0, .bipush 24, 2, 0), (2, .iload_n 0, 1, 0), (3, .imul, 1, 0), (4, .bipush 8, 2, 0), (6, .iadd, 1, 0), (7, .bipush 8, 2, 0), (9, .iload_n 1, 1, 0), (10, .imul, 1, 0), (11, .iadd, 1, 0), (12, .iload_n 2, 1, 0), (13, .bipush 7, 2, 0), (15, .iand, 1, 0)],
   [(16, .iadd, 1, 0), (17, .ireturn, 1, 0)]])
def mX9_work : xMt := (9, 1, 3, yX9_work, cX9_work, 5, none, [[(0, .aload_n 0, 1, 0), (1, .getfield 13, 3, 577), (4, .iload_n 2, 1, 0), (5, .iaload, 1, 0), (6, .istore 4, 2, 0), (8, .aload_n 0, 1, 0), (9, .getfield 7, 3, 576), (12, .iload_n 2, 1, 0), (13, .iaload, 1, 0), (14, .tableswitch 215 0 8 #[50, 61, 82, 105, 215, 215, 137, 167, 197], 50, 0)],
   [],
   [],
   [],
   [(64, .aload_n 0, 1, 0), (65, .getfield 56, 3, 595), (68, .iload_n 3, 1, 0), (69, .iload 4, 2, 0), (71, .iastore, 1, 0), (72, .goto 157, 3, 229), (75, .aload_n 0, 1, 0), (76, .getfield 56, 3, 595), (79, .iload_n 3, 1, 0)],
   [(80, .aload_n 0, 1, 0), (81, .getfield 19, 3, 580), (84, .bipush 24, 2, 0), (86, .iload_n 1, 1, 0), (87, .imul, 1, 0), (88, .iload 4, 2, 0), (90, .iadd, 1, 0), (91, .iaload, 1, 0), (92, .iastore, 1, 0), (93, .goto 136, 3, 229)],
   [(96, .aload_n 0, 1, 0), (97, .getfield 19, 3, 580), (100, .bipush 24, 2, 0), (102, .iload_n 1, 1, 0), (103, .imul, 1, 0), (104, .iload 4, 2, 0), (106, .iadd, 1, 0), (107, .aload_n 0, 1, 0), (108, .getfield 56, 3, 595), (111, .iload_n 3, 1, 0)],
   [(112, .iconst 1, 1, 0), (113, .isub, 1, 0), (114, .iaload, 1, 0), (115, .iastore, 1, 0), (116, .goto 113, 3, 229), (119, .aload_n 0, 1, 0), (120, .getfield 56, 3, 595), (123, .iload_n 3, 1, 0), (124, .iconst 2, 1, 0), (125, .isub, 1, 0), (126, .iload 4, 2, 0)],
   [(128, .aload_n 0, 1, 0), (129, .getfield 56, 3, 595), (132, .iload_n 3, 1, 0), (133, .iconst 2, 1, 0), (134, .isub, 1, 0), (135, .iaload, 1, 0), (136, .aload_n 0, 1, 0), (137, .getfield 56, 3, 595), (140, .iload_n 3, 1, 0), (141, .iconst 1, 1, 0), (142, .isub, 1, 0), (143, .iaload, 1, 0)],
   [(144, .invokestatic 148, 3, 123), (147, .iastore, 1, 0), (148, .goto 81, 3, 229), (151, .aload_n 0, 1, 0), (152, .getfield 56, 3, 595), (155, .iload_n 3, 1, 0), (156, .iconst 1, 1, 0), (157, .isub, 1, 0), (158, .aload_n 0, 1, 0), (159, .getfield 19, 3, 580)],
   [(162, .iload_n 1, 1, 0), (163, .iload 4, 2, 0), (165, .aload_n 0, 1, 0), (166, .getfield 56, 3, 595), (169, .iload_n 3, 1, 0), (170, .iconst 1, 1, 0), (171, .isub, 1, 0), (172, .iaload, 1, 0), (173, .invokestatic 152, 3, 125)],
   [(176, .iaload, 1, 0), (177, .iastore, 1, 0), (178, .goto 51, 3, 229), (181, .aload_n 0, 1, 0), (182, .getfield 19, 3, 580), (185, .iload_n 1, 1, 0), (186, .iload 4, 2, 0), (188, .aload_n 0, 1, 0), (189, .getfield 56, 3, 595)],
   [(192, .iload_n 3, 1, 0), (193, .iconst 2, 1, 0), (194, .isub, 1, 0), (195, .iaload, 1, 0), (196, .invokestatic 152, 3, 125), (199, .aload_n 0, 1, 0), (200, .getfield 56, 3, 595), (203, .iload_n 3, 1, 0), (204, .iconst 1, 1, 0), (205, .isub, 1, 0), (206, .iaload, 1, 0), (207, .iastore, 1, 0)],
   [(208, .goto 21, 3, 229), (211, .aload_n 0, 1, 0), (212, .iload_n 1, 1, 0), (213, .iload 4, 2, 0), (215, .aload_n 0, 1, 0), (216, .getfield 56, 3, 595), (219, .iload_n 3, 1, 0), (220, .iconst 1, 1, 0), (221, .isub, 1, 0), (222, .iaload, 1, 0), (223, .invokevirtual 155, 3, 124)],
   [(226, .goto 3, 3, 229), (229, .return_, 1, 0)]])
def mX9_run : xMt := (9, 1, 2, yX9_run, cX9_run, 6, (some .int), [[(0, .aload_n 0, 1, 0), (1, .invokevirtual 133, 3, 108), (4, .aload_n 0, 1, 0), (5, .getfield 114, 3, 582), (8, .ifCond .eq 11, 3, 19), (11, .iload_n 1, 1, 0), (12, .iconst 2, 1, 0), (13, .invokestatic 62, 3, 92)],
   [(16, .ifCond .ne 5, 3, 21), (19, .iconst (-1), 1, 0), (20, .ireturn, 1, 0), (21, .aload_n 0, 1, 0), (22, .getfield 41, 3, 590), (25, .iload_n 1, 1, 0), (26, .iconst 1, 1, 0), (27, .bastore, 1, 0), (28, .aload_n 0, 1, 0), (29, .getfield 44, 3, 591)],
   [(32, .iload_n 1, 1, 0), (33, .iconst 0, 1, 0), (34, .bastore, 1, 0), (35, .aload_n 0, 1, 0), (36, .getfield 47, 3, 592), (39, .iload_n 1, 1, 0), (40, .iconst 0, 1, 0), (41, .iastore, 1, 0), (42, .iconst 0, 1, 0), (43, .istore_n 3, 1, 0), (44, .iconst 0, 1, 0), (45, .istore 4, 2, 0), (47, .iload 4, 2, 0)],
   [(49, .iload_n 2, 1, 0), (50, .if_icmp .ge 111, 3, 161), (53, .iload 4, 2, 0), (55, .sipush 10000, 3, 0), (58, .if_icmp .ge 103, 3, 161), (61, .iload_n 3, 1, 0), (62, .aload_n 0, 1, 0), (63, .getfield 69, 3, 578)],
   [(66, .if_icmp .ge 95, 3, 161), (69, .aload_n 0, 1, 0), (70, .iload_n 1, 1, 0), (71, .iload_n 3, 1, 0), (72, .aload_n 0, 1, 0), (73, .getfield 22, 3, 583), (76, .iload_n 3, 1, 0), (77, .iaload, 1, 0), (78, .invokevirtual 159, 3, 126)],
   [(81, .aload_n 0, 1, 0), (82, .getfield 7, 3, 576), (85, .iload_n 3, 1, 0), (86, .iaload, 1, 0), (87, .iconst 5, 1, 0), (88, .if_icmp .ne 23, 3, 111), (91, .aload_n 0, 1, 0), (92, .getfield 56, 3, 595), (95, .aload_n 0, 1, 0)],
   [(96, .getfield 22, 3, 583), (99, .iload_n 3, 1, 0), (100, .iaload, 1, 0), (101, .iconst 1, 1, 0), (102, .isub, 1, 0), (103, .iaload, 1, 0), (104, .ifCond .ne 7, 3, 111), (107, .iconst 1, 1, 0), (108, .goto 4, 3, 112), (111, .iconst 0, 1, 0)],
   [(112, .istore 5, 2, 0), (114, .aload_n 0, 1, 0), (115, .getfield 44, 3, 591), (118, .iload_n 1, 1, 0), (119, .aload_n 0, 1, 0), (120, .getfield 7, 3, 576), (123, .iload_n 3, 1, 0), (124, .iaload, 1, 0), (125, .bipush 9, 2, 0), (127, .if_icmp .ne 7, 3, 134)],
   [(130, .iconst 1, 1, 0), (131, .goto 4, 3, 135), (134, .iconst 0, 1, 0), (135, .bastore, 1, 0), (136, .iload 5, 2, 0), (138, .ifCond .eq 11, 3, 149), (141, .aload_n 0, 1, 0), (142, .iload_n 3, 1, 0), (143, .invokevirtual 91, 3, 100)],
   [(146, .goto 8, 3, 154), (149, .aload_n 0, 1, 0), (150, .iload_n 3, 1, 0), (151, .invokevirtual 80, 3, 99), (154, .istore_n 3, 1, 0), (155, .iinc 4 1, 3, 0), (158, .goto (-111), 3, 47)],
   [(161, .iload 4, 2, 0), (163, .ireturn, 1, 0)]])
def mX9_ran : xMt := (9, 1, 2, yX9_ran, cX9_ran, 3, (some .int), [[(0, .iload_n 1, 1, 0), (1, .iconst 2, 1, 0), (2, .invokestatic 62, 3, 92), (5, .ifCond .eq 20, 3, 25), (8, .aload_n 0, 1, 0), (9, .getfield 41, 3, 590), (12, .iload_n 1, 1, 0), (13, .baload, 1, 0), (14, .ifCond .eq 11, 3, 25)],
   [(17, .iload_n 2, 1, 0), (18, .iconst 2, 1, 0), (19, .invokestatic 62, 3, 92), (22, .ifCond .ne 5, 3, 27), (25, .iconst (-1), 1, 0), (26, .ireturn, 1, 0), (27, .iload_n 2, 1, 0), (28, .iconst 1, 1, 0), (29, .if_icmp .ne 12, 3, 41)],
   [(32, .aload_n 0, 1, 0), (33, .getfield 47, 3, 592), (36, .iload_n 1, 1, 0), (37, .iaload, 1, 0), (38, .goto 17, 3, 55), (41, .aload_n 0, 1, 0), (42, .getfield 44, 3, 591), (45, .iload_n 1, 1, 0), (46, .baload, 1, 0), (47, .ifCond .eq 7, 3, 54)],
   [(50, .iconst 1, 1, 0), (51, .goto 4, 3, 55), (54, .iconst 0, 1, 0), (55, .ireturn, 1, 0)]])
def mX9_out : xMt := (9, 1, 3, yX9_out, cX9_out, 4, (some .int), [[(0, .iload_n 1, 1, 0), (1, .iconst 2, 1, 0), (2, .invokestatic 62, 3, 92), (5, .ifCond .eq 30, 3, 35), (8, .iload_n 2, 1, 0), (9, .bipush 64, 2, 0), (11, .invokestatic 62, 3, 92), (14, .ifCond .eq 21, 3, 35)],
   [(17, .iload_n 2, 1, 0), (18, .aload_n 0, 1, 0), (19, .getfield 47, 3, 592), (22, .iload_n 1, 1, 0), (23, .iaload, 1, 0), (24, .if_icmp .ge 11, 3, 35), (27, .iload_n 3, 1, 0), (28, .iconst 2, 1, 0), (29, .invokestatic 62, 3, 92)],
   [(32, .ifCond .ne 5, 3, 37), (35, .iconst 0, 1, 0), (36, .ireturn, 1, 0), (37, .iload_n 3, 1, 0), (38, .ifCond .ne 17, 3, 55), (41, .aload_n 0, 1, 0), (42, .getfield 50, 3, 593), (45, .bipush 64, 2, 0), (47, .iload_n 1, 1, 0)],
   [(48, .imul, 1, 0), (49, .iload_n 2, 1, 0), (50, .iadd, 1, 0), (51, .iaload, 1, 0), (52, .goto 14, 3, 66), (55, .aload_n 0, 1, 0), (56, .getfield 53, 3, 594), (59, .bipush 64, 2, 0), (61, .iload_n 1, 1, 0), (62, .imul, 1, 0), (63, .iload_n 2, 1, 0)],
   [(64, .iadd, 1, 0), (65, .iaload, 1, 0), (66, .ireturn, 1, 0)]])
def mX9_isLow : xMt := (9, 1, 2, yX9_isLow, cX9_isLow, 3, (some .boolean), [[(0, .aload_n 0, 1, 0), (1, .getfield 16, 3, 579), (4, .bipush 10, 2, 0), (6, .aload_n 0, 1, 0), (7, .getfield 50, 3, 593), (10, .iload_n 1, 1, 0), (11, .iaload, 1, 0), (12, .iadd, 1, 0), (13, .iaload, 1, 0), (14, .iload_n 2, 1, 0), (15, .iconst (-1), 1, 0)],
   [(16, .ixor, 1, 0), (17, .iand, 1, 0), (18, .ifCond .ne 7, 3, 25), (21, .iconst 1, 1, 0), (22, .goto 4, 3, 26), (25, .iconst 0, 1, 0), (26, .ireturn, 1, 0)]])
def mX9_low : xMt := (9, 1, 3, yX9_low, cX9_low, 5, (some .int), [[(0, .iload_n 2, 1, 0), (1, .istore 4, 2, 0), (3, .iload 4, 2, 0), (5, .aload_n 0, 1, 0), (6, .getfield 47, 3, 592), (9, .iload_n 1, 1, 0), (10, .iaload, 1, 0), (11, .if_icmp .ge 34, 3, 45), (14, .iload 4, 2, 0)],
   [(16, .bipush 64, 2, 0), (18, .if_icmp .ge 27, 3, 45), (21, .aload_n 0, 1, 0), (22, .bipush 64, 2, 0), (24, .iload_n 1, 1, 0), (25, .imul, 1, 0), (26, .iload 4, 2, 0), (28, .iadd, 1, 0), (29, .iload_n 3, 1, 0), (30, .invokevirtual 162, 3, 130)],
   [(33, .ifCond .eq 6, 3, 39), (36, .iload 4, 2, 0), (38, .ireturn, 1, 0), (39, .iinc 4 1, 3, 0), (42, .goto (-39), 3, 3), (45, .iconst (-1), 1, 0), (46, .ireturn, 1, 0)]])
def mX9_same : xMt := (9, 1, 1, yX9_same, cX9_same, 5, (some .int), [[(0, .iload_n 1, 1, 0), (1, .iconst 4, 1, 0), (2, .invokestatic 62, 3, 92), (5, .ifCond .eq 21, 3, 26), (8, .aload_n 0, 1, 0), (9, .getfield 44, 3, 591), (12, .iconst 0, 1, 0), (13, .baload, 1, 0), (14, .ifCond .eq 12, 3, 26)],
   [(17, .aload_n 0, 1, 0), (18, .getfield 44, 3, 591), (21, .iconst 1, 1, 0), (22, .baload, 1, 0), (23, .ifCond .ne 5, 3, 28), (26, .iconst (-1), 1, 0), (27, .ireturn, 1, 0), (28, .aload_n 0, 1, 0), (29, .iconst 0, 1, 0), (30, .iconst 0, 1, 0), (31, .iload_n 1, 1, 0)],
   [(32, .invokevirtual 165, 3, 131), (35, .istore_n 2, 1, 0), (36, .aload_n 0, 1, 0), (37, .iconst 1, 1, 0), (38, .iconst 0, 1, 0), (39, .iload_n 1, 1, 0), (40, .invokevirtual 165, 3, 131), (43, .istore_n 3, 1, 0), (44, .iload_n 2, 1, 0), (45, .ifCond .lt 70, 3, 115)],
   [(48, .iload_n 3, 1, 0), (49, .ifCond .lt 66, 3, 115), (52, .bipush 64, 2, 0), (54, .iload_n 3, 1, 0), (55, .iadd, 1, 0), (56, .istore 4, 2, 0), (58, .aload_n 0, 1, 0), (59, .getfield 50, 3, 593), (62, .iload_n 2, 1, 0), (63, .iaload, 1, 0)],
   [(64, .aload_n 0, 1, 0), (65, .getfield 50, 3, 593), (68, .iload 4, 2, 0), (70, .iaload, 1, 0), (71, .if_icmp .ne 19, 3, 90), (74, .aload_n 0, 1, 0), (75, .getfield 53, 3, 594), (78, .iload_n 2, 1, 0), (79, .iaload, 1, 0)],
   [(80, .aload_n 0, 1, 0), (81, .getfield 53, 3, 594), (84, .iload 4, 2, 0), (86, .iaload, 1, 0), (87, .if_icmp .eq 5, 3, 92), (90, .iconst 0, 1, 0), (91, .ireturn, 1, 0), (92, .aload_n 0, 1, 0), (93, .iconst 0, 1, 0), (94, .iload_n 2, 1, 0), (95, .iconst 1, 1, 0)],
   [(96, .iadd, 1, 0), (97, .iload_n 1, 1, 0), (98, .invokevirtual 165, 3, 131), (101, .istore_n 2, 1, 0), (102, .aload_n 0, 1, 0), (103, .iconst 1, 1, 0), (104, .iload_n 3, 1, 0), (105, .iconst 1, 1, 0), (106, .iadd, 1, 0), (107, .iload_n 1, 1, 0), (108, .invokevirtual 165, 3, 131), (111, .istore_n 3, 1, 0)],
   [(112, .goto (-68), 3, 44), (115, .iload_n 2, 1, 0), (116, .iload_n 3, 1, 0), (117, .if_icmp .ne 7, 3, 124), (120, .iconst 1, 1, 0), (121, .goto 4, 3, 125), (124, .iconst 0, 1, 0), (125, .ireturn, 1, 0)]])
def mX9_memory : xMt := (9, 1, 2, yX9_memory, cX9_memory, 3, (some .int), [[(0, .iload_n 1, 1, 0), (1, .iconst 2, 1, 0), (2, .invokestatic 62, 3, 92), (5, .ifCond .eq 26, 3, 31), (8, .iload_n 2, 1, 0), (9, .bipush 24, 2, 0), (11, .invokestatic 62, 3, 92), (14, .ifCond .eq 17, 3, 31)],
   [(17, .aload_n 0, 1, 0), (18, .getfield 19, 3, 580), (21, .bipush 24, 2, 0), (23, .iload_n 1, 1, 0), (24, .imul, 1, 0), (25, .iload_n 2, 1, 0), (26, .iadd, 1, 0), (27, .iaload, 1, 0), (28, .goto 4, 3, 32), (31, .iconst 0, 1, 0)],
   [(32, .ireturn, 1, 0)]])
def mJ13_bitCount_95d88 : xMt := (10, 0, 1, yJ13_bitCount_95d88, cJ13_bitCount_95d88, 2, (some .int), [[(0, .lload_n 0, 1, 0), (1, .lload_n 0, 1, 0), (2, .iconst 1, 1, 0), (3, .lushr, 1, 0), (4, .ldc2_w 314, 3, 6148914691236517205), (7, .land, 1, 0), (8, .lsub, 1, 0), (9, .lstore_n 0, 1, 0), (10, .lload_n 0, 1, 0), (11, .ldc2_w 316, 3, 3689348814741910323), (14, .land, 1, 0), (15, .lload_n 0, 1, 0)],
   [(16, .iconst 2, 1, 0), (17, .lushr, 1, 0), (18, .ldc2_w 316, 3, 3689348814741910323), (21, .land, 1, 0), (22, .ladd, 1, 0), (23, .lstore_n 0, 1, 0), (24, .lload_n 0, 1, 0), (25, .lload_n 0, 1, 0), (26, .iconst 4, 1, 0), (27, .lushr, 1, 0), (28, .ladd, 1, 0), (29, .ldc2_w 318, 3, 1085102592571150095)],
   [(32, .land, 1, 0), (33, .lstore_n 0, 1, 0), (34, .lload_n 0, 1, 0), (35, .lload_n 0, 1, 0), (36, .bipush 8, 2, 0), (38, .lushr, 1, 0), (39, .ladd, 1, 0), (40, .lstore_n 0, 1, 0), (41, .lload_n 0, 1, 0), (42, .lload_n 0, 1, 0), (43, .bipush 16, 2, 0), (45, .lushr, 1, 0), (46, .ladd, 1, 0), (47, .lstore_n 0, 1, 0)],
   [(48, .lload_n 0, 1, 0), (49, .lload_n 0, 1, 0), (50, .bipush 32, 2, 0), (52, .lushr, 1, 0), (53, .ladd, 1, 0), (54, .lstore_n 0, 1, 0), (55, .lload_n 0, 1, 0), (56, .l2i, 1, 0), (57, .bipush 127, 2, 0), (59, .iand, 1, 0), (60, .ireturn, 1, 0)]])
def mJ9_floorMod_7cf53 : xMt := (11, 0, 2, yJ9_floorMod_7cf53, cJ9_floorMod_7cf53, 3, (some .int), [[(0, .iload_n 0, 1, 0), (1, .iload_n 1, 1, 0), (2, .irem, 1, 0), (3, .istore_n 2, 1, 0), (4, .iload_n 0, 1, 0), (5, .iload_n 1, 1, 0), (6, .ixor, 1, 0), (7, .ifCond .ge 11, 3, 18), (10, .iload_n 2, 1, 0), (11, .ifCond .eq 7, 3, 18), (14, .iload_n 2, 1, 0), (15, .iload_n 1, 1, 0)],
   [(16, .iadd, 1, 0), (17, .ireturn, 1, 0), (18, .iload_n 2, 1, 0), (19, .ireturn, 1, 0)]])
def mJ9_min_7cf53 : xMt := (11, 0, 2, yJ9_min_7cf53, cJ9_min_7cf53, 2, (some .int), [[(0, .iload_n 0, 1, 0), (1, .iload_n 1, 1, 0), (2, .if_icmp .gt 7, 3, 9), (5, .iload_n 0, 1, 0), (6, .goto 4, 3, 10), (9, .iload_n 1, 1, 0), (10, .ireturn, 1, 0)]])
def mJ7_fill_d0a16 : xMt := (12, 0, 2, yJ7_fill_d0a16, cJ7_fill_d0a16, 5, none, [[(0, .iconst 0, 1, 0), (1, .istore_n 3, 1, 0), (2, .aload_n 0, 1, 0), (3, .arraylength, 1, 0), (4, .istore 4, 2, 0), (6, .iload_n 3, 1, 0), (7, .iload 4, 2, 0), (9, .if_icmp .ge 13, 3, 22), (12, .aload_n 0, 1, 0), (13, .iload_n 3, 1, 0), (14, .lload_n 1, 1, 0), (15, .lastore, 1, 0)],
   [(16, .iinc 3 1, 3, 0), (19, .goto (-13), 3, 6), (22, .return_, 1, 0)]])
def mL_law : xMt := (13, 0, 1, yL_law, cL_law, 4, (some .boolean), [[(0, .new 7, 3, 8), (3, .dup, 1, 0), (4, .invokespecial 9, 3, 67), (7, .astore_n 1, 1, 0), (8, .new 10, 3, 9), (11, .dup, 1, 0), (12, .invokespecial 12, 3, 91), (15, .astore_n 2, 1, 0)],
   [(16, .iconst 0, 1, 0), (17, .istore_n 3, 1, 0), (18, .iload_n 3, 1, 0), (19, .aload_n 0, 1, 0), (20, .arraylength, 1, 0), (21, .iconst 5, 1, 0), (22, .isub, 1, 0), (23, .if_icmp .gt 527, 3, 550), (26, .aload_n 0, 1, 0), (27, .iload_n 3, 1, 0), (28, .iaload, 1, 0), (29, .bipush 15, 2, 0), (31, .iand, 1, 0)],
   [(32, .tableswitch 512 0 13 #[72, 105, 116, 159, 172, 195, 228, 251, 294, 347, 380, 413, 456, 479], 72, 0)],
   [],
   [],
   [],
   [(104, .aload_n 1, 1, 0), (105, .aload_n 0, 1, 0), (106, .iload_n 3, 1, 0), (107, .iconst 1, 1, 0), (108, .iadd, 1, 0), (109, .iaload, 1, 0), (110, .aload_n 0, 1, 0), (111, .iload_n 3, 1, 0)],
   [(112, .iconst 2, 1, 0), (113, .iadd, 1, 0), (114, .iaload, 1, 0), (115, .invokevirtual 13, 3, 68), (118, .aload_n 2, 1, 0), (119, .aload_n 0, 1, 0), (120, .iload_n 3, 1, 0), (121, .iconst 1, 1, 0), (122, .iadd, 1, 0), (123, .iaload, 1, 0), (124, .aload_n 0, 1, 0), (125, .iload_n 3, 1, 0), (126, .iconst 2, 1, 0), (127, .iadd, 1, 0)],
   [(128, .iaload, 1, 0), (129, .invokevirtual 17, 3, 94), (132, .if_icmp .eq 412, 3, 544), (135, .iconst 0, 1, 0), (136, .ireturn, 1, 0), (137, .aload_n 1, 1, 0), (138, .invokevirtual 18, 3, 69), (141, .aload_n 2, 1, 0), (142, .invokevirtual 21, 3, 95)],
   [(145, .goto 399, 3, 544), (148, .aload_n 1, 1, 0), (149, .aload_n 0, 1, 0), (150, .iload_n 3, 1, 0), (151, .iconst 1, 1, 0), (152, .iadd, 1, 0), (153, .iaload, 1, 0), (154, .aload_n 0, 1, 0), (155, .iload_n 3, 1, 0), (156, .iconst 2, 1, 0), (157, .iadd, 1, 0), (158, .iaload, 1, 0), (159, .aload_n 0, 1, 0)],
   [(160, .iload_n 3, 1, 0), (161, .iconst 3, 1, 0), (162, .iadd, 1, 0), (163, .iaload, 1, 0), (164, .invokevirtual 22, 3, 70), (167, .aload_n 2, 1, 0), (168, .aload_n 0, 1, 0), (169, .iload_n 3, 1, 0), (170, .iconst 1, 1, 0), (171, .iadd, 1, 0), (172, .iaload, 1, 0), (173, .aload_n 0, 1, 0), (174, .iload_n 3, 1, 0), (175, .iconst 2, 1, 0)],
   [(176, .iadd, 1, 0), (177, .iaload, 1, 0), (178, .aload_n 0, 1, 0), (179, .iload_n 3, 1, 0), (180, .iconst 3, 1, 0), (181, .iadd, 1, 0), (182, .iaload, 1, 0), (183, .invokevirtual 26, 3, 96), (186, .if_icmp .eq 358, 3, 544), (189, .iconst 0, 1, 0), (190, .ireturn, 1, 0), (191, .aload_n 1, 1, 0)],
   [(192, .invokevirtual 27, 3, 71), (195, .aload_n 2, 1, 0), (196, .invokevirtual 31, 3, 117), (199, .if_icmp .eq 345, 3, 544), (202, .iconst 0, 1, 0), (203, .ireturn, 1, 0), (204, .aload_n 1, 1, 0), (205, .aload_n 0, 1, 0), (206, .iload_n 3, 1, 0), (207, .iconst 1, 1, 0)],
   [(208, .iadd, 1, 0), (209, .iaload, 1, 0), (210, .invokevirtual 32, 3, 72), (213, .aload_n 2, 1, 0), (214, .aload_n 0, 1, 0), (215, .iload_n 3, 1, 0), (216, .iconst 1, 1, 0), (217, .iadd, 1, 0), (218, .iaload, 1, 0), (219, .invokevirtual 36, 3, 118), (222, .if_icmp .eq 322, 3, 544)],
   [(225, .iconst 0, 1, 0), (226, .ireturn, 1, 0), (227, .aload_n 1, 1, 0), (228, .aload_n 0, 1, 0), (229, .iload_n 3, 1, 0), (230, .iconst 1, 1, 0), (231, .iadd, 1, 0), (232, .iaload, 1, 0), (233, .aload_n 0, 1, 0), (234, .iload_n 3, 1, 0), (235, .iconst 2, 1, 0), (236, .iadd, 1, 0), (237, .iaload, 1, 0), (238, .invokevirtual 37, 3, 73)],
   [(241, .aload_n 2, 1, 0), (242, .aload_n 0, 1, 0), (243, .iload_n 3, 1, 0), (244, .iconst 1, 1, 0), (245, .iadd, 1, 0), (246, .iaload, 1, 0), (247, .aload_n 0, 1, 0), (248, .iload_n 3, 1, 0), (249, .iconst 2, 1, 0), (250, .iadd, 1, 0), (251, .iaload, 1, 0), (252, .invokevirtual 40, 3, 119), (255, .if_icmp .eq 289, 3, 544)],
   [(258, .iconst 0, 1, 0), (259, .ireturn, 1, 0), (260, .aload_n 1, 1, 0), (261, .aload_n 0, 1, 0), (262, .iload_n 3, 1, 0), (263, .iconst 1, 1, 0), (264, .iadd, 1, 0), (265, .iaload, 1, 0), (266, .invokevirtual 41, 3, 74), (269, .aload_n 2, 1, 0), (270, .aload_n 0, 1, 0), (271, .iload_n 3, 1, 0)],
   [(272, .iconst 1, 1, 0), (273, .iadd, 1, 0), (274, .iaload, 1, 0), (275, .invokevirtual 44, 3, 120), (278, .if_icmp .eq 266, 3, 544), (281, .iconst 0, 1, 0), (282, .ireturn, 1, 0), (283, .aload_n 1, 1, 0), (284, .aload_n 0, 1, 0), (285, .iload_n 3, 1, 0), (286, .iconst 1, 1, 0), (287, .iadd, 1, 0)],
   [(288, .iaload, 1, 0), (289, .aload_n 0, 1, 0), (290, .iload_n 3, 1, 0), (291, .iconst 2, 1, 0), (292, .iadd, 1, 0), (293, .iaload, 1, 0), (294, .aload_n 0, 1, 0), (295, .iload_n 3, 1, 0), (296, .iconst 3, 1, 0), (297, .iadd, 1, 0), (298, .iaload, 1, 0), (299, .invokevirtual 45, 3, 75), (302, .aload_n 2, 1, 0), (303, .aload_n 0, 1, 0)],
   [(304, .iload_n 3, 1, 0), (305, .iconst 1, 1, 0), (306, .iadd, 1, 0), (307, .iaload, 1, 0), (308, .aload_n 0, 1, 0), (309, .iload_n 3, 1, 0), (310, .iconst 2, 1, 0), (311, .iadd, 1, 0), (312, .iaload, 1, 0), (313, .aload_n 0, 1, 0), (314, .iload_n 3, 1, 0), (315, .iconst 3, 1, 0), (316, .iadd, 1, 0), (317, .iaload, 1, 0), (318, .invokevirtual 48, 3, 121)],
   [(321, .if_icmp .eq 223, 3, 544), (324, .iconst 0, 1, 0), (325, .ireturn, 1, 0), (326, .aload_n 1, 1, 0), (327, .aload_n 0, 1, 0), (328, .iload_n 3, 1, 0), (329, .iconst 1, 1, 0), (330, .iadd, 1, 0), (331, .iaload, 1, 0), (332, .aload_n 0, 1, 0), (333, .iload_n 3, 1, 0), (334, .iconst 2, 1, 0), (335, .iadd, 1, 0)],
   [(336, .iaload, 1, 0), (337, .aload_n 0, 1, 0), (338, .iload_n 3, 1, 0), (339, .iconst 3, 1, 0), (340, .iadd, 1, 0), (341, .iaload, 1, 0), (342, .aload_n 0, 1, 0), (343, .iload_n 3, 1, 0), (344, .iconst 4, 1, 0), (345, .iadd, 1, 0), (346, .iaload, 1, 0), (347, .invokevirtual 49, 3, 76), (350, .aload_n 2, 1, 0), (351, .aload_n 0, 1, 0)],
   [(352, .iload_n 3, 1, 0), (353, .iconst 1, 1, 0), (354, .iadd, 1, 0), (355, .iaload, 1, 0), (356, .aload_n 0, 1, 0), (357, .iload_n 3, 1, 0), (358, .iconst 2, 1, 0), (359, .iadd, 1, 0), (360, .iaload, 1, 0), (361, .aload_n 0, 1, 0), (362, .iload_n 3, 1, 0), (363, .iconst 3, 1, 0), (364, .iadd, 1, 0), (365, .iaload, 1, 0), (366, .aload_n 0, 1, 0), (367, .iload_n 3, 1, 0)],
   [(368, .iconst 4, 1, 0), (369, .iadd, 1, 0), (370, .iaload, 1, 0), (371, .invokevirtual 53, 3, 122), (374, .if_icmp .eq 170, 3, 544), (377, .iconst 0, 1, 0), (378, .ireturn, 1, 0), (379, .aload_n 1, 1, 0), (380, .aload_n 0, 1, 0), (381, .iload_n 3, 1, 0), (382, .iconst 1, 1, 0), (383, .iadd, 1, 0)],
   [(384, .iaload, 1, 0), (385, .aload_n 0, 1, 0), (386, .iload_n 3, 1, 0), (387, .iconst 2, 1, 0), (388, .iadd, 1, 0), (389, .iaload, 1, 0), (390, .invokevirtual 54, 3, 77), (393, .aload_n 2, 1, 0), (394, .aload_n 0, 1, 0), (395, .iload_n 3, 1, 0), (396, .iconst 1, 1, 0), (397, .iadd, 1, 0), (398, .iaload, 1, 0), (399, .aload_n 0, 1, 0)],
   [(400, .iload_n 3, 1, 0), (401, .iconst 2, 1, 0), (402, .iadd, 1, 0), (403, .iaload, 1, 0), (404, .invokevirtual 57, 3, 127), (407, .if_icmp .eq 137, 3, 544), (410, .iconst 0, 1, 0), (411, .ireturn, 1, 0), (412, .aload_n 1, 1, 0), (413, .aload_n 0, 1, 0), (414, .iload_n 3, 1, 0), (415, .iconst 1, 1, 0)],
   [(416, .iadd, 1, 0), (417, .iaload, 1, 0), (418, .aload_n 0, 1, 0), (419, .iload_n 3, 1, 0), (420, .iconst 2, 1, 0), (421, .iadd, 1, 0), (422, .iaload, 1, 0), (423, .invokevirtual 58, 3, 78), (426, .aload_n 2, 1, 0), (427, .aload_n 0, 1, 0), (428, .iload_n 3, 1, 0), (429, .iconst 1, 1, 0), (430, .iadd, 1, 0), (431, .iaload, 1, 0)],
   [(432, .aload_n 0, 1, 0), (433, .iload_n 3, 1, 0), (434, .iconst 2, 1, 0), (435, .iadd, 1, 0), (436, .iaload, 1, 0), (437, .invokevirtual 61, 3, 128), (440, .if_icmp .eq 104, 3, 544), (443, .iconst 0, 1, 0), (444, .ireturn, 1, 0), (445, .aload_n 1, 1, 0), (446, .aload_n 0, 1, 0), (447, .iload_n 3, 1, 0)],
   [(448, .iconst 1, 1, 0), (449, .iadd, 1, 0), (450, .iaload, 1, 0), (451, .aload_n 0, 1, 0), (452, .iload_n 3, 1, 0), (453, .iconst 2, 1, 0), (454, .iadd, 1, 0), (455, .iaload, 1, 0), (456, .aload_n 0, 1, 0), (457, .iload_n 3, 1, 0), (458, .iconst 3, 1, 0), (459, .iadd, 1, 0), (460, .iaload, 1, 0), (461, .invokevirtual 62, 3, 79)],
   [(464, .aload_n 2, 1, 0), (465, .aload_n 0, 1, 0), (466, .iload_n 3, 1, 0), (467, .iconst 1, 1, 0), (468, .iadd, 1, 0), (469, .iaload, 1, 0), (470, .aload_n 0, 1, 0), (471, .iload_n 3, 1, 0), (472, .iconst 2, 1, 0), (473, .iadd, 1, 0), (474, .iaload, 1, 0), (475, .aload_n 0, 1, 0), (476, .iload_n 3, 1, 0), (477, .iconst 3, 1, 0), (478, .iadd, 1, 0), (479, .iaload, 1, 0)],
   [(480, .invokevirtual 66, 3, 129), (483, .if_icmp .eq 61, 3, 544), (486, .iconst 0, 1, 0), (487, .ireturn, 1, 0), (488, .aload_n 1, 1, 0), (489, .aload_n 0, 1, 0), (490, .iload_n 3, 1, 0), (491, .iconst 1, 1, 0), (492, .iadd, 1, 0), (493, .iaload, 1, 0), (494, .invokevirtual 67, 3, 80)],
   [(497, .aload_n 2, 1, 0), (498, .aload_n 0, 1, 0), (499, .iload_n 3, 1, 0), (500, .iconst 1, 1, 0), (501, .iadd, 1, 0), (502, .iaload, 1, 0), (503, .invokevirtual 70, 3, 132), (506, .if_icmp .eq 38, 3, 544), (509, .iconst 0, 1, 0), (510, .ireturn, 1, 0), (511, .aload_n 1, 1, 0)],
   [(512, .aload_n 0, 1, 0), (513, .iload_n 3, 1, 0), (514, .iconst 1, 1, 0), (515, .iadd, 1, 0), (516, .iaload, 1, 0), (517, .aload_n 0, 1, 0), (518, .iload_n 3, 1, 0), (519, .iconst 2, 1, 0), (520, .iadd, 1, 0), (521, .iaload, 1, 0), (522, .invokevirtual 71, 3, 81), (525, .aload_n 2, 1, 0), (526, .aload_n 0, 1, 0), (527, .iload_n 3, 1, 0)],
   [(528, .iconst 1, 1, 0), (529, .iadd, 1, 0), (530, .iaload, 1, 0), (531, .aload_n 0, 1, 0), (532, .iload_n 3, 1, 0), (533, .iconst 2, 1, 0), (534, .iadd, 1, 0), (535, .iaload, 1, 0), (536, .invokevirtual 74, 3, 133), (539, .if_icmp .eq 5, 3, 544), (542, .iconst 0, 1, 0), (543, .ireturn, 1, 0)],
   [(544, .iinc 3 5, 3, 0), (547, .goto (-529), 3, 18), (550, .iconst 1, 1, 0), (551, .ireturn, 1, 0)]])
def xtab : List xMt := [mX0_init, mX0_at, mX0_regionOf, mX0_find, mX0_findEdges, mX0_addEdge, mX0_findPassing, mX0_nearestFor, mX0_reach, mX1_init, mX1_set, mX1_ofVariable, mX1_ofArray, mX1_ofChannel, mX1_setIn, mX2_init, mX2_work, mX2_doAt, mX2_layInto, mX2_doWithTwo, mX2_resultOf, mX2_put, mX2_take, mX3_init, mX3_cellOf, mX3_get, mX3_set, mX4_init, mX4_isThere, mX4_isHalted, mX4_count, mX4_kept, mX4_channelAt, mX4_intAt, mX4_begin, mX4_halt, mX4_add, mX4_nextSeen, mX4_isAlike, mX5_init, mX5_size, mX5_has, mX5_kindAt, mX5_numberAt, mX5_add, mX5_removeAll, mX5_plainFollower, mX5_otherFollower, mX5_canBe, mX6_init, mX6_isWellFormed, mX6_isMet, mX6_heightAt, mX6_find, mX6_goOnFrom, mX6_comeTo, mX7_init, mX7_surroundingAt, mX7_levelOnPile, mX7_find, mX7_firstUnsafe, mX7_isSafe, mX7_spreadFrom, mX7_takenAt, mX7_readBy, mX7_growPile, mX7_growSurroundings, mX8_init, mX8_instruction, mX8_clear, mX8_level, mX8_check, mX8_surrounding, mX8_pile, mX8_junction, mX8_let, mX8_lay, mX8_run, mX8_ran, mX8_out, mX8_same, mX8_memory, mX8_isWellFormed, mX8_typesNow, mX8_rowsAgree, mX8_isMemory, mX8_isBetween, mX8_isBelow, mX8_bit, mX8_holds, mX8_lowest, mX9_init, mX9_in, mX9_canHave, mX9_instruction, mX9_clear, mX9_level, mX9_takes, mX9_gives, mX9_next, mX9_other, mX9_walk, mX9_unmark, mX9_unwall, mX9_spread, mX9_leads, mX9_follow, mX9_junctionOf, mX9_look, mX9_pileOf, mX9_grows, mX9_taken, mX9_put, mX9_flow, mX9_type, mX9_isMet, mX9_isSafe, mX9_check, mX9_surrounding, mX9_pile, mX9_junction, mX9_let, mX9_lay, mX9_done, mX9_comes, mX9_cell, mX9_work, mX9_run, mX9_ran, mX9_out, mX9_isLow, mX9_low, mX9_same, mX9_memory, mJ13_bitCount_95d88, mJ9_floorMod_7cf53, mJ9_min_7cf53, mJ7_fill_d0a16]
end
section
/-! THE PURE MACHINE: a method's run over a memory of numbers and places; sound for the JVM's (part 06). -/
/-- memory: the cells (kind, slots), what their places hold: references, ints, longs. Kinds: 0..9 objects of class k, 20 int[], 21 long[], 22 boolean[], 23, 24 arrays of objects. Cells from 1000 on: int arrays that nobody writes; their lengths are references of row 1000. -/
abbrev xM : Type := List (Nat × Nat) × (Nat → Nat → Option Nat) × (Nat → Nat → Int32) × (Nat → Nat → Int64)
abbrev xL : Type := List (Nat × Value)
/-- pc, locals, operands, memory -/
abbrev xS : Type := Nat × xL × List Value × xM
def xU {α : Type} (f : Nat → Nat → α) (a k : Nat) (v : α) : Nat → Nat → α := va_up f a (va_up (f a) k v)
def xget : xL → Nat → Option Value
  | [], _ => none
  | (j, v) :: t, i => bif Nat.beq j i then some v else xget t i
def xput : xL → Nat → Value → xL
  | [], i, v => [(i, v)]
  | (j, w) :: t, i, v => bif Nat.blt i j then (i, v) :: (j, w) :: t else (j, w) :: xput t i v
/-- is it of two words -/
def xwide : Value → Bool
  | .long _ => true
  | .double _ => true
  | _ => false
def xdel1 : xL → Nat → xL
  | [], _ => []
  | (j, v) :: t, i => bif Nat.beq j i || (Nat.beq (j + 1) i && xwide v) then xdel1 t i else (j, v) :: xdel1 t i
def xdel2 : xL → Nat → xL
  | [], _ => []
  | (j, v) :: t, i => bif Nat.beq j i || (Nat.beq j (i + 1) || (Nat.beq (j + 1) i && xwide v)) then xdel2 t i else (j, v) :: xdel2 t i
def xset1 (l : xL) (i : Nat) (v : Value) : xL := xput (xdel1 l i) i v
def xset2 (l : xL) (i : Nat) (v : Value) : xL := xput (xdel2 l i) i v
def xlook : List (Nat × xI) → Nat → Option xI
  | [], _ => none
  | (j, v) :: t, i => bif Nat.beq j i then some v else xlook t i
def xat (mt : xMt) (pc : Nat) : Option xI := xlook (mt.2.2.2.2.2.2.2.getD (pc / 16) []) pc
def xsuml : List (Nat × Nat) → Nat
  | [] => 0
  | (_, n) :: t => n + xsuml t
def xsum (M : xM) : Nat := xsuml M.1
/-- at most n words -/
def xroom : Nat → List Value → Bool
  | _, [] => true
  | 0, _ :: _ => false
  | n + 1, v :: t => bif xwide v then (match n with
    | 0 => false
    | n + 1 => xroom n t) else xroom n t
/-- the locals at a method's entry -/
def xargs : Nat → List Value → xL
  | _, [] => []
  | i, v :: t => (i, v) :: xargs (bif xwide v then i + 2 else i + 1) t
def xrv (o : Option Nat) : Value := match o with
  | some b => .ref b
  | none => .null
/-- what a field of a type holds -/
def xfv (ty : FieldType) (M : xM) (a k : Nat) : Value := match ty, M with
  | .int, (_, _, mi, _) => .int (mi a k)
  | .boolean, (_, _, mi, _) => .int (mi a k)
  | .long, (_, _, _, ml) => .long (ml a k)
  | _, (_, mr, _, _) => xrv (mr a k)
def xz (x : Int32) : Bool := x == 0 || x == 1
def xwi (M : xM) (a k : Nat) (x : Int32) : xM := match M with
  | (lay, mr, mi, ml) => (lay, mr, xU mi a k x, ml)
def xwl (M : xM) (a k : Nat) (x : Int64) : xM := match M with
  | (lay, mr, mi, ml) => (lay, mr, mi, xU ml a k x)
def xwr (M : xM) (a k : Nat) (x : Option Nat) : xM := match M with
  | (lay, mr, mi, ml) => (lay, xU mr a k x, mi, ml)
/-- a field of a type is written -/
def xfw (ty : FieldType) (M : xM) (a k : Nat) (v : Value) : Option xM := match ty, v with
  | .int, .int x => some (xwi M a k x)
  | .boolean, .int x => bif xz x then some (xwi M a k x) else none
  | .long, .long x => some (xwl M a k x)
  | .object _, .ref b => some (xwr M a k (some b))
  | .array _, .ref b => some (xwr M a k (some b))
  | _, _ => none
/-- an array's kind and length -/
def xar (M : xM) (a : Nat) : Option (Nat × Nat) := bif Nat.ble 1000 a then (bif Nat.ble a 1003 then (match M with
  | (_, mr, _, _) => match mr 1000 (a - 1000) with
    | some n => some (20, n)
    | none => none) else none) else M.1[a]?
def xin (i : Int32) (n : Nat) : Bool := !(decide (i < 0) || Nat.ble n i.toNatClampNeg)
/-- a cell more -/
def xnew (M : xM) (kind n : Nat) : xM := match M with
  | (lay, mr, mi, ml) => (lay ++ [(kind, n)], va_up mr lay.length (fun _ => none), va_up mi lay.length (fun _ => 0), va_up ml lay.length (fun _ => 0))
def xmk (M : xM) (lim : Nat × Nat) (kind n : Nat) : Option xM := match M, lim with
  | (lay, mr, mi, ml), (l1, l2) => bif Nat.ble (lay.length + 1) l1 && Nat.ble (xsuml lay + n) l2 && Nat.ble (lay.length + 1) 1000 then some (xnew (lay, mr, mi, ml) kind n) else none
def xbr (c : Bool) (pc : Nat) (ls : xL) (r : List Value) (M : xM) (op len : Nat) : Option xS := bif c then some (op, ls, r, M) else some (pc + len, ls, r, M)
def xldi (i len pc : Nat) (ls : xL) (st : List Value) (M : xM) : Option xS := match xget ls i with
  | some (.int v) => some (pc + len, ls, .int v :: st, M)
  | _ => none
def xldl (i len pc : Nat) (ls : xL) (st : List Value) (M : xM) : Option xS := match xget ls i with
  | some (.long v) => some (pc + len, ls, .long v :: st, M)
  | _ => none
def xlda (i len pc : Nat) (ls : xL) (st : List Value) (M : xM) : Option xS := match xget ls i with
  | some (.ref v) => some (pc + len, ls, .ref v :: st, M)
  | _ => none
def xto (off : Int) (pc : Nat) (ls : xL) (r : List Value) (M : xM) : Option xS := match (pc : Int) + off with
  | .ofNat t => some (t, ls, r, M)
  | .negSucc _ => none
def xcm (c : ClassFile.Cond) (x y : Int32) : Bool := match c with
  | .eq => decide (x = y)
  | .ne => decide (¬ x = y)
  | .lt => decide (x < y)
  | .ge => decide (y ≤ x)
  | .gt => decide (y < x)
  | .le => decide (x ≤ y)
/-- one instruction that is no call and no return -/
def xins (own mk : Nat) (lim : Nat × Nat) (i : Instr) (len op pc : Nat) (ls : xL) (st : List Value) (M : xM) : Option xS :=
  match i with
  | .aload n => xlda n len pc ls st M
  | .aload_n n => xlda n.val len pc ls st M
  | .iload n => xldi n len pc ls st M
  | .iload_n n => xldi n.val len pc ls st M
  | .lload n => xldl n len pc ls st M
  | .lload_n n => xldl n.val len pc ls st M
  | .istore n => match st with
    | .int x :: r => some (pc + len, xset1 ls n (.int x), r, M)
    | _ => none
  | .istore_n n => match st with
    | .int x :: r => some (pc + len, xset1 ls n.val (.int x), r, M)
    | _ => none
  | .astore n => match st with
    | .ref x :: r => some (pc + len, xset1 ls n (.ref x), r, M)
    | _ => none
  | .astore_n n => match st with
    | .ref x :: r => some (pc + len, xset1 ls n.val (.ref x), r, M)
    | _ => none
  | .lstore n => match st with
    | .long x :: r => some (pc + len, xset2 ls n (.long x), r, M)
    | _ => none
  | .lstore_n n => match st with
    | .long x :: r => some (pc + len, xset2 ls n.val (.long x), r, M)
    | _ => none
  | .iinc n k => match xget ls n with
    | some (.int x) => some (pc + len, xset1 ls n (.int (x + Int32.ofInt k)), st, M)
    | _ => none
  | .iconst n => some (pc + len, ls, .int (Int32.ofInt n) :: st, M)
  | .bipush n => some (pc + len, ls, .int (Int8.ofInt n).toInt32 :: st, M)
  | .sipush n => some (pc + len, ls, .int (Int16.ofInt n).toInt32 :: st, M)
  | .lconst n => some (pc + len, ls, .long (Int64.ofNat n.val) :: st, M)
  | .ldc2_w _ => some (pc + len, ls, .long (Int64.ofNat op) :: st, M)
  | .iadd => match st with
    | .int y :: .int x :: r => some (pc + len, ls, .int (x + y) :: r, M)
    | _ => none
  | .isub => match st with
    | .int y :: .int x :: r => some (pc + len, ls, .int (x - y) :: r, M)
    | _ => none
  | .imul => match st with
    | .int y :: .int x :: r => some (pc + len, ls, .int (x * y) :: r, M)
    | _ => none
  | .iand => match st with
    | .int y :: .int x :: r => some (pc + len, ls, .int (x &&& y) :: r, M)
    | _ => none
  | .ior => match st with
    | .int y :: .int x :: r => some (pc + len, ls, .int (x ||| y) :: r, M)
    | _ => none
  | .ixor => match st with
    | .int y :: .int x :: r => some (pc + len, ls, .int (x ^^^ y) :: r, M)
    | _ => none
  | .irem => match st with
    | .int y :: .int x :: r => bif decide (y = 0) then none else some (pc + len, ls, .int (x - x / y * y) :: r, M)
    | _ => none
  | .ladd => match st with
    | .long y :: .long x :: r => some (pc + len, ls, .long (x + y) :: r, M)
    | _ => none
  | .lsub => match st with
    | .long y :: .long x :: r => some (pc + len, ls, .long (x - y) :: r, M)
    | _ => none
  | .lmul => match st with
    | .long y :: .long x :: r => some (pc + len, ls, .long (x * y) :: r, M)
    | _ => none
  | .land => match st with
    | .long y :: .long x :: r => some (pc + len, ls, .long (x &&& y) :: r, M)
    | _ => none
  | .lor => match st with
    | .long y :: .long x :: r => some (pc + len, ls, .long (x ||| y) :: r, M)
    | _ => none
  | .lxor => match st with
    | .long y :: .long x :: r => some (pc + len, ls, .long (x ^^^ y) :: r, M)
    | _ => none
  | .lneg => match st with
    | .long x :: r => some (pc + len, ls, .long (-x) :: r, M)
    | _ => none
  | .lshl => match st with
    | .int y :: .long x :: r => some (pc + len, ls, .long (x <<< (y.toInt64 &&& 63)) :: r, M)
    | _ => none
  | .lushr => match st with
    | .int y :: .long x :: r => some (pc + len, ls, .long (x.toUInt64 >>> (y.toInt64.toUInt64 &&& Int64.toUInt64 63)).toInt64 :: r, M)
    | _ => none
  | .i2l => match st with
    | .int x :: r => some (pc + len, ls, .long x.toInt64 :: r, M)
    | _ => none
  | .l2i => match st with
    | .long x :: r => some (pc + len, ls, .int x.toInt32 :: r, M)
    | _ => none
  | .lcmp => match st with
    | .long y :: .long x :: r => some (pc + len, ls, .int (lg_cmp x y) :: r, M)
    | _ => none
  | .dup => match st with
    | v :: r => bif !xwide v then some (pc + len, ls, v :: v :: r, M) else none
    | _ => none
  | .dup2 => match st with
    | v :: w :: r => bif !xwide v && !xwide w then some (pc + len, ls, v :: w :: v :: w :: r, M) else none
    | _ => none
  | .ifCond c _ => match st with
    | .int x :: r => xbr (xcm c x 0) pc ls r M op len
    | _ => none
  | .if_icmp c _ => match st with
    | .int y :: .int x :: r => xbr (xcm c x y) pc ls r M op len
    | _ => none
  | .goto _ => some (op, ls, st, M)
  | .tableswitch d lo hi offs => match st with
    | .int x :: r => bif decide (x.toInt < lo) || decide (hi < x.toInt) then xto d pc ls r M else (match offs[(x.toInt - lo).toNat]? with
      | some o => xto o pc ls r M
      | none => none)
    | _ => none
  | .lookupswitch d ps => match st with
    | .int x :: r => bif (ps.toList.zip (ps.toList.drop 1)).all (fun (a, next) => a.1 < next.1) then xto (Op.lookupswitch.offset ps.toList d x.toInt) pc ls r M else none
    | _ => none
  | .getfield _ => match st with
    | .ref a :: r => match M.1[a]? with
      | some (q1, q2) => bif Nat.beq q1 (op / 64) then some (pc + len, ls, xfv (xty (op / 64) (op % 64)) M a (op % 64) :: r, M) else none
      | none => none
    | _ => none
  | .putfield _ => match st with
    | v :: .ref a :: r => match M.1[a]? with
      | some (q1, q2) => bif Nat.beq q1 (op / 64) && (!(xT (op / 64) (op % 64)).2.2.2 || (Nat.beq mk 2 && Nat.beq own (op / 64))) then (match xfw (xty (op / 64) (op % 64)) M a (op % 64) v with
        | some M => some (pc + len, ls, r, M)
        | none => none) else none
      | none => none
    | _ => none
  | .getstatic _ => some (pc + len, ls, .ref (1000 + op) :: st, M)
  | .new _ => match xmk M lim op (xN op) with
    | some M' => some (pc + len, ls, .ref M.1.length :: st, M')
    | none => none
  | .newarray _ => match st with
    | .int n :: r => bif !(decide (n < 0)) && Nat.ble (n.toNatClampNeg * 8) 536870912 then (match xmk M lim op n.toNatClampNeg with
      | some M' => some (pc + len, ls, .ref M.1.length :: r, M')
      | none => none) else none
    | _ => none
  | .anewarray _ => match st with
    | .int n :: r => bif !(decide (n < 0)) && Nat.ble (n.toNatClampNeg * 8) 536870912 then (match xmk M lim op n.toNatClampNeg with
      | some M' => some (pc + len, ls, .ref M.1.length :: r, M')
      | none => none) else none
    | _ => none
  | .arraylength => match st with
    | .ref a :: r => match xar M a with
      | some (q1, q2) => bif Nat.ble 20 q1 && Nat.ble q1 24 then some (pc + len, ls, .int (Int32.ofNat q2) :: r, M) else none
      | none => none
    | _ => none
  | .iaload => match st with
    | .int j :: .ref a :: r => match xar M a with
      | some (q1, q2) => bif Nat.beq q1 20 && xin j q2 then some (pc + len, ls, .int (M.2.2.1 a j.toNatClampNeg) :: r, M) else none
      | none => none
    | _ => none
  | .baload => match st with
    | .int j :: .ref a :: r => match M.1[a]? with
      | some (q1, q2) => bif Nat.beq q1 22 && xin j q2 then some (pc + len, ls, .int (M.2.2.1 a j.toNatClampNeg) :: r, M) else none
      | none => none
    | _ => none
  | .laload => match st with
    | .int j :: .ref a :: r => match M.1[a]? with
      | some (q1, q2) => bif Nat.beq q1 21 && xin j q2 then some (pc + len, ls, .long (M.2.2.2 a j.toNatClampNeg) :: r, M) else none
      | none => none
    | _ => none
  | .aaload => match st with
    | .int j :: .ref a :: r => match M.1[a]? with
      | some (q1, q2) => bif (Nat.beq q1 23 || Nat.beq q1 24) && xin j q2 then some (pc + len, ls, xrv (M.2.1 a j.toNatClampNeg) :: r, M) else none
      | none => none
    | _ => none
  | .iastore => match st with
    | .int x :: .int j :: .ref a :: r => match M.1[a]? with
      | some (q1, q2) => bif Nat.beq q1 20 && xin j q2 then some (pc + len, ls, r, xwi M a j.toNatClampNeg x) else none
      | none => none
    | _ => none
  | .bastore => match st with
    | .int x :: .int j :: .ref a :: r => match M.1[a]? with
      | some (q1, q2) => bif Nat.beq q1 22 && xin j q2 && xz x then some (pc + len, ls, r, xwi M a j.toNatClampNeg x) else none
      | none => none
    | _ => none
  | .lastore => match st with
    | .long x :: .int j :: .ref a :: r => match M.1[a]? with
      | some (q1, q2) => bif Nat.beq q1 21 && xin j q2 then some (pc + len, ls, r, xwl M a j.toNatClampNeg x) else none
      | none => none
    | _ => none
  | .aastore => match st with
    | .ref b :: .int j :: .ref a :: r => match M.1[a]?, M.1[b]? with
      | some (q1, q2), some (o1, _) => bif Nat.ble 23 q1 && Nat.ble q1 24 && Nat.beq (xcomp q1) o1 && xin j q2 then some (pc + len, ls, r, xwr M a j.toNatClampNeg (some b)) else none
      | _, _ => none
    | _ => none
  | .invokespecial _ => match st with
    | .ref _ :: r => bif Nat.beq op 9999 && xroom 8 r then some (pc + len, ls, r, M) else none
    | _ => none
  | _ => none
def xstep (mt : xMt) (lim : Nat × Nat) (s : xS) : Option xS := match s with
  | (pc, ls, st, M) => match xat mt pc with
    | some (i, len, op) => xins mt.1 mt.2.1 lim i len op pc ls st M
    | none => none
/-- a return -/
def xret (mt : xMt) (s : xS) : Option (Option Value × xM) := match s with
  | (pc, _, st, M) => match xat mt pc with
    | some (i, _, _) => (match i, mt.2.2.2.2.2.2.1, st with
      | .ireturn, some .int, [.int v] => some (some (.int v), M)
      | .ireturn, some .boolean, [.int v] => bif xz v then some (some (.int v), M) else none
      | .lreturn, some .long, [.long v] => some (some (.long v), M)
      | .areturn, some (.object _), [.ref v] => some (some (.ref v), M)
      | .return_, none, [] => some (none, M)
      | _, _, _ => none)
    | none => none
/-- the upper n operands, the lowest first, and the rest -/
def xpop : Nat → List Value → List Value → Option (List Value × List Value)
  | 0, acc, st => some (acc, st)
  | n + 1, acc, v :: st => xpop n (v :: acc) st
  | _ + 1, _, [] => none
/-- a call: the method, its arguments (the receiver first), the operands below -/
def xcall (mt : xMt) (s : xS) : Option (Nat × List Value × List Value) := match s with
  | (pc, _, st, M) => match xat mt pc with
    | some (i, _, op) => (match xtab[op]? with
      | some (own, kd, np, _) => (match xpop np [] st with
        | some (as, rest) => (match i with
          | .invokestatic _ => bif Nat.beq kd 0 && xroom 8 rest then some (op, as, rest) else none
          | .invokevirtual _ => (match rest with
            | .ref b :: r => (match M.1[b]? with
              | some (o1, _) => bif Nat.beq kd 1 && Nat.beq o1 own && xroom 8 r then some (op, .ref b :: as, r) else none
              | none => none)
            | _ => none)
          | .invokespecial _ => (match rest with
            | .ref b :: r => bif Nat.beq kd 2 && xroom 8 r then some (op, .ref b :: as, r) else none
            | _ => none)
          | _ => none)
        | none => none)
      | none => none)
    | none => none
/-- behind a call -/
def xback (s : xS) (rest : List Value) (r : Option Value) (M : xM) : xS := match s with
  | (pc, ls, _, _) => (pc + 3, ls, (match r with
    | some v => v :: rest
    | none => rest), M)
/-- from a state of a method's body it comes to a return with Q: the least such property -/
def xR (Call : Nat → List Value → xM → Nat → Nat → (Option Value → xM → Prop) → Prop) (mt : xMt) (lim : Nat × Nat) (Q : Option Value → xM → Prop) (s : xS) : Prop :=
  ∀ P : xS → Prop, (∀ s r M, xret mt s = some (r, M) → Q r M → P s) → (∀ s s', xstep mt lim s = some s' → P s' → P s) →
    (∀ s j as rest kc ks Q', xcall mt s = some (j, as, rest) → s.2.2.2.1.length + kc ≤ lim.1 → xsum s.2.2.2 + ks ≤ lim.2 → Call j as s.2.2.2 kc ks Q' → (∀ r M, Q' r M → P (xback s rest r M)) → P s) →
    (∀ s ls, (∀ q ∈ ls, q ∈ s.2.1) → P (s.1, ls, s.2.2.1, s.2.2.2) → P s) → P s
/-- the words of the arguments -/
def xwords : List Value → Nat
  | [] => 0
  | v :: t => (bif xwide v then 2 else 1) + xwords t
/-- method j, called with as: comes back with Q, kc cells of ks places more; d calls deep at most -/
def xC : Nat → Nat → List Value → xM → Nat → Nat → (Option Value → xM → Prop) → Prop
  | 0, _, _, _, _, _, _ => False
  | d + 1, j, as, M, kc, ks, Q => ∃ mt, xtab[j]? = some mt ∧ xwords as ≤ mt.2.2.2.2.2.1 ∧
      xR (xC d) mt (M.1.length + kc, xsum M + ks) (fun r M' => Q r M' ∧ M'.1.length = M.1.length + kc ∧ xsum M' = xsum M + ks) (0, xargs 0 as, [], M)
end
section
/-! rules of the pure machine -/
section XR
variable {Call : Nat → List Value → xM → Nat → Nat → (Option Value → xM → Prop) → Prop} {mt : xMt} {lim : Nat × Nat} {Q : Option Value → xM → Prop} {s : xS}
theorem xR.st (s' : xS) (h : xstep mt lim s = some s') (k : xR Call mt lim Q s') : xR Call mt lim Q s := fun P h1 h2 h3 h4 => h2 s s' h (k P h1 h2 h3 h4)
theorem xR.rt (r : Option Value) (M : xM) (h : xret mt s = some (r, M)) (k : Q r M) : xR Call mt lim Q s := fun _ h1 _ _ _ => h1 s r M h k
theorem xR.ca (j : Nat) (as rest : List Value) (kc ks : Nat) {Q' : Option Value → xM → Prop} (h : xcall mt s = some (j, as, rest)) (h1 : s.2.2.2.1.length + kc ≤ lim.1) (h2 : xsum s.2.2.2 + ks ≤ lim.2) (hc : Call j as s.2.2.2 kc ks Q') (k : ∀ r M, Q' r M → xR Call mt lim Q (xback s rest r M)) : xR Call mt lim Q s :=
  fun P g1 g2 g3 g4 => g3 s j as rest kc ks Q' h h1 h2 hc (fun r M q => k r M q P g1 g2 g3 g4)
theorem xR.fo (ls : xL) (h : ∀ q ∈ ls, q ∈ s.2.1) (k : xR Call mt lim Q (s.1, ls, s.2.2.1, s.2.2.2)) : xR Call mt lim Q s := fun P h1 h2 h3 h4 => h4 s ls h (k P h1 h2 h3 h4)
theorem xR.br (c : Bool) (s1 s2 : xS) (h : xstep mt lim s = bif c then some s1 else some s2) (k1 : c = true → xR Call mt lim Q s1) (k2 : c = false → xR Call mt lim Q s2) : xR Call mt lim Q s := by
  cases hc : c with
  | true => exact xR.st s1 (by rw [h, hc]; rfl) (k1 hc)
  | false => exact xR.st s2 (by rw [h, hc]; rfl) (k2 hc)
theorem xR.ck (c : Bool) (s' : xS) (h : xstep mt lim s = bif c then some s' else none) (hc : c = true) (k : xR Call mt lim Q s') : xR Call mt lim Q s := xR.st s' (by rw [h, hc]; rfl) k
theorem xR.po {Q' : Option Value → xM → Prop} (h : xR Call mt lim Q' s) (k : ∀ r M, Q' r M → Q r M) : xR Call mt lim Q s := fun P h1 h2 h3 h4 => h P (fun s r M g q => h1 s r M g (k r M q)) h2 h3 h4
def xmany (mt : xMt) (lim : Nat × Nat) : Nat → xS → Option xS
  | 0, s => some s
  | n + 1, s => match xstep mt lim s with
    | some s' => xmany mt lim n s'
    | none => none
theorem xR.go (n : Nat) (s' : xS) (h : xmany mt lim n s = some s') (k : xR Call mt lim Q s') : xR Call mt lim Q s := by
  induction n generalizing s with
  | zero => cases h; exact k
  | succ n ih =>
    unfold xmany at h
    split at h
    · rename_i s1 h1; exact xR.st s1 h1 (ih h)
    · cases h
end XR
theorem xC.po {d j : Nat} {as : List Value} {M : xM} {kc ks : Nat} {Q Q' : Option Value → xM → Prop} (h : xC d j as M kc ks Q) (k : ∀ r M, Q r M → Q' r M) : xC d j as M kc ks Q' := by
  cases d with
  | zero => exact h
  | succ d =>
    obtain ⟨mt, h1, h2, h3⟩ := h
    exact ⟨mt, h1, h2, xR.po h3 (fun r M q => ⟨k r M q.1, q.2⟩)⟩
def xb (p : Prop) [Decidable p] : Int32 := if p then 1 else 0
end
section
/-! the links, by class number, entry, what it means; each by its place among the words -/
def xFL : List (Nat × Nat × Nat) := [(0, 9, 2), (0, 15, 3), (0, 18, 4), (0, 21, 5), (0, 25, 6), (0, 28, 0), (0, 32, 1), (0, 80, 7), (0, 94, 8), (1, 9, 64), (1, 15, 65), (1, 18, 66), (2, 9, 129), (2, 15, 128), (2, 24, 130), (3, 11, 192), (4, 9, 256), (4, 15, 257), (4, 18, 258), (4, 22, 259), (4, 25, 260), (5, 9, 320), (5, 15, 321), (5, 18, 322), (6, 9, 385), (6, 15, 384), (6, 19, 388), (6, 23, 386), (6, 31, 387), (7, 11, 452), (7, 15, 448), (7, 19, 449), (7, 23, 450), (7, 27, 451), (7, 31, 453), (7, 39, 454), (7, 58, 455), (8, 10, 512), (8, 19, 513), (8, 28, 514), (8, 37, 515), (8, 46, 516), (8, 53, 517), (8, 59, 518), (8, 65, 519), (8, 71, 520), (8, 75, 521), (9, 7, 576), (9, 13, 577), (9, 16, 579), (9, 19, 580), (9, 22, 583), (9, 25, 584), (9, 28, 585), (9, 32, 587), (9, 35, 588), (9, 38, 589), (9, 41, 590), (9, 44, 591), (9, 47, 592), (9, 50, 593), (9, 53, 594), (9, 56, 595), (9, 59, 596), (9, 69, 578), (9, 73, 581), (9, 77, 586), (9, 114, 582)]
def xSL : List (Nat × Nat × Nat) := [(5, 40, 1), (6, 58, 2), (6, 61, 3), (7, 108, 2), (7, 124, 3)]
def xCL : List (Nat × Nat × Nat) := [(8, 7, 5), (8, 16, 1), (8, 23, 6), (8, 32, 0), (8, 41, 7), (8, 50, 2), (8, 57, 3), (8, 63, 4), (13, 7, 8), (13, 10, 9)]
def xAL : List (Nat × Nat × Nat) := [(8, 57, 23), (8, 63, 24)]
def xDL : List (Nat × Nat × Nat) := [(0, 68, 18446744073709551615), (6, 46, 18446744073709551615), (7, 112, 1431655765), (7, 144, 18446744073709551615), (10, 314, 6148914691236517205), (10, 316, 3689348814741910323), (10, 318, 1085102592571150095)]
def xML : List (Nat × Nat × Nat) := [(0, 36, 41), (0, 42, 4), (0, 45, 6), (0, 48, 40), (0, 52, 51), (0, 57, 42), (0, 61, 7), (0, 70, 8), (0, 74, 137), (0, 84, 46), (0, 87, 5), (0, 91, 47), (1, 21, 14), (2, 19, 34), (2, 28, 29), (2, 32, 17), (2, 36, 43), (2, 42, 42), (2, 45, 21), (2, 49, 25), (2, 54, 22), (2, 58, 26), (2, 62, 19), (2, 65, 24), (2, 69, 18), (2, 73, 36), (2, 76, 35), (2, 79, 20), (3, 15, 135), (4, 29, 136), (4, 35, 31), (4, 43, 32), (4, 47, 13), (4, 55, 33), (5, 22, 41), (5, 26, 48), (5, 30, 42), (5, 34, 43), (6, 34, 55), (6, 48, 54), (6, 52, 42), (6, 64, 46), (6, 67, 47), (6, 70, 41), (7, 42, 41), (7, 52, 137), (7, 62, 40), (7, 66, 51), (7, 71, 62), (7, 75, 61), (7, 78, 43), (7, 82, 63), (7, 85, 57), (7, 88, 42), (7, 91, 11), (7, 99, 12), (7, 102, 13), (7, 105, 52), (7, 114, 2), (7, 120, 66), (7, 127, 64), (7, 130, 46), (7, 133, 65), (7, 137, 47), (7, 140, 58), (8, 25, 49), (8, 34, 0), (8, 43, 56), (8, 52, 15), (8, 78, 44), (8, 82, 45), (8, 85, 10), (8, 89, 82), (8, 93, 83), (8, 97, 60), (8, 101, 51), (8, 105, 57), (8, 109, 52), (8, 112, 86), (8, 116, 58), (8, 119, 1), (8, 122, 85), (8, 125, 26), (8, 128, 24), (8, 131, 136), (8, 136, 16), (8, 140, 28), (8, 143, 29), (8, 146, 30), (8, 149, 31), (8, 152, 32), (8, 155, 33), (8, 158, 84), (8, 161, 25), (8, 164, 53), (8, 167, 50), (8, 168, 3), (8, 169, 59), (8, 170, 37), (8, 174, 38), (8, 178, 134), (9, 62, 92), (9, 66, 93), (9, 80, 99), (9, 84, 97), (9, 87, 98), (9, 91, 100), (9, 94, 103), (9, 97, 102), (9, 100, 104), (9, 103, 105), (9, 106, 106), (9, 110, 101), (9, 117, 107), (9, 120, 109), (9, 124, 111), (9, 127, 110), (9, 130, 112), (9, 133, 108), (9, 136, 113), (9, 139, 114), (9, 142, 116), (9, 145, 115), (9, 148, 123), (9, 152, 125), (9, 155, 124), (9, 159, 126), (9, 162, 130), (9, 165, 131), (13, 9, 67), (13, 12, 91), (13, 13, 68), (13, 17, 94), (13, 18, 69), (13, 21, 95), (13, 22, 70), (13, 26, 96), (13, 27, 71), (13, 31, 117), (13, 32, 72), (13, 36, 118), (13, 37, 73), (13, 40, 119), (13, 41, 74), (13, 44, 120), (13, 45, 75), (13, 48, 121), (13, 49, 76), (13, 53, 122), (13, 54, 77), (13, 57, 127), (13, 58, 78), (13, 61, 128), (13, 62, 79), (13, 66, 129), (13, 67, 80), (13, 70, 132), (13, 71, 81), (13, 74, 133)]
def xMN : List (Nat × Nat × Nat) := [(0, 64, 88), (0, 97, 89), (0, 101, 90), (1, 25, 86), (3, 21, 86), (4, 39, 86), (4, 52, 87), (5, 37, 86), (6, 27, 89), (6, 38, 90), (6, 42, 88), (7, 35, 89), (7, 48, 86), (7, 96, 87), (8, 9, 39), (8, 18, 9), (8, 69, 23), (8, 70, 27)]
def xOL : List (Nat × Nat × Nat) := [(0, 3, 0), (1, 3, 0), (2, 3, 0), (3, 3, 0), (4, 3, 0), (5, 3, 0), (6, 3, 0), (7, 5, 0), (8, 1, 0), (9, 1, 0)]
def xFL_P (q : Nat × Nat × Nat) : Prop := q.2.2 / 64 < 10 ∧ q.2.2 % 64 < xN (q.2.2 / 64) ∧ Cond.fieldLink (xnm q.1) q.2.1 (xT (q.2.2 / 64) (q.2.2 % 64)).1 (xT (q.2.2 / 64) (q.2.2 % 64)).2.1 (xT (q.2.2 / 64) (q.2.2 % 64)).2.2.1 ∈ lw_tbl
theorem xFL_0 : xFL_P (0, 9, 2) := ⟨by decide, by decide, List.mem_of_getElem? (i := 129) (by decide +kernel)⟩
theorem xFL_1 : xFL_P (0, 15, 3) := ⟨by decide, by decide, List.mem_of_getElem? (i := 130) (by decide +kernel)⟩
theorem xFL_2 : xFL_P (0, 18, 4) := ⟨by decide, by decide, List.mem_of_getElem? (i := 131) (by decide +kernel)⟩
theorem xFL_3 : xFL_P (0, 21, 5) := ⟨by decide, by decide, List.mem_of_getElem? (i := 132) (by decide +kernel)⟩
theorem xFL_4 : xFL_P (0, 25, 6) := ⟨by decide, by decide, List.mem_of_getElem? (i := 133) (by decide +kernel)⟩
theorem xFL_5 : xFL_P (0, 28, 0) := ⟨by decide, by decide, List.mem_of_getElem? (i := 127) (by decide +kernel)⟩
theorem xFL_6 : xFL_P (0, 32, 1) := ⟨by decide, by decide, List.mem_of_getElem? (i := 128) (by decide +kernel)⟩
theorem xFL_7 : xFL_P (0, 80, 7) := ⟨by decide, by decide, List.mem_of_getElem? (i := 134) (by decide +kernel)⟩
theorem xFL_8 : xFL_P (0, 94, 8) := ⟨by decide, by decide, List.mem_of_getElem? (i := 135) (by decide +kernel)⟩
theorem xFL_9 : xFL_P (1, 9, 64) := ⟨by decide, by decide, List.mem_of_getElem? (i := 89) (by decide +kernel)⟩
theorem xFL_10 : xFL_P (1, 15, 65) := ⟨by decide, by decide, List.mem_of_getElem? (i := 90) (by decide +kernel)⟩
theorem xFL_11 : xFL_P (1, 18, 66) := ⟨by decide, by decide, List.mem_of_getElem? (i := 91) (by decide +kernel)⟩
theorem xFL_12 : xFL_P (2, 9, 129) := ⟨by decide, by decide, List.mem_of_getElem? (i := 194) (by decide +kernel)⟩
theorem xFL_13 : xFL_P (2, 15, 128) := ⟨by decide, by decide, List.mem_of_getElem? (i := 193) (by decide +kernel)⟩
theorem xFL_14 : xFL_P (2, 24, 130) := ⟨by decide, by decide, List.mem_of_getElem? (i := 195) (by decide +kernel)⟩
theorem xFL_15 : xFL_P (3, 11, 192) := ⟨by decide, by decide, List.mem_of_getElem? (i := 212) (by decide +kernel)⟩
theorem xFL_16 : xFL_P (4, 9, 256) := ⟨by decide, by decide, List.mem_of_getElem? (i := 221) (by decide +kernel)⟩
theorem xFL_17 : xFL_P (4, 15, 257) := ⟨by decide, by decide, List.mem_of_getElem? (i := 222) (by decide +kernel)⟩
theorem xFL_18 : xFL_P (4, 18, 258) := ⟨by decide, by decide, List.mem_of_getElem? (i := 223) (by decide +kernel)⟩
theorem xFL_19 : xFL_P (4, 22, 259) := ⟨by decide, by decide, List.mem_of_getElem? (i := 224) (by decide +kernel)⟩
theorem xFL_20 : xFL_P (4, 25, 260) := ⟨by decide, by decide, List.mem_of_getElem? (i := 225) (by decide +kernel)⟩
theorem xFL_21 : xFL_P (5, 9, 320) := ⟨by decide, by decide, List.mem_of_getElem? (i := 72) (by decide +kernel)⟩
theorem xFL_22 : xFL_P (5, 15, 321) := ⟨by decide, by decide, List.mem_of_getElem? (i := 73) (by decide +kernel)⟩
theorem xFL_23 : xFL_P (5, 18, 322) := ⟨by decide, by decide, List.mem_of_getElem? (i := 74) (by decide +kernel)⟩
theorem xFL_24 : xFL_P (6, 9, 385) := ⟨by decide, by decide, List.mem_of_getElem? (i := 106) (by decide +kernel)⟩
theorem xFL_25 : xFL_P (6, 15, 384) := ⟨by decide, by decide, List.mem_of_getElem? (i := 105) (by decide +kernel)⟩
theorem xFL_26 : xFL_P (6, 19, 388) := ⟨by decide, by decide, List.mem_of_getElem? (i := 109) (by decide +kernel)⟩
theorem xFL_27 : xFL_P (6, 23, 386) := ⟨by decide, by decide, List.mem_of_getElem? (i := 107) (by decide +kernel)⟩
theorem xFL_28 : xFL_P (6, 31, 387) := ⟨by decide, by decide, List.mem_of_getElem? (i := 108) (by decide +kernel)⟩
theorem xFL_29 : xFL_P (7, 11, 452) := ⟨by decide, by decide, List.mem_of_getElem? (i := 166) (by decide +kernel)⟩
theorem xFL_30 : xFL_P (7, 15, 448) := ⟨by decide, by decide, List.mem_of_getElem? (i := 162) (by decide +kernel)⟩
theorem xFL_31 : xFL_P (7, 19, 449) := ⟨by decide, by decide, List.mem_of_getElem? (i := 163) (by decide +kernel)⟩
theorem xFL_32 : xFL_P (7, 23, 450) := ⟨by decide, by decide, List.mem_of_getElem? (i := 164) (by decide +kernel)⟩
theorem xFL_33 : xFL_P (7, 27, 451) := ⟨by decide, by decide, List.mem_of_getElem? (i := 165) (by decide +kernel)⟩
theorem xFL_34 : xFL_P (7, 31, 453) := ⟨by decide, by decide, List.mem_of_getElem? (i := 167) (by decide +kernel)⟩
theorem xFL_35 : xFL_P (7, 39, 454) := ⟨by decide, by decide, List.mem_of_getElem? (i := 168) (by decide +kernel)⟩
theorem xFL_36 : xFL_P (7, 58, 455) := ⟨by decide, by decide, List.mem_of_getElem? (i := 169) (by decide +kernel)⟩
theorem xFL_37 : xFL_P (8, 10, 512) := ⟨by decide, by decide, List.mem_of_getElem? (i := 237) (by decide +kernel)⟩
theorem xFL_38 : xFL_P (8, 19, 513) := ⟨by decide, by decide, List.mem_of_getElem? (i := 238) (by decide +kernel)⟩
theorem xFL_39 : xFL_P (8, 28, 514) := ⟨by decide, by decide, List.mem_of_getElem? (i := 239) (by decide +kernel)⟩
theorem xFL_40 : xFL_P (8, 37, 515) := ⟨by decide, by decide, List.mem_of_getElem? (i := 240) (by decide +kernel)⟩
theorem xFL_41 : xFL_P (8, 46, 516) := ⟨by decide, by decide, List.mem_of_getElem? (i := 241) (by decide +kernel)⟩
theorem xFL_42 : xFL_P (8, 53, 517) := ⟨by decide, by decide, List.mem_of_getElem? (i := 242) (by decide +kernel)⟩
theorem xFL_43 : xFL_P (8, 59, 518) := ⟨by decide, by decide, List.mem_of_getElem? (i := 243) (by decide +kernel)⟩
theorem xFL_44 : xFL_P (8, 65, 519) := ⟨by decide, by decide, List.mem_of_getElem? (i := 244) (by decide +kernel)⟩
theorem xFL_45 : xFL_P (8, 71, 520) := ⟨by decide, by decide, List.mem_of_getElem? (i := 245) (by decide +kernel)⟩
theorem xFL_46 : xFL_P (8, 75, 521) := ⟨by decide, by decide, List.mem_of_getElem? (i := 246) (by decide +kernel)⟩
theorem xFL_47 : xFL_P (9, 7, 576) := ⟨by decide, by decide, List.mem_of_getElem? (i := 657) (by decide +kernel)⟩
theorem xFL_48 : xFL_P (9, 13, 577) := ⟨by decide, by decide, List.mem_of_getElem? (i := 658) (by decide +kernel)⟩
theorem xFL_49 : xFL_P (9, 16, 579) := ⟨by decide, by decide, List.mem_of_getElem? (i := 660) (by decide +kernel)⟩
theorem xFL_50 : xFL_P (9, 19, 580) := ⟨by decide, by decide, List.mem_of_getElem? (i := 661) (by decide +kernel)⟩
theorem xFL_51 : xFL_P (9, 22, 583) := ⟨by decide, by decide, List.mem_of_getElem? (i := 664) (by decide +kernel)⟩
theorem xFL_52 : xFL_P (9, 25, 584) := ⟨by decide, by decide, List.mem_of_getElem? (i := 665) (by decide +kernel)⟩
theorem xFL_53 : xFL_P (9, 28, 585) := ⟨by decide, by decide, List.mem_of_getElem? (i := 666) (by decide +kernel)⟩
theorem xFL_54 : xFL_P (9, 32, 587) := ⟨by decide, by decide, List.mem_of_getElem? (i := 668) (by decide +kernel)⟩
theorem xFL_55 : xFL_P (9, 35, 588) := ⟨by decide, by decide, List.mem_of_getElem? (i := 669) (by decide +kernel)⟩
theorem xFL_56 : xFL_P (9, 38, 589) := ⟨by decide, by decide, List.mem_of_getElem? (i := 670) (by decide +kernel)⟩
theorem xFL_57 : xFL_P (9, 41, 590) := ⟨by decide, by decide, List.mem_of_getElem? (i := 671) (by decide +kernel)⟩
theorem xFL_58 : xFL_P (9, 44, 591) := ⟨by decide, by decide, List.mem_of_getElem? (i := 672) (by decide +kernel)⟩
theorem xFL_59 : xFL_P (9, 47, 592) := ⟨by decide, by decide, List.mem_of_getElem? (i := 673) (by decide +kernel)⟩
theorem xFL_60 : xFL_P (9, 50, 593) := ⟨by decide, by decide, List.mem_of_getElem? (i := 674) (by decide +kernel)⟩
theorem xFL_61 : xFL_P (9, 53, 594) := ⟨by decide, by decide, List.mem_of_getElem? (i := 675) (by decide +kernel)⟩
theorem xFL_62 : xFL_P (9, 56, 595) := ⟨by decide, by decide, List.mem_of_getElem? (i := 676) (by decide +kernel)⟩
theorem xFL_63 : xFL_P (9, 59, 596) := ⟨by decide, by decide, List.mem_of_getElem? (i := 677) (by decide +kernel)⟩
theorem xFL_64 : xFL_P (9, 69, 578) := ⟨by decide, by decide, List.mem_of_getElem? (i := 659) (by decide +kernel)⟩
theorem xFL_65 : xFL_P (9, 73, 581) := ⟨by decide, by decide, List.mem_of_getElem? (i := 662) (by decide +kernel)⟩
theorem xFL_66 : xFL_P (9, 77, 586) := ⟨by decide, by decide, List.mem_of_getElem? (i := 667) (by decide +kernel)⟩
theorem xFL_67 : xFL_P (9, 114, 582) := ⟨by decide, by decide, List.mem_of_getElem? (i := 663) (by decide +kernel)⟩
theorem xFL_ok : ∀ q ∈ xFL, xFL_P q := List.forall_mem_cons.mpr ⟨xFL_0, List.forall_mem_cons.mpr ⟨xFL_1, List.forall_mem_cons.mpr ⟨xFL_2, List.forall_mem_cons.mpr ⟨xFL_3, List.forall_mem_cons.mpr ⟨xFL_4, List.forall_mem_cons.mpr ⟨xFL_5, List.forall_mem_cons.mpr ⟨xFL_6, List.forall_mem_cons.mpr ⟨xFL_7, List.forall_mem_cons.mpr ⟨xFL_8, List.forall_mem_cons.mpr ⟨xFL_9, List.forall_mem_cons.mpr ⟨xFL_10, List.forall_mem_cons.mpr ⟨xFL_11, List.forall_mem_cons.mpr ⟨xFL_12, List.forall_mem_cons.mpr ⟨xFL_13, List.forall_mem_cons.mpr ⟨xFL_14, List.forall_mem_cons.mpr ⟨xFL_15, List.forall_mem_cons.mpr ⟨xFL_16, List.forall_mem_cons.mpr ⟨xFL_17, List.forall_mem_cons.mpr ⟨xFL_18, List.forall_mem_cons.mpr ⟨xFL_19, List.forall_mem_cons.mpr ⟨xFL_20, List.forall_mem_cons.mpr ⟨xFL_21, List.forall_mem_cons.mpr ⟨xFL_22, List.forall_mem_cons.mpr ⟨xFL_23, List.forall_mem_cons.mpr ⟨xFL_24, List.forall_mem_cons.mpr ⟨xFL_25, List.forall_mem_cons.mpr ⟨xFL_26, List.forall_mem_cons.mpr ⟨xFL_27, List.forall_mem_cons.mpr ⟨xFL_28, List.forall_mem_cons.mpr ⟨xFL_29, List.forall_mem_cons.mpr ⟨xFL_30, List.forall_mem_cons.mpr ⟨xFL_31, List.forall_mem_cons.mpr ⟨xFL_32, List.forall_mem_cons.mpr ⟨xFL_33, List.forall_mem_cons.mpr ⟨xFL_34, List.forall_mem_cons.mpr ⟨xFL_35, List.forall_mem_cons.mpr ⟨xFL_36, List.forall_mem_cons.mpr ⟨xFL_37, List.forall_mem_cons.mpr ⟨xFL_38, List.forall_mem_cons.mpr ⟨xFL_39, List.forall_mem_cons.mpr ⟨xFL_40, List.forall_mem_cons.mpr ⟨xFL_41, List.forall_mem_cons.mpr ⟨xFL_42, List.forall_mem_cons.mpr ⟨xFL_43, List.forall_mem_cons.mpr ⟨xFL_44, List.forall_mem_cons.mpr ⟨xFL_45, List.forall_mem_cons.mpr ⟨xFL_46, List.forall_mem_cons.mpr ⟨xFL_47, List.forall_mem_cons.mpr ⟨xFL_48, List.forall_mem_cons.mpr ⟨xFL_49, List.forall_mem_cons.mpr ⟨xFL_50, List.forall_mem_cons.mpr ⟨xFL_51, List.forall_mem_cons.mpr ⟨xFL_52, List.forall_mem_cons.mpr ⟨xFL_53, List.forall_mem_cons.mpr ⟨xFL_54, List.forall_mem_cons.mpr ⟨xFL_55, List.forall_mem_cons.mpr ⟨xFL_56, List.forall_mem_cons.mpr ⟨xFL_57, List.forall_mem_cons.mpr ⟨xFL_58, List.forall_mem_cons.mpr ⟨xFL_59, List.forall_mem_cons.mpr ⟨xFL_60, List.forall_mem_cons.mpr ⟨xFL_61, List.forall_mem_cons.mpr ⟨xFL_62, List.forall_mem_cons.mpr ⟨xFL_63, List.forall_mem_cons.mpr ⟨xFL_64, List.forall_mem_cons.mpr ⟨xFL_65, List.forall_mem_cons.mpr ⟨xFL_66, List.forall_mem_cons.mpr ⟨xFL_67, fun _ h => absurd h List.not_mem_nil⟩⟩⟩⟩⟩⟩⟩⟩⟩⟩⟩⟩⟩⟩⟩⟩⟩⟩⟩⟩⟩⟩⟩⟩⟩⟩⟩⟩⟩⟩⟩⟩⟩⟩⟩⟩⟩⟩⟩⟩⟩⟩⟩⟩⟩⟩⟩⟩⟩⟩⟩⟩⟩⟩⟩⟩⟩⟩⟩⟩⟩⟩⟩⟩⟩⟩⟩⟩
def xSL_P (q : Nat × Nat × Nat) : Prop := 1 ≤ q.2.2 ∧ q.2.2 < 4 ∧ Cond.fieldLinkNest (xnm q.1) q.2.1 "SecretLoom" (xsn q.2.2) "[I" "SecretLoom" ∈ lw_tbl
theorem xSL_0 : xSL_P (5, 40, 1) := ⟨by decide, by decide, List.mem_of_getElem? (i := 282) (by decide +kernel)⟩
theorem xSL_1 : xSL_P (6, 58, 2) := ⟨by decide, by decide, List.mem_of_getElem? (i := 349) (by decide +kernel)⟩
theorem xSL_2 : xSL_P (6, 61, 3) := ⟨by decide, by decide, List.mem_of_getElem? (i := 351) (by decide +kernel)⟩
theorem xSL_3 : xSL_P (7, 108, 2) := ⟨by decide, by decide, List.mem_of_getElem? (i := 436) (by decide +kernel)⟩
theorem xSL_4 : xSL_P (7, 124, 3) := ⟨by decide, by decide, List.mem_of_getElem? (i := 456) (by decide +kernel)⟩
theorem xSL_ok : ∀ q ∈ xSL, xSL_P q := List.forall_mem_cons.mpr ⟨xSL_0, List.forall_mem_cons.mpr ⟨xSL_1, List.forall_mem_cons.mpr ⟨xSL_2, List.forall_mem_cons.mpr ⟨xSL_3, List.forall_mem_cons.mpr ⟨xSL_4, fun _ h => absurd h List.not_mem_nil⟩⟩⟩⟩⟩
def xCL_P (q : Nat × Nat × Nat) : Prop := q.2.2 < 10 ∧ Cond.classLink (xnm q.1) q.2.1 (xnm q.2.2) ∈ lw_tbl ∧ Cond.instantiable (xnm q.2.2) (xN q.2.2) ∈ lw_tbl ∧ Cond.initialized (xnm q.2.2) ∈ lw_tbl
theorem xCL_0 : xCL_P (8, 7, 5) := ⟨by decide, List.mem_of_getElem? (i := 66) (by decide +kernel), List.mem_of_getElem? (i := 67) (by decide +kernel), List.mem_of_getElem? (i := 46) (by decide +kernel)⟩
theorem xCL_1 : xCL_P (8, 16, 1) := ⟨by decide, List.mem_of_getElem? (i := 83) (by decide +kernel), List.mem_of_getElem? (i := 84) (by decide +kernel), List.mem_of_getElem? (i := 47) (by decide +kernel)⟩
theorem xCL_2 : xCL_P (8, 23, 6) := ⟨by decide, List.mem_of_getElem? (i := 99) (by decide +kernel), List.mem_of_getElem? (i := 100) (by decide +kernel), List.mem_of_getElem? (i := 48) (by decide +kernel)⟩
theorem xCL_3 : xCL_P (8, 32, 0) := ⟨by decide, List.mem_of_getElem? (i := 121) (by decide +kernel), List.mem_of_getElem? (i := 122) (by decide +kernel), List.mem_of_getElem? (i := 49) (by decide +kernel)⟩
theorem xCL_4 : xCL_P (8, 41, 7) := ⟨by decide, List.mem_of_getElem? (i := 156) (by decide +kernel), List.mem_of_getElem? (i := 157) (by decide +kernel), List.mem_of_getElem? (i := 50) (by decide +kernel)⟩
theorem xCL_5 : xCL_P (8, 50, 2) := ⟨by decide, List.mem_of_getElem? (i := 187) (by decide +kernel), List.mem_of_getElem? (i := 188) (by decide +kernel), List.mem_of_getElem? (i := 51) (by decide +kernel)⟩
theorem xCL_6 : xCL_P (8, 57, 3) := ⟨by decide, List.mem_of_getElem? (i := 203) (by decide +kernel), List.mem_of_getElem? (i := 207) (by decide +kernel), List.mem_of_getElem? (i := 52) (by decide +kernel)⟩
theorem xCL_7 : xCL_P (8, 63, 4) := ⟨by decide, List.mem_of_getElem? (i := 205) (by decide +kernel), List.mem_of_getElem? (i := 216) (by decide +kernel), List.mem_of_getElem? (i := 53) (by decide +kernel)⟩
theorem xCL_8 : xCL_P (13, 7, 8) := ⟨by decide, List.mem_of_getElem? (i := 58) (by decide +kernel), List.mem_of_getElem? (i := 59) (by decide +kernel), List.mem_of_getElem? (i := 45) (by decide +kernel)⟩
theorem xCL_9 : xCL_P (13, 10, 9) := ⟨by decide, List.mem_of_getElem? (i := 651) (by decide +kernel), List.mem_of_getElem? (i := 652) (by decide +kernel), List.mem_of_getElem? (i := 54) (by decide +kernel)⟩
theorem xCL_ok : ∀ q ∈ xCL, xCL_P q := List.forall_mem_cons.mpr ⟨xCL_0, List.forall_mem_cons.mpr ⟨xCL_1, List.forall_mem_cons.mpr ⟨xCL_2, List.forall_mem_cons.mpr ⟨xCL_3, List.forall_mem_cons.mpr ⟨xCL_4, List.forall_mem_cons.mpr ⟨xCL_5, List.forall_mem_cons.mpr ⟨xCL_6, List.forall_mem_cons.mpr ⟨xCL_7, List.forall_mem_cons.mpr ⟨xCL_8, List.forall_mem_cons.mpr ⟨xCL_9, fun _ h => absurd h List.not_mem_nil⟩⟩⟩⟩⟩⟩⟩⟩⟩⟩
def xAL_P (q : Nat × Nat × Nat) : Prop := (q.2.2 = 23 ∨ q.2.2 = 24) ∧ Cond.classLink (xnm q.1) q.2.1 (xnm (xcomp q.2.2)) ∈ lw_tbl
theorem xAL_0 : xAL_P (8, 57, 23) := ⟨by decide, List.mem_of_getElem? (i := 203) (by decide +kernel)⟩
theorem xAL_1 : xAL_P (8, 63, 24) := ⟨by decide, List.mem_of_getElem? (i := 205) (by decide +kernel)⟩
theorem xAL_ok : ∀ q ∈ xAL, xAL_P q := List.forall_mem_cons.mpr ⟨xAL_0, List.forall_mem_cons.mpr ⟨xAL_1, fun _ h => absurd h List.not_mem_nil⟩⟩
def xDL_P (q : Nat × Nat × Nat) : Prop := Cond.constantLong (xnm q.1) q.2.1 (Int64.ofNat q.2.2) ∈ lw_tbl
theorem xDL_0 : xDL_P (0, 68, 18446744073709551615) := List.mem_of_getElem? (i := 402) (by decide +kernel)
theorem xDL_1 : xDL_P (6, 46, 18446744073709551615) := List.mem_of_getElem? (i := 339) (by decide +kernel)
theorem xDL_2 : xDL_P (7, 112, 1431655765) := List.mem_of_getElem? (i := 443) (by decide +kernel)
theorem xDL_3 : xDL_P (7, 144, 18446744073709551615) := List.mem_of_getElem? (i := 455) (by decide +kernel)
theorem xDL_4 : xDL_P (10, 314, 6148914691236517205) := List.mem_of_getElem? (i := 336) (by decide +kernel)
theorem xDL_5 : xDL_P (10, 316, 3689348814741910323) := List.mem_of_getElem? (i := 337) (by decide +kernel)
theorem xDL_6 : xDL_P (10, 318, 1085102592571150095) := List.mem_of_getElem? (i := 338) (by decide +kernel)
theorem xDL_ok : ∀ q ∈ xDL, xDL_P q := List.forall_mem_cons.mpr ⟨xDL_0, List.forall_mem_cons.mpr ⟨xDL_1, List.forall_mem_cons.mpr ⟨xDL_2, List.forall_mem_cons.mpr ⟨xDL_3, List.forall_mem_cons.mpr ⟨xDL_4, List.forall_mem_cons.mpr ⟨xDL_5, List.forall_mem_cons.mpr ⟨xDL_6, fun _ h => absurd h List.not_mem_nil⟩⟩⟩⟩⟩⟩⟩
def xML_P (q : Nat × Nat × Nat) : Prop := ∀ y, xtab[q.2.2]? = some y → Cond.methodLink (xnm q.1) q.2.1 y.2.2.2.1 ∈ lw_tbl
theorem xML_0 : xML_P (0, 36, 41) := fun y h => by cases h; exact List.mem_of_getElem? (i := 396) (by decide +kernel)
theorem xML_1 : xML_P (0, 42, 4) := fun y h => by cases h; exact List.mem_of_getElem? (i := 374) (by decide +kernel)
theorem xML_2 : xML_P (0, 45, 6) := fun y h => by cases h; exact List.mem_of_getElem? (i := 398) (by decide +kernel)
theorem xML_3 : xML_P (0, 48, 40) := fun y h => by cases h; exact List.mem_of_getElem? (i := 381) (by decide +kernel)
theorem xML_4 : xML_P (0, 52, 51) := fun y h => by cases h; exact List.mem_of_getElem? (i := 385) (by decide +kernel)
theorem xML_5 : xML_P (0, 57, 42) := fun y h => by cases h; exact List.mem_of_getElem? (i := 389) (by decide +kernel)
theorem xML_6 : xML_P (0, 61, 7) := fun y h => by cases h; exact List.mem_of_getElem? (i := 407) (by decide +kernel)
theorem xML_7 : xML_P (0, 70, 8) := fun y h => by cases h; exact List.mem_of_getElem? (i := 403) (by decide +kernel)
theorem xML_8 : xML_P (0, 74, 137) := fun y h => by cases h; exact List.mem_of_getElem? (i := 378) (by decide +kernel)
theorem xML_9 : xML_P (0, 84, 46) := fun y h => by cases h; exact List.mem_of_getElem? (i := 391) (by decide +kernel)
theorem xML_10 : xML_P (0, 87, 5) := fun y h => by cases h; exact List.mem_of_getElem? (i := 392) (by decide +kernel)
theorem xML_11 : xML_P (0, 91, 47) := fun y h => by cases h; exact List.mem_of_getElem? (i := 397) (by decide +kernel)
theorem xML_12 : xML_P (1, 21, 14) := fun y h => by cases h; exact List.mem_of_getElem? (i := 300) (by decide +kernel)
theorem xML_13 : xML_P (2, 19, 34) := fun y h => by cases h; exact List.mem_of_getElem? (i := 547) (by decide +kernel)
theorem xML_14 : xML_P (2, 28, 29) := fun y h => by cases h; exact List.mem_of_getElem? (i := 551) (by decide +kernel)
theorem xML_15 : xML_P (2, 32, 17) := fun y h => by cases h; exact List.mem_of_getElem? (i := 555) (by decide +kernel)
theorem xML_16 : xML_P (2, 36, 43) := fun y h => by cases h; exact List.mem_of_getElem? (i := 559) (by decide +kernel)
theorem xML_17 : xML_P (2, 42, 42) := fun y h => by cases h; exact List.mem_of_getElem? (i := 560) (by decide +kernel)
theorem xML_18 : xML_P (2, 45, 21) := fun y h => by cases h; exact List.mem_of_getElem? (i := 561) (by decide +kernel)
theorem xML_19 : xML_P (2, 49, 25) := fun y h => by cases h; exact List.mem_of_getElem? (i := 565) (by decide +kernel)
theorem xML_20 : xML_P (2, 54, 22) := fun y h => by cases h; exact List.mem_of_getElem? (i := 569) (by decide +kernel)
theorem xML_21 : xML_P (2, 58, 26) := fun y h => by cases h; exact List.mem_of_getElem? (i := 573) (by decide +kernel)
theorem xML_22 : xML_P (2, 62, 19) := fun y h => by cases h; exact List.mem_of_getElem? (i := 574) (by decide +kernel)
theorem xML_23 : xML_P (2, 65, 24) := fun y h => by cases h; exact List.mem_of_getElem? (i := 581) (by decide +kernel)
theorem xML_24 : xML_P (2, 69, 18) := fun y h => by cases h; exact List.mem_of_getElem? (i := 582) (by decide +kernel)
theorem xML_25 : xML_P (2, 73, 36) := fun y h => by cases h; exact List.mem_of_getElem? (i := 586) (by decide +kernel)
theorem xML_26 : xML_P (2, 76, 35) := fun y h => by cases h; exact List.mem_of_getElem? (i := 590) (by decide +kernel)
theorem xML_27 : xML_P (2, 79, 20) := fun y h => by cases h; exact List.mem_of_getElem? (i := 578) (by decide +kernel)
theorem xML_28 : xML_P (3, 15, 135) := fun y h => by cases h; exact List.mem_of_getElem? (i := 533) (by decide +kernel)
theorem xML_29 : xML_P (4, 29, 136) := fun y h => by cases h; exact List.mem_of_getElem? (i := 615) (by decide +kernel)
theorem xML_30 : xML_P (4, 35, 31) := fun y h => by cases h; exact List.mem_of_getElem? (i := 620) (by decide +kernel)
theorem xML_31 : xML_P (4, 43, 32) := fun y h => by cases h; exact List.mem_of_getElem? (i := 638) (by decide +kernel)
theorem xML_32 : xML_P (4, 47, 13) := fun y h => by cases h; exact List.mem_of_getElem? (i := 639) (by decide +kernel)
theorem xML_33 : xML_P (4, 55, 33) := fun y h => by cases h; exact List.mem_of_getElem? (i := 645) (by decide +kernel)
theorem xML_34 : xML_P (5, 22, 41) := fun y h => by cases h; exact List.mem_of_getElem? (i := 348) (by decide +kernel)
theorem xML_35 : xML_P (5, 26, 48) := fun y h => by cases h; exact List.mem_of_getElem? (i := 276) (by decide +kernel)
theorem xML_36 : xML_P (5, 30, 42) := fun y h => by cases h; exact List.mem_of_getElem? (i := 357) (by decide +kernel)
theorem xML_37 : xML_P (5, 34, 43) := fun y h => by cases h; exact List.mem_of_getElem? (i := 358) (by decide +kernel)
theorem xML_38 : xML_P (6, 34, 55) := fun y h => by cases h; exact List.mem_of_getElem? (i := 316) (by decide +kernel)
theorem xML_39 : xML_P (6, 48, 54) := fun y h => by cases h; exact List.mem_of_getElem? (i := 340) (by decide +kernel)
theorem xML_40 : xML_P (6, 52, 42) := fun y h => by cases h; exact List.mem_of_getElem? (i := 344) (by decide +kernel)
theorem xML_41 : xML_P (6, 64, 46) := fun y h => by cases h; exact List.mem_of_getElem? (i := 353) (by decide +kernel)
theorem xML_42 : xML_P (6, 67, 47) := fun y h => by cases h; exact List.mem_of_getElem? (i := 362) (by decide +kernel)
theorem xML_43 : xML_P (6, 70, 41) := fun y h => by cases h; exact List.mem_of_getElem? (i := 320) (by decide +kernel)
theorem xML_44 : xML_P (7, 42, 41) := fun y h => by cases h; exact List.mem_of_getElem? (i := 441) (by decide +kernel)
theorem xML_45 : xML_P (7, 52, 137) := fun y h => by cases h; exact List.mem_of_getElem? (i := 420) (by decide +kernel)
theorem xML_46 : xML_P (7, 62, 40) := fun y h => by cases h; exact List.mem_of_getElem? (i := 421) (by decide +kernel)
theorem xML_47 : xML_P (7, 66, 51) := fun y h => by cases h; exact List.mem_of_getElem? (i := 422) (by decide +kernel)
theorem xML_48 : xML_P (7, 71, 62) := fun y h => by cases h; exact List.mem_of_getElem? (i := 423) (by decide +kernel)
theorem xML_49 : xML_P (7, 75, 61) := fun y h => by cases h; exact List.mem_of_getElem? (i := 485) (by decide +kernel)
theorem xML_50 : xML_P (7, 78, 43) := fun y h => by cases h; exact List.mem_of_getElem? (i := 466) (by decide +kernel)
theorem xML_51 : xML_P (7, 82, 63) := fun y h => by cases h; exact List.mem_of_getElem? (i := 428) (by decide +kernel)
theorem xML_52 : xML_P (7, 85, 57) := fun y h => by cases h; exact List.mem_of_getElem? (i := 457) (by decide +kernel)
theorem xML_53 : xML_P (7, 88, 42) := fun y h => by cases h; exact List.mem_of_getElem? (i := 427) (by decide +kernel)
theorem xML_54 : xML_P (7, 91, 11) := fun y h => by cases h; exact List.mem_of_getElem? (i := 467) (by decide +kernel)
theorem xML_55 : xML_P (7, 99, 12) := fun y h => by cases h; exact List.mem_of_getElem? (i := 471) (by decide +kernel)
theorem xML_56 : xML_P (7, 102, 13) := fun y h => by cases h; exact List.mem_of_getElem? (i := 489) (by decide +kernel)
theorem xML_57 : xML_P (7, 105, 52) := fun y h => by cases h; exact List.mem_of_getElem? (i := 432) (by decide +kernel)
theorem xML_58 : xML_P (7, 114, 2) := fun y h => by cases h; exact List.mem_of_getElem? (i := 444) (by decide +kernel)
theorem xML_59 : xML_P (7, 120, 66) := fun y h => by cases h; exact List.mem_of_getElem? (i := 448) (by decide +kernel)
theorem xML_60 : xML_P (7, 127, 64) := fun y h => by cases h; exact List.mem_of_getElem? (i := 462) (by decide +kernel)
theorem xML_61 : xML_P (7, 130, 46) := fun y h => by cases h; exact List.mem_of_getElem? (i := 475) (by decide +kernel)
theorem xML_62 : xML_P (7, 133, 65) := fun y h => by cases h; exact List.mem_of_getElem? (i := 476) (by decide +kernel)
theorem xML_63 : xML_P (7, 137, 47) := fun y h => by cases h; exact List.mem_of_getElem? (i := 480) (by decide +kernel)
theorem xML_64 : xML_P (7, 140, 58) := fun y h => by cases h; exact List.mem_of_getElem? (i := 437) (by decide +kernel)
theorem xML_65 : xML_P (8, 25, 49) := fun y h => by cases h; exact List.mem_of_getElem? (i := 101) (by decide +kernel)
theorem xML_66 : xML_P (8, 34, 0) := fun y h => by cases h; exact List.mem_of_getElem? (i := 123) (by decide +kernel)
theorem xML_67 : xML_P (8, 43, 56) := fun y h => by cases h; exact List.mem_of_getElem? (i := 158) (by decide +kernel)
theorem xML_68 : xML_P (8, 52, 15) := fun y h => by cases h; exact List.mem_of_getElem? (i := 189) (by decide +kernel)
theorem xML_69 : xML_P (8, 78, 44) := fun y h => by cases h; exact List.mem_of_getElem? (i := 272) (by decide +kernel)
theorem xML_70 : xML_P (8, 82, 45) := fun y h => by cases h; exact List.mem_of_getElem? (i := 288) (by decide +kernel)
theorem xML_71 : xML_P (8, 85, 10) := fun y h => by cases h; exact List.mem_of_getElem? (i := 296) (by decide +kernel)
theorem xML_72 : xML_P (8, 89, 82) := fun y h => by cases h; exact List.mem_of_getElem? (i := 308) (by decide +kernel)
theorem xML_73 : xML_P (8, 93, 83) := fun y h => by cases h; exact List.mem_of_getElem? (i := 412) (by decide +kernel)
theorem xML_74 : xML_P (8, 97, 60) := fun y h => by cases h; exact List.mem_of_getElem? (i := 481) (by decide +kernel)
theorem xML_75 : xML_P (8, 101, 51) := fun y h => by cases h; exact List.mem_of_getElem? (i := 497) (by decide +kernel)
theorem xML_76 : xML_P (8, 105, 57) := fun y h => by cases h; exact List.mem_of_getElem? (i := 498) (by decide +kernel)
theorem xML_77 : xML_P (8, 109, 52) := fun y h => by cases h; exact List.mem_of_getElem? (i := 503) (by decide +kernel)
theorem xML_78 : xML_P (8, 112, 86) := fun y h => by cases h; exact List.mem_of_getElem? (i := 504) (by decide +kernel)
theorem xML_79 : xML_P (8, 116, 58) := fun y h => by cases h; exact List.mem_of_getElem? (i := 505) (by decide +kernel)
theorem xML_80 : xML_P (8, 119, 1) := fun y h => by cases h; exact List.mem_of_getElem? (i := 510) (by decide +kernel)
theorem xML_81 : xML_P (8, 122, 85) := fun y h => by cases h; exact List.mem_of_getElem? (i := 518) (by decide +kernel)
theorem xML_82 : xML_P (8, 125, 26) := fun y h => by cases h; exact List.mem_of_getElem? (i := 521) (by decide +kernel)
theorem xML_83 : xML_P (8, 128, 24) := fun y h => by cases h; exact List.mem_of_getElem? (i := 530) (by decide +kernel)
theorem xML_84 : xML_P (8, 131, 136) := fun y h => by cases h; exact List.mem_of_getElem? (i := 540) (by decide +kernel)
theorem xML_85 : xML_P (8, 136, 16) := fun y h => by cases h; exact List.mem_of_getElem? (i := 543) (by decide +kernel)
theorem xML_86 : xML_P (8, 140, 28) := fun y h => by cases h; exact List.mem_of_getElem? (i := 598) (by decide +kernel)
theorem xML_87 : xML_P (8, 143, 29) := fun y h => by cases h; exact List.mem_of_getElem? (i := 602) (by decide +kernel)
theorem xML_88 : xML_P (8, 146, 30) := fun y h => by cases h; exact List.mem_of_getElem? (i := 603) (by decide +kernel)
theorem xML_89 : xML_P (8, 149, 31) := fun y h => by cases h; exact List.mem_of_getElem? (i := 611) (by decide +kernel)
theorem xML_90 : xML_P (8, 152, 32) := fun y h => by cases h; exact List.mem_of_getElem? (i := 616) (by decide +kernel)
theorem xML_91 : xML_P (8, 155, 33) := fun y h => by cases h; exact List.mem_of_getElem? (i := 622) (by decide +kernel)
theorem xML_92 : xML_P (8, 158, 84) := fun y h => by cases h; exact List.mem_of_getElem? (i := 630) (by decide +kernel)
theorem xML_93 : xML_P (8, 161, 25) := fun y h => by cases h; exact List.mem_of_getElem? (i := 650) (by decide +kernel)
theorem xML_94 : xML_P (8, 164, 53) := fun y h => by cases h; exact List.mem_of_getElem? (i := 312) (by decide +kernel)
theorem xML_95 : xML_P (8, 167, 50) := fun y h => by cases h; exact List.mem_of_getElem? (i := 366) (by decide +kernel)
theorem xML_96 : xML_P (8, 168, 3) := fun y h => by cases h; exact List.mem_of_getElem? (i := 370) (by decide +kernel)
theorem xML_97 : xML_P (8, 169, 59) := fun y h => by cases h; exact List.mem_of_getElem? (i := 416) (by decide +kernel)
theorem xML_98 : xML_P (8, 170, 37) := fun y h => by cases h; exact List.mem_of_getElem? (i := 634) (by decide +kernel)
theorem xML_99 : xML_P (8, 174, 38) := fun y h => by cases h; exact List.mem_of_getElem? (i := 641) (by decide +kernel)
theorem xML_100 : xML_P (8, 178, 134) := fun y h => by cases h; exact List.mem_of_getElem? (i := 333) (by decide +kernel)
theorem xML_101 : xML_P (9, 62, 92) := fun y h => by cases h; exact List.mem_of_getElem? (i := 729) (by decide +kernel)
theorem xML_102 : xML_P (9, 66, 93) := fun y h => by cases h; exact List.mem_of_getElem? (i := 726) (by decide +kernel)
theorem xML_103 : xML_P (9, 80, 99) := fun y h => by cases h; exact List.mem_of_getElem? (i := 764) (by decide +kernel)
theorem xML_104 : xML_P (9, 84, 97) := fun y h => by cases h; exact List.mem_of_getElem? (i := 756) (by decide +kernel)
theorem xML_105 : xML_P (9, 87, 98) := fun y h => by cases h; exact List.mem_of_getElem? (i := 760) (by decide +kernel)
theorem xML_106 : xML_P (9, 91, 100) := fun y h => by cases h; exact List.mem_of_getElem? (i := 768) (by decide +kernel)
theorem xML_107 : xML_P (9, 94, 103) := fun y h => by cases h; exact List.mem_of_getElem? (i := 780) (by decide +kernel)
theorem xML_108 : xML_P (9, 97, 102) := fun y h => by cases h; exact List.mem_of_getElem? (i := 784) (by decide +kernel)
theorem xML_109 : xML_P (9, 100, 104) := fun y h => by cases h; exact List.mem_of_getElem? (i := 788) (by decide +kernel)
theorem xML_110 : xML_P (9, 103, 105) := fun y h => by cases h; exact List.mem_of_getElem? (i := 776) (by decide +kernel)
theorem xML_111 : xML_P (9, 106, 106) := fun y h => by cases h; exact List.mem_of_getElem? (i := 792) (by decide +kernel)
theorem xML_112 : xML_P (9, 110, 101) := fun y h => by cases h; exact List.mem_of_getElem? (i := 752) (by decide +kernel)
theorem xML_113 : xML_P (9, 117, 107) := fun y h => by cases h; exact List.mem_of_getElem? (i := 772) (by decide +kernel)
theorem xML_114 : xML_P (9, 120, 109) := fun y h => by cases h; exact List.mem_of_getElem? (i := 804) (by decide +kernel)
theorem xML_115 : xML_P (9, 124, 111) := fun y h => by cases h; exact List.mem_of_getElem? (i := 800) (by decide +kernel)
theorem xML_116 : xML_P (9, 127, 110) := fun y h => by cases h; exact List.mem_of_getElem? (i := 808) (by decide +kernel)
theorem xML_117 : xML_P (9, 130, 112) := fun y h => by cases h; exact List.mem_of_getElem? (i := 812) (by decide +kernel)
theorem xML_118 : xML_P (9, 133, 108) := fun y h => by cases h; exact List.mem_of_getElem? (i := 748) (by decide +kernel)
theorem xML_119 : xML_P (9, 136, 113) := fun y h => by cases h; exact List.mem_of_getElem? (i := 796) (by decide +kernel)
theorem xML_120 : xML_P (9, 139, 114) := fun y h => by cases h; exact List.mem_of_getElem? (i := 744) (by decide +kernel)
theorem xML_121 : xML_P (9, 142, 116) := fun y h => by cases h; exact List.mem_of_getElem? (i := 816) (by decide +kernel)
theorem xML_122 : xML_P (9, 145, 115) := fun y h => by cases h; exact List.mem_of_getElem? (i := 824) (by decide +kernel)
theorem xML_123 : xML_P (9, 148, 123) := fun y h => by cases h; exact List.mem_of_getElem? (i := 852) (by decide +kernel)
theorem xML_124 : xML_P (9, 152, 125) := fun y h => by cases h; exact List.mem_of_getElem? (i := 855) (by decide +kernel)
theorem xML_125 : xML_P (9, 155, 124) := fun y h => by cases h; exact List.mem_of_getElem? (i := 858) (by decide +kernel)
theorem xML_126 : xML_P (9, 159, 126) := fun y h => by cases h; exact List.mem_of_getElem? (i := 848) (by decide +kernel)
theorem xML_127 : xML_P (9, 162, 130) := fun y h => by cases h; exact List.mem_of_getElem? (i := 878) (by decide +kernel)
theorem xML_128 : xML_P (9, 165, 131) := fun y h => by cases h; exact List.mem_of_getElem? (i := 874) (by decide +kernel)
theorem xML_129 : xML_P (13, 9, 67) := fun y h => by cases h; exact List.mem_of_getElem? (i := 60) (by decide +kernel)
theorem xML_130 : xML_P (13, 12, 91) := fun y h => by cases h; exact List.mem_of_getElem? (i := 653) (by decide +kernel)
theorem xML_131 : xML_P (13, 13, 68) := fun y h => by cases h; exact List.mem_of_getElem? (i := 268) (by decide +kernel)
theorem xML_132 : xML_P (13, 17, 94) := fun y h => by cases h; exact List.mem_of_getElem? (i := 722) (by decide +kernel)
theorem xML_133 : xML_P (13, 18, 69) := fun y h => by cases h; exact List.mem_of_getElem? (i := 284) (by decide +kernel)
theorem xML_134 : xML_P (13, 21, 95) := fun y h => by cases h; exact List.mem_of_getElem? (i := 732) (by decide +kernel)
theorem xML_135 : xML_P (13, 22, 70) := fun y h => by cases h; exact List.mem_of_getElem? (i := 292) (by decide +kernel)
theorem xML_136 : xML_P (13, 26, 96) := fun y h => by cases h; exact List.mem_of_getElem? (i := 736) (by decide +kernel)
theorem xML_137 : xML_P (13, 27, 71) := fun y h => by cases h; exact List.mem_of_getElem? (i := 304) (by decide +kernel)
theorem xML_138 : xML_P (13, 31, 117) := fun y h => by cases h; exact List.mem_of_getElem? (i := 740) (by decide +kernel)
theorem xML_139 : xML_P (13, 32, 72) := fun y h => by cases h; exact List.mem_of_getElem? (i := 493) (by decide +kernel)
theorem xML_140 : xML_P (13, 36, 118) := fun y h => by cases h; exact List.mem_of_getElem? (i := 820) (by decide +kernel)
theorem xML_141 : xML_P (13, 37, 73) := fun y h => by cases h; exact List.mem_of_getElem? (i := 499) (by decide +kernel)
theorem xML_142 : xML_P (13, 40, 119) := fun y h => by cases h; exact List.mem_of_getElem? (i := 828) (by decide +kernel)
theorem xML_143 : xML_P (13, 41, 74) := fun y h => by cases h; exact List.mem_of_getElem? (i := 506) (by decide +kernel)
theorem xML_144 : xML_P (13, 44, 120) := fun y h => by cases h; exact List.mem_of_getElem? (i := 832) (by decide +kernel)
theorem xML_145 : xML_P (13, 45, 75) := fun y h => by cases h; exact List.mem_of_getElem? (i := 514) (by decide +kernel)
theorem xML_146 : xML_P (13, 48, 121) := fun y h => by cases h; exact List.mem_of_getElem? (i := 836) (by decide +kernel)
theorem xML_147 : xML_P (13, 49, 76) := fun y h => by cases h; exact List.mem_of_getElem? (i := 526) (by decide +kernel)
theorem xML_148 : xML_P (13, 53, 122) := fun y h => by cases h; exact List.mem_of_getElem? (i := 840) (by decide +kernel)
theorem xML_149 : xML_P (13, 54, 77) := fun y h => by cases h; exact List.mem_of_getElem? (i := 536) (by decide +kernel)
theorem xML_150 : xML_P (13, 57, 127) := fun y h => by cases h; exact List.mem_of_getElem? (i := 844) (by decide +kernel)
theorem xML_151 : xML_P (13, 58, 78) := fun y h => by cases h; exact List.mem_of_getElem? (i := 594) (by decide +kernel)
theorem xML_152 : xML_P (13, 61, 128) := fun y h => by cases h; exact List.mem_of_getElem? (i := 862) (by decide +kernel)
theorem xML_153 : xML_P (13, 62, 79) := fun y h => by cases h; exact List.mem_of_getElem? (i := 607) (by decide +kernel)
theorem xML_154 : xML_P (13, 66, 129) := fun y h => by cases h; exact List.mem_of_getElem? (i := 866) (by decide +kernel)
theorem xML_155 : xML_P (13, 67, 80) := fun y h => by cases h; exact List.mem_of_getElem? (i := 626) (by decide +kernel)
theorem xML_156 : xML_P (13, 70, 132) := fun y h => by cases h; exact List.mem_of_getElem? (i := 870) (by decide +kernel)
theorem xML_157 : xML_P (13, 71, 81) := fun y h => by cases h; exact List.mem_of_getElem? (i := 646) (by decide +kernel)
theorem xML_158 : xML_P (13, 74, 133) := fun y h => by cases h; exact List.mem_of_getElem? (i := 882) (by decide +kernel)
theorem xML_ok : ∀ q ∈ xML, xML_P q := List.forall_mem_cons.mpr ⟨xML_0, List.forall_mem_cons.mpr ⟨xML_1, List.forall_mem_cons.mpr ⟨xML_2, List.forall_mem_cons.mpr ⟨xML_3, List.forall_mem_cons.mpr ⟨xML_4, List.forall_mem_cons.mpr ⟨xML_5, List.forall_mem_cons.mpr ⟨xML_6, List.forall_mem_cons.mpr ⟨xML_7, List.forall_mem_cons.mpr ⟨xML_8, List.forall_mem_cons.mpr ⟨xML_9, List.forall_mem_cons.mpr ⟨xML_10, List.forall_mem_cons.mpr ⟨xML_11, List.forall_mem_cons.mpr ⟨xML_12, List.forall_mem_cons.mpr ⟨xML_13, List.forall_mem_cons.mpr ⟨xML_14, List.forall_mem_cons.mpr ⟨xML_15, List.forall_mem_cons.mpr ⟨xML_16, List.forall_mem_cons.mpr ⟨xML_17, List.forall_mem_cons.mpr ⟨xML_18, List.forall_mem_cons.mpr ⟨xML_19, List.forall_mem_cons.mpr ⟨xML_20, List.forall_mem_cons.mpr ⟨xML_21, List.forall_mem_cons.mpr ⟨xML_22, List.forall_mem_cons.mpr ⟨xML_23, List.forall_mem_cons.mpr ⟨xML_24, List.forall_mem_cons.mpr ⟨xML_25, List.forall_mem_cons.mpr ⟨xML_26, List.forall_mem_cons.mpr ⟨xML_27, List.forall_mem_cons.mpr ⟨xML_28, List.forall_mem_cons.mpr ⟨xML_29, List.forall_mem_cons.mpr ⟨xML_30, List.forall_mem_cons.mpr ⟨xML_31, List.forall_mem_cons.mpr ⟨xML_32, List.forall_mem_cons.mpr ⟨xML_33, List.forall_mem_cons.mpr ⟨xML_34, List.forall_mem_cons.mpr ⟨xML_35, List.forall_mem_cons.mpr ⟨xML_36, List.forall_mem_cons.mpr ⟨xML_37, List.forall_mem_cons.mpr ⟨xML_38, List.forall_mem_cons.mpr ⟨xML_39, List.forall_mem_cons.mpr ⟨xML_40, List.forall_mem_cons.mpr ⟨xML_41, List.forall_mem_cons.mpr ⟨xML_42, List.forall_mem_cons.mpr ⟨xML_43, List.forall_mem_cons.mpr ⟨xML_44, List.forall_mem_cons.mpr ⟨xML_45, List.forall_mem_cons.mpr ⟨xML_46, List.forall_mem_cons.mpr ⟨xML_47, List.forall_mem_cons.mpr ⟨xML_48, List.forall_mem_cons.mpr ⟨xML_49, List.forall_mem_cons.mpr ⟨xML_50, List.forall_mem_cons.mpr ⟨xML_51, List.forall_mem_cons.mpr ⟨xML_52, List.forall_mem_cons.mpr ⟨xML_53, List.forall_mem_cons.mpr ⟨xML_54, List.forall_mem_cons.mpr ⟨xML_55, List.forall_mem_cons.mpr ⟨xML_56, List.forall_mem_cons.mpr ⟨xML_57, List.forall_mem_cons.mpr ⟨xML_58, List.forall_mem_cons.mpr ⟨xML_59, List.forall_mem_cons.mpr ⟨xML_60, List.forall_mem_cons.mpr ⟨xML_61, List.forall_mem_cons.mpr ⟨xML_62, List.forall_mem_cons.mpr ⟨xML_63, List.forall_mem_cons.mpr ⟨xML_64, List.forall_mem_cons.mpr ⟨xML_65, List.forall_mem_cons.mpr ⟨xML_66, List.forall_mem_cons.mpr ⟨xML_67, List.forall_mem_cons.mpr ⟨xML_68, List.forall_mem_cons.mpr ⟨xML_69, List.forall_mem_cons.mpr ⟨xML_70, List.forall_mem_cons.mpr ⟨xML_71, List.forall_mem_cons.mpr ⟨xML_72, List.forall_mem_cons.mpr ⟨xML_73, List.forall_mem_cons.mpr ⟨xML_74, List.forall_mem_cons.mpr ⟨xML_75, List.forall_mem_cons.mpr ⟨xML_76, List.forall_mem_cons.mpr ⟨xML_77, List.forall_mem_cons.mpr ⟨xML_78, List.forall_mem_cons.mpr ⟨xML_79, List.forall_mem_cons.mpr ⟨xML_80, List.forall_mem_cons.mpr ⟨xML_81, List.forall_mem_cons.mpr ⟨xML_82, List.forall_mem_cons.mpr ⟨xML_83, List.forall_mem_cons.mpr ⟨xML_84, List.forall_mem_cons.mpr ⟨xML_85, List.forall_mem_cons.mpr ⟨xML_86, List.forall_mem_cons.mpr ⟨xML_87, List.forall_mem_cons.mpr ⟨xML_88, List.forall_mem_cons.mpr ⟨xML_89, List.forall_mem_cons.mpr ⟨xML_90, List.forall_mem_cons.mpr ⟨xML_91, List.forall_mem_cons.mpr ⟨xML_92, List.forall_mem_cons.mpr ⟨xML_93, List.forall_mem_cons.mpr ⟨xML_94, List.forall_mem_cons.mpr ⟨xML_95, List.forall_mem_cons.mpr ⟨xML_96, List.forall_mem_cons.mpr ⟨xML_97, List.forall_mem_cons.mpr ⟨xML_98, List.forall_mem_cons.mpr ⟨xML_99, List.forall_mem_cons.mpr ⟨xML_100, List.forall_mem_cons.mpr ⟨xML_101, List.forall_mem_cons.mpr ⟨xML_102, List.forall_mem_cons.mpr ⟨xML_103, List.forall_mem_cons.mpr ⟨xML_104, List.forall_mem_cons.mpr ⟨xML_105, List.forall_mem_cons.mpr ⟨xML_106, List.forall_mem_cons.mpr ⟨xML_107, List.forall_mem_cons.mpr ⟨xML_108, List.forall_mem_cons.mpr ⟨xML_109, List.forall_mem_cons.mpr ⟨xML_110, List.forall_mem_cons.mpr ⟨xML_111, List.forall_mem_cons.mpr ⟨xML_112, List.forall_mem_cons.mpr ⟨xML_113, List.forall_mem_cons.mpr ⟨xML_114, List.forall_mem_cons.mpr ⟨xML_115, List.forall_mem_cons.mpr ⟨xML_116, List.forall_mem_cons.mpr ⟨xML_117, List.forall_mem_cons.mpr ⟨xML_118, List.forall_mem_cons.mpr ⟨xML_119, List.forall_mem_cons.mpr ⟨xML_120, List.forall_mem_cons.mpr ⟨xML_121, List.forall_mem_cons.mpr ⟨xML_122, List.forall_mem_cons.mpr ⟨xML_123, List.forall_mem_cons.mpr ⟨xML_124, List.forall_mem_cons.mpr ⟨xML_125, List.forall_mem_cons.mpr ⟨xML_126, List.forall_mem_cons.mpr ⟨xML_127, List.forall_mem_cons.mpr ⟨xML_128, List.forall_mem_cons.mpr ⟨xML_129, List.forall_mem_cons.mpr ⟨xML_130, List.forall_mem_cons.mpr ⟨xML_131, List.forall_mem_cons.mpr ⟨xML_132, List.forall_mem_cons.mpr ⟨xML_133, List.forall_mem_cons.mpr ⟨xML_134, List.forall_mem_cons.mpr ⟨xML_135, List.forall_mem_cons.mpr ⟨xML_136, List.forall_mem_cons.mpr ⟨xML_137, List.forall_mem_cons.mpr ⟨xML_138, List.forall_mem_cons.mpr ⟨xML_139, List.forall_mem_cons.mpr ⟨xML_140, List.forall_mem_cons.mpr ⟨xML_141, List.forall_mem_cons.mpr ⟨xML_142, List.forall_mem_cons.mpr ⟨xML_143, List.forall_mem_cons.mpr ⟨xML_144, List.forall_mem_cons.mpr ⟨xML_145, List.forall_mem_cons.mpr ⟨xML_146, List.forall_mem_cons.mpr ⟨xML_147, List.forall_mem_cons.mpr ⟨xML_148, List.forall_mem_cons.mpr ⟨xML_149, List.forall_mem_cons.mpr ⟨xML_150, List.forall_mem_cons.mpr ⟨xML_151, List.forall_mem_cons.mpr ⟨xML_152, List.forall_mem_cons.mpr ⟨xML_153, List.forall_mem_cons.mpr ⟨xML_154, List.forall_mem_cons.mpr ⟨xML_155, List.forall_mem_cons.mpr ⟨xML_156, List.forall_mem_cons.mpr ⟨xML_157, List.forall_mem_cons.mpr ⟨xML_158, fun _ h => absurd h List.not_mem_nil⟩⟩⟩⟩⟩⟩⟩⟩⟩⟩⟩⟩⟩⟩⟩⟩⟩⟩⟩⟩⟩⟩⟩⟩⟩⟩⟩⟩⟩⟩⟩⟩⟩⟩⟩⟩⟩⟩⟩⟩⟩⟩⟩⟩⟩⟩⟩⟩⟩⟩⟩⟩⟩⟩⟩⟩⟩⟩⟩⟩⟩⟩⟩⟩⟩⟩⟩⟩⟩⟩⟩⟩⟩⟩⟩⟩⟩⟩⟩⟩⟩⟩⟩⟩⟩⟩⟩⟩⟩⟩⟩⟩⟩⟩⟩⟩⟩⟩⟩⟩⟩⟩⟩⟩⟩⟩⟩⟩⟩⟩⟩⟩⟩⟩⟩⟩⟩⟩⟩⟩⟩⟩⟩⟩⟩⟩⟩⟩⟩⟩⟩⟩⟩⟩⟩⟩⟩⟩⟩⟩⟩⟩⟩⟩⟩⟩⟩⟩⟩⟩⟩⟩⟩⟩⟩⟩⟩⟩⟩
def xMN_P (q : Nat × Nat × Nat) : Prop := ∀ y, xtab[q.2.2]? = some y → Cond.methodLinkNest (xnm q.1) q.2.1 y.2.2.2.1 "SecretLoom" ∈ lw_tbl
theorem xMN_0 : xMN_P (0, 64, 88) := fun y h => by cases h; exact List.mem_of_getElem? (i := 390) (by decide +kernel)
theorem xMN_1 : xMN_P (0, 97, 89) := fun y h => by cases h; exact List.mem_of_getElem? (i := 411) (by decide +kernel)
theorem xMN_2 : xMN_P (0, 101, 90) := fun y h => by cases h; exact List.mem_of_getElem? (i := 406) (by decide +kernel)
theorem xMN_3 : xMN_P (1, 25, 86) := fun y h => by cases h; exact List.mem_of_getElem? (i := 303) (by decide +kernel)
theorem xMN_4 : xMN_P (3, 21, 86) := fun y h => by cases h; exact List.mem_of_getElem? (i := 525) (by decide +kernel)
theorem xMN_5 : xMN_P (4, 39, 86) := fun y h => by cases h; exact List.mem_of_getElem? (i := 621) (by decide +kernel)
theorem xMN_6 : xMN_P (4, 52, 87) := fun y h => by cases h; exact List.mem_of_getElem? (i := 640) (by decide +kernel)
theorem xMN_7 : xMN_P (5, 37, 86) := fun y h => by cases h; exact List.mem_of_getElem? (i := 279) (by decide +kernel)
theorem xMN_8 : xMN_P (6, 27, 89) := fun y h => by cases h; exact List.mem_of_getElem? (i := 324) (by decide +kernel)
theorem xMN_9 : xMN_P (6, 38, 90) := fun y h => by cases h; exact List.mem_of_getElem? (i := 330) (by decide +kernel)
theorem xMN_10 : xMN_P (6, 42, 88) := fun y h => by cases h; exact List.mem_of_getElem? (i := 327) (by decide +kernel)
theorem xMN_11 : xMN_P (7, 35, 89) := fun y h => by cases h; exact List.mem_of_getElem? (i := 461) (by decide +kernel)
theorem xMN_12 : xMN_P (7, 48, 86) := fun y h => by cases h; exact List.mem_of_getElem? (i := 442) (by decide +kernel)
theorem xMN_13 : xMN_P (7, 96, 87) := fun y h => by cases h; exact List.mem_of_getElem? (i := 452) (by decide +kernel)
theorem xMN_14 : xMN_P (8, 9, 39) := fun y h => by cases h; exact List.mem_of_getElem? (i := 68) (by decide +kernel)
theorem xMN_15 : xMN_P (8, 18, 9) := fun y h => by cases h; exact List.mem_of_getElem? (i := 85) (by decide +kernel)
theorem xMN_16 : xMN_P (8, 69, 23) := fun y h => by cases h; exact List.mem_of_getElem? (i := 208) (by decide +kernel)
theorem xMN_17 : xMN_P (8, 70, 27) := fun y h => by cases h; exact List.mem_of_getElem? (i := 217) (by decide +kernel)
theorem xMN_ok : ∀ q ∈ xMN, xMN_P q := List.forall_mem_cons.mpr ⟨xMN_0, List.forall_mem_cons.mpr ⟨xMN_1, List.forall_mem_cons.mpr ⟨xMN_2, List.forall_mem_cons.mpr ⟨xMN_3, List.forall_mem_cons.mpr ⟨xMN_4, List.forall_mem_cons.mpr ⟨xMN_5, List.forall_mem_cons.mpr ⟨xMN_6, List.forall_mem_cons.mpr ⟨xMN_7, List.forall_mem_cons.mpr ⟨xMN_8, List.forall_mem_cons.mpr ⟨xMN_9, List.forall_mem_cons.mpr ⟨xMN_10, List.forall_mem_cons.mpr ⟨xMN_11, List.forall_mem_cons.mpr ⟨xMN_12, List.forall_mem_cons.mpr ⟨xMN_13, List.forall_mem_cons.mpr ⟨xMN_14, List.forall_mem_cons.mpr ⟨xMN_15, List.forall_mem_cons.mpr ⟨xMN_16, List.forall_mem_cons.mpr ⟨xMN_17, fun _ h => absurd h List.not_mem_nil⟩⟩⟩⟩⟩⟩⟩⟩⟩⟩⟩⟩⟩⟩⟩⟩⟩⟩
def xOL_P (q : Nat × Nat × Nat) : Prop := Cond.methodLink (xnm q.1) q.2.1 objectInit ∈ lw_tbl
theorem xOL_0 : xOL_P (0, 3, 0) := List.mem_of_getElem? (i := 126) (by decide +kernel)
theorem xOL_1 : xOL_P (1, 3, 0) := List.mem_of_getElem? (i := 88) (by decide +kernel)
theorem xOL_2 : xOL_P (2, 3, 0) := List.mem_of_getElem? (i := 192) (by decide +kernel)
theorem xOL_3 : xOL_P (3, 3, 0) := List.mem_of_getElem? (i := 211) (by decide +kernel)
theorem xOL_4 : xOL_P (4, 3, 0) := List.mem_of_getElem? (i := 220) (by decide +kernel)
theorem xOL_5 : xOL_P (5, 3, 0) := List.mem_of_getElem? (i := 71) (by decide +kernel)
theorem xOL_6 : xOL_P (6, 3, 0) := List.mem_of_getElem? (i := 104) (by decide +kernel)
theorem xOL_7 : xOL_P (7, 5, 0) := List.mem_of_getElem? (i := 161) (by decide +kernel)
theorem xOL_8 : xOL_P (8, 1, 0) := List.mem_of_getElem? (i := 63) (by decide +kernel)
theorem xOL_9 : xOL_P (9, 1, 0) := List.mem_of_getElem? (i := 656) (by decide +kernel)
theorem xOL_ok : ∀ q ∈ xOL, xOL_P q := List.forall_mem_cons.mpr ⟨xOL_0, List.forall_mem_cons.mpr ⟨xOL_1, List.forall_mem_cons.mpr ⟨xOL_2, List.forall_mem_cons.mpr ⟨xOL_3, List.forall_mem_cons.mpr ⟨xOL_4, List.forall_mem_cons.mpr ⟨xOL_5, List.forall_mem_cons.mpr ⟨xOL_6, List.forall_mem_cons.mpr ⟨xOL_7, List.forall_mem_cons.mpr ⟨xOL_8, List.forall_mem_cons.mpr ⟨xOL_9, fun _ h => absurd h List.not_mem_nil⟩⟩⟩⟩⟩⟩⟩⟩⟩⟩
end
section
/-! an instruction's length, its operand against the links -/
def xokI (own nL pc : Nat) (i : Instr) (len op : Nat) : Bool := match i with
  | .aload _ => Nat.beq len 2
  | .iload _ => Nat.beq len 2
  | .lload _ => Nat.beq len 2
  | .istore n => Nat.beq len 2 && Nat.blt n nL
  | .astore n => Nat.beq len 2 && Nat.blt n nL
  | .lstore n => Nat.beq len 2 && Nat.blt (n + 1) nL
  | .istore_n n => Nat.beq len 1 && Nat.blt n.val nL
  | .astore_n n => Nat.beq len 1 && Nat.blt n.val nL
  | .lstore_n n => Nat.beq len 1 && Nat.blt (n.val + 1) nL
  | .iinc n _ => Nat.beq len 3 && Nat.blt n nL
  | .bipush _ => Nat.beq len 2
  | .sipush _ => Nat.beq len 3
  | .ldc2_w x => Nat.beq len 3 && xDL.contains (own, x, op)
  | .ifCond _ off => Nat.beq len 3 && decide ((pc : Int) + off = (op : Int))
  | .if_icmp _ off => Nat.beq len 3 && decide ((pc : Int) + off = (op : Int))
  | .goto off => Nat.beq len 3 && decide ((pc : Int) + off = (op : Int))
  | .tableswitch .. => true
  | .lookupswitch .. => true
  | .getfield x => Nat.beq len 3 && xFL.contains (own, x, op)
  | .putfield x => Nat.beq len 3 && xFL.contains (own, x, op)
  | .getstatic x => Nat.beq len 3 && xSL.contains (own, x, op)
  | .new x => Nat.beq len 3 && xCL.contains (own, x, op)
  | .newarray t => Nat.beq len 2 && (match t with
    | .int => Nat.beq op 20
    | .long => Nat.beq op 21
    | .boolean => Nat.beq op 22
    | _ => false)
  | .anewarray x => Nat.beq len 3 && xAL.contains (own, x, op)
  | .invokespecial x => Nat.beq len 3 && (bif Nat.beq op 9999 then xOL.contains (own, x, 0) else xML.contains (own, x, op) || xMN.contains (own, x, op))
  | .invokevirtual x => Nat.beq len 3 && (xML.contains (own, x, op) || xMN.contains (own, x, op))
  | .invokestatic x => Nat.beq len 3 && (xML.contains (own, x, op) || xMN.contains (own, x, op))
  | _ => Nat.beq len 1
def xdec (bytes : ByteArray) (c : List (List (Nat × xI))) : Bool := c.all (fun b => b.all (fun q => decide (decode bytes q.1 = .ok (q.2.1, q.2.2.1))))
def xokc (own nL : Nat) (c : List (List (Nat × xI))) : Bool := c.all (fun b => b.all (fun q => xokI own nL q.1 q.2.1 q.2.2.1 q.2.2.2))
/-- a method's own words, and its code as decoded -/
def xMok (y : xMt) : Prop :=
  plainFor y.2.2.2.1 = true ∧ Cond.code y.2.2.2.1 y.2.2.2.2.1 y.2.2.2.2.2.1 y.2.2.2.2.2.2.1 ∈ lw_tbl ∧ Cond.initialized y.2.2.2.1.cls ∈ lw_tbl ∧
  (y.2.2.2.1.cls ≠ "java/lang/invoke/MethodHandle" ∧ y.2.2.2.1.cls ≠ "java/lang/invoke/VarHandle" ∧ (parseMethodDescriptor y.2.2.2.1.desc).map (fun d => d.parameters.length) = some y.2.2.1) ∧
  xnm y.1 = y.2.2.2.1.cls ∧ y.2.2.2.2.2.1 ≤ 17 ∧ (y.2.1 = 0 → Cond.static y.2.2.2.1 ∈ lw_tbl) ∧ (y.2.1 = 1 → Cond.instanceMethod y.2.2.2.1 ∈ lw_tbl ∧ Cond.selects y.2.2.2.1.cls y.2.2.2.1 y.2.2.2.1 ∈ lw_tbl) ∧
  (y.2.1 = 2 → y.2.2.2.1.name = "<init>" ∧ Cond.instanceMethod y.2.2.2.1 ∈ lw_tbl ∧ y.2.2.2.2.2.2.1 = none) ∧ xdec y.2.2.2.2.1 y.2.2.2.2.2.2.2 = true ∧ xokc y.1 y.2.2.2.2.2.1 y.2.2.2.2.2.2.2 = true
end
section
set_option maxRecDepth 100000 in
theorem kX0_init : xMok mX0_init := ⟨by decide +kernel, List.mem_of_getElem? (i := 125) rfl, List.mem_of_getElem? (i := 49) (by decide +kernel), by decide +kernel, rfl, by decide, fun h => absurd h (by decide), fun h => absurd h (by decide), fun _ => ⟨rfl, List.mem_of_getElem? (i := 124) (by decide +kernel), rfl⟩, by decide +kernel, by decide +kernel⟩
set_option maxRecDepth 100000 in
theorem kX0_at : xMok mX0_at := ⟨by decide +kernel, List.mem_of_getElem? (i := 513) rfl, List.mem_of_getElem? (i := 49) (by decide +kernel), by decide +kernel, rfl, by decide, fun h => absurd h (by decide), fun _ => ⟨List.mem_of_getElem? (i := 511) (by decide +kernel), List.mem_of_getElem? (i := 512) (by decide +kernel)⟩, fun h => absurd h (by decide), by decide +kernel, by decide +kernel⟩
set_option maxRecDepth 100000 in
theorem kX0_regionOf : xMok mX0_regionOf := ⟨by decide +kernel, List.mem_of_getElem? (i := 447) rfl, List.mem_of_getElem? (i := 49) (by decide +kernel), by decide +kernel, rfl, by decide, fun h => absurd h (by decide), fun _ => ⟨List.mem_of_getElem? (i := 445) (by decide +kernel), List.mem_of_getElem? (i := 446) (by decide +kernel)⟩, fun h => absurd h (by decide), by decide +kernel, by decide +kernel⟩
set_option maxRecDepth 100000 in
theorem kX0_find : xMok mX0_find := ⟨by decide +kernel, List.mem_of_getElem? (i := 373) rfl, List.mem_of_getElem? (i := 49) (by decide +kernel), by decide +kernel, rfl, by decide, fun h => absurd h (by decide), fun _ => ⟨List.mem_of_getElem? (i := 371) (by decide +kernel), List.mem_of_getElem? (i := 372) (by decide +kernel)⟩, fun h => absurd h (by decide), by decide +kernel, by decide +kernel⟩
set_option maxRecDepth 100000 in
theorem kX0_findEdges : xMok mX0_findEdges := ⟨by decide +kernel, List.mem_of_getElem? (i := 377) rfl, List.mem_of_getElem? (i := 49) (by decide +kernel), by decide +kernel, rfl, by decide, fun h => absurd h (by decide), fun _ => ⟨List.mem_of_getElem? (i := 376) (by decide +kernel), List.mem_of_getElem? (i := 3) (by decide +kernel)⟩, fun h => absurd h (by decide), by decide +kernel, by decide +kernel⟩
set_option maxRecDepth 100000 in
theorem kX0_addEdge : xMok mX0_addEdge := ⟨by decide +kernel, List.mem_of_getElem? (i := 395) rfl, List.mem_of_getElem? (i := 49) (by decide +kernel), by decide +kernel, rfl, by decide, fun h => absurd h (by decide), fun _ => ⟨List.mem_of_getElem? (i := 394) (by decide +kernel), List.mem_of_getElem? (i := 4) (by decide +kernel)⟩, fun h => absurd h (by decide), by decide +kernel, by decide +kernel⟩
set_option maxRecDepth 100000 in
theorem kX0_findPassing : xMok mX0_findPassing := ⟨by decide +kernel, List.mem_of_getElem? (i := 401) rfl, List.mem_of_getElem? (i := 49) (by decide +kernel), by decide +kernel, rfl, by decide, fun h => absurd h (by decide), fun _ => ⟨List.mem_of_getElem? (i := 400) (by decide +kernel), List.mem_of_getElem? (i := 5) (by decide +kernel)⟩, fun h => absurd h (by decide), by decide +kernel, by decide +kernel⟩
set_option maxRecDepth 100000 in
theorem kX0_nearestFor : xMok mX0_nearestFor := ⟨by decide +kernel, List.mem_of_getElem? (i := 410) rfl, List.mem_of_getElem? (i := 49) (by decide +kernel), by decide +kernel, rfl, by decide, fun h => absurd h (by decide), fun _ => ⟨List.mem_of_getElem? (i := 409) (by decide +kernel), List.mem_of_getElem? (i := 6) (by decide +kernel)⟩, fun h => absurd h (by decide), by decide +kernel, by decide +kernel⟩
set_option maxRecDepth 100000 in
theorem kX0_reach : xMok mX0_reach := ⟨by decide +kernel, List.mem_of_getElem? (i := 405) rfl, List.mem_of_getElem? (i := 49) (by decide +kernel), by decide +kernel, rfl, by decide, fun _ => List.mem_of_getElem? (i := 404) (by decide +kernel), fun h => absurd h (by decide), fun h => absurd h (by decide), by decide +kernel, by decide +kernel⟩
set_option maxRecDepth 100000 in
theorem kX1_init : xMok mX1_init := ⟨by decide +kernel, List.mem_of_getElem? (i := 87) rfl, List.mem_of_getElem? (i := 47) (by decide +kernel), by decide +kernel, rfl, by decide, fun h => absurd h (by decide), fun h => absurd h (by decide), fun _ => ⟨rfl, List.mem_of_getElem? (i := 86) (by decide +kernel), rfl⟩, by decide +kernel, by decide +kernel⟩
set_option maxRecDepth 100000 in
theorem kX1_set : xMok mX1_set := ⟨by decide +kernel, List.mem_of_getElem? (i := 299) rfl, List.mem_of_getElem? (i := 47) (by decide +kernel), by decide +kernel, rfl, by decide, fun h => absurd h (by decide), fun _ => ⟨List.mem_of_getElem? (i := 297) (by decide +kernel), List.mem_of_getElem? (i := 298) (by decide +kernel)⟩, fun h => absurd h (by decide), by decide +kernel, by decide +kernel⟩
set_option maxRecDepth 100000 in
theorem kX1_ofVariable : xMok mX1_ofVariable := ⟨by decide +kernel, List.mem_of_getElem? (i := 470) rfl, List.mem_of_getElem? (i := 47) (by decide +kernel), by decide +kernel, rfl, by decide, fun h => absurd h (by decide), fun _ => ⟨List.mem_of_getElem? (i := 468) (by decide +kernel), List.mem_of_getElem? (i := 469) (by decide +kernel)⟩, fun h => absurd h (by decide), by decide +kernel, by decide +kernel⟩
set_option maxRecDepth 100000 in
theorem kX1_ofArray : xMok mX1_ofArray := ⟨by decide +kernel, List.mem_of_getElem? (i := 474) rfl, List.mem_of_getElem? (i := 47) (by decide +kernel), by decide +kernel, rfl, by decide, fun h => absurd h (by decide), fun _ => ⟨List.mem_of_getElem? (i := 472) (by decide +kernel), List.mem_of_getElem? (i := 473) (by decide +kernel)⟩, fun h => absurd h (by decide), by decide +kernel, by decide +kernel⟩
set_option maxRecDepth 100000 in
theorem kX1_ofChannel : xMok mX1_ofChannel := ⟨by decide +kernel, List.mem_of_getElem? (i := 492) rfl, List.mem_of_getElem? (i := 47) (by decide +kernel), by decide +kernel, rfl, by decide, fun h => absurd h (by decide), fun _ => ⟨List.mem_of_getElem? (i := 490) (by decide +kernel), List.mem_of_getElem? (i := 491) (by decide +kernel)⟩, fun h => absurd h (by decide), by decide +kernel, by decide +kernel⟩
set_option maxRecDepth 100000 in
theorem kX1_setIn : xMok mX1_setIn := ⟨by decide +kernel, List.mem_of_getElem? (i := 302) rfl, List.mem_of_getElem? (i := 47) (by decide +kernel), by decide +kernel, rfl, by decide, fun _ => List.mem_of_getElem? (i := 301) (by decide +kernel), fun h => absurd h (by decide), fun h => absurd h (by decide), by decide +kernel, by decide +kernel⟩
set_option maxRecDepth 100000 in
theorem kX2_init : xMok mX2_init := ⟨by decide +kernel, List.mem_of_getElem? (i := 191) rfl, List.mem_of_getElem? (i := 51) (by decide +kernel), by decide +kernel, rfl, by decide, fun h => absurd h (by decide), fun h => absurd h (by decide), fun _ => ⟨rfl, List.mem_of_getElem? (i := 190) (by decide +kernel), rfl⟩, by decide +kernel, by decide +kernel⟩
set_option maxRecDepth 100000 in
theorem kX2_work : xMok mX2_work := ⟨by decide +kernel, List.mem_of_getElem? (i := 546) rfl, List.mem_of_getElem? (i := 51) (by decide +kernel), by decide +kernel, rfl, by decide, fun h => absurd h (by decide), fun _ => ⟨List.mem_of_getElem? (i := 544) (by decide +kernel), List.mem_of_getElem? (i := 545) (by decide +kernel)⟩, fun h => absurd h (by decide), by decide +kernel, by decide +kernel⟩
set_option maxRecDepth 100000 in
theorem kX2_doAt : xMok mX2_doAt := ⟨by decide +kernel, List.mem_of_getElem? (i := 558) rfl, List.mem_of_getElem? (i := 51) (by decide +kernel), by decide +kernel, rfl, by decide, fun h => absurd h (by decide), fun _ => ⟨List.mem_of_getElem? (i := 557) (by decide +kernel), List.mem_of_getElem? (i := 14) (by decide +kernel)⟩, fun h => absurd h (by decide), by decide +kernel, by decide +kernel⟩
set_option maxRecDepth 100000 in
theorem kX2_layInto : xMok mX2_layInto := ⟨by decide +kernel, List.mem_of_getElem? (i := 585) rfl, List.mem_of_getElem? (i := 51) (by decide +kernel), by decide +kernel, rfl, by decide, fun h => absurd h (by decide), fun _ => ⟨List.mem_of_getElem? (i := 584) (by decide +kernel), List.mem_of_getElem? (i := 18) (by decide +kernel)⟩, fun h => absurd h (by decide), by decide +kernel, by decide +kernel⟩
set_option maxRecDepth 100000 in
theorem kX2_doWithTwo : xMok mX2_doWithTwo := ⟨by decide +kernel, List.mem_of_getElem? (i := 577) rfl, List.mem_of_getElem? (i := 51) (by decide +kernel), by decide +kernel, rfl, by decide, fun h => absurd h (by decide), fun _ => ⟨List.mem_of_getElem? (i := 576) (by decide +kernel), List.mem_of_getElem? (i := 17) (by decide +kernel)⟩, fun h => absurd h (by decide), by decide +kernel, by decide +kernel⟩
set_option maxRecDepth 100000 in
theorem kX2_resultOf : xMok mX2_resultOf := ⟨by decide +kernel, List.mem_of_getElem? (i := 580) rfl, List.mem_of_getElem? (i := 51) (by decide +kernel), by decide +kernel, rfl, by decide, fun _ => List.mem_of_getElem? (i := 579) (by decide +kernel), fun h => absurd h (by decide), fun h => absurd h (by decide), by decide +kernel, by decide +kernel⟩
set_option maxRecDepth 100000 in
theorem kX2_put : xMok mX2_put := ⟨by decide +kernel, List.mem_of_getElem? (i := 564) rfl, List.mem_of_getElem? (i := 51) (by decide +kernel), by decide +kernel, rfl, by decide, fun h => absurd h (by decide), fun _ => ⟨List.mem_of_getElem? (i := 563) (by decide +kernel), List.mem_of_getElem? (i := 15) (by decide +kernel)⟩, fun h => absurd h (by decide), by decide +kernel, by decide +kernel⟩
set_option maxRecDepth 100000 in
theorem kX2_take : xMok mX2_take := ⟨by decide +kernel, List.mem_of_getElem? (i := 572) rfl, List.mem_of_getElem? (i := 51) (by decide +kernel), by decide +kernel, rfl, by decide, fun h => absurd h (by decide), fun _ => ⟨List.mem_of_getElem? (i := 571) (by decide +kernel), List.mem_of_getElem? (i := 16) (by decide +kernel)⟩, fun h => absurd h (by decide), by decide +kernel, by decide +kernel⟩
set_option maxRecDepth 100000 in
theorem kX3_init : xMok mX3_init := ⟨by decide +kernel, List.mem_of_getElem? (i := 210) rfl, List.mem_of_getElem? (i := 52) (by decide +kernel), by decide +kernel, rfl, by decide, fun h => absurd h (by decide), fun h => absurd h (by decide), fun _ => ⟨rfl, List.mem_of_getElem? (i := 209) (by decide +kernel), rfl⟩, by decide +kernel, by decide +kernel⟩
set_option maxRecDepth 100000 in
theorem kX3_cellOf : xMok mX3_cellOf := ⟨by decide +kernel, List.mem_of_getElem? (i := 532) rfl, List.mem_of_getElem? (i := 52) (by decide +kernel), by decide +kernel, rfl, by decide, fun _ => List.mem_of_getElem? (i := 531) (by decide +kernel), fun h => absurd h (by decide), fun h => absurd h (by decide), by decide +kernel, by decide +kernel⟩
set_option maxRecDepth 100000 in
theorem kX3_get : xMok mX3_get := ⟨by decide +kernel, List.mem_of_getElem? (i := 568) rfl, List.mem_of_getElem? (i := 52) (by decide +kernel), by decide +kernel, rfl, by decide, fun h => absurd h (by decide), fun _ => ⟨List.mem_of_getElem? (i := 566) (by decide +kernel), List.mem_of_getElem? (i := 567) (by decide +kernel)⟩, fun h => absurd h (by decide), by decide +kernel, by decide +kernel⟩
set_option maxRecDepth 100000 in
theorem kX3_set : xMok mX3_set := ⟨by decide +kernel, List.mem_of_getElem? (i := 524) rfl, List.mem_of_getElem? (i := 52) (by decide +kernel), by decide +kernel, rfl, by decide, fun h => absurd h (by decide), fun _ => ⟨List.mem_of_getElem? (i := 522) (by decide +kernel), List.mem_of_getElem? (i := 523) (by decide +kernel)⟩, fun h => absurd h (by decide), by decide +kernel, by decide +kernel⟩
set_option maxRecDepth 100000 in
theorem kX4_init : xMok mX4_init := ⟨by decide +kernel, List.mem_of_getElem? (i := 219) rfl, List.mem_of_getElem? (i := 53) (by decide +kernel), by decide +kernel, rfl, by decide, fun h => absurd h (by decide), fun h => absurd h (by decide), fun _ => ⟨rfl, List.mem_of_getElem? (i := 218) (by decide +kernel), rfl⟩, by decide +kernel, by decide +kernel⟩
set_option maxRecDepth 100000 in
theorem kX4_isThere : xMok mX4_isThere := ⟨by decide +kernel, List.mem_of_getElem? (i := 601) rfl, List.mem_of_getElem? (i := 53) (by decide +kernel), by decide +kernel, rfl, by decide, fun h => absurd h (by decide), fun _ => ⟨List.mem_of_getElem? (i := 599) (by decide +kernel), List.mem_of_getElem? (i := 600) (by decide +kernel)⟩, fun h => absurd h (by decide), by decide +kernel, by decide +kernel⟩
set_option maxRecDepth 100000 in
theorem kX4_isHalted : xMok mX4_isHalted := ⟨by decide +kernel, List.mem_of_getElem? (i := 554) rfl, List.mem_of_getElem? (i := 53) (by decide +kernel), by decide +kernel, rfl, by decide, fun h => absurd h (by decide), fun _ => ⟨List.mem_of_getElem? (i := 552) (by decide +kernel), List.mem_of_getElem? (i := 553) (by decide +kernel)⟩, fun h => absurd h (by decide), by decide +kernel, by decide +kernel⟩
set_option maxRecDepth 100000 in
theorem kX4_count : xMok mX4_count := ⟨by decide +kernel, List.mem_of_getElem? (i := 606) rfl, List.mem_of_getElem? (i := 53) (by decide +kernel), by decide +kernel, rfl, by decide, fun h => absurd h (by decide), fun _ => ⟨List.mem_of_getElem? (i := 604) (by decide +kernel), List.mem_of_getElem? (i := 605) (by decide +kernel)⟩, fun h => absurd h (by decide), by decide +kernel, by decide +kernel⟩
set_option maxRecDepth 100000 in
theorem kX4_kept : xMok mX4_kept := ⟨by decide +kernel, List.mem_of_getElem? (i := 614) rfl, List.mem_of_getElem? (i := 53) (by decide +kernel), by decide +kernel, rfl, by decide, fun h => absurd h (by decide), fun _ => ⟨List.mem_of_getElem? (i := 612) (by decide +kernel), List.mem_of_getElem? (i := 613) (by decide +kernel)⟩, fun h => absurd h (by decide), by decide +kernel, by decide +kernel⟩
set_option maxRecDepth 100000 in
theorem kX4_channelAt : xMok mX4_channelAt := ⟨by decide +kernel, List.mem_of_getElem? (i := 619) rfl, List.mem_of_getElem? (i := 53) (by decide +kernel), by decide +kernel, rfl, by decide, fun h => absurd h (by decide), fun _ => ⟨List.mem_of_getElem? (i := 617) (by decide +kernel), List.mem_of_getElem? (i := 618) (by decide +kernel)⟩, fun h => absurd h (by decide), by decide +kernel, by decide +kernel⟩
set_option maxRecDepth 100000 in
theorem kX4_intAt : xMok mX4_intAt := ⟨by decide +kernel, List.mem_of_getElem? (i := 625) rfl, List.mem_of_getElem? (i := 53) (by decide +kernel), by decide +kernel, rfl, by decide, fun h => absurd h (by decide), fun _ => ⟨List.mem_of_getElem? (i := 623) (by decide +kernel), List.mem_of_getElem? (i := 624) (by decide +kernel)⟩, fun h => absurd h (by decide), by decide +kernel, by decide +kernel⟩
set_option maxRecDepth 100000 in
theorem kX4_begin : xMok mX4_begin := ⟨by decide +kernel, List.mem_of_getElem? (i := 550) rfl, List.mem_of_getElem? (i := 53) (by decide +kernel), by decide +kernel, rfl, by decide, fun h => absurd h (by decide), fun _ => ⟨List.mem_of_getElem? (i := 548) (by decide +kernel), List.mem_of_getElem? (i := 549) (by decide +kernel)⟩, fun h => absurd h (by decide), by decide +kernel, by decide +kernel⟩
end
section
set_option maxRecDepth 100000 in
theorem kX4_halt : xMok mX4_halt := ⟨by decide +kernel, List.mem_of_getElem? (i := 593) rfl, List.mem_of_getElem? (i := 53) (by decide +kernel), by decide +kernel, rfl, by decide, fun h => absurd h (by decide), fun _ => ⟨List.mem_of_getElem? (i := 591) (by decide +kernel), List.mem_of_getElem? (i := 592) (by decide +kernel)⟩, fun h => absurd h (by decide), by decide +kernel, by decide +kernel⟩
set_option maxRecDepth 100000 in
theorem kX4_add : xMok mX4_add := ⟨by decide +kernel, List.mem_of_getElem? (i := 589) rfl, List.mem_of_getElem? (i := 53) (by decide +kernel), by decide +kernel, rfl, by decide, fun h => absurd h (by decide), fun _ => ⟨List.mem_of_getElem? (i := 587) (by decide +kernel), List.mem_of_getElem? (i := 588) (by decide +kernel)⟩, fun h => absurd h (by decide), by decide +kernel, by decide +kernel⟩
set_option maxRecDepth 100000 in
theorem kX4_nextSeen : xMok mX4_nextSeen := ⟨by decide +kernel, List.mem_of_getElem? (i := 637) rfl, List.mem_of_getElem? (i := 53) (by decide +kernel), by decide +kernel, rfl, by decide, fun h => absurd h (by decide), fun _ => ⟨List.mem_of_getElem? (i := 635) (by decide +kernel), List.mem_of_getElem? (i := 636) (by decide +kernel)⟩, fun h => absurd h (by decide), by decide +kernel, by decide +kernel⟩
set_option maxRecDepth 100000 in
theorem kX4_isAlike : xMok mX4_isAlike := ⟨by decide +kernel, List.mem_of_getElem? (i := 644) rfl, List.mem_of_getElem? (i := 53) (by decide +kernel), by decide +kernel, rfl, by decide, fun h => absurd h (by decide), fun _ => ⟨List.mem_of_getElem? (i := 642) (by decide +kernel), List.mem_of_getElem? (i := 643) (by decide +kernel)⟩, fun h => absurd h (by decide), by decide +kernel, by decide +kernel⟩
set_option maxRecDepth 100000 in
theorem kX5_init : xMok mX5_init := ⟨by decide +kernel, List.mem_of_getElem? (i := 70) rfl, List.mem_of_getElem? (i := 46) (by decide +kernel), by decide +kernel, rfl, by decide, fun h => absurd h (by decide), fun h => absurd h (by decide), fun _ => ⟨rfl, List.mem_of_getElem? (i := 69) (by decide +kernel), rfl⟩, by decide +kernel, by decide +kernel⟩
set_option maxRecDepth 100000 in
theorem kX5_size : xMok mX5_size := ⟨by decide +kernel, List.mem_of_getElem? (i := 384) rfl, List.mem_of_getElem? (i := 46) (by decide +kernel), by decide +kernel, rfl, by decide, fun h => absurd h (by decide), fun _ => ⟨List.mem_of_getElem? (i := 382) (by decide +kernel), List.mem_of_getElem? (i := 383) (by decide +kernel)⟩, fun h => absurd h (by decide), by decide +kernel, by decide +kernel⟩
set_option maxRecDepth 100000 in
theorem kX5_has : xMok mX5_has := ⟨by decide +kernel, List.mem_of_getElem? (i := 323) rfl, List.mem_of_getElem? (i := 46) (by decide +kernel), by decide +kernel, rfl, by decide, fun h => absurd h (by decide), fun _ => ⟨List.mem_of_getElem? (i := 321) (by decide +kernel), List.mem_of_getElem? (i := 322) (by decide +kernel)⟩, fun h => absurd h (by decide), by decide +kernel, by decide +kernel⟩
set_option maxRecDepth 100000 in
theorem kX5_kindAt : xMok mX5_kindAt := ⟨by decide +kernel, List.mem_of_getElem? (i := 347) rfl, List.mem_of_getElem? (i := 46) (by decide +kernel), by decide +kernel, rfl, by decide, fun h => absurd h (by decide), fun _ => ⟨List.mem_of_getElem? (i := 345) (by decide +kernel), List.mem_of_getElem? (i := 346) (by decide +kernel)⟩, fun h => absurd h (by decide), by decide +kernel, by decide +kernel⟩
set_option maxRecDepth 100000 in
theorem kX5_numberAt : xMok mX5_numberAt := ⟨by decide +kernel, List.mem_of_getElem? (i := 361) rfl, List.mem_of_getElem? (i := 46) (by decide +kernel), by decide +kernel, rfl, by decide, fun h => absurd h (by decide), fun _ => ⟨List.mem_of_getElem? (i := 359) (by decide +kernel), List.mem_of_getElem? (i := 360) (by decide +kernel)⟩, fun h => absurd h (by decide), by decide +kernel, by decide +kernel⟩
set_option maxRecDepth 100000 in
theorem kX5_add : xMok mX5_add := ⟨by decide +kernel, List.mem_of_getElem? (i := 275) rfl, List.mem_of_getElem? (i := 46) (by decide +kernel), by decide +kernel, rfl, by decide, fun h => absurd h (by decide), fun _ => ⟨List.mem_of_getElem? (i := 273) (by decide +kernel), List.mem_of_getElem? (i := 274) (by decide +kernel)⟩, fun h => absurd h (by decide), by decide +kernel, by decide +kernel⟩
set_option maxRecDepth 100000 in
theorem kX5_removeAll : xMok mX5_removeAll := ⟨by decide +kernel, List.mem_of_getElem? (i := 291) rfl, List.mem_of_getElem? (i := 46) (by decide +kernel), by decide +kernel, rfl, by decide, fun h => absurd h (by decide), fun _ => ⟨List.mem_of_getElem? (i := 289) (by decide +kernel), List.mem_of_getElem? (i := 290) (by decide +kernel)⟩, fun h => absurd h (by decide), by decide +kernel, by decide +kernel⟩
set_option maxRecDepth 100000 in
theorem kX5_plainFollower : xMok mX5_plainFollower := ⟨by decide +kernel, List.mem_of_getElem? (i := 356) rfl, List.mem_of_getElem? (i := 46) (by decide +kernel), by decide +kernel, rfl, by decide, fun h => absurd h (by decide), fun _ => ⟨List.mem_of_getElem? (i := 354) (by decide +kernel), List.mem_of_getElem? (i := 355) (by decide +kernel)⟩, fun h => absurd h (by decide), by decide +kernel, by decide +kernel⟩
set_option maxRecDepth 100000 in
theorem kX5_otherFollower : xMok mX5_otherFollower := ⟨by decide +kernel, List.mem_of_getElem? (i := 365) rfl, List.mem_of_getElem? (i := 46) (by decide +kernel), by decide +kernel, rfl, by decide, fun h => absurd h (by decide), fun _ => ⟨List.mem_of_getElem? (i := 363) (by decide +kernel), List.mem_of_getElem? (i := 364) (by decide +kernel)⟩, fun h => absurd h (by decide), by decide +kernel, by decide +kernel⟩
set_option maxRecDepth 100000 in
theorem kX5_canBe : xMok mX5_canBe := ⟨by decide +kernel, List.mem_of_getElem? (i := 278) rfl, List.mem_of_getElem? (i := 46) (by decide +kernel), by decide +kernel, rfl, by decide, fun _ => List.mem_of_getElem? (i := 277) (by decide +kernel), fun h => absurd h (by decide), fun h => absurd h (by decide), by decide +kernel, by decide +kernel⟩
set_option maxRecDepth 100000 in
theorem kX6_init : xMok mX6_init := ⟨by decide +kernel, List.mem_of_getElem? (i := 103) rfl, List.mem_of_getElem? (i := 48) (by decide +kernel), by decide +kernel, rfl, by decide, fun h => absurd h (by decide), fun h => absurd h (by decide), fun _ => ⟨rfl, List.mem_of_getElem? (i := 102) (by decide +kernel), rfl⟩, by decide +kernel, by decide +kernel⟩
set_option maxRecDepth 100000 in
theorem kX6_isWellFormed : xMok mX6_isWellFormed := ⟨by decide +kernel, List.mem_of_getElem? (i := 369) rfl, List.mem_of_getElem? (i := 48) (by decide +kernel), by decide +kernel, rfl, by decide, fun h => absurd h (by decide), fun _ => ⟨List.mem_of_getElem? (i := 367) (by decide +kernel), List.mem_of_getElem? (i := 368) (by decide +kernel)⟩, fun h => absurd h (by decide), by decide +kernel, by decide +kernel⟩
set_option maxRecDepth 100000 in
theorem kX6_isMet : xMok mX6_isMet := ⟨by decide +kernel, List.mem_of_getElem? (i := 388) rfl, List.mem_of_getElem? (i := 48) (by decide +kernel), by decide +kernel, rfl, by decide, fun h => absurd h (by decide), fun _ => ⟨List.mem_of_getElem? (i := 386) (by decide +kernel), List.mem_of_getElem? (i := 387) (by decide +kernel)⟩, fun h => absurd h (by decide), by decide +kernel, by decide +kernel⟩
set_option maxRecDepth 100000 in
theorem kX6_heightAt : xMok mX6_heightAt := ⟨by decide +kernel, List.mem_of_getElem? (i := 435) rfl, List.mem_of_getElem? (i := 48) (by decide +kernel), by decide +kernel, rfl, by decide, fun h => absurd h (by decide), fun _ => ⟨List.mem_of_getElem? (i := 433) (by decide +kernel), List.mem_of_getElem? (i := 434) (by decide +kernel)⟩, fun h => absurd h (by decide), by decide +kernel, by decide +kernel⟩
set_option maxRecDepth 100000 in
theorem kX6_find : xMok mX6_find := ⟨by decide +kernel, List.mem_of_getElem? (i := 315) rfl, List.mem_of_getElem? (i := 48) (by decide +kernel), by decide +kernel, rfl, by decide, fun h => absurd h (by decide), fun _ => ⟨List.mem_of_getElem? (i := 313) (by decide +kernel), List.mem_of_getElem? (i := 314) (by decide +kernel)⟩, fun h => absurd h (by decide), by decide +kernel, by decide +kernel⟩
set_option maxRecDepth 100000 in
theorem kX6_goOnFrom : xMok mX6_goOnFrom := ⟨by decide +kernel, List.mem_of_getElem? (i := 343) rfl, List.mem_of_getElem? (i := 48) (by decide +kernel), by decide +kernel, rfl, by decide, fun h => absurd h (by decide), fun _ => ⟨List.mem_of_getElem? (i := 342) (by decide +kernel), List.mem_of_getElem? (i := 2) (by decide +kernel)⟩, fun h => absurd h (by decide), by decide +kernel, by decide +kernel⟩
set_option maxRecDepth 100000 in
theorem kX6_comeTo : xMok mX6_comeTo := ⟨by decide +kernel, List.mem_of_getElem? (i := 319) rfl, List.mem_of_getElem? (i := 48) (by decide +kernel), by decide +kernel, rfl, by decide, fun h => absurd h (by decide), fun _ => ⟨List.mem_of_getElem? (i := 318) (by decide +kernel), List.mem_of_getElem? (i := 1) (by decide +kernel)⟩, fun h => absurd h (by decide), by decide +kernel, by decide +kernel⟩
set_option maxRecDepth 100000 in
theorem kX7_init : xMok mX7_init := ⟨by decide +kernel, List.mem_of_getElem? (i := 160) rfl, List.mem_of_getElem? (i := 50) (by decide +kernel), by decide +kernel, rfl, by decide, fun h => absurd h (by decide), fun h => absurd h (by decide), fun _ => ⟨rfl, List.mem_of_getElem? (i := 159) (by decide +kernel), rfl⟩, by decide +kernel, by decide +kernel⟩
set_option maxRecDepth 100000 in
theorem kX7_surroundingAt : xMok mX7_surroundingAt := ⟨by decide +kernel, List.mem_of_getElem? (i := 460) rfl, List.mem_of_getElem? (i := 50) (by decide +kernel), by decide +kernel, rfl, by decide, fun h => absurd h (by decide), fun _ => ⟨List.mem_of_getElem? (i := 458) (by decide +kernel), List.mem_of_getElem? (i := 459) (by decide +kernel)⟩, fun h => absurd h (by decide), by decide +kernel, by decide +kernel⟩
set_option maxRecDepth 100000 in
theorem kX7_levelOnPile : xMok mX7_levelOnPile := ⟨by decide +kernel, List.mem_of_getElem? (i := 440) rfl, List.mem_of_getElem? (i := 50) (by decide +kernel), by decide +kernel, rfl, by decide, fun h => absurd h (by decide), fun _ => ⟨List.mem_of_getElem? (i := 438) (by decide +kernel), List.mem_of_getElem? (i := 439) (by decide +kernel)⟩, fun h => absurd h (by decide), by decide +kernel, by decide +kernel⟩
set_option maxRecDepth 100000 in
theorem kX7_find : xMok mX7_find := ⟨by decide +kernel, List.mem_of_getElem? (i := 419) rfl, List.mem_of_getElem? (i := 50) (by decide +kernel), by decide +kernel, rfl, by decide, fun h => absurd h (by decide), fun _ => ⟨List.mem_of_getElem? (i := 417) (by decide +kernel), List.mem_of_getElem? (i := 418) (by decide +kernel)⟩, fun h => absurd h (by decide), by decide +kernel, by decide +kernel⟩
set_option maxRecDepth 100000 in
theorem kX7_firstUnsafe : xMok mX7_firstUnsafe := ⟨by decide +kernel, List.mem_of_getElem? (i := 484) rfl, List.mem_of_getElem? (i := 50) (by decide +kernel), by decide +kernel, rfl, by decide, fun h => absurd h (by decide), fun _ => ⟨List.mem_of_getElem? (i := 482) (by decide +kernel), List.mem_of_getElem? (i := 483) (by decide +kernel)⟩, fun h => absurd h (by decide), by decide +kernel, by decide +kernel⟩
set_option maxRecDepth 100000 in
theorem kX7_isSafe : xMok mX7_isSafe := ⟨by decide +kernel, List.mem_of_getElem? (i := 488) rfl, List.mem_of_getElem? (i := 50) (by decide +kernel), by decide +kernel, rfl, by decide, fun h => absurd h (by decide), fun _ => ⟨List.mem_of_getElem? (i := 487) (by decide +kernel), List.mem_of_getElem? (i := 13) (by decide +kernel)⟩, fun h => absurd h (by decide), by decide +kernel, by decide +kernel⟩
set_option maxRecDepth 100000 in
theorem kX7_spreadFrom : xMok mX7_spreadFrom := ⟨by decide +kernel, List.mem_of_getElem? (i := 426) rfl, List.mem_of_getElem? (i := 50) (by decide +kernel), by decide +kernel, rfl, by decide, fun h => absurd h (by decide), fun _ => ⟨List.mem_of_getElem? (i := 425) (by decide +kernel), List.mem_of_getElem? (i := 8) (by decide +kernel)⟩, fun h => absurd h (by decide), by decide +kernel, by decide +kernel⟩
set_option maxRecDepth 100000 in
theorem kX7_takenAt : xMok mX7_takenAt := ⟨by decide +kernel, List.mem_of_getElem? (i := 431) rfl, List.mem_of_getElem? (i := 50) (by decide +kernel), by decide +kernel, rfl, by decide, fun h => absurd h (by decide), fun _ => ⟨List.mem_of_getElem? (i := 430) (by decide +kernel), List.mem_of_getElem? (i := 9) (by decide +kernel)⟩, fun h => absurd h (by decide), by decide +kernel, by decide +kernel⟩
set_option maxRecDepth 100000 in
theorem kX7_readBy : xMok mX7_readBy := ⟨by decide +kernel, List.mem_of_getElem? (i := 465) rfl, List.mem_of_getElem? (i := 50) (by decide +kernel), by decide +kernel, rfl, by decide, fun h => absurd h (by decide), fun _ => ⟨List.mem_of_getElem? (i := 464) (by decide +kernel), List.mem_of_getElem? (i := 11) (by decide +kernel)⟩, fun h => absurd h (by decide), by decide +kernel, by decide +kernel⟩
set_option maxRecDepth 100000 in
theorem kX7_growPile : xMok mX7_growPile := ⟨by decide +kernel, List.mem_of_getElem? (i := 479) rfl, List.mem_of_getElem? (i := 50) (by decide +kernel), by decide +kernel, rfl, by decide, fun h => absurd h (by decide), fun _ => ⟨List.mem_of_getElem? (i := 478) (by decide +kernel), List.mem_of_getElem? (i := 12) (by decide +kernel)⟩, fun h => absurd h (by decide), by decide +kernel, by decide +kernel⟩
set_option maxRecDepth 100000 in
theorem kX7_growSurroundings : xMok mX7_growSurroundings := ⟨by decide +kernel, List.mem_of_getElem? (i := 451) rfl, List.mem_of_getElem? (i := 50) (by decide +kernel), by decide +kernel, rfl, by decide, fun h => absurd h (by decide), fun _ => ⟨List.mem_of_getElem? (i := 450) (by decide +kernel), List.mem_of_getElem? (i := 10) (by decide +kernel)⟩, fun h => absurd h (by decide), by decide +kernel, by decide +kernel⟩
set_option maxRecDepth 100000 in
theorem kX8_init : xMok mX8_init := ⟨by decide +kernel, List.mem_of_getElem? (i := 62) rfl, List.mem_of_getElem? (i := 45) (by decide +kernel), by decide +kernel, rfl, by decide, fun h => absurd h (by decide), fun h => absurd h (by decide), fun _ => ⟨rfl, List.mem_of_getElem? (i := 61) (by decide +kernel), rfl⟩, by decide +kernel, by decide +kernel⟩
set_option maxRecDepth 100000 in
theorem kX8_instruction : xMok mX8_instruction := ⟨by decide +kernel, List.mem_of_getElem? (i := 271) rfl, List.mem_of_getElem? (i := 45) (by decide +kernel), by decide +kernel, rfl, by decide, fun h => absurd h (by decide), fun _ => ⟨List.mem_of_getElem? (i := 269) (by decide +kernel), List.mem_of_getElem? (i := 270) (by decide +kernel)⟩, fun h => absurd h (by decide), by decide +kernel, by decide +kernel⟩
set_option maxRecDepth 100000 in
theorem kX8_clear : xMok mX8_clear := ⟨by decide +kernel, List.mem_of_getElem? (i := 287) rfl, List.mem_of_getElem? (i := 45) (by decide +kernel), by decide +kernel, rfl, by decide, fun h => absurd h (by decide), fun _ => ⟨List.mem_of_getElem? (i := 285) (by decide +kernel), List.mem_of_getElem? (i := 286) (by decide +kernel)⟩, fun h => absurd h (by decide), by decide +kernel, by decide +kernel⟩
end
section
set_option maxRecDepth 100000 in
theorem kX8_level : xMok mX8_level := ⟨by decide +kernel, List.mem_of_getElem? (i := 295) rfl, List.mem_of_getElem? (i := 45) (by decide +kernel), by decide +kernel, rfl, by decide, fun h => absurd h (by decide), fun _ => ⟨List.mem_of_getElem? (i := 293) (by decide +kernel), List.mem_of_getElem? (i := 294) (by decide +kernel)⟩, fun h => absurd h (by decide), by decide +kernel, by decide +kernel⟩
set_option maxRecDepth 100000 in
theorem kX8_check : xMok mX8_check := ⟨by decide +kernel, List.mem_of_getElem? (i := 307) rfl, List.mem_of_getElem? (i := 45) (by decide +kernel), by decide +kernel, rfl, by decide, fun h => absurd h (by decide), fun _ => ⟨List.mem_of_getElem? (i := 305) (by decide +kernel), List.mem_of_getElem? (i := 306) (by decide +kernel)⟩, fun h => absurd h (by decide), by decide +kernel, by decide +kernel⟩
set_option maxRecDepth 100000 in
theorem kX8_surrounding : xMok mX8_surrounding := ⟨by decide +kernel, List.mem_of_getElem? (i := 496) rfl, List.mem_of_getElem? (i := 45) (by decide +kernel), by decide +kernel, rfl, by decide, fun h => absurd h (by decide), fun _ => ⟨List.mem_of_getElem? (i := 494) (by decide +kernel), List.mem_of_getElem? (i := 495) (by decide +kernel)⟩, fun h => absurd h (by decide), by decide +kernel, by decide +kernel⟩
set_option maxRecDepth 100000 in
theorem kX8_pile : xMok mX8_pile := ⟨by decide +kernel, List.mem_of_getElem? (i := 502) rfl, List.mem_of_getElem? (i := 45) (by decide +kernel), by decide +kernel, rfl, by decide, fun h => absurd h (by decide), fun _ => ⟨List.mem_of_getElem? (i := 500) (by decide +kernel), List.mem_of_getElem? (i := 501) (by decide +kernel)⟩, fun h => absurd h (by decide), by decide +kernel, by decide +kernel⟩
set_option maxRecDepth 100000 in
theorem kX8_junction : xMok mX8_junction := ⟨by decide +kernel, List.mem_of_getElem? (i := 509) rfl, List.mem_of_getElem? (i := 45) (by decide +kernel), by decide +kernel, rfl, by decide, fun h => absurd h (by decide), fun _ => ⟨List.mem_of_getElem? (i := 507) (by decide +kernel), List.mem_of_getElem? (i := 508) (by decide +kernel)⟩, fun h => absurd h (by decide), by decide +kernel, by decide +kernel⟩
set_option maxRecDepth 100000 in
theorem kX8_let : xMok mX8_let := ⟨by decide +kernel, List.mem_of_getElem? (i := 517) rfl, List.mem_of_getElem? (i := 45) (by decide +kernel), by decide +kernel, rfl, by decide, fun h => absurd h (by decide), fun _ => ⟨List.mem_of_getElem? (i := 515) (by decide +kernel), List.mem_of_getElem? (i := 516) (by decide +kernel)⟩, fun h => absurd h (by decide), by decide +kernel, by decide +kernel⟩
set_option maxRecDepth 100000 in
theorem kX8_lay : xMok mX8_lay := ⟨by decide +kernel, List.mem_of_getElem? (i := 529) rfl, List.mem_of_getElem? (i := 45) (by decide +kernel), by decide +kernel, rfl, by decide, fun h => absurd h (by decide), fun _ => ⟨List.mem_of_getElem? (i := 527) (by decide +kernel), List.mem_of_getElem? (i := 528) (by decide +kernel)⟩, fun h => absurd h (by decide), by decide +kernel, by decide +kernel⟩
set_option maxRecDepth 100000 in
theorem kX8_run : xMok mX8_run := ⟨by decide +kernel, List.mem_of_getElem? (i := 539) rfl, List.mem_of_getElem? (i := 45) (by decide +kernel), by decide +kernel, rfl, by decide, fun h => absurd h (by decide), fun _ => ⟨List.mem_of_getElem? (i := 537) (by decide +kernel), List.mem_of_getElem? (i := 538) (by decide +kernel)⟩, fun h => absurd h (by decide), by decide +kernel, by decide +kernel⟩
set_option maxRecDepth 100000 in
theorem kX8_ran : xMok mX8_ran := ⟨by decide +kernel, List.mem_of_getElem? (i := 597) rfl, List.mem_of_getElem? (i := 45) (by decide +kernel), by decide +kernel, rfl, by decide, fun h => absurd h (by decide), fun _ => ⟨List.mem_of_getElem? (i := 595) (by decide +kernel), List.mem_of_getElem? (i := 596) (by decide +kernel)⟩, fun h => absurd h (by decide), by decide +kernel, by decide +kernel⟩
set_option maxRecDepth 100000 in
theorem kX8_out : xMok mX8_out := ⟨by decide +kernel, List.mem_of_getElem? (i := 610) rfl, List.mem_of_getElem? (i := 45) (by decide +kernel), by decide +kernel, rfl, by decide, fun h => absurd h (by decide), fun _ => ⟨List.mem_of_getElem? (i := 608) (by decide +kernel), List.mem_of_getElem? (i := 609) (by decide +kernel)⟩, fun h => absurd h (by decide), by decide +kernel, by decide +kernel⟩
set_option maxRecDepth 100000 in
theorem kX8_same : xMok mX8_same := ⟨by decide +kernel, List.mem_of_getElem? (i := 629) rfl, List.mem_of_getElem? (i := 45) (by decide +kernel), by decide +kernel, rfl, by decide, fun h => absurd h (by decide), fun _ => ⟨List.mem_of_getElem? (i := 627) (by decide +kernel), List.mem_of_getElem? (i := 628) (by decide +kernel)⟩, fun h => absurd h (by decide), by decide +kernel, by decide +kernel⟩
set_option maxRecDepth 100000 in
theorem kX8_memory : xMok mX8_memory := ⟨by decide +kernel, List.mem_of_getElem? (i := 649) rfl, List.mem_of_getElem? (i := 45) (by decide +kernel), by decide +kernel, rfl, by decide, fun h => absurd h (by decide), fun _ => ⟨List.mem_of_getElem? (i := 647) (by decide +kernel), List.mem_of_getElem? (i := 648) (by decide +kernel)⟩, fun h => absurd h (by decide), by decide +kernel, by decide +kernel⟩
set_option maxRecDepth 100000 in
theorem kX8_isWellFormed : xMok mX8_isWellFormed := ⟨by decide +kernel, List.mem_of_getElem? (i := 311) rfl, List.mem_of_getElem? (i := 45) (by decide +kernel), by decide +kernel, rfl, by decide, fun h => absurd h (by decide), fun _ => ⟨List.mem_of_getElem? (i := 310) (by decide +kernel), List.mem_of_getElem? (i := 0) (by decide +kernel)⟩, fun h => absurd h (by decide), by decide +kernel, by decide +kernel⟩
set_option maxRecDepth 100000 in
theorem kX8_typesNow : xMok mX8_typesNow := ⟨by decide +kernel, List.mem_of_getElem? (i := 415) rfl, List.mem_of_getElem? (i := 45) (by decide +kernel), by decide +kernel, rfl, by decide, fun h => absurd h (by decide), fun _ => ⟨List.mem_of_getElem? (i := 414) (by decide +kernel), List.mem_of_getElem? (i := 7) (by decide +kernel)⟩, fun h => absurd h (by decide), by decide +kernel, by decide +kernel⟩
set_option maxRecDepth 100000 in
theorem kX8_rowsAgree : xMok mX8_rowsAgree := ⟨by decide +kernel, List.mem_of_getElem? (i := 633) rfl, List.mem_of_getElem? (i := 45) (by decide +kernel), by decide +kernel, rfl, by decide, fun h => absurd h (by decide), fun _ => ⟨List.mem_of_getElem? (i := 632) (by decide +kernel), List.mem_of_getElem? (i := 19) (by decide +kernel)⟩, fun h => absurd h (by decide), by decide +kernel, by decide +kernel⟩
set_option maxRecDepth 100000 in
theorem kX8_isMemory : xMok mX8_isMemory := ⟨by decide +kernel, List.mem_of_getElem? (i := 520) rfl, List.mem_of_getElem? (i := 45) (by decide +kernel), by decide +kernel, rfl, by decide, fun _ => List.mem_of_getElem? (i := 519) (by decide +kernel), fun h => absurd h (by decide), fun h => absurd h (by decide), by decide +kernel, by decide +kernel⟩
set_option maxRecDepth 100000 in
theorem kX8_isBetween : xMok mX8_isBetween := ⟨by decide +kernel, List.mem_of_getElem? (i := 281) rfl, List.mem_of_getElem? (i := 45) (by decide +kernel), by decide +kernel, rfl, by decide, fun _ => List.mem_of_getElem? (i := 280) (by decide +kernel), fun h => absurd h (by decide), fun h => absurd h (by decide), by decide +kernel, by decide +kernel⟩
set_option maxRecDepth 100000 in
theorem kX8_isBelow : xMok mX8_isBelow := ⟨by decide +kernel, List.mem_of_getElem? (i := 454) rfl, List.mem_of_getElem? (i := 45) (by decide +kernel), by decide +kernel, rfl, by decide, fun _ => List.mem_of_getElem? (i := 453) (by decide +kernel), fun h => absurd h (by decide), fun h => absurd h (by decide), by decide +kernel, by decide +kernel⟩
set_option maxRecDepth 100000 in
theorem kX8_bit : xMok mX8_bit := ⟨by decide +kernel, List.mem_of_getElem? (i := 329) rfl, List.mem_of_getElem? (i := 45) (by decide +kernel), by decide +kernel, rfl, by decide, fun _ => List.mem_of_getElem? (i := 328) (by decide +kernel), fun h => absurd h (by decide), fun h => absurd h (by decide), by decide +kernel, by decide +kernel⟩
set_option maxRecDepth 100000 in
theorem kX8_holds : xMok mX8_holds := ⟨by decide +kernel, List.mem_of_getElem? (i := 326) rfl, List.mem_of_getElem? (i := 45) (by decide +kernel), by decide +kernel, rfl, by decide, fun _ => List.mem_of_getElem? (i := 325) (by decide +kernel), fun h => absurd h (by decide), fun h => absurd h (by decide), by decide +kernel, by decide +kernel⟩
set_option maxRecDepth 100000 in
theorem kX8_lowest : xMok mX8_lowest := ⟨by decide +kernel, List.mem_of_getElem? (i := 332) rfl, List.mem_of_getElem? (i := 45) (by decide +kernel), by decide +kernel, rfl, by decide, fun _ => List.mem_of_getElem? (i := 331) (by decide +kernel), fun h => absurd h (by decide), fun h => absurd h (by decide), by decide +kernel, by decide +kernel⟩
set_option maxRecDepth 100000 in
theorem kX9_init : xMok mX9_init := ⟨by decide +kernel, List.mem_of_getElem? (i := 655) rfl, List.mem_of_getElem? (i := 54) (by decide +kernel), by decide +kernel, rfl, by decide, fun h => absurd h (by decide), fun h => absurd h (by decide), fun _ => ⟨rfl, List.mem_of_getElem? (i := 654) (by decide +kernel), rfl⟩, by decide +kernel, by decide +kernel⟩
set_option maxRecDepth 100000 in
theorem kX9_in : xMok mX9_in := ⟨by decide +kernel, List.mem_of_getElem? (i := 731) rfl, List.mem_of_getElem? (i := 54) (by decide +kernel), by decide +kernel, rfl, by decide, fun _ => List.mem_of_getElem? (i := 730) (by decide +kernel), fun h => absurd h (by decide), fun h => absurd h (by decide), by decide +kernel, by decide +kernel⟩
set_option maxRecDepth 100000 in
theorem kX9_canHave : xMok mX9_canHave := ⟨by decide +kernel, List.mem_of_getElem? (i := 728) rfl, List.mem_of_getElem? (i := 54) (by decide +kernel), by decide +kernel, rfl, by decide, fun _ => List.mem_of_getElem? (i := 727) (by decide +kernel), fun h => absurd h (by decide), fun h => absurd h (by decide), by decide +kernel, by decide +kernel⟩
set_option maxRecDepth 100000 in
theorem kX9_instruction : xMok mX9_instruction := ⟨by decide +kernel, List.mem_of_getElem? (i := 725) rfl, List.mem_of_getElem? (i := 54) (by decide +kernel), by decide +kernel, rfl, by decide, fun h => absurd h (by decide), fun _ => ⟨List.mem_of_getElem? (i := 723) (by decide +kernel), List.mem_of_getElem? (i := 724) (by decide +kernel)⟩, fun h => absurd h (by decide), by decide +kernel, by decide +kernel⟩
set_option maxRecDepth 100000 in
theorem kX9_clear : xMok mX9_clear := ⟨by decide +kernel, List.mem_of_getElem? (i := 735) rfl, List.mem_of_getElem? (i := 54) (by decide +kernel), by decide +kernel, rfl, by decide, fun h => absurd h (by decide), fun _ => ⟨List.mem_of_getElem? (i := 733) (by decide +kernel), List.mem_of_getElem? (i := 734) (by decide +kernel)⟩, fun h => absurd h (by decide), by decide +kernel, by decide +kernel⟩
set_option maxRecDepth 100000 in
theorem kX9_level : xMok mX9_level := ⟨by decide +kernel, List.mem_of_getElem? (i := 739) rfl, List.mem_of_getElem? (i := 54) (by decide +kernel), by decide +kernel, rfl, by decide, fun h => absurd h (by decide), fun _ => ⟨List.mem_of_getElem? (i := 737) (by decide +kernel), List.mem_of_getElem? (i := 738) (by decide +kernel)⟩, fun h => absurd h (by decide), by decide +kernel, by decide +kernel⟩
set_option maxRecDepth 100000 in
theorem kX9_takes : xMok mX9_takes := ⟨by decide +kernel, List.mem_of_getElem? (i := 759) rfl, List.mem_of_getElem? (i := 54) (by decide +kernel), by decide +kernel, rfl, by decide, fun h => absurd h (by decide), fun _ => ⟨List.mem_of_getElem? (i := 758) (by decide +kernel), List.mem_of_getElem? (i := 23) (by decide +kernel)⟩, fun h => absurd h (by decide), by decide +kernel, by decide +kernel⟩
set_option maxRecDepth 100000 in
theorem kX9_gives : xMok mX9_gives := ⟨by decide +kernel, List.mem_of_getElem? (i := 763) rfl, List.mem_of_getElem? (i := 54) (by decide +kernel), by decide +kernel, rfl, by decide, fun h => absurd h (by decide), fun _ => ⟨List.mem_of_getElem? (i := 762) (by decide +kernel), List.mem_of_getElem? (i := 24) (by decide +kernel)⟩, fun h => absurd h (by decide), by decide +kernel, by decide +kernel⟩
set_option maxRecDepth 100000 in
theorem kX9_next : xMok mX9_next := ⟨by decide +kernel, List.mem_of_getElem? (i := 767) rfl, List.mem_of_getElem? (i := 54) (by decide +kernel), by decide +kernel, rfl, by decide, fun h => absurd h (by decide), fun _ => ⟨List.mem_of_getElem? (i := 766) (by decide +kernel), List.mem_of_getElem? (i := 25) (by decide +kernel)⟩, fun h => absurd h (by decide), by decide +kernel, by decide +kernel⟩
set_option maxRecDepth 100000 in
theorem kX9_other : xMok mX9_other := ⟨by decide +kernel, List.mem_of_getElem? (i := 771) rfl, List.mem_of_getElem? (i := 54) (by decide +kernel), by decide +kernel, rfl, by decide, fun h => absurd h (by decide), fun _ => ⟨List.mem_of_getElem? (i := 770) (by decide +kernel), List.mem_of_getElem? (i := 26) (by decide +kernel)⟩, fun h => absurd h (by decide), by decide +kernel, by decide +kernel⟩
set_option maxRecDepth 100000 in
theorem kX9_walk : xMok mX9_walk := ⟨by decide +kernel, List.mem_of_getElem? (i := 755) rfl, List.mem_of_getElem? (i := 54) (by decide +kernel), by decide +kernel, rfl, by decide, fun h => absurd h (by decide), fun _ => ⟨List.mem_of_getElem? (i := 754) (by decide +kernel), List.mem_of_getElem? (i := 22) (by decide +kernel)⟩, fun h => absurd h (by decide), by decide +kernel, by decide +kernel⟩
set_option maxRecDepth 100000 in
theorem kX9_unmark : xMok mX9_unmark := ⟨by decide +kernel, List.mem_of_getElem? (i := 787) rfl, List.mem_of_getElem? (i := 54) (by decide +kernel), by decide +kernel, rfl, by decide, fun h => absurd h (by decide), fun _ => ⟨List.mem_of_getElem? (i := 786) (by decide +kernel), List.mem_of_getElem? (i := 30) (by decide +kernel)⟩, fun h => absurd h (by decide), by decide +kernel, by decide +kernel⟩
set_option maxRecDepth 100000 in
theorem kX9_unwall : xMok mX9_unwall := ⟨by decide +kernel, List.mem_of_getElem? (i := 783) rfl, List.mem_of_getElem? (i := 54) (by decide +kernel), by decide +kernel, rfl, by decide, fun h => absurd h (by decide), fun _ => ⟨List.mem_of_getElem? (i := 782) (by decide +kernel), List.mem_of_getElem? (i := 29) (by decide +kernel)⟩, fun h => absurd h (by decide), by decide +kernel, by decide +kernel⟩
set_option maxRecDepth 100000 in
theorem kX9_spread : xMok mX9_spread := ⟨by decide +kernel, List.mem_of_getElem? (i := 791) rfl, List.mem_of_getElem? (i := 54) (by decide +kernel), by decide +kernel, rfl, by decide, fun h => absurd h (by decide), fun _ => ⟨List.mem_of_getElem? (i := 790) (by decide +kernel), List.mem_of_getElem? (i := 31) (by decide +kernel)⟩, fun h => absurd h (by decide), by decide +kernel, by decide +kernel⟩
end
section
set_option maxRecDepth 100000 in
theorem kX9_leads : xMok mX9_leads := ⟨by decide +kernel, List.mem_of_getElem? (i := 779) rfl, List.mem_of_getElem? (i := 54) (by decide +kernel), by decide +kernel, rfl, by decide, fun h => absurd h (by decide), fun _ => ⟨List.mem_of_getElem? (i := 778) (by decide +kernel), List.mem_of_getElem? (i := 28) (by decide +kernel)⟩, fun h => absurd h (by decide), by decide +kernel, by decide +kernel⟩
set_option maxRecDepth 100000 in
theorem kX9_follow : xMok mX9_follow := ⟨by decide +kernel, List.mem_of_getElem? (i := 795) rfl, List.mem_of_getElem? (i := 54) (by decide +kernel), by decide +kernel, rfl, by decide, fun h => absurd h (by decide), fun _ => ⟨List.mem_of_getElem? (i := 794) (by decide +kernel), List.mem_of_getElem? (i := 32) (by decide +kernel)⟩, fun h => absurd h (by decide), by decide +kernel, by decide +kernel⟩
set_option maxRecDepth 100000 in
theorem kX9_junctionOf : xMok mX9_junctionOf := ⟨by decide +kernel, List.mem_of_getElem? (i := 775) rfl, List.mem_of_getElem? (i := 54) (by decide +kernel), by decide +kernel, rfl, by decide, fun h => absurd h (by decide), fun _ => ⟨List.mem_of_getElem? (i := 774) (by decide +kernel), List.mem_of_getElem? (i := 27) (by decide +kernel)⟩, fun h => absurd h (by decide), by decide +kernel, by decide +kernel⟩
set_option maxRecDepth 100000 in
theorem kX9_look : xMok mX9_look := ⟨by decide +kernel, List.mem_of_getElem? (i := 751) rfl, List.mem_of_getElem? (i := 54) (by decide +kernel), by decide +kernel, rfl, by decide, fun h => absurd h (by decide), fun _ => ⟨List.mem_of_getElem? (i := 750) (by decide +kernel), List.mem_of_getElem? (i := 21) (by decide +kernel)⟩, fun h => absurd h (by decide), by decide +kernel, by decide +kernel⟩
set_option maxRecDepth 100000 in
theorem kX9_pileOf : xMok mX9_pileOf := ⟨by decide +kernel, List.mem_of_getElem? (i := 807) rfl, List.mem_of_getElem? (i := 54) (by decide +kernel), by decide +kernel, rfl, by decide, fun h => absurd h (by decide), fun _ => ⟨List.mem_of_getElem? (i := 806) (by decide +kernel), List.mem_of_getElem? (i := 35) (by decide +kernel)⟩, fun h => absurd h (by decide), by decide +kernel, by decide +kernel⟩
set_option maxRecDepth 100000 in
theorem kX9_grows : xMok mX9_grows := ⟨by decide +kernel, List.mem_of_getElem? (i := 811) rfl, List.mem_of_getElem? (i := 54) (by decide +kernel), by decide +kernel, rfl, by decide, fun h => absurd h (by decide), fun _ => ⟨List.mem_of_getElem? (i := 810) (by decide +kernel), List.mem_of_getElem? (i := 36) (by decide +kernel)⟩, fun h => absurd h (by decide), by decide +kernel, by decide +kernel⟩
set_option maxRecDepth 100000 in
theorem kX9_taken : xMok mX9_taken := ⟨by decide +kernel, List.mem_of_getElem? (i := 803) rfl, List.mem_of_getElem? (i := 54) (by decide +kernel), by decide +kernel, rfl, by decide, fun h => absurd h (by decide), fun _ => ⟨List.mem_of_getElem? (i := 802) (by decide +kernel), List.mem_of_getElem? (i := 34) (by decide +kernel)⟩, fun h => absurd h (by decide), by decide +kernel, by decide +kernel⟩
set_option maxRecDepth 100000 in
theorem kX9_put : xMok mX9_put := ⟨by decide +kernel, List.mem_of_getElem? (i := 815) rfl, List.mem_of_getElem? (i := 54) (by decide +kernel), by decide +kernel, rfl, by decide, fun h => absurd h (by decide), fun _ => ⟨List.mem_of_getElem? (i := 814) (by decide +kernel), List.mem_of_getElem? (i := 37) (by decide +kernel)⟩, fun h => absurd h (by decide), by decide +kernel, by decide +kernel⟩
set_option maxRecDepth 100000 in
theorem kX9_flow : xMok mX9_flow := ⟨by decide +kernel, List.mem_of_getElem? (i := 799) rfl, List.mem_of_getElem? (i := 54) (by decide +kernel), by decide +kernel, rfl, by decide, fun h => absurd h (by decide), fun _ => ⟨List.mem_of_getElem? (i := 798) (by decide +kernel), List.mem_of_getElem? (i := 33) (by decide +kernel)⟩, fun h => absurd h (by decide), by decide +kernel, by decide +kernel⟩
set_option maxRecDepth 100000 in
theorem kX9_type : xMok mX9_type := ⟨by decide +kernel, List.mem_of_getElem? (i := 747) rfl, List.mem_of_getElem? (i := 54) (by decide +kernel), by decide +kernel, rfl, by decide, fun h => absurd h (by decide), fun _ => ⟨List.mem_of_getElem? (i := 746) (by decide +kernel), List.mem_of_getElem? (i := 20) (by decide +kernel)⟩, fun h => absurd h (by decide), by decide +kernel, by decide +kernel⟩
set_option maxRecDepth 100000 in
theorem kX9_isMet : xMok mX9_isMet := ⟨by decide +kernel, List.mem_of_getElem? (i := 827) rfl, List.mem_of_getElem? (i := 54) (by decide +kernel), by decide +kernel, rfl, by decide, fun h => absurd h (by decide), fun _ => ⟨List.mem_of_getElem? (i := 826) (by decide +kernel), List.mem_of_getElem? (i := 39) (by decide +kernel)⟩, fun h => absurd h (by decide), by decide +kernel, by decide +kernel⟩
set_option maxRecDepth 100000 in
theorem kX9_isSafe : xMok mX9_isSafe := ⟨by decide +kernel, List.mem_of_getElem? (i := 819) rfl, List.mem_of_getElem? (i := 54) (by decide +kernel), by decide +kernel, rfl, by decide, fun h => absurd h (by decide), fun _ => ⟨List.mem_of_getElem? (i := 818) (by decide +kernel), List.mem_of_getElem? (i := 38) (by decide +kernel)⟩, fun h => absurd h (by decide), by decide +kernel, by decide +kernel⟩
set_option maxRecDepth 100000 in
theorem kX9_check : xMok mX9_check := ⟨by decide +kernel, List.mem_of_getElem? (i := 743) rfl, List.mem_of_getElem? (i := 54) (by decide +kernel), by decide +kernel, rfl, by decide, fun h => absurd h (by decide), fun _ => ⟨List.mem_of_getElem? (i := 741) (by decide +kernel), List.mem_of_getElem? (i := 742) (by decide +kernel)⟩, fun h => absurd h (by decide), by decide +kernel, by decide +kernel⟩
set_option maxRecDepth 100000 in
theorem kX9_surrounding : xMok mX9_surrounding := ⟨by decide +kernel, List.mem_of_getElem? (i := 823) rfl, List.mem_of_getElem? (i := 54) (by decide +kernel), by decide +kernel, rfl, by decide, fun h => absurd h (by decide), fun _ => ⟨List.mem_of_getElem? (i := 821) (by decide +kernel), List.mem_of_getElem? (i := 822) (by decide +kernel)⟩, fun h => absurd h (by decide), by decide +kernel, by decide +kernel⟩
set_option maxRecDepth 100000 in
theorem kX9_pile : xMok mX9_pile := ⟨by decide +kernel, List.mem_of_getElem? (i := 831) rfl, List.mem_of_getElem? (i := 54) (by decide +kernel), by decide +kernel, rfl, by decide, fun h => absurd h (by decide), fun _ => ⟨List.mem_of_getElem? (i := 829) (by decide +kernel), List.mem_of_getElem? (i := 830) (by decide +kernel)⟩, fun h => absurd h (by decide), by decide +kernel, by decide +kernel⟩
set_option maxRecDepth 100000 in
theorem kX9_junction : xMok mX9_junction := ⟨by decide +kernel, List.mem_of_getElem? (i := 835) rfl, List.mem_of_getElem? (i := 54) (by decide +kernel), by decide +kernel, rfl, by decide, fun h => absurd h (by decide), fun _ => ⟨List.mem_of_getElem? (i := 833) (by decide +kernel), List.mem_of_getElem? (i := 834) (by decide +kernel)⟩, fun h => absurd h (by decide), by decide +kernel, by decide +kernel⟩
set_option maxRecDepth 100000 in
theorem kX9_let : xMok mX9_let := ⟨by decide +kernel, List.mem_of_getElem? (i := 839) rfl, List.mem_of_getElem? (i := 54) (by decide +kernel), by decide +kernel, rfl, by decide, fun h => absurd h (by decide), fun _ => ⟨List.mem_of_getElem? (i := 837) (by decide +kernel), List.mem_of_getElem? (i := 838) (by decide +kernel)⟩, fun h => absurd h (by decide), by decide +kernel, by decide +kernel⟩
set_option maxRecDepth 100000 in
theorem kX9_lay : xMok mX9_lay := ⟨by decide +kernel, List.mem_of_getElem? (i := 843) rfl, List.mem_of_getElem? (i := 54) (by decide +kernel), by decide +kernel, rfl, by decide, fun h => absurd h (by decide), fun _ => ⟨List.mem_of_getElem? (i := 841) (by decide +kernel), List.mem_of_getElem? (i := 842) (by decide +kernel)⟩, fun h => absurd h (by decide), by decide +kernel, by decide +kernel⟩
set_option maxRecDepth 100000 in
theorem kX9_done : xMok mX9_done := ⟨by decide +kernel, List.mem_of_getElem? (i := 854) rfl, List.mem_of_getElem? (i := 54) (by decide +kernel), by decide +kernel, rfl, by decide, fun _ => List.mem_of_getElem? (i := 853) (by decide +kernel), fun h => absurd h (by decide), fun h => absurd h (by decide), by decide +kernel, by decide +kernel⟩
set_option maxRecDepth 100000 in
theorem kX9_comes : xMok mX9_comes := ⟨by decide +kernel, List.mem_of_getElem? (i := 861) rfl, List.mem_of_getElem? (i := 54) (by decide +kernel), by decide +kernel, rfl, by decide, fun h => absurd h (by decide), fun _ => ⟨List.mem_of_getElem? (i := 860) (by decide +kernel), List.mem_of_getElem? (i := 41) (by decide +kernel)⟩, fun h => absurd h (by decide), by decide +kernel, by decide +kernel⟩
set_option maxRecDepth 100000 in
theorem kX9_cell : xMok mX9_cell := ⟨by decide +kernel, List.mem_of_getElem? (i := 857) rfl, List.mem_of_getElem? (i := 54) (by decide +kernel), by decide +kernel, rfl, by decide, fun _ => List.mem_of_getElem? (i := 856) (by decide +kernel), fun h => absurd h (by decide), fun h => absurd h (by decide), by decide +kernel, by decide +kernel⟩
set_option maxRecDepth 100000 in
theorem kX9_work : xMok mX9_work := ⟨by decide +kernel, List.mem_of_getElem? (i := 851) rfl, List.mem_of_getElem? (i := 54) (by decide +kernel), by decide +kernel, rfl, by decide, fun h => absurd h (by decide), fun _ => ⟨List.mem_of_getElem? (i := 850) (by decide +kernel), List.mem_of_getElem? (i := 40) (by decide +kernel)⟩, fun h => absurd h (by decide), by decide +kernel, by decide +kernel⟩
set_option maxRecDepth 100000 in
theorem kX9_run : xMok mX9_run := ⟨by decide +kernel, List.mem_of_getElem? (i := 847) rfl, List.mem_of_getElem? (i := 54) (by decide +kernel), by decide +kernel, rfl, by decide, fun h => absurd h (by decide), fun _ => ⟨List.mem_of_getElem? (i := 845) (by decide +kernel), List.mem_of_getElem? (i := 846) (by decide +kernel)⟩, fun h => absurd h (by decide), by decide +kernel, by decide +kernel⟩
set_option maxRecDepth 100000 in
theorem kX9_ran : xMok mX9_ran := ⟨by decide +kernel, List.mem_of_getElem? (i := 865) rfl, List.mem_of_getElem? (i := 54) (by decide +kernel), by decide +kernel, rfl, by decide, fun h => absurd h (by decide), fun _ => ⟨List.mem_of_getElem? (i := 863) (by decide +kernel), List.mem_of_getElem? (i := 864) (by decide +kernel)⟩, fun h => absurd h (by decide), by decide +kernel, by decide +kernel⟩
set_option maxRecDepth 100000 in
theorem kX9_out : xMok mX9_out := ⟨by decide +kernel, List.mem_of_getElem? (i := 869) rfl, List.mem_of_getElem? (i := 54) (by decide +kernel), by decide +kernel, rfl, by decide, fun h => absurd h (by decide), fun _ => ⟨List.mem_of_getElem? (i := 867) (by decide +kernel), List.mem_of_getElem? (i := 868) (by decide +kernel)⟩, fun h => absurd h (by decide), by decide +kernel, by decide +kernel⟩
set_option maxRecDepth 100000 in
theorem kX9_isLow : xMok mX9_isLow := ⟨by decide +kernel, List.mem_of_getElem? (i := 881) rfl, List.mem_of_getElem? (i := 54) (by decide +kernel), by decide +kernel, rfl, by decide, fun h => absurd h (by decide), fun _ => ⟨List.mem_of_getElem? (i := 880) (by decide +kernel), List.mem_of_getElem? (i := 43) (by decide +kernel)⟩, fun h => absurd h (by decide), by decide +kernel, by decide +kernel⟩
set_option maxRecDepth 100000 in
theorem kX9_low : xMok mX9_low := ⟨by decide +kernel, List.mem_of_getElem? (i := 877) rfl, List.mem_of_getElem? (i := 54) (by decide +kernel), by decide +kernel, rfl, by decide, fun h => absurd h (by decide), fun _ => ⟨List.mem_of_getElem? (i := 876) (by decide +kernel), List.mem_of_getElem? (i := 42) (by decide +kernel)⟩, fun h => absurd h (by decide), by decide +kernel, by decide +kernel⟩
set_option maxRecDepth 100000 in
theorem kX9_same : xMok mX9_same := ⟨by decide +kernel, List.mem_of_getElem? (i := 873) rfl, List.mem_of_getElem? (i := 54) (by decide +kernel), by decide +kernel, rfl, by decide, fun h => absurd h (by decide), fun _ => ⟨List.mem_of_getElem? (i := 871) (by decide +kernel), List.mem_of_getElem? (i := 872) (by decide +kernel)⟩, fun h => absurd h (by decide), by decide +kernel, by decide +kernel⟩
set_option maxRecDepth 100000 in
theorem kX9_memory : xMok mX9_memory := ⟨by decide +kernel, List.mem_of_getElem? (i := 885) rfl, List.mem_of_getElem? (i := 54) (by decide +kernel), by decide +kernel, rfl, by decide, fun h => absurd h (by decide), fun _ => ⟨List.mem_of_getElem? (i := 883) (by decide +kernel), List.mem_of_getElem? (i := 884) (by decide +kernel)⟩, fun h => absurd h (by decide), by decide +kernel, by decide +kernel⟩
set_option maxRecDepth 100000 in
theorem kJ13_bitCount_95d88 : xMok mJ13_bitCount_95d88 := ⟨by decide +kernel, List.mem_of_getElem? (i := 335) rfl, List.mem_of_getElem? (i := 55) (by decide +kernel), by decide +kernel, rfl, by decide, fun _ => List.mem_of_getElem? (i := 334) (by decide +kernel), fun h => absurd h (by decide), fun h => absurd h (by decide), by decide +kernel, by decide +kernel⟩
set_option maxRecDepth 100000 in
theorem kJ9_floorMod_7cf53 : xMok mJ9_floorMod_7cf53 := ⟨by decide +kernel, List.mem_of_getElem? (i := 535) rfl, List.mem_of_getElem? (i := 57) (by decide +kernel), by decide +kernel, rfl, by decide, fun _ => List.mem_of_getElem? (i := 534) (by decide +kernel), fun h => absurd h (by decide), fun h => absurd h (by decide), by decide +kernel, by decide +kernel⟩
set_option maxRecDepth 100000 in
theorem kJ9_min_7cf53 : xMok mJ9_min_7cf53 := ⟨by decide +kernel, List.mem_of_getElem? (i := 542) rfl, List.mem_of_getElem? (i := 57) (by decide +kernel), by decide +kernel, rfl, by decide, fun _ => List.mem_of_getElem? (i := 541) (by decide +kernel), fun h => absurd h (by decide), fun h => absurd h (by decide), by decide +kernel, by decide +kernel⟩
set_option maxRecDepth 100000 in
theorem kJ7_fill_d0a16 : xMok mJ7_fill_d0a16 := ⟨by decide +kernel, List.mem_of_getElem? (i := 380) rfl, List.mem_of_getElem? (i := 56) (by decide +kernel), by decide +kernel, rfl, by decide, fun _ => List.mem_of_getElem? (i := 379) (by decide +kernel), fun h => absurd h (by decide), fun h => absurd h (by decide), by decide +kernel, by decide +kernel⟩
end
section
theorem xtab_ok : ∀ y ∈ xtab, xMok y := List.forall_mem_cons.mpr ⟨kX0_init, List.forall_mem_cons.mpr ⟨kX0_at, List.forall_mem_cons.mpr ⟨kX0_regionOf, List.forall_mem_cons.mpr ⟨kX0_find, List.forall_mem_cons.mpr ⟨kX0_findEdges, List.forall_mem_cons.mpr ⟨kX0_addEdge, List.forall_mem_cons.mpr ⟨kX0_findPassing, List.forall_mem_cons.mpr ⟨kX0_nearestFor, List.forall_mem_cons.mpr ⟨kX0_reach, List.forall_mem_cons.mpr ⟨kX1_init, List.forall_mem_cons.mpr ⟨kX1_set, List.forall_mem_cons.mpr ⟨kX1_ofVariable, List.forall_mem_cons.mpr ⟨kX1_ofArray, List.forall_mem_cons.mpr ⟨kX1_ofChannel, List.forall_mem_cons.mpr ⟨kX1_setIn, List.forall_mem_cons.mpr ⟨kX2_init, List.forall_mem_cons.mpr ⟨kX2_work, List.forall_mem_cons.mpr ⟨kX2_doAt, List.forall_mem_cons.mpr ⟨kX2_layInto, List.forall_mem_cons.mpr ⟨kX2_doWithTwo, List.forall_mem_cons.mpr ⟨kX2_resultOf, List.forall_mem_cons.mpr ⟨kX2_put, List.forall_mem_cons.mpr ⟨kX2_take, List.forall_mem_cons.mpr ⟨kX3_init, List.forall_mem_cons.mpr ⟨kX3_cellOf, List.forall_mem_cons.mpr ⟨kX3_get, List.forall_mem_cons.mpr ⟨kX3_set, List.forall_mem_cons.mpr ⟨kX4_init, List.forall_mem_cons.mpr ⟨kX4_isThere, List.forall_mem_cons.mpr ⟨kX4_isHalted, List.forall_mem_cons.mpr ⟨kX4_count, List.forall_mem_cons.mpr ⟨kX4_kept, List.forall_mem_cons.mpr ⟨kX4_channelAt, List.forall_mem_cons.mpr ⟨kX4_intAt, List.forall_mem_cons.mpr ⟨kX4_begin, List.forall_mem_cons.mpr ⟨kX4_halt, List.forall_mem_cons.mpr ⟨kX4_add, List.forall_mem_cons.mpr ⟨kX4_nextSeen, List.forall_mem_cons.mpr ⟨kX4_isAlike, List.forall_mem_cons.mpr ⟨kX5_init, List.forall_mem_cons.mpr ⟨kX5_size, List.forall_mem_cons.mpr ⟨kX5_has, List.forall_mem_cons.mpr ⟨kX5_kindAt, List.forall_mem_cons.mpr ⟨kX5_numberAt, List.forall_mem_cons.mpr ⟨kX5_add, List.forall_mem_cons.mpr ⟨kX5_removeAll, List.forall_mem_cons.mpr ⟨kX5_plainFollower, List.forall_mem_cons.mpr ⟨kX5_otherFollower, List.forall_mem_cons.mpr ⟨kX5_canBe, List.forall_mem_cons.mpr ⟨kX6_init, List.forall_mem_cons.mpr ⟨kX6_isWellFormed, List.forall_mem_cons.mpr ⟨kX6_isMet, List.forall_mem_cons.mpr ⟨kX6_heightAt, List.forall_mem_cons.mpr ⟨kX6_find, List.forall_mem_cons.mpr ⟨kX6_goOnFrom, List.forall_mem_cons.mpr ⟨kX6_comeTo, List.forall_mem_cons.mpr ⟨kX7_init, List.forall_mem_cons.mpr ⟨kX7_surroundingAt, List.forall_mem_cons.mpr ⟨kX7_levelOnPile, List.forall_mem_cons.mpr ⟨kX7_find, List.forall_mem_cons.mpr ⟨kX7_firstUnsafe, List.forall_mem_cons.mpr ⟨kX7_isSafe, List.forall_mem_cons.mpr ⟨kX7_spreadFrom, List.forall_mem_cons.mpr ⟨kX7_takenAt, List.forall_mem_cons.mpr ⟨kX7_readBy, List.forall_mem_cons.mpr ⟨kX7_growPile, List.forall_mem_cons.mpr ⟨kX7_growSurroundings, List.forall_mem_cons.mpr ⟨kX8_init, List.forall_mem_cons.mpr ⟨kX8_instruction, List.forall_mem_cons.mpr ⟨kX8_clear, List.forall_mem_cons.mpr ⟨kX8_level, List.forall_mem_cons.mpr ⟨kX8_check, List.forall_mem_cons.mpr ⟨kX8_surrounding, List.forall_mem_cons.mpr ⟨kX8_pile, List.forall_mem_cons.mpr ⟨kX8_junction, List.forall_mem_cons.mpr ⟨kX8_let, List.forall_mem_cons.mpr ⟨kX8_lay, List.forall_mem_cons.mpr ⟨kX8_run, List.forall_mem_cons.mpr ⟨kX8_ran, List.forall_mem_cons.mpr ⟨kX8_out, List.forall_mem_cons.mpr ⟨kX8_same, List.forall_mem_cons.mpr ⟨kX8_memory, List.forall_mem_cons.mpr ⟨kX8_isWellFormed, List.forall_mem_cons.mpr ⟨kX8_typesNow, List.forall_mem_cons.mpr ⟨kX8_rowsAgree, List.forall_mem_cons.mpr ⟨kX8_isMemory, List.forall_mem_cons.mpr ⟨kX8_isBetween, List.forall_mem_cons.mpr ⟨kX8_isBelow, List.forall_mem_cons.mpr ⟨kX8_bit, List.forall_mem_cons.mpr ⟨kX8_holds, List.forall_mem_cons.mpr ⟨kX8_lowest, List.forall_mem_cons.mpr ⟨kX9_init, List.forall_mem_cons.mpr ⟨kX9_in, List.forall_mem_cons.mpr ⟨kX9_canHave, List.forall_mem_cons.mpr ⟨kX9_instruction, List.forall_mem_cons.mpr ⟨kX9_clear, List.forall_mem_cons.mpr ⟨kX9_level, List.forall_mem_cons.mpr ⟨kX9_takes, List.forall_mem_cons.mpr ⟨kX9_gives, List.forall_mem_cons.mpr ⟨kX9_next, List.forall_mem_cons.mpr ⟨kX9_other, List.forall_mem_cons.mpr ⟨kX9_walk, List.forall_mem_cons.mpr ⟨kX9_unmark, List.forall_mem_cons.mpr ⟨kX9_unwall, List.forall_mem_cons.mpr ⟨kX9_spread, List.forall_mem_cons.mpr ⟨kX9_leads, List.forall_mem_cons.mpr ⟨kX9_follow, List.forall_mem_cons.mpr ⟨kX9_junctionOf, List.forall_mem_cons.mpr ⟨kX9_look, List.forall_mem_cons.mpr ⟨kX9_pileOf, List.forall_mem_cons.mpr ⟨kX9_grows, List.forall_mem_cons.mpr ⟨kX9_taken, List.forall_mem_cons.mpr ⟨kX9_put, List.forall_mem_cons.mpr ⟨kX9_flow, List.forall_mem_cons.mpr ⟨kX9_type, List.forall_mem_cons.mpr ⟨kX9_isMet, List.forall_mem_cons.mpr ⟨kX9_isSafe, List.forall_mem_cons.mpr ⟨kX9_check, List.forall_mem_cons.mpr ⟨kX9_surrounding, List.forall_mem_cons.mpr ⟨kX9_pile, List.forall_mem_cons.mpr ⟨kX9_junction, List.forall_mem_cons.mpr ⟨kX9_let, List.forall_mem_cons.mpr ⟨kX9_lay, List.forall_mem_cons.mpr ⟨kX9_done, List.forall_mem_cons.mpr ⟨kX9_comes, List.forall_mem_cons.mpr ⟨kX9_cell, List.forall_mem_cons.mpr ⟨kX9_work, List.forall_mem_cons.mpr ⟨kX9_run, List.forall_mem_cons.mpr ⟨kX9_ran, List.forall_mem_cons.mpr ⟨kX9_out, List.forall_mem_cons.mpr ⟨kX9_isLow, List.forall_mem_cons.mpr ⟨kX9_low, List.forall_mem_cons.mpr ⟨kX9_same, List.forall_mem_cons.mpr ⟨kX9_memory, List.forall_mem_cons.mpr ⟨kJ13_bitCount_95d88, List.forall_mem_cons.mpr ⟨kJ9_floorMod_7cf53, List.forall_mem_cons.mpr ⟨kJ9_min_7cf53, List.forall_mem_cons.mpr ⟨kJ7_fill_d0a16, fun _ h => absurd h List.not_mem_nil⟩⟩⟩⟩⟩⟩⟩⟩⟩⟩⟩⟩⟩⟩⟩⟩⟩⟩⟩⟩⟩⟩⟩⟩⟩⟩⟩⟩⟩⟩⟩⟩⟩⟩⟩⟩⟩⟩⟩⟩⟩⟩⟩⟩⟩⟩⟩⟩⟩⟩⟩⟩⟩⟩⟩⟩⟩⟩⟩⟩⟩⟩⟩⟩⟩⟩⟩⟩⟩⟩⟩⟩⟩⟩⟩⟩⟩⟩⟩⟩⟩⟩⟩⟩⟩⟩⟩⟩⟩⟩⟩⟩⟩⟩⟩⟩⟩⟩⟩⟩⟩⟩⟩⟩⟩⟩⟩⟩⟩⟩⟩⟩⟩⟩⟩⟩⟩⟩⟩⟩⟩⟩⟩⟩⟩⟩⟩⟩⟩⟩⟩⟩⟩⟩⟩⟩⟩⟩
set_option maxRecDepth 100000 in
theorem kL_dec : xdec cL_law mL_law.2.2.2.2.2.2.2 = true := by decide +kernel
set_option maxRecDepth 100000 in
theorem kL_ok : xokc 13 4 mL_law.2.2.2.2.2.2.2 = true := by decide +kernel
end
section
/-! SOUNDNESS: what the pure machine does, the JVM does. -/
def xr (B : Nat) (fx : Nat → Nat) (a : Nat) : Nat := if a < 1000 then B + a else fx (a - 1000)
def xv (r : Nat → Nat) : Value → Value
  | .ref a => .ref (r a)
  | v => v
def xvl (r : Nat → Nat) (l : xL) : List (Nat × Value) := l.map (fun q => (q.1, xv r q.2))
def xE (r : Nat → Nat) (dA : Nat → ClassId) (M : xM) (a : Nat) (q : Nat × Nat) : va_E :=
  if q.1 = 20 then .inl (dA 0, q.2, .inl (M.2.2.1 a))
  else if q.1 = 21 then .inl (dA 1, q.2, .inr (.inl (M.2.2.2 a)))
  else if q.1 = 22 then .inl (dA 2, q.2, .inl (M.2.2.1 a))
  else if q.1 = 23 then .inl (dA 3, q.2, .inr (.inr (.inr (.inr (fun i => (M.2.1 a i).map r)))))
  else if q.1 = 24 then .inl (dA 4, q.2, .inr (.inr (.inr (.inr (fun i => (M.2.1 a i).map r)))))
  else .inr (q.1, (List.range (xN q.1)).map (fun k => xv r (xfv (xty q.1 k) M a k)))
/-- what is fixed: where the new cells begin, the arrays that nobody writes (place, length, contents), the classes -/
abbrev xG : Type := Nat × (Nat → Nat) × (Nat → Nat) × (Nat → Nat → Int32) × va_G × (Nat → ClassId)
def xGr (G : xG) : Nat → Nat := xr G.1 G.2.1
def xHp (G : xG) (M : xM) (H : Heap) : Prop := H.size = G.1 + M.1.length ∧ M.1.length ≤ 1000 ∧
  (∀ (a : Nat) (q : Nat × Nat), M.1[a]? = some q → va_at G.2.2.2.2.1 xcl (G.1 + a, xE (xGr G) G.2.2.2.2.2 M a q) H) ∧
  (∀ k, k < 4 → M.2.1 1000 k = some (G.2.2.1 k) ∧ ∀ i, M.2.2.1 (1000 + k) i = G.2.2.2.1 k i)
def xnest : Jvm.Cond → Bool
  | .methodLinkNest .. => true
  | .fieldLinkNest .. => true
  | _ => false
def xtys (G : xG) : List (ClassId × FieldType) := [(G.2.2.2.2.2 0, .int), (G.2.2.2.2.2 1, .long), (G.2.2.2.2.2 2, .boolean), (G.2.2.2.2.2 3, .object (xnm (xcomp 23))), (G.2.2.2.2.2 4, .object (xnm (xcomp 24)))]
def xKs (G : xG) (U : State) : Prop := va_K G.2.2.2.2.1 xcl (xtys G) U ∧ (∀ w ∈ lw_tbl, xnest w = true → va_Nw w U) ∧ (va_AO (xnm (xcomp 23)) U ∧ va_AO (xnm (xcomp 24)) U) ∧
  (∀ k, k < 4 → va_T .int (G.2.1 k) (G.2.2.1 k) (fun i => .int (G.2.2.2.1 k i)) (fun q => G.1 ≤ q) U U.heap) ∧ (∀ k, 1 ≤ k → k < 4 → va_Z "SecretLoom" (xsn k) "[I" (.ref (G.2.1 k)) (fun q => G.1 ≤ q) U U.heap)
theorem xKs.moved {G : xG} {s U : State} (h : xKs G s) (hW : s.WarmedH U.vm) (hH : ∀ q : Nat, q < G.1 → U.heap[q]? = s.heap[q]?) : xKs G U := by
  obtain ⟨h1, h2, h3, h4, h5⟩ := h
  have hk : ∀ a : Nat, a < s.heap.size → ¬ (G.1 ≤ a) → U.heap[a]? = s.heap[a]? := fun a _ g => hH a (Nat.not_le.mp g)
  refine ⟨h1.moved hW.alike, fun w hw hn => ?_, ⟨h3.1.moved hW.alike, h3.2.moved hW.alike⟩, fun k hk4 => ((h4 k hk4).kept hk).moved hW.alike, fun k k1 k4 => ((h5 k k1 k4).kept hk).moved hW.alike⟩
  have g := h2 w hw hn
  cases w <;> first | exact va_Nw.warmM hW g | exact va_Nw.warmF hW g | (simp [xnest] at hn)
/-- the words that every method takes along -/
def gws : List Jvm.Cond := lw_tbl.filter goodWord
theorem gws_in {w : Jvm.Cond} (h : w ∈ lw_tbl) (g : goodWord w = true) : w ∈ gws := List.mem_filter.mpr ⟨h, g⟩
theorem gws_good (y : Jvm.Cond) (hy : y ∈ gws) : GoodIn gws (y :: gws) := by
  have h : ∀ w ∈ gws, w ∈ gws ∧ ((w.onTables && w.keeps) = true ∨ ∃ ty, w = .arrayClass ty) := fun w hw => ⟨hw, good_of_word (List.mem_filter.mp hw).2⟩
  intro w hw
  rcases List.mem_cons.mp hw with rfl | hw
  · exact h _ hy
  · exact h w hw
theorem xv_cat (r : Nat → Nat) (v : Value) : (xv r v).category = v.category := by cases v <;> rfl
theorem xwide_cat (v : Value) : xwide v = decide (v.category = 2) := by cases v <;> rfl
theorem xget_mem {l : xL} {i : Nat} {v : Value} (h : xget l i = some v) : (i, v) ∈ l := by
  induction l with
  | nil => cases h
  | cons q t ih =>
    obtain ⟨j, w⟩ := q
    simp only [xget] at h
    cases hb : Nat.beq j i with
    | true => rw [hb] at h; cases h; have := Nat.eq_of_beq_eq_true hb; subst this; exact List.mem_cons_self
    | false => rw [hb] at h; exact List.mem_cons_of_mem _ (ih h)
theorem xput_mem {l : xL} {i : Nat} {v : Value} {q : Nat × Value} (h : q ∈ xput l i v) : q = (i, v) ∨ q ∈ l := by
  induction l with
  | nil => simp only [xput, List.mem_singleton] at h; exact Or.inl h
  | cons p t ih =>
    obtain ⟨j, w⟩ := p
    simp only [xput] at h
    cases hb : Nat.blt i j with
    | true =>
      rw [hb] at h
      rcases List.mem_cons.mp h with e | e
      · exact Or.inl e
      · exact Or.inr e
    | false =>
      rw [hb] at h
      rcases List.mem_cons.mp h with e | e
      · exact Or.inr (e ▸ List.mem_cons_self)
      · rcases ih e with e | e
        · exact Or.inl e
        · exact Or.inr (List.mem_cons_of_mem _ e)
theorem xdel1_mem {l : xL} {i : Nat} {q : Nat × Value} (h : q ∈ xdel1 l i) : q ∈ l ∧ (!(q.1 == i) && !(q.1 + 1 == i && q.2.category == 2)) = true := by
  induction l with
  | nil => cases h
  | cons p t ih =>
    obtain ⟨j, w⟩ := p
    simp only [xdel1] at h
    cases hb : (Nat.beq j i || (Nat.beq (j + 1) i && xwide w)) with
    | true => rw [hb] at h; exact ⟨List.mem_cons_of_mem _ (ih h).1, (ih h).2⟩
    | false =>
      rw [hb] at h
      rcases List.mem_cons.mp h with e | e
      · subst e
        refine ⟨List.mem_cons_self, ?_⟩
        simp only [Bool.or_eq_false_iff, Bool.and_eq_false_iff] at hb
        have h1 : ¬ j = i := fun e => by rw [e] at hb; simp at hb
        rw [xwide_cat] at hb
        simp only [Bool.and_eq_true, Bool.not_eq_true', beq_eq_false_iff_ne, ne_eq, Bool.and_eq_false_iff]
        refine ⟨h1, ?_⟩
        rcases hb.2 with z | z
        · exact Or.inl (fun e => by rw [e] at z; simp at z)
        · exact Or.inr (by simpa using z)
      · exact ⟨List.mem_cons_of_mem _ (ih e).1, (ih e).2⟩
theorem xdel2_mem {l : xL} {i : Nat} {q : Nat × Value} (h : q ∈ xdel2 l i) : q ∈ l ∧ (!(q.1 == i) && (!(q.1 == i + 1) && !(q.1 + 1 == i && q.2.category == 2))) = true := by
  induction l with
  | nil => cases h
  | cons p t ih =>
    obtain ⟨j, w⟩ := p
    simp only [xdel2] at h
    cases hb : (Nat.beq j i || (Nat.beq j (i + 1) || (Nat.beq (j + 1) i && xwide w))) with
    | true => rw [hb] at h; exact ⟨List.mem_cons_of_mem _ (ih h).1, (ih h).2⟩
    | false =>
      rw [hb] at h
      rcases List.mem_cons.mp h with e | e
      · subst e
        refine ⟨List.mem_cons_self, ?_⟩
        simp only [Bool.or_eq_false_iff, Bool.and_eq_false_iff] at hb
        have h1 : ¬ j = i := fun e => by rw [e] at hb; simp at hb
        have h2 : ¬ j = i + 1 := fun e => by rw [e] at hb; simp at hb
        rw [xwide_cat] at hb
        simp only [Bool.and_eq_true, Bool.not_eq_true', beq_eq_false_iff_ne, ne_eq, Bool.and_eq_false_iff]
        refine ⟨h1, h2, ?_⟩
        rcases hb.2.2 with z | z
        · exact Or.inl (fun e => by rw [e] at z; simp at z)
        · exact Or.inr (by simpa using z)
      · exact ⟨List.mem_cons_of_mem _ (ih e).1, (ih e).2⟩
theorem lv_less {ls : Array Slot} {nL : Nat} {l l' : List (Nat × Value)} (h : lv_has ls nL l) (hs : ∀ q ∈ l', q ∈ l) : lv_has ls nL l' := ⟨h.1, h.2.1, fun q hq => h.2.2 q (hs q hq)⟩
theorem xset1_has {r : Nat → Nat} {ls : Array Slot} {nL : Nat} {l : xL} {i : Nat} {v : Value} (h : lv_has ls nL ((i, xv r v) :: (xvl r l).filter (fun q => !(q.1 == i) && !(q.1 + 1 == i && q.2.category == 2)))) : lv_has ls nL (xvl r (xset1 l i v)) := by
  refine lv_less h fun q hq => ?_
  obtain ⟨q0, h0, rfl⟩ := List.mem_map.mp hq
  rcases xput_mem h0 with rfl | h1
  · exact List.mem_cons_self
  · obtain ⟨h2, h3⟩ := xdel1_mem h1
    refine List.mem_cons_of_mem _ (List.mem_filter.mpr ⟨List.mem_map.mpr ⟨q0, h2, rfl⟩, ?_⟩)
    simpa only [xv_cat] using h3
theorem xset2_has {r : Nat → Nat} {ls : Array Slot} {nL : Nat} {l : xL} {i : Nat} {v : Value} (h : lv_has ls nL ((i, xv r v) :: (xvl r l).filter (fun q => !(q.1 == i) && (!(q.1 == i + 1) && !(q.1 + 1 == i && q.2.category == 2))))) : lv_has ls nL (xvl r (xset2 l i v)) := by
  refine lv_less h fun q hq => ?_
  obtain ⟨q0, h0, rfl⟩ := List.mem_map.mp hq
  rcases xput_mem h0 with rfl | h1
  · exact List.mem_cons_self
  · obtain ⟨h2, h3⟩ := xdel2_mem h1
    refine List.mem_cons_of_mem _ (List.mem_filter.mpr ⟨List.mem_map.mpr ⟨q0, h2, rfl⟩, ?_⟩)
    simpa only [xv_cat] using h3
theorem xvl_get {r : Nat → Nat} {ls : Array Slot} {nL : Nat} {l : xL} {i : Nat} {v : Value} (h : lv_has ls nL (xvl r l)) (hg : xget l i = some v) : ls[i]? = some (.val (xv r v)) := h.2.2 (i, xv r v) (List.mem_map.mpr ⟨(i, v), xget_mem hg, rfl⟩)
theorem xargs_eq (i : Nat) (vs : List Value) : xargs i vs = lv_args i vs := by
  induction vs generalizing i with
  | nil => rfl
  | cons v t ih =>
    simp only [xargs, lv_args, ih, xwide_cat]
    by_cases h : v.category = 2 <;> simp [h]
theorem xargs_map (r : Nat → Nat) (i : Nat) (vs : List Value) : xvl r (xargs i vs) = lv_args i (vs.map (xv r)) := by
  rw [xargs_eq]
  induction vs generalizing i with
  | nil => rfl
  | cons v t ih =>
    simp only [lv_args, List.map_cons, xv_cat]
    exact congrArg _ (ih _)
theorem xwords_eq (r : Nat → Nat) (vs : List Value) : (lg_sl (vs.map (xv r))).length = xwords vs := by
  induction vs with
  | nil => rfl
  | cons v t ih =>
    simp only [lg_sl, List.map_cons, List.flatMap_cons, List.length_append, xwords, xwide_cat, xv_cat] at ih ⊢
    by_cases h : v.category = 2 <;> simp [h, ih]
theorem xroom_sum {n : Nat} {vs : List Value} (r : Nat → Nat) (h : xroom n vs = true) : ((vs.map (xv r)).map fun v => v.category).sum ≤ n := by
  induction vs generalizing n with
  | nil => exact Nat.zero_le _
  | cons v t ih =>
    cases n with
    | zero => simp [xroom] at h
    | succ n =>
      unfold xroom at h
      simp only [List.map_cons, List.sum_cons, xv_cat]
      cases hw : xwide v with
      | true =>
        rw [hw] at h
        have hc : v.category = 2 := by simpa [xwide_cat] using hw
        cases n with
        | zero => simp at h
        | succ n => have := ih (n := n) (by simpa using h); omega
      | false =>
        rw [hw] at h
        have hc : v.category = 1 := by
          rcases lv_cat v with z | z
          · exact z
          · rw [xwide_cat, z] at hw; simp at hw
        have := ih (n := n) (by simpa using h)
        omega
theorem xin_in {i : Int32} {n : Nat} (h : xin i n = true) : ¬ (i < 0 ∨ n ≤ i.toNatClampNeg) := by
  simp only [xin, Bool.not_eq_true', Bool.or_eq_false_iff, decide_eq_false_iff_not] at h
  rintro (g | g)
  · exact h.1 g
  · have := Nat.ble_eq_true_of_le g; rw [this] at h; exact absurd h.2 (by decide)
theorem xpop_eq {n : Nat} {acc st as rest : List Value} (h : xpop n acc st = some (as, rest)) : ∃ t : List Value, t.length = n ∧ as = t.reverse ++ acc ∧ st = t ++ rest := by
  induction n generalizing acc st with
  | zero => cases h; exact ⟨[], rfl, rfl, rfl⟩
  | succ n ih =>
    cases st with
    | nil => cases h
    | cons v st =>
      obtain ⟨t, h1, h2, h3⟩ := ih h
      exact ⟨v :: t, by simp [h1], by simp [h2], by simp [h3]⟩
end
section
/-! class facts by number -/
theorem xcl_at : ∀ c, c < 10 → xcl[c]? = some (xnm c, xT c, xN c) := by
  intro c h
  rcases (show c = 0 ∨ c = 1 ∨ c = 2 ∨ c = 3 ∨ c = 4 ∨ c = 5 ∨ c = 6 ∨ c = 7 ∨ c = 8 ∨ c = 9 by omega) with rfl | rfl | rfl | rfl | rfl | rfl | rfl | rfl | rfl | rfl <;> rfl
theorem xcl_lt {c : Nat} {q : vw_C} (h : xcl[c]? = some q) : c < 10 := (List.getElem?_eq_some_iff.mp h).1
set_option maxRecDepth 100000 in
theorem xws_tbl : ∀ c, c < 10 → ∀ w ∈ u_ws (xnm c) (xT c) (xN c), w ∈ lw_tbl := by
  intro c h
  rcases (show c = 0 ∨ c = 1 ∨ c = 2 ∨ c = 3 ∨ c = 4 ∨ c = 5 ∨ c = 6 ∨ c = 7 ∨ c = 8 ∨ c = 9 by omega) with rfl | rfl | rfl | rfl | rfl | rfl | rfl | rfl | rfl | rfl <;> decide +kernel
theorem xws_in {c : Nat} (h : c < 10) : ∀ w ∈ u_ws (xnm c) (xT c) (xN c), w ∈ gws := by
  intro w hw
  refine gws_in (xws_tbl c h w hw) ?_
  obtain ⟨k, -, rfl⟩ := List.mem_map.mp hw
  unfold u_lay
  split <;> rfl
theorem xty_ok : ∀ c, c < 10 → ∀ k, k < xN c → parseFieldDescriptor (xT c k).2.2.1 = some (xty c k) := by
  intro c h
  rcases (show c = 0 ∨ c = 1 ∨ c = 2 ∨ c = 3 ∨ c = 4 ∨ c = 5 ∨ c = 6 ∨ c = 7 ∨ c = 8 ∨ c = 9 by omega) with rfl | rfl | rfl | rfl | rfl | rfl | rfl | rfl | rfl | rfl
  · exact tyX0_ok
  · exact tyX1_ok
  · exact tyX2_ok
  · exact tyX3_ok
  · exact tyX4_ok
  · exact tyX5_ok
  · exact tyX6_ok
  · exact tyX7_ok
  · exact tyX8_ok
  · exact tyX9_ok
theorem xnm_ok : ∀ c, c < 10 → ∀ a, a < xN c → ∀ b, b < xN c → a ≠ b → (xT c a).2.1 ≠ (xT c b).2.1 := by
  intro c h
  rcases (show c = 0 ∨ c = 1 ∨ c = 2 ∨ c = 3 ∨ c = 4 ∨ c = 5 ∨ c = 6 ∨ c = 7 ∨ c = 8 ∨ c = 9 by omega) with rfl | rfl | rfl | rfl | rfl | rfl | rfl | rfl | rfl | rfl
  · exact nmX0
  · exact nmX1
  · exact nmX2
  · exact nmX3
  · exact nmX4
  · exact nmX5
  · exact nmX6
  · exact nmX7
  · exact nmX8
  · exact nmX9
theorem xdecl : ∀ c, c < 10 → ∀ k, k < xN c → (xT c k).1 = xnm c := by decide +kernel
/-! the heap and the memory -/
theorem xE_row {r : Nat → Nat} {dA : Nat → ClassId} {M M' : xM} {x : Nat} {q : Nat × Nat} (h1 : M'.2.1 x = M.2.1 x) (h2 : M'.2.2.1 x = M.2.2.1 x) (h3 : M'.2.2.2 x = M.2.2.2 x) : xE r dA M' x q = xE r dA M x q := by
  obtain ⟨lay, mr, mi, ml⟩ := M
  obtain ⟨lay', mr', mi', ml'⟩ := M'
  dsimp only at h1 h2 h3
  have hf : ∀ ty k, xfv ty (lay', mr', mi', ml') x k = xfv ty (lay, mr, mi, ml) x k := by
    intro ty k
    cases ty <;> simp only [xfv, h1, h2, h3]
  simp only [xE, hf, h1, h2, h3]
theorem xHp.set {G : xG} {M M' : xM} {H H' : Heap} {a : Nat} {q : Nat × Nat} (h : xHp G M H) (hq : M.1[a]? = some q) (h1 : M'.1 = M.1) (hr : ∀ x, x ≠ a → M'.2.1 x = M.2.1 x ∧ M'.2.2.1 x = M.2.2.1 x ∧ M'.2.2.2 x = M.2.2.2 x) (hs : H'.size = H.size) (ho : ∀ x, x ≠ G.1 + a → H'[x]? = H[x]?) (ha : va_at G.2.2.2.2.1 xcl (G.1 + a, xE (xGr G) G.2.2.2.2.2 M' a q) H') : xHp G M' H' := by
  obtain ⟨g1, g2, g3, g4⟩ := h
  have hlt : a < M.1.length := (List.getElem?_eq_some_iff.mp hq).1
  refine ⟨by rw [hs, g1, h1], by rw [h1]; exact g2, fun b q' hb => ?_, fun k hk => ?_⟩
  · rw [h1] at hb
    by_cases e : b = a
    · subst e
      rw [hq] at hb
      cases hb
      exact ha
    · obtain ⟨e1, e2, e3⟩ := hr b e
      rw [xE_row e1 e2 e3]
      exact (g3 b q' hb).kept (ho _ (fun z => e (Nat.add_left_cancel z)))
  · rw [(hr 1000 (by omega)).1, (hr (1000 + k) (by omega)).2.1]
    exact g4 k hk
theorem xHp.new {G : xG} {M : xM} {H H' : Heap} {kind n : Nat} (h : xHp G M H) (hn : M.1.length + 1 ≤ 1000) (hs : H'.size = H.size + 1) (ho : ∀ x, x < H.size → H'[x]? = H[x]?) (ha : va_at G.2.2.2.2.1 xcl (G.1 + M.1.length, xE (xGr G) G.2.2.2.2.2 (xnew M kind n) M.1.length (kind, n)) H') : xHp G (xnew M kind n) H' := by
  obtain ⟨lay, mr, mi, ml⟩ := M
  obtain ⟨g1, g2, g3, g4⟩ := h
  dsimp only at g1 g2 g3 g4 hn ha
  have hrow : ∀ {α : Type} (f : Nat → Nat → α) (v : Nat → α) (x : Nat), x ≠ lay.length → va_up f lay.length v x = f x := fun f v x hx => va_up_ne f v hx
  refine ⟨?_, ?_, fun b q hb => ?_, fun k hk => ?_⟩
  · simp only [xnew, List.length_append, List.length_singleton]; omega
  · simp only [xnew, List.length_append, List.length_singleton]; omega
  · by_cases e : b < lay.length
    · have hb' : lay[b]? = some q := by
        simp only [xnew] at hb
        rwa [List.getElem?_append_left e] at hb
      have hne : b ≠ lay.length := by omega
      rw [xE_row (M := (lay, mr, mi, ml)) (hrow mr _ b hne) (hrow mi _ b hne) (hrow ml _ b hne)]
      have hv := g3 b q hb'
      exact hv.kept (ho _ hv.lt)
    · simp only [xnew] at hb
      have hl := (List.getElem?_eq_some_iff.mp hb).1
      simp only [List.length_append, List.length_singleton] at hl
      have hbe : b = lay.length := by omega
      subst hbe
      rw [List.getElem?_append_right (Nat.le_refl _), Nat.sub_self] at hb
      cases hb
      exact ha
  · simp only [xnew]
    rw [hrow mr _ 1000 (by omega), hrow mi _ (1000 + k) (by omega)]
    exact g4 k hk
theorem va_one {D : va_G} {cl : List vw_C} {q : Nat × va_E} {H : Heap} (h : va_at D cl q H) : va_P D cl [q] H := by
  intro k x hx
  have hz : k < 1 := (List.getElem?_eq_some_iff.mp hx).1
  rw [show k = 0 by omega] at hx
  cases hx
  exact h
theorem xlay_lt {G : xG} {M : xM} {H : Heap} {a : Nat} {q : Nat × Nat} (h : xHp G M H) (hq : M.1[a]? = some q) : a < 1000 := Nat.lt_of_lt_of_le (List.getElem?_eq_some_iff.mp hq).1 h.2.1
theorem xGr_lt {G : xG} {a : Nat} (h : a < 1000) : xGr G a = G.1 + a := by simp [xGr, xr, h]
theorem xGr_fx {G : xG} {k : Nat} : xGr G (1000 + k) = G.2.1 k := by
  have h : ¬ 1000 + k < 1000 := by omega
  simp only [xGr, xr, if_neg h, Nat.add_sub_cancel_left]
theorem xE_obj {r : Nat → Nat} {dA : Nat → ClassId} {M : xM} {a : Nat} {q : Nat × Nat} (h : q.1 < 10) : xE r dA M a q = .inr (q.1, (List.range (xN q.1)).map (fun k => xv r (xfv (xty q.1 k) M a k))) := by
  unfold xE
  rw [if_neg (by omega), if_neg (by omega), if_neg (by omega), if_neg (by omega), if_neg (by omega)]
theorem xrv_map (r : Nat → Nat) (o : Option Nat) : xv r (xrv o) = va_rf (o.map r) := by cases o <;> rfl
section XROW
variable {p : Program} {l : Launch} {e : Env} {R : Room} {s : State} {m : MethodId} {args : Array Value} {below : List Frame} {meth : Method} {c : Code} {H : Heap} {locs : List Loc} {cells slots : Nat} {Q : State → Prop}
variable {cc : ByteArray} {pc : Nat} {ls : Array Slot} {rest : List Value} {D : va_G} {cl : List vw_C} {a : Nat} {tys : List (ClassId × FieldType)}
theorem xr_put (hexec : p.tables.exec = Jvm.exec) (hb : c.code = cc) {own ref C : String} {T : u_T} {N ci index : Nat} {Ts : List Jvm.Cond} (hts : ∀ w ∈ Ts, w.before args s = true) (hin : ∀ w ∈ u_ws C T N, w ∈ Ts) (ty0 : Nat → FieldType) (hty : ∀ k, k < N → parseFieldDescriptor (T k).2.2.1 = some (ty0 k)) (hnm : ∀ a, a < N → ∀ b, b < N → a ≠ b → (T a).2.1 ≠ (T b).2.1) (hown : s.vm.findClass own = some m.cls) (hK : va_K D cl tys s) {fs : List Value} (hP : va_at D cl (a, .inr (ci, fs)) H) (hc : cl[ci]? = some (C, T, N)) (k : Nat) (hk : k < N) (hlink : (Jvm.Cond.fieldLink own index ref (T k).2.1 (T k).2.2.1).before args s = true) (hsame : ∀ x, s.fieldFound? (T k).1 (T k).2.1 (T k).2.2.1 = some x → s.fieldFound? ref (T k).2.1 (T k).2.2.1 = some x) (hfin : (T k).2.2.2 = false ∨ (meth.name = "<init>" ∧ (T k).1 = own)) {ty : FieldType} {v : Value} (hd : parseFieldDescriptor (T k).2.2.1 = some ty) (hn : narrow ty v = v) (hfit : fits ty v = true) (hl : k < fs.length)
    (hdg : decode cc pc = .ok (.putfield index, 3)) (kk : ∀ (H1 : Heap) (i : Nat), va_at D cl (a, .inr (ci, fs.set k v)) H1 → H1.size = H.size → (∀ q, q ≠ a → H1[q]? = H[q]?) → W p l e R s m args below meth c H1 (locs ++ [⟨a, i⟩]) cells slots Q (F0 m (pc + 3) ls rest)) : W p l e R s m args below meth c H locs cells slots Q (F0 m pc ls (v :: .ref a :: rest)) := by
  have hap := va_apart (own := own) hts hin ty0 hty hnm hK hc
  obtain ⟨r, h1, cell, q1, q2, q3, q4⟩ := hP
  have hr : r = (C, T, N) := Option.some.inj (h1.symm.trans hc)
  subst hr
  obtain ⟨hS, hfc, kC, hkC, hkind⟩ := hK.1 ci _ hc
  obtain ⟨cf, kf, fi, f, hi, hsl⟩ := hS k hk
  have hlay := hts _ (hin _ (u_in_lay hk))
  unfold u_lay at hlay
  have hst := (u_facts hfc hkC (u_lays hts hin hk) hi).1
  by_cases hf2 : (T k).2.2.2 = true
  · rcases hfin with hfin | ⟨hin2, hdecl⟩
    · rw [hf2] at hfin; cases hfin
    rw [if_pos hf2] at hlay
    have hcf : m.cls = cf := by
      obtain ⟨_, _, c', _, _, _, -, -, hf', -, -, -, hown2, -⟩ := Cond.laysFinal_spec hlay
      have e1 : c' = cf := by have := hi.symm.trans hf'; simp at this; exact this.1.symm
      rw [hdecl] at hown2
      rw [← e1]; exact Option.some.inj (hown.symm.trans hown2)
    have h6 := u_fits hfc hkC hkind (Or.inr hlay) hi hd hn hfit
    refine W.putFinK hexec hb hown hlink (hsame _ hi) hst hcf hin2 (by rw [q2]; exact h6) q1 q3 (by rw [hsl]; exact k2_hasslot (q4 k hk)) rfl rfl hdg fun H' e1 e2 e3 => ?_
    rw [hsl] at e1 ⊢
    exact kk H' _ ⟨_, hc, t_OB.to (V := updV (vp_V fs) k v) ⟨_, e1, q2, q3, t_set q4 hap hk v⟩ (fun j _ => vp_updV_set hl v j)⟩ e2 e3
  · rw [if_neg hf2] at hlay
    have h6 := u_store hfc hkC hkind hlay hi hd hn hfit
    refine W.putK hexec hb (f := f) ⟨hown, hlink, ⟨_, _, _, hsame _ hi⟩, hst⟩ (by rw [q2]; exact h6) q1 q3 (by rw [hsl]; exact k2_hasslot (q4 k hk)) rfl rfl hdg fun H' e1 e2 e3 => ?_
    rw [hsl] at e1 ⊢
    exact kk H' _ ⟨_, hc, t_OB.to (V := updV (vp_V fs) k v) ⟨_, e1, q2, q3, t_set q4 hap hk v⟩ (fun j _ => vp_updV_set hl v j)⟩ e2 e3
theorem xr_iast (hexec : p.tables.exec = Jvm.exec) (hb : c.code = cc) (hK : va_K D cl tys s) (t0 : Nat) {cA : ClassId} {n : Nat} {f : Nat → Int32} (hP : va_at D cl (a, .inl (cA, n, .inl f)) H) (ht : tys[t0]? = some (cA, .int)) {i : Int32} {x : Int32} (hin : vp_in i n) (hdg : decode cc pc = .ok (.iastore, 1))
    (kk : ∀ (H1 : Heap) (i' : Nat), va_at D cl (a, .inl (cA, n, .inl (upd f i.toNatClampNeg x))) H1 → H1.size = H.size → (∀ q, q ≠ a → H1[q]? = H[q]?) → W p l e R s m args below meth c H1 (locs ++ [⟨a, i'⟩]) cells slots Q (F0 m (pc + 1) ls rest)) : W p l e R s m args below meth c H locs cells slots Q (F0 m pc ls (.int x :: .int i :: .ref a :: rest)) := by
  refine W.iast hexec hb hP ((hK.2 t0 _ ht).1 n (fun j => .int (f j))) (fun q => by cases q) (by show ¬ (i < 0 ∨ (arrV _ _ _).slots.size ≤ _); rw [arrV_size]; exact hin) rfl rfl hdg fun H1 e z oq => ?_
  refine kk H1 _ ?_ z oq
  show H1[a]? = some (vp_cell _ _)
  rw [e]
  rw [vp_cell_i, vp_cell_i, arrV_store]
  congr 2
  funext q
  by_cases hq : q = i.toNatClampNeg
  · subst hq
    simp [updV, upd]
  · simp [updV, upd, hq]
theorem xr_zast (hexec : p.tables.exec = Jvm.exec) (hb : c.code = cc) (hK : va_K D cl tys s) (t0 : Nat) {cA : ClassId} {n : Nat} {f : Nat → Int32} (hP : va_at D cl (a, .inl (cA, n, .inl f)) H) (ht : tys[t0]? = some (cA, .boolean)) {i : Int32} {x : Int32} (hin : vp_in i n) (hx : narrow .boolean (.int x) = .int x) (hdg : decode cc pc = .ok (.bastore, 1))
    (kk : ∀ (H1 : Heap) (i' : Nat), va_at D cl (a, .inl (cA, n, .inl (upd f i.toNatClampNeg x))) H1 → H1.size = H.size → (∀ q, q ≠ a → H1[q]? = H[q]?) → W p l e R s m args below meth c H1 (locs ++ [⟨a, i'⟩]) cells slots Q (F0 m (pc + 1) ls rest)) : W p l e R s m args below meth c H locs cells slots Q (F0 m pc ls (.int x :: .int i :: .ref a :: rest)) := by
  refine W.zast hexec hb hP ((hK.2 t0 _ ht).1 n (fun j => .int (f j))) (fun q => by cases q) (by show ¬ (i < 0 ∨ (arrV _ _ _).slots.size ≤ _); rw [arrV_size]; exact hin) rfl rfl hdg fun H1 e z oq => ?_
  refine kk H1 _ ?_ z oq
  show H1[a]? = some (vp_cell _ _)
  rw [e, hx]
  rw [vp_cell_i, vp_cell_i, arrV_store]
  congr 2
  funext q
  by_cases hq : q = i.toNatClampNeg
  · subst hq
    simp [updV, upd]
  · simp [updV, upd, hq]
theorem xr_last (hexec : p.tables.exec = Jvm.exec) (hb : c.code = cc) (hK : va_K D cl tys s) (t0 : Nat) {cA : ClassId} {n : Nat} {f : Nat → Int64} (hP : va_at D cl (a, .inl (cA, n, .inr (.inl f))) H) (ht : tys[t0]? = some (cA, .long)) {i : Int32} {x : Int64} (hin : vp_in i n) (hdg : decode cc pc = .ok (.lastore, 1))
    (kk : ∀ (H1 : Heap) (i' : Nat), va_at D cl (a, .inl (cA, n, .inr (.inl (vp_updL f i.toNatClampNeg x)))) H1 → H1.size = H.size → (∀ q, q ≠ a → H1[q]? = H[q]?) → W p l e R s m args below meth c H1 (locs ++ [⟨a, i'⟩]) cells slots Q (F0 m (pc + 1) ls rest)) : W p l e R s m args below meth c H locs cells slots Q (F0 m pc ls (.long x :: .int i :: .ref a :: rest)) := by
  refine W.last hexec hb hP ((hK.2 t0 _ ht).1 n (fun j => .long (f j))) (fun q => by cases q) (by show ¬ (i < 0 ∨ (arrV _ _ _).slots.size ≤ _); rw [arrV_size]; exact hin) rfl rfl hdg fun H1 e z oq => ?_
  refine kk H1 _ ?_ z oq
  show H1[a]? = some (vp_cell _ _)
  rw [e]
  rw [vp_cell_l, vp_cell_l, arrV_store]
  congr 2
  funext q
  by_cases hq : q = i.toNatClampNeg
  · subst hq
    simp [updV, vp_updL]
  · simp [updV, vp_updL, hq]
theorem xr_aast (hexec : p.tables.exec = Jvm.exec) (hb : c.code = cc) (hK : va_K D cl tys s) (t0 ci : Nat) {cA : ClassId} {r : vw_C} {n v : Nat} {vs : List Value} {f : Nat → Option Nat} (hP : va_at D cl (a, .inl (cA, n, .inr (.inr (.inr (.inr f))))) H) (ht : tys[t0]? = some (cA, .object r.1)) (hv : va_at D cl (v, .inr (ci, vs)) H) (hc : cl[ci]? = some r) {i : Int32} (hin : vp_in i n) (hdg : decode cc pc = .ok (.aastore, 1))
    (kk : ∀ (H1 : Heap) (i' : Nat), va_at D cl (a, .inl (cA, n, .inr (.inr (.inr (.inr (va_up f i.toNatClampNeg (some v))))))) H1 → H1.size = H.size → (∀ q, q ≠ a → H1[q]? = H[q]?) → W p l e R s m args below meth c H1 (locs ++ [⟨a, i'⟩]) cells slots Q (F0 m (pc + 1) ls rest)) : W p l e R s m args below meth c H locs cells slots Q (F0 m pc ls (.ref v :: .int i :: .ref a :: rest)) := by
  have hlt : i.toNatClampNeg < n := Nat.not_le.mp fun q => hin (Or.inr q)
  have h0 : ¬ i < 0 := fun q => hin (Or.inl q)
  obtain ⟨r', hr', cellV, g1, g2, g3, -⟩ := hv
  have hcls := (hK.1 ci r hc).2
  obtain ⟨kA, comp, k1, k2, k3, -⟩ := (hK.2 t0 _ ht).2
  have hcomp : comp = D.1 ci := Option.some.inj (k3.symm.trans hcls.1)
  subst hcomp
  obtain ⟨kC, hkC, -⟩ := hcls.2
  refine W.aast hexec hb hP (fun q h => by cases h) (fun h => by cases h) k1 k2 rfl hkC ⟨h0, by show _ < (arrV _ _ _).slots.size; rw [arrV_size]; exact hlt⟩ g1 (fun q h => by rw [g3] at h; cases h) (by rw [g2]; exact hkC) (by rw [g2]; exact va_assign hcls) rfl rfl hdg fun H1 e z oq => ?_
  refine kk H1 _ ?_ z oq
  show H1[a]? = some (vp_cell _ _)
  rw [e]
  rw [vp_cell_q, vp_cell_q, arrV_store]
  congr 2
  funext q
  by_cases hq : q = i.toNatClampNeg
  · subst hq
    simp [updV, va_up, va_rf]
  · simp [updV, va_up, hq]
end XROW
end
section
/-! one step -/
section XSTEP
variable {p : Program} {l : Launch} {e : Env} {R : Room} {s : State} {m : MethodId} {args : Array Value} {below : List Frame} {meth : Method} {c : Code} {Qw : State → Prop} {G : xG} {n0 t0 : Nat}
/-- the JVM, at a state of the pure machine, comes to Qw -/
def xPW (p : Program) (l : Launch) (e : Env) (R : Room) (s : State) (m : MethodId) (args : Array Value) (below : List Frame) (meth : Method) (c : Code) (Qw : State → Prop) (G : xG) (n0 t0 : Nat) (pc : Nat) (ls : xL) (st : List Value) (M : xM) : Prop :=
  ∀ (H : Heap) (locs : List Loc) (LS : Array Slot) (cells slots : Nat), xHp G M H → (∀ q : Nat, q < G.1 → H[q]? = s.heap[q]?) → (∀ q ∈ locs, G.1 ≤ q.base) → lv_has LS c.maxLocals (xvl (xGr G) ls) → M.1.length = n0 + cells → xsum M = t0 + slots →
    W p l e R s m args below meth c H locs cells slots Qw (F0 m pc LS (st.map (xv (xGr G))))
/-- what a body stands on -/
def xBd (p : Program) (R : Room) (s : State) (m : MethodId) (args : Array Value) (meth : Method) (c : Code) (G : xG) (n0 t0 own mk : Nat) (lim : Nat × Nat) : Prop :=
  p.tables.exec = Jvm.exec ∧ s.vm.findClass (xnm own) = some m.cls ∧ (∀ w ∈ gws, w.before args s = true) ∧ xKs G s ∧ (mk = 2 → meth.name = "<init>") ∧ lim = (n0 + R.cells, t0 + R.slots) ∧ 1 ≤ R.frames ∧ 36 ≤ R.locals
theorem xs_xldi {pc i len : Nat} {ls : xL} {st : List Value} {M : xM} {S : xS} (h : xldi i len pc ls st M = some S) : ∃ v, xget ls i = some (.int v) ∧ S = (pc + len, ls, .int v :: st, M) := by
  unfold xldi at h
  split at h
  · rename_i v hv; cases h; exact ⟨v, hv, rfl⟩
  · cases h
theorem xs_xldl {pc i len : Nat} {ls : xL} {st : List Value} {M : xM} {S : xS} (h : xldl i len pc ls st M = some S) : ∃ v, xget ls i = some (.long v) ∧ S = (pc + len, ls, .long v :: st, M) := by
  unfold xldl at h
  split at h
  · rename_i v hv; cases h; exact ⟨v, hv, rfl⟩
  · cases h
theorem xs_xlda {pc i len : Nat} {ls : xL} {st : List Value} {M : xM} {S : xS} (h : xlda i len pc ls st M = some S) : ∃ v, xget ls i = some (.ref v) ∧ S = (pc + len, ls, .ref v :: st, M) := by
  unfold xlda at h
  split at h
  · rename_i v hv; cases h; exact ⟨v, hv, rfl⟩
  · cases h
theorem contains_mem {L : List (Nat × Nat × Nat)} {q : Nat × Nat × Nat} (h : L.contains q = true) : q ∈ L := by simpa using h
/-- loads of any kind of value -/
theorem xs_load (B0 : p.tables.exec = Jvm.exec) {pc i len : Nat} {ls : xL} {st : List Value} {M : xM} {v : Value} (hg : xget ls i = some v) (k : xPW p l e R s m args below meth c Qw G n0 t0 (pc + len) ls (v :: st) M)
    (hw : ∀ (H : Heap) (locs : List Loc) (LS : Array Slot) (cells slots : Nat), LS[i]? = some (.val (xv (xGr G) v)) → W p l e R s m args below meth c H locs cells slots Qw (F0 m (pc + len) LS (xv (xGr G) v :: st.map (xv (xGr G)))) → W p l e R s m args below meth c H locs cells slots Qw (F0 m pc LS (st.map (xv (xGr G))))) : xPW p l e R s m args below meth c Qw G n0 t0 pc ls st M :=
  fun H locs LS cells slots h1 h2 h3 h4 h5 h6 => hw H locs LS cells slots (xvl_get h4 hg) (k H locs LS cells slots h1 h2 h3 h4 h5 h6)
theorem xbr_cases {b : Bool} {pc : Nat} {ls : xL} {r : List Value} {M : xM} {op len : Nat} {S : xS} (h : xbr b pc ls r M op len = some S) : (b = true ∧ S = (op, ls, r, M)) ∨ (b = false ∧ S = (pc + len, ls, r, M)) := by
  cases b with
  | true => left; cases h; exact ⟨rfl, rfl⟩
  | false => right; cases h; exact ⟨rfl, rfl⟩
theorem xto_eq {off : Int} {pc : Nat} {ls : xL} {r : List Value} {M : xM} {S : xS} (h : xto off pc ls r M = some S) : ∃ t : Nat, (pc : Int) + off = (t : Int) ∧ S = (t, ls, r, M) := by
  unfold xto at h
  split at h
  · rename_i t ht; cases h; exact ⟨t, ht, rfl⟩
  · cases h
theorem xmk_eq {M M' : xM} {lim : Nat × Nat} {kind n : Nat} (h : xmk M lim kind n = some M') : M' = xnew M kind n ∧ M.1.length + 1 ≤ lim.1 ∧ xsum M + n ≤ lim.2 ∧ M.1.length + 1 ≤ 1000 := by
  obtain ⟨lay, mr, mi, ml⟩ := M
  obtain ⟨l1, l2⟩ := lim
  simp only [xmk] at h
  cases hb : (Nat.ble (lay.length + 1) l1 && Nat.ble (xsuml lay + n) l2 && Nat.ble (lay.length + 1) 1000) with
  | false => rw [hb] at h; cases h
  | true =>
    rw [hb] at h
    cases h
    simp only [Bool.and_eq_true] at hb
    exact ⟨rfl, Nat.le_of_ble_eq_true hb.1.1, Nat.le_of_ble_eq_true hb.1.2, Nat.le_of_ble_eq_true hb.2⟩
theorem xsuml_app (l : List (Nat × Nat)) (k n : Nat) : xsuml (l ++ [(k, n)]) = xsuml l + n := by
  induction l with
  | nil => simp [xsuml]
  | cons q t ih => obtain ⟨a, b⟩ := q; simp only [List.cons_append, xsuml, ih]; omega
theorem xnew_len (M : xM) (k n : Nat) : (xnew M k n).1.length = M.1.length + 1 ∧ xsum (xnew M k n) = xsum M + n := by
  obtain ⟨lay, mr, mi, ml⟩ := M
  exact ⟨by simp [xnew], by simp only [xsum, xnew]; exact xsuml_app _ _ _⟩
/-- a step of the JVM behind which memory and heap stand as before -/
theorem xs_go {pc pc' : Nat} {ls : xL} {st st' : List Value} {M : xM} (k : xPW p l e R s m args below meth c Qw G n0 t0 pc' ls st' M)
    (hw : ∀ (H : Heap) (locs : List Loc) (LS : Array Slot) (cells slots : Nat), xHp G M H → (∀ q : Nat, q < G.1 → H[q]? = s.heap[q]?) → lv_has LS c.maxLocals (xvl (xGr G) ls) → W p l e R s m args below meth c H locs cells slots Qw (F0 m pc' LS (st'.map (xv (xGr G)))) → W p l e R s m args below meth c H locs cells slots Qw (F0 m pc LS (st.map (xv (xGr G))))) : xPW p l e R s m args below meth c Qw G n0 t0 pc ls st M :=
  fun H locs LS cells slots h1 h2 h3 h4 h5 h6 => hw H locs LS cells slots h1 h2 h4 (k H locs LS cells slots h1 h2 h3 h4 h5 h6)
/-- a store of a local -/
theorem xs_sto1 {pc pc' i : Nat} {ls : xL} {st : List Value} {M : xM} {v : Value} (k : xPW p l e R s m args below meth c Qw G n0 t0 pc' (xset1 ls i v) st M)
    (hw : ∀ (H : Heap) (locs : List Loc) (LS : Array Slot) (cells slots : Nat), lv_has LS c.maxLocals (xvl (xGr G) ls) → (∀ LS' : Array Slot, lv_has LS' c.maxLocals ((i, xv (xGr G) v) :: (xvl (xGr G) ls).filter (fun q => !(q.1 == i) && !(q.1 + 1 == i && q.2.category == 2))) → W p l e R s m args below meth c H locs cells slots Qw (F0 m pc' LS' (st.map (xv (xGr G))))) → W p l e R s m args below meth c H locs cells slots Qw (F0 m pc LS (xv (xGr G) v :: st.map (xv (xGr G))))) : xPW p l e R s m args below meth c Qw G n0 t0 pc ls (v :: st) M :=
  fun H locs LS cells slots h1 h2 h3 h4 h5 h6 => hw H locs LS cells slots h4 (fun LS' h => k H locs LS' cells slots h1 h2 h3 (xset1_has h) h5 h6)
theorem xs_sto2 {pc pc' i : Nat} {ls : xL} {st : List Value} {M : xM} {v : Value} (k : xPW p l e R s m args below meth c Qw G n0 t0 pc' (xset2 ls i v) st M)
    (hw : ∀ (H : Heap) (locs : List Loc) (LS : Array Slot) (cells slots : Nat), lv_has LS c.maxLocals (xvl (xGr G) ls) → (∀ LS' : Array Slot, lv_has LS' c.maxLocals ((i, xv (xGr G) v) :: (xvl (xGr G) ls).filter (fun q => !(q.1 == i) && (!(q.1 == i + 1) && !(q.1 + 1 == i && q.2.category == 2)))) → W p l e R s m args below meth c H locs cells slots Qw (F0 m pc' LS' (st.map (xv (xGr G))))) → W p l e R s m args below meth c H locs cells slots Qw (F0 m pc LS (xv (xGr G) v :: st.map (xv (xGr G))))) : xPW p l e R s m args below meth c Qw G n0 t0 pc ls (v :: st) M :=
  fun H locs LS cells slots h1 h2 h3 h4 h5 h6 => hw H locs LS cells slots h4 (fun LS' h => k H locs LS' cells slots h1 h2 h3 (xset2_has h) h5 h6)
/-- a write of one cell -/
theorem xs_wr {pc pc' a : Nat} {ls : xL} {st st' : List Value} {M M' : xM} {q : Nat × Nat} (k : xPW p l e R s m args below meth c Qw G n0 t0 pc' ls st' M') (hq : M.1[a]? = some q) (h1 : M'.1 = M.1) (hr : ∀ x, x ≠ a → M'.2.1 x = M.2.1 x ∧ M'.2.2.1 x = M.2.2.1 x ∧ M'.2.2.2 x = M.2.2.2 x)
    (hw : ∀ (H : Heap) (locs : List Loc) (LS : Array Slot) (cells slots : Nat), va_at G.2.2.2.2.1 xcl (G.1 + a, xE (xGr G) G.2.2.2.2.2 M a q) H → xHp G M H → (∀ (H1 : Heap) (i : Nat), va_at G.2.2.2.2.1 xcl (G.1 + a, xE (xGr G) G.2.2.2.2.2 M' a q) H1 → H1.size = H.size → (∀ x, x ≠ G.1 + a → H1[x]? = H[x]?) → W p l e R s m args below meth c H1 (locs ++ [⟨G.1 + a, i⟩]) cells slots Qw (F0 m pc' LS (st'.map (xv (xGr G))))) → W p l e R s m args below meth c H locs cells slots Qw (F0 m pc LS (st.map (xv (xGr G))))) : xPW p l e R s m args below meth c Qw G n0 t0 pc ls st M := by
  intro H locs LS cells slots g1 g2 g3 g4 g5 g6
  refine hw H locs LS cells slots (g1.2.2.1 a q hq) g1 fun H1 i ha hs ho => ?_
  refine k H1 _ LS cells slots (g1.set hq h1 hr hs ho ha) (fun x hx => ?_) (fun x hx => ?_) g4 (by rw [h1]; exact g5) (by unfold xsum; rw [h1]; exact g6)
  · rw [ho x (by omega)]; exact g2 x hx
  · rcases List.mem_append.mp hx with h | h
    · exact g3 x h
    · rw [List.mem_singleton.mp h]; exact Nat.le_add_right _ _
/-- a cell is made -/
theorem xs_new {pc pc' kind n : Nat} {ls : xL} {st st' : List Value} {M : xM} {lim : Nat × Nat} (hlim : lim = (n0 + R.cells, t0 + R.slots)) (h1 : M.1.length + 1 ≤ lim.1) (h2 : xsum M + n ≤ lim.2) (h3 : M.1.length + 1 ≤ 1000) (k : xPW p l e R s m args below meth c Qw G n0 t0 pc' ls (.ref M.1.length :: st') (xnew M kind n))
    (hw : ∀ (H : Heap) (locs : List Loc) (LS : Array Slot) (cells slots : Nat), cells + 1 ≤ R.cells → slots + n ≤ R.slots → H.size = G.1 + M.1.length → (∀ H1 : Heap, va_at G.2.2.2.2.1 xcl (G.1 + M.1.length, xE (xGr G) G.2.2.2.2.2 (xnew M kind n) M.1.length (kind, n)) H1 → H1.size = H.size + 1 → (∀ x, x < H.size → H1[x]? = H[x]?) → W p l e R s m args below meth c H1 locs (cells + 1) (slots + n) Qw (F0 m pc' LS (.ref H.size :: st'.map (xv (xGr G))))) → W p l e R s m args below meth c H locs cells slots Qw (F0 m pc LS (st.map (xv (xGr G))))) : xPW p l e R s m args below meth c Qw G n0 t0 pc ls st M := by
  intro H locs LS cells slots g1 g2 g3 g4 g5 g6
  rw [hlim] at h1 h2
  dsimp only at h1 h2
  refine hw H locs LS cells slots (by omega) (by omega) g1.1 fun H1 ha hs ho => ?_
  have hk := k H1 locs LS (cells + 1) (slots + n) (g1.new h3 hs ho ha) (fun x hx => by rw [ho x (by rw [g1.1]; omega)]; exact g2 x hx) g3 g4 (by rw [(xnew_len M kind n).1]; omega) (by rw [(xnew_len M kind n).2]; omega)
  have he : xGr G M.1.length = H.size := by rw [xGr_lt (by omega), g1.1]
  simpa only [List.map_cons, xv, he] using hk
end XSTEP
end
section
section XINS
variable {p : Program} {l : Launch} {e : Env} {R : Room} {s : State} {m : MethodId} {args : Array Value} {below : List Frame} {meth : Method} {c : Code} {Qw : State → Prop} {G : xG} {n0 t0 : Nat} {own mk : Nat} {lim : Nat × Nat} {len op pc : Nat} {ls : xL} {st : List Value} {M : xM} {S : xS}

theorem xi_iadd  (Bd : xBd p R s m args meth c G n0 t0 own mk lim) (hd : decode c.code pc = .ok (.iadd, len)) (ok : xokI own c.maxLocals pc (.iadd) len op = true) (h : xins own mk lim (.iadd) len op pc ls st M = some S) (k : xPW p l e R s m args below meth c Qw G n0 t0 S.1 S.2.1 S.2.2.1 S.2.2.2) : xPW p l e R s m args below meth c Qw G n0 t0 pc ls st M := by
  obtain ⟨hx, hown, hts, hK, hin, hlim, hfr, hlo⟩ := Bd
  obtain rfl : len = 1 := Nat.eq_of_beq_eq_true ok
  simp only [xins] at h
  split at h
  · cases h
    exact xs_go k (fun H locs LS cells slots _ _ _ w => lv_iadd hx rfl hd w)
  · cases h

theorem xi_isub  (Bd : xBd p R s m args meth c G n0 t0 own mk lim) (hd : decode c.code pc = .ok (.isub, len)) (ok : xokI own c.maxLocals pc (.isub) len op = true) (h : xins own mk lim (.isub) len op pc ls st M = some S) (k : xPW p l e R s m args below meth c Qw G n0 t0 S.1 S.2.1 S.2.2.1 S.2.2.2) : xPW p l e R s m args below meth c Qw G n0 t0 pc ls st M := by
  obtain ⟨hx, hown, hts, hK, hin, hlim, hfr, hlo⟩ := Bd
  obtain rfl : len = 1 := Nat.eq_of_beq_eq_true ok
  simp only [xins] at h
  split at h
  · cases h
    exact xs_go k (fun H locs LS cells slots _ _ _ w => lv_isub hx rfl hd w)
  · cases h

theorem xi_imul  (Bd : xBd p R s m args meth c G n0 t0 own mk lim) (hd : decode c.code pc = .ok (.imul, len)) (ok : xokI own c.maxLocals pc (.imul) len op = true) (h : xins own mk lim (.imul) len op pc ls st M = some S) (k : xPW p l e R s m args below meth c Qw G n0 t0 S.1 S.2.1 S.2.2.1 S.2.2.2) : xPW p l e R s m args below meth c Qw G n0 t0 pc ls st M := by
  obtain ⟨hx, hown, hts, hK, hin, hlim, hfr, hlo⟩ := Bd
  obtain rfl : len = 1 := Nat.eq_of_beq_eq_true ok
  simp only [xins] at h
  split at h
  · cases h
    exact xs_go k (fun H locs LS cells slots _ _ _ w => lv_imul hx rfl hd w)
  · cases h

theorem xi_iand  (Bd : xBd p R s m args meth c G n0 t0 own mk lim) (hd : decode c.code pc = .ok (.iand, len)) (ok : xokI own c.maxLocals pc (.iand) len op = true) (h : xins own mk lim (.iand) len op pc ls st M = some S) (k : xPW p l e R s m args below meth c Qw G n0 t0 S.1 S.2.1 S.2.2.1 S.2.2.2) : xPW p l e R s m args below meth c Qw G n0 t0 pc ls st M := by
  obtain ⟨hx, hown, hts, hK, hin, hlim, hfr, hlo⟩ := Bd
  obtain rfl : len = 1 := Nat.eq_of_beq_eq_true ok
  simp only [xins] at h
  split at h
  · cases h
    exact xs_go k (fun H locs LS cells slots _ _ _ w => lv_iand hx rfl hd w)
  · cases h

theorem xi_ior  (Bd : xBd p R s m args meth c G n0 t0 own mk lim) (hd : decode c.code pc = .ok (.ior, len)) (ok : xokI own c.maxLocals pc (.ior) len op = true) (h : xins own mk lim (.ior) len op pc ls st M = some S) (k : xPW p l e R s m args below meth c Qw G n0 t0 S.1 S.2.1 S.2.2.1 S.2.2.2) : xPW p l e R s m args below meth c Qw G n0 t0 pc ls st M := by
  obtain ⟨hx, hown, hts, hK, hin, hlim, hfr, hlo⟩ := Bd
  obtain rfl : len = 1 := Nat.eq_of_beq_eq_true ok
  simp only [xins] at h
  split at h
  · cases h
    exact xs_go k (fun H locs LS cells slots _ _ _ w => lv_ior hx rfl hd w)
  · cases h

theorem xi_ixor  (Bd : xBd p R s m args meth c G n0 t0 own mk lim) (hd : decode c.code pc = .ok (.ixor, len)) (ok : xokI own c.maxLocals pc (.ixor) len op = true) (h : xins own mk lim (.ixor) len op pc ls st M = some S) (k : xPW p l e R s m args below meth c Qw G n0 t0 S.1 S.2.1 S.2.2.1 S.2.2.2) : xPW p l e R s m args below meth c Qw G n0 t0 pc ls st M := by
  obtain ⟨hx, hown, hts, hK, hin, hlim, hfr, hlo⟩ := Bd
  obtain rfl : len = 1 := Nat.eq_of_beq_eq_true ok
  simp only [xins] at h
  split at h
  · cases h
    exact xs_go k (fun H locs LS cells slots _ _ _ w => lv_ixor hx rfl hd w)
  · cases h

theorem xi_ladd  (Bd : xBd p R s m args meth c G n0 t0 own mk lim) (hd : decode c.code pc = .ok (.ladd, len)) (ok : xokI own c.maxLocals pc (.ladd) len op = true) (h : xins own mk lim (.ladd) len op pc ls st M = some S) (k : xPW p l e R s m args below meth c Qw G n0 t0 S.1 S.2.1 S.2.2.1 S.2.2.2) : xPW p l e R s m args below meth c Qw G n0 t0 pc ls st M := by
  obtain ⟨hx, hown, hts, hK, hin, hlim, hfr, hlo⟩ := Bd
  obtain rfl : len = 1 := Nat.eq_of_beq_eq_true ok
  simp only [xins] at h
  split at h
  · cases h
    exact xs_go k (fun H locs LS cells slots _ _ _ w => lv_ladd hx rfl hd w)
  · cases h

theorem xi_lsub  (Bd : xBd p R s m args meth c G n0 t0 own mk lim) (hd : decode c.code pc = .ok (.lsub, len)) (ok : xokI own c.maxLocals pc (.lsub) len op = true) (h : xins own mk lim (.lsub) len op pc ls st M = some S) (k : xPW p l e R s m args below meth c Qw G n0 t0 S.1 S.2.1 S.2.2.1 S.2.2.2) : xPW p l e R s m args below meth c Qw G n0 t0 pc ls st M := by
  obtain ⟨hx, hown, hts, hK, hin, hlim, hfr, hlo⟩ := Bd
  obtain rfl : len = 1 := Nat.eq_of_beq_eq_true ok
  simp only [xins] at h
  split at h
  · cases h
    exact xs_go k (fun H locs LS cells slots _ _ _ w => lv_lsub hx rfl hd w)
  · cases h

theorem xi_lmul  (Bd : xBd p R s m args meth c G n0 t0 own mk lim) (hd : decode c.code pc = .ok (.lmul, len)) (ok : xokI own c.maxLocals pc (.lmul) len op = true) (h : xins own mk lim (.lmul) len op pc ls st M = some S) (k : xPW p l e R s m args below meth c Qw G n0 t0 S.1 S.2.1 S.2.2.1 S.2.2.2) : xPW p l e R s m args below meth c Qw G n0 t0 pc ls st M := by
  obtain ⟨hx, hown, hts, hK, hin, hlim, hfr, hlo⟩ := Bd
  obtain rfl : len = 1 := Nat.eq_of_beq_eq_true ok
  simp only [xins] at h
  split at h
  · cases h
    exact xs_go k (fun H locs LS cells slots _ _ _ w => lv_lmul hx rfl hd w)
  · cases h

theorem xi_land  (Bd : xBd p R s m args meth c G n0 t0 own mk lim) (hd : decode c.code pc = .ok (.land, len)) (ok : xokI own c.maxLocals pc (.land) len op = true) (h : xins own mk lim (.land) len op pc ls st M = some S) (k : xPW p l e R s m args below meth c Qw G n0 t0 S.1 S.2.1 S.2.2.1 S.2.2.2) : xPW p l e R s m args below meth c Qw G n0 t0 pc ls st M := by
  obtain ⟨hx, hown, hts, hK, hin, hlim, hfr, hlo⟩ := Bd
  obtain rfl : len = 1 := Nat.eq_of_beq_eq_true ok
  simp only [xins] at h
  split at h
  · cases h
    exact xs_go k (fun H locs LS cells slots _ _ _ w => lv_land hx rfl hd w)
  · cases h

theorem xi_lor  (Bd : xBd p R s m args meth c G n0 t0 own mk lim) (hd : decode c.code pc = .ok (.lor, len)) (ok : xokI own c.maxLocals pc (.lor) len op = true) (h : xins own mk lim (.lor) len op pc ls st M = some S) (k : xPW p l e R s m args below meth c Qw G n0 t0 S.1 S.2.1 S.2.2.1 S.2.2.2) : xPW p l e R s m args below meth c Qw G n0 t0 pc ls st M := by
  obtain ⟨hx, hown, hts, hK, hin, hlim, hfr, hlo⟩ := Bd
  obtain rfl : len = 1 := Nat.eq_of_beq_eq_true ok
  simp only [xins] at h
  split at h
  · cases h
    exact xs_go k (fun H locs LS cells slots _ _ _ w => lv_lor hx rfl hd w)
  · cases h

theorem xi_lxor  (Bd : xBd p R s m args meth c G n0 t0 own mk lim) (hd : decode c.code pc = .ok (.lxor, len)) (ok : xokI own c.maxLocals pc (.lxor) len op = true) (h : xins own mk lim (.lxor) len op pc ls st M = some S) (k : xPW p l e R s m args below meth c Qw G n0 t0 S.1 S.2.1 S.2.2.1 S.2.2.2) : xPW p l e R s m args below meth c Qw G n0 t0 pc ls st M := by
  obtain ⟨hx, hown, hts, hK, hin, hlim, hfr, hlo⟩ := Bd
  obtain rfl : len = 1 := Nat.eq_of_beq_eq_true ok
  simp only [xins] at h
  split at h
  · cases h
    exact xs_go k (fun H locs LS cells slots _ _ _ w => lv_lxor hx rfl hd w)
  · cases h

theorem xi_lneg  (Bd : xBd p R s m args meth c G n0 t0 own mk lim) (hd : decode c.code pc = .ok (.lneg, len)) (ok : xokI own c.maxLocals pc (.lneg) len op = true) (h : xins own mk lim (.lneg) len op pc ls st M = some S) (k : xPW p l e R s m args below meth c Qw G n0 t0 S.1 S.2.1 S.2.2.1 S.2.2.2) : xPW p l e R s m args below meth c Qw G n0 t0 pc ls st M := by
  obtain ⟨hx, hown, hts, hK, hin, hlim, hfr, hlo⟩ := Bd
  obtain rfl : len = 1 := Nat.eq_of_beq_eq_true ok
  simp only [xins] at h
  split at h
  · cases h
    exact xs_go k (fun H locs LS cells slots _ _ _ w => lv_lneg hx rfl hd w)
  · cases h

theorem xi_lshl  (Bd : xBd p R s m args meth c G n0 t0 own mk lim) (hd : decode c.code pc = .ok (.lshl, len)) (ok : xokI own c.maxLocals pc (.lshl) len op = true) (h : xins own mk lim (.lshl) len op pc ls st M = some S) (k : xPW p l e R s m args below meth c Qw G n0 t0 S.1 S.2.1 S.2.2.1 S.2.2.2) : xPW p l e R s m args below meth c Qw G n0 t0 pc ls st M := by
  obtain ⟨hx, hown, hts, hK, hin, hlim, hfr, hlo⟩ := Bd
  obtain rfl : len = 1 := Nat.eq_of_beq_eq_true ok
  simp only [xins] at h
  split at h
  · cases h
    exact xs_go k (fun H locs LS cells slots _ _ _ w => lv_lshl hx rfl hd rfl w)
  · cases h

theorem xi_lushr  (Bd : xBd p R s m args meth c G n0 t0 own mk lim) (hd : decode c.code pc = .ok (.lushr, len)) (ok : xokI own c.maxLocals pc (.lushr) len op = true) (h : xins own mk lim (.lushr) len op pc ls st M = some S) (k : xPW p l e R s m args below meth c Qw G n0 t0 S.1 S.2.1 S.2.2.1 S.2.2.2) : xPW p l e R s m args below meth c Qw G n0 t0 pc ls st M := by
  obtain ⟨hx, hown, hts, hK, hin, hlim, hfr, hlo⟩ := Bd
  obtain rfl : len = 1 := Nat.eq_of_beq_eq_true ok
  simp only [xins] at h
  split at h
  · cases h
    exact xs_go k (fun H locs LS cells slots _ _ _ w => lv_lushr hx rfl hd rfl w)
  · cases h

theorem xi_i2l  (Bd : xBd p R s m args meth c G n0 t0 own mk lim) (hd : decode c.code pc = .ok (.i2l, len)) (ok : xokI own c.maxLocals pc (.i2l) len op = true) (h : xins own mk lim (.i2l) len op pc ls st M = some S) (k : xPW p l e R s m args below meth c Qw G n0 t0 S.1 S.2.1 S.2.2.1 S.2.2.2) : xPW p l e R s m args below meth c Qw G n0 t0 pc ls st M := by
  obtain ⟨hx, hown, hts, hK, hin, hlim, hfr, hlo⟩ := Bd
  obtain rfl : len = 1 := Nat.eq_of_beq_eq_true ok
  simp only [xins] at h
  split at h
  · cases h
    exact xs_go k (fun H locs LS cells slots _ _ _ w => lv_i2l hx rfl hd rfl w)
  · cases h

theorem xi_l2i  (Bd : xBd p R s m args meth c G n0 t0 own mk lim) (hd : decode c.code pc = .ok (.l2i, len)) (ok : xokI own c.maxLocals pc (.l2i) len op = true) (h : xins own mk lim (.l2i) len op pc ls st M = some S) (k : xPW p l e R s m args below meth c Qw G n0 t0 S.1 S.2.1 S.2.2.1 S.2.2.2) : xPW p l e R s m args below meth c Qw G n0 t0 pc ls st M := by
  obtain ⟨hx, hown, hts, hK, hin, hlim, hfr, hlo⟩ := Bd
  obtain rfl : len = 1 := Nat.eq_of_beq_eq_true ok
  simp only [xins] at h
  split at h
  · cases h
    exact xs_go k (fun H locs LS cells slots _ _ _ w => lv_l2i hx rfl hd rfl w)
  · cases h

theorem xi_lcmp  (Bd : xBd p R s m args meth c G n0 t0 own mk lim) (hd : decode c.code pc = .ok (.lcmp, len)) (ok : xokI own c.maxLocals pc (.lcmp) len op = true) (h : xins own mk lim (.lcmp) len op pc ls st M = some S) (k : xPW p l e R s m args below meth c Qw G n0 t0 S.1 S.2.1 S.2.2.1 S.2.2.2) : xPW p l e R s m args below meth c Qw G n0 t0 pc ls st M := by
  obtain ⟨hx, hown, hts, hK, hin, hlim, hfr, hlo⟩ := Bd
  obtain rfl : len = 1 := Nat.eq_of_beq_eq_true ok
  simp only [xins] at h
  split at h
  · cases h
    exact xs_go k (fun H locs LS cells slots _ _ _ w => W.lcmp hx rfl hd w)
  · cases h

theorem xi_irem  (Bd : xBd p R s m args meth c G n0 t0 own mk lim) (hd : decode c.code pc = .ok (.irem, len)) (ok : xokI own c.maxLocals pc (.irem) len op = true) (h : xins own mk lim (.irem) len op pc ls st M = some S) (k : xPW p l e R s m args below meth c Qw G n0 t0 S.1 S.2.1 S.2.2.1 S.2.2.2) : xPW p l e R s m args below meth c Qw G n0 t0 pc ls st M := by
  obtain ⟨hx, hown, hts, hK, hin, hlim, hfr, hlo⟩ := Bd
  obtain rfl : len = 1 := Nat.eq_of_beq_eq_true ok
  simp only [xins] at h
  split at h
  · rename_i y x r
    cases hy : decide (y = 0) with
    | true => rw [hy] at h; cases h
    | false =>
      rw [hy] at h
      cases h
      exact xs_go k (fun H locs LS cells slots _ _ _ w => lv_irem hx rfl hd (of_decide_eq_false hy) w)
  · cases h

theorem xi_iconst (n : Int) (Bd : xBd p R s m args meth c G n0 t0 own mk lim) (hd : decode c.code pc = .ok (.iconst n, len)) (ok : xokI own c.maxLocals pc (.iconst n) len op = true) (h : xins own mk lim (.iconst n) len op pc ls st M = some S) (k : xPW p l e R s m args below meth c Qw G n0 t0 S.1 S.2.1 S.2.2.1 S.2.2.2) : xPW p l e R s m args below meth c Qw G n0 t0 pc ls st M := by
  obtain ⟨hx, hown, hts, hK, hin, hlim, hfr, hlo⟩ := Bd
  obtain rfl : len = 1 := Nat.eq_of_beq_eq_true ok
  cases h
  exact xs_go k (fun H locs LS cells slots _ _ _ w => lv_iconst hx rfl hd rfl w)

theorem xi_bipush (n : Int) (Bd : xBd p R s m args meth c G n0 t0 own mk lim) (hd : decode c.code pc = .ok (.bipush n, len)) (ok : xokI own c.maxLocals pc (.bipush n) len op = true) (h : xins own mk lim (.bipush n) len op pc ls st M = some S) (k : xPW p l e R s m args below meth c Qw G n0 t0 S.1 S.2.1 S.2.2.1 S.2.2.2) : xPW p l e R s m args below meth c Qw G n0 t0 pc ls st M := by
  obtain ⟨hx, hown, hts, hK, hin, hlim, hfr, hlo⟩ := Bd
  obtain rfl : len = 2 := Nat.eq_of_beq_eq_true ok
  cases h
  exact xs_go k (fun H locs LS cells slots _ _ _ w => lv_bipush hx rfl hd rfl w)

theorem xi_sipush (n : Int) (Bd : xBd p R s m args meth c G n0 t0 own mk lim) (hd : decode c.code pc = .ok (.sipush n, len)) (ok : xokI own c.maxLocals pc (.sipush n) len op = true) (h : xins own mk lim (.sipush n) len op pc ls st M = some S) (k : xPW p l e R s m args below meth c Qw G n0 t0 S.1 S.2.1 S.2.2.1 S.2.2.2) : xPW p l e R s m args below meth c Qw G n0 t0 pc ls st M := by
  obtain ⟨hx, hown, hts, hK, hin, hlim, hfr, hlo⟩ := Bd
  obtain rfl : len = 3 := Nat.eq_of_beq_eq_true ok
  cases h
  exact xs_go k (fun H locs LS cells slots _ _ _ w => lv_sipush hx rfl hd rfl w)

theorem xi_lconst (n : Fin 2) (Bd : xBd p R s m args meth c G n0 t0 own mk lim) (hd : decode c.code pc = .ok (.lconst n, len)) (ok : xokI own c.maxLocals pc (.lconst n) len op = true) (h : xins own mk lim (.lconst n) len op pc ls st M = some S) (k : xPW p l e R s m args below meth c Qw G n0 t0 S.1 S.2.1 S.2.2.1 S.2.2.2) : xPW p l e R s m args below meth c Qw G n0 t0 pc ls st M := by
  obtain ⟨hx, hown, hts, hK, hin, hlim, hfr, hlo⟩ := Bd
  obtain rfl : len = 1 := Nat.eq_of_beq_eq_true ok
  cases h
  exact xs_go k (fun H locs LS cells slots _ _ _ w => lv_lconst hx rfl hd rfl w)

theorem xi_ldc2_w (x : Nat) (Bd : xBd p R s m args meth c G n0 t0 own mk lim) (hd : decode c.code pc = .ok (.ldc2_w x, len)) (ok : xokI own c.maxLocals pc (.ldc2_w x) len op = true) (h : xins own mk lim (.ldc2_w x) len op pc ls st M = some S) (k : xPW p l e R s m args below meth c Qw G n0 t0 S.1 S.2.1 S.2.2.1 S.2.2.2) : xPW p l e R s m args below meth c Qw G n0 t0 pc ls st M := by
  obtain ⟨hx, hown, hts, hK, hin, hlim, hfr, hlo⟩ := Bd
  obtain ⟨ok1, ok2⟩ := Bool.and_eq_true_iff.mp ok
  obtain rfl : len = 3 := Nat.eq_of_beq_eq_true ok1
  have hc := xDL_ok _ (contains_mem ok2)
  cases h
  exact xs_go k (fun H locs LS cells slots _ _ _ w => lv_ldc2 hx rfl hown (hts _ (gws_in hc rfl)) hd w)

theorem xi_iload (n : Nat) (Bd : xBd p R s m args meth c G n0 t0 own mk lim) (hd : decode c.code pc = .ok (.iload n, len)) (ok : xokI own c.maxLocals pc (.iload n) len op = true) (h : xins own mk lim (.iload n) len op pc ls st M = some S) (k : xPW p l e R s m args below meth c Qw G n0 t0 S.1 S.2.1 S.2.2.1 S.2.2.2) : xPW p l e R s m args below meth c Qw G n0 t0 pc ls st M := by
  obtain ⟨hx, hown, hts, hK, hin, hlim, hfr, hlo⟩ := Bd
  obtain rfl : len = 2 := Nat.eq_of_beq_eq_true ok
  simp only [xins] at h
  obtain ⟨v, hv, hS⟩ := xs_xldi h
  subst hS
  exact xs_load hx hv k (fun H locs LS cells slots g w => lv_iload hx rfl hd g w)

theorem xi_iload_n (n : Fin 4) (Bd : xBd p R s m args meth c G n0 t0 own mk lim) (hd : decode c.code pc = .ok (.iload_n n, len)) (ok : xokI own c.maxLocals pc (.iload_n n) len op = true) (h : xins own mk lim (.iload_n n) len op pc ls st M = some S) (k : xPW p l e R s m args below meth c Qw G n0 t0 S.1 S.2.1 S.2.2.1 S.2.2.2) : xPW p l e R s m args below meth c Qw G n0 t0 pc ls st M := by
  obtain ⟨hx, hown, hts, hK, hin, hlim, hfr, hlo⟩ := Bd
  obtain rfl : len = 1 := Nat.eq_of_beq_eq_true ok
  simp only [xins] at h
  obtain ⟨v, hv, hS⟩ := xs_xldi h
  subst hS
  exact xs_load hx hv k (fun H locs LS cells slots g w => lv_iload_n hx rfl hd rfl g w)

theorem xi_lload (n : Nat) (Bd : xBd p R s m args meth c G n0 t0 own mk lim) (hd : decode c.code pc = .ok (.lload n, len)) (ok : xokI own c.maxLocals pc (.lload n) len op = true) (h : xins own mk lim (.lload n) len op pc ls st M = some S) (k : xPW p l e R s m args below meth c Qw G n0 t0 S.1 S.2.1 S.2.2.1 S.2.2.2) : xPW p l e R s m args below meth c Qw G n0 t0 pc ls st M := by
  obtain ⟨hx, hown, hts, hK, hin, hlim, hfr, hlo⟩ := Bd
  obtain rfl : len = 2 := Nat.eq_of_beq_eq_true ok
  simp only [xins] at h
  obtain ⟨v, hv, hS⟩ := xs_xldl h
  subst hS
  exact xs_load hx hv k (fun H locs LS cells slots g w => lv_lload hx rfl hd g w)

theorem xi_lload_n (n : Fin 4) (Bd : xBd p R s m args meth c G n0 t0 own mk lim) (hd : decode c.code pc = .ok (.lload_n n, len)) (ok : xokI own c.maxLocals pc (.lload_n n) len op = true) (h : xins own mk lim (.lload_n n) len op pc ls st M = some S) (k : xPW p l e R s m args below meth c Qw G n0 t0 S.1 S.2.1 S.2.2.1 S.2.2.2) : xPW p l e R s m args below meth c Qw G n0 t0 pc ls st M := by
  obtain ⟨hx, hown, hts, hK, hin, hlim, hfr, hlo⟩ := Bd
  obtain rfl : len = 1 := Nat.eq_of_beq_eq_true ok
  simp only [xins] at h
  obtain ⟨v, hv, hS⟩ := xs_xldl h
  subst hS
  exact xs_load hx hv k (fun H locs LS cells slots g w => lv_lload_n hx rfl hd rfl g w)

theorem xi_aload (n : Nat) (Bd : xBd p R s m args meth c G n0 t0 own mk lim) (hd : decode c.code pc = .ok (.aload n, len)) (ok : xokI own c.maxLocals pc (.aload n) len op = true) (h : xins own mk lim (.aload n) len op pc ls st M = some S) (k : xPW p l e R s m args below meth c Qw G n0 t0 S.1 S.2.1 S.2.2.1 S.2.2.2) : xPW p l e R s m args below meth c Qw G n0 t0 pc ls st M := by
  obtain ⟨hx, hown, hts, hK, hin, hlim, hfr, hlo⟩ := Bd
  obtain rfl : len = 2 := Nat.eq_of_beq_eq_true ok
  simp only [xins] at h
  obtain ⟨v, hv, hS⟩ := xs_xlda h
  subst hS
  exact xs_load hx hv k (fun H locs LS cells slots g w => lv_aload hx rfl hd g w)

theorem xi_aload_n (n : Fin 4) (Bd : xBd p R s m args meth c G n0 t0 own mk lim) (hd : decode c.code pc = .ok (.aload_n n, len)) (ok : xokI own c.maxLocals pc (.aload_n n) len op = true) (h : xins own mk lim (.aload_n n) len op pc ls st M = some S) (k : xPW p l e R s m args below meth c Qw G n0 t0 S.1 S.2.1 S.2.2.1 S.2.2.2) : xPW p l e R s m args below meth c Qw G n0 t0 pc ls st M := by
  obtain ⟨hx, hown, hts, hK, hin, hlim, hfr, hlo⟩ := Bd
  obtain rfl : len = 1 := Nat.eq_of_beq_eq_true ok
  simp only [xins] at h
  obtain ⟨v, hv, hS⟩ := xs_xlda h
  subst hS
  exact xs_load hx hv k (fun H locs LS cells slots g w => lv_aload_n hx rfl hd rfl g w)

theorem xi_istore (n : Nat) (Bd : xBd p R s m args meth c G n0 t0 own mk lim) (hd : decode c.code pc = .ok (.istore n, len)) (ok : xokI own c.maxLocals pc (.istore n) len op = true) (h : xins own mk lim (.istore n) len op pc ls st M = some S) (k : xPW p l e R s m args below meth c Qw G n0 t0 S.1 S.2.1 S.2.2.1 S.2.2.2) : xPW p l e R s m args below meth c Qw G n0 t0 pc ls st M := by
  obtain ⟨hx, hown, hts, hK, hin, hlim, hfr, hlo⟩ := Bd
  obtain ⟨ok1, ok2⟩ := Bool.and_eq_true_iff.mp ok
  obtain rfl : len = 2 := Nat.eq_of_beq_eq_true ok1
  simp only [xins] at h
  split at h
  · cases h
    exact xs_sto1 k (fun H locs LS cells slots g kk => lv_istore hx rfl hd g (Nat.le_of_ble_eq_true ok2) rfl kk)
  · cases h

theorem xi_istore_n (n : Fin 4) (Bd : xBd p R s m args meth c G n0 t0 own mk lim) (hd : decode c.code pc = .ok (.istore_n n, len)) (ok : xokI own c.maxLocals pc (.istore_n n) len op = true) (h : xins own mk lim (.istore_n n) len op pc ls st M = some S) (k : xPW p l e R s m args below meth c Qw G n0 t0 S.1 S.2.1 S.2.2.1 S.2.2.2) : xPW p l e R s m args below meth c Qw G n0 t0 pc ls st M := by
  obtain ⟨hx, hown, hts, hK, hin, hlim, hfr, hlo⟩ := Bd
  obtain ⟨ok1, ok2⟩ := Bool.and_eq_true_iff.mp ok
  obtain rfl : len = 1 := Nat.eq_of_beq_eq_true ok1
  simp only [xins] at h
  split at h
  · cases h
    exact xs_sto1 k (fun H locs LS cells slots g kk => lv_istore_n hx rfl hd rfl g (Nat.le_of_ble_eq_true ok2) rfl kk)
  · cases h

theorem xi_astore (n : Nat) (Bd : xBd p R s m args meth c G n0 t0 own mk lim) (hd : decode c.code pc = .ok (.astore n, len)) (ok : xokI own c.maxLocals pc (.astore n) len op = true) (h : xins own mk lim (.astore n) len op pc ls st M = some S) (k : xPW p l e R s m args below meth c Qw G n0 t0 S.1 S.2.1 S.2.2.1 S.2.2.2) : xPW p l e R s m args below meth c Qw G n0 t0 pc ls st M := by
  obtain ⟨hx, hown, hts, hK, hin, hlim, hfr, hlo⟩ := Bd
  obtain ⟨ok1, ok2⟩ := Bool.and_eq_true_iff.mp ok
  obtain rfl : len = 2 := Nat.eq_of_beq_eq_true ok1
  simp only [xins] at h
  split at h
  · cases h
    exact xs_sto1 k (fun H locs LS cells slots g kk => lv_astore hx rfl hd g (Nat.le_of_ble_eq_true ok2) rfl kk)
  · cases h

theorem xi_astore_n (n : Fin 4) (Bd : xBd p R s m args meth c G n0 t0 own mk lim) (hd : decode c.code pc = .ok (.astore_n n, len)) (ok : xokI own c.maxLocals pc (.astore_n n) len op = true) (h : xins own mk lim (.astore_n n) len op pc ls st M = some S) (k : xPW p l e R s m args below meth c Qw G n0 t0 S.1 S.2.1 S.2.2.1 S.2.2.2) : xPW p l e R s m args below meth c Qw G n0 t0 pc ls st M := by
  obtain ⟨hx, hown, hts, hK, hin, hlim, hfr, hlo⟩ := Bd
  obtain ⟨ok1, ok2⟩ := Bool.and_eq_true_iff.mp ok
  obtain rfl : len = 1 := Nat.eq_of_beq_eq_true ok1
  simp only [xins] at h
  split at h
  · cases h
    exact xs_sto1 k (fun H locs LS cells slots g kk => lv_astore_n hx rfl hd rfl g (Nat.le_of_ble_eq_true ok2) rfl kk)
  · cases h

theorem xi_lstore (n : Nat) (Bd : xBd p R s m args meth c G n0 t0 own mk lim) (hd : decode c.code pc = .ok (.lstore n, len)) (ok : xokI own c.maxLocals pc (.lstore n) len op = true) (h : xins own mk lim (.lstore n) len op pc ls st M = some S) (k : xPW p l e R s m args below meth c Qw G n0 t0 S.1 S.2.1 S.2.2.1 S.2.2.2) : xPW p l e R s m args below meth c Qw G n0 t0 pc ls st M := by
  obtain ⟨hx, hown, hts, hK, hin, hlim, hfr, hlo⟩ := Bd
  obtain ⟨ok1, ok2⟩ := Bool.and_eq_true_iff.mp ok
  obtain rfl : len = 2 := Nat.eq_of_beq_eq_true ok1
  simp only [xins] at h
  split at h
  · cases h
    exact xs_sto2 k (fun H locs LS cells slots g kk => lv_lstore hx rfl hd g (Nat.le_of_ble_eq_true ok2) rfl kk)
  · cases h

theorem xi_lstore_n (n : Fin 4) (Bd : xBd p R s m args meth c G n0 t0 own mk lim) (hd : decode c.code pc = .ok (.lstore_n n, len)) (ok : xokI own c.maxLocals pc (.lstore_n n) len op = true) (h : xins own mk lim (.lstore_n n) len op pc ls st M = some S) (k : xPW p l e R s m args below meth c Qw G n0 t0 S.1 S.2.1 S.2.2.1 S.2.2.2) : xPW p l e R s m args below meth c Qw G n0 t0 pc ls st M := by
  obtain ⟨hx, hown, hts, hK, hin, hlim, hfr, hlo⟩ := Bd
  obtain ⟨ok1, ok2⟩ := Bool.and_eq_true_iff.mp ok
  obtain rfl : len = 1 := Nat.eq_of_beq_eq_true ok1
  simp only [xins] at h
  split at h
  · cases h
    exact xs_sto2 k (fun H locs LS cells slots g kk => lv_lstore_n hx rfl hd rfl g (Nat.le_of_ble_eq_true ok2) rfl kk)
  · cases h

theorem xi_iinc (n : Nat) (z : Int) (Bd : xBd p R s m args meth c G n0 t0 own mk lim) (hd : decode c.code pc = .ok (.iinc n z, len)) (ok : xokI own c.maxLocals pc (.iinc n z) len op = true) (h : xins own mk lim (.iinc n z) len op pc ls st M = some S) (k : xPW p l e R s m args below meth c Qw G n0 t0 S.1 S.2.1 S.2.2.1 S.2.2.2) : xPW p l e R s m args below meth c Qw G n0 t0 pc ls st M := by
  obtain ⟨hx, hown, hts, hK, hin, hlim, hfr, hlo⟩ := Bd
  obtain ⟨ok1, ok2⟩ := Bool.and_eq_true_iff.mp ok
  obtain rfl : len = 3 := Nat.eq_of_beq_eq_true ok1
  simp only [xins] at h
  split at h
  · rename_i x hg
    cases h
    intro H locs LS cells slots h1 h2 h3 h4 h5 h6
    have hm : (n, Value.int x) ∈ xvl (xGr G) ls := List.mem_map.mpr ⟨(n, .int x), xget_mem hg, rfl⟩
    obtain ⟨j, hj⟩ := List.getElem?_of_mem hm
    exact lv_iinc hx rfl hd h4 hj rfl (Nat.le_of_ble_eq_true ok2) rfl (fun LS' h => k H locs LS' cells slots h1 h2 h3 (xset1_has (v := .int _) h) h5 h6)
  · cases h

theorem xi_dup  (Bd : xBd p R s m args meth c G n0 t0 own mk lim) (hd : decode c.code pc = .ok (.dup, len)) (ok : xokI own c.maxLocals pc (.dup) len op = true) (h : xins own mk lim (.dup) len op pc ls st M = some S) (k : xPW p l e R s m args below meth c Qw G n0 t0 S.1 S.2.1 S.2.2.1 S.2.2.2) : xPW p l e R s m args below meth c Qw G n0 t0 pc ls st M := by
  obtain ⟨hx, hown, hts, hK, hin, hlim, hfr, hlo⟩ := Bd
  obtain rfl : len = 1 := Nat.eq_of_beq_eq_true ok
  simp only [xins] at h
  split at h
  · rename_i v r
    cases hv : xwide v with
    | true => rw [hv] at h; cases h
    | false =>
      rw [hv] at h
      cases h
      have hc : (xv (xGr G) v).category = 1 := by rw [xv_cat]; rcases lv_cat v with z | z; exact z; (rw [xwide_cat, z] at hv; simp at hv)
      exact xs_go k (fun H locs LS cells slots _ _ _ w => lv_dup hx rfl hd hc w)
  · cases h

theorem xi_dup2  (Bd : xBd p R s m args meth c G n0 t0 own mk lim) (hd : decode c.code pc = .ok (.dup2, len)) (ok : xokI own c.maxLocals pc (.dup2) len op = true) (h : xins own mk lim (.dup2) len op pc ls st M = some S) (k : xPW p l e R s m args below meth c Qw G n0 t0 S.1 S.2.1 S.2.2.1 S.2.2.2) : xPW p l e R s m args below meth c Qw G n0 t0 pc ls st M := by
  obtain ⟨hx, hown, hts, hK, hin, hlim, hfr, hlo⟩ := Bd
  obtain rfl : len = 1 := Nat.eq_of_beq_eq_true ok
  simp only [xins] at h
  split at h
  · rename_i v u r
    cases hv : (!xwide v && !xwide u) with
    | false => rw [hv] at h; cases h
    | true =>
      rw [hv] at h
      cases h
      simp only [Bool.and_eq_true, Bool.not_eq_true'] at hv
      have hc : (xv (xGr G) v).category = 1 := by rw [xv_cat]; rcases lv_cat v with z | z; exact z; (have := hv.1; rw [xwide_cat, z] at this; simp at this)
      have hc2 : (xv (xGr G) u).category = 1 := by rw [xv_cat]; rcases lv_cat u with z | z; exact z; (have := hv.2; rw [xwide_cat, z] at this; simp at this)
      exact xs_go k (fun H locs LS cells slots _ _ _ w => lv_dup2_11 hx rfl hd hc hc2 w)
  · cases h

theorem xi_ifCond (cd : ClassFile.Cond) (off : Int) (Bd : xBd p R s m args meth c G n0 t0 own mk lim) (hd : decode c.code pc = .ok (.ifCond cd off, len)) (ok : xokI own c.maxLocals pc (.ifCond cd off) len op = true) (h : xins own mk lim (.ifCond cd off) len op pc ls st M = some S) (k : xPW p l e R s m args below meth c Qw G n0 t0 S.1 S.2.1 S.2.2.1 S.2.2.2) : xPW p l e R s m args below meth c Qw G n0 t0 pc ls st M := by
  obtain ⟨hx, hown, hts, hK, hin, hlim, hfr, hlo⟩ := Bd
  obtain ⟨ok1, ok2⟩ := Bool.and_eq_true_iff.mp ok
  obtain rfl : len = 3 := Nat.eq_of_beq_eq_true ok1
  simp only [xins] at h
  split at h
  · cases cd with
    | eq =>
      rcases xbr_cases h with ⟨hb, rfl⟩ | ⟨hb, rfl⟩
      · exact xs_go k (fun H locs LS cells slots _ _ _ w => lv_if_eq hx rfl hd (of_decide_eq_true ok2) (fun _ => w) (fun z => absurd (of_decide_eq_true hb) z))
      · exact xs_go k (fun H locs LS cells slots _ _ _ w => lv_if_eq hx rfl hd (of_decide_eq_true ok2) (fun z => absurd z (of_decide_eq_false hb)) (fun _ => w))
    | ne =>
      rcases xbr_cases h with ⟨hb, rfl⟩ | ⟨hb, rfl⟩
      · exact xs_go k (fun H locs LS cells slots _ _ _ w => lv_if_ne hx rfl hd (of_decide_eq_true ok2) (fun _ => w) (fun z => absurd z (of_decide_eq_true hb)))
      · exact xs_go k (fun H locs LS cells slots _ _ _ w => lv_if_ne hx rfl hd (of_decide_eq_true ok2) (fun z => absurd z (of_decide_eq_false hb)) (fun _ => w))
    | lt =>
      rcases xbr_cases h with ⟨hb, rfl⟩ | ⟨hb, rfl⟩
      · exact xs_go k (fun H locs LS cells slots _ _ _ w => lv_if_lt hx rfl hd (of_decide_eq_true ok2) (fun _ => w) (fun z => absurd (of_decide_eq_true hb) z))
      · exact xs_go k (fun H locs LS cells slots _ _ _ w => lv_if_lt hx rfl hd (of_decide_eq_true ok2) (fun z => absurd z (of_decide_eq_false hb)) (fun _ => w))
    | ge =>
      rcases xbr_cases h with ⟨hb, rfl⟩ | ⟨hb, rfl⟩
      · exact xs_go k (fun H locs LS cells slots _ _ _ w => lv_if_ge hx rfl hd (of_decide_eq_true ok2) (fun _ => w) (fun z => absurd (of_decide_eq_true hb) z))
      · exact xs_go k (fun H locs LS cells slots _ _ _ w => lv_if_ge hx rfl hd (of_decide_eq_true ok2) (fun z => absurd z (of_decide_eq_false hb)) (fun _ => w))
    | gt =>
      rcases xbr_cases h with ⟨hb, rfl⟩ | ⟨hb, rfl⟩
      · exact xs_go k (fun H locs LS cells slots _ _ _ w => lv_if_gt hx rfl hd (of_decide_eq_true ok2) (fun _ => w) (fun z => absurd (of_decide_eq_true hb) z))
      · exact xs_go k (fun H locs LS cells slots _ _ _ w => lv_if_gt hx rfl hd (of_decide_eq_true ok2) (fun z => absurd z (of_decide_eq_false hb)) (fun _ => w))
    | le =>
      rcases xbr_cases h with ⟨hb, rfl⟩ | ⟨hb, rfl⟩
      · exact xs_go k (fun H locs LS cells slots _ _ _ w => lv_if_le hx rfl hd (of_decide_eq_true ok2) (fun _ => w) (fun z => absurd (of_decide_eq_true hb) z))
      · exact xs_go k (fun H locs LS cells slots _ _ _ w => lv_if_le hx rfl hd (of_decide_eq_true ok2) (fun z => absurd z (of_decide_eq_false hb)) (fun _ => w))
  · cases h

theorem xi_if_icmp (cd : ClassFile.Cond) (off : Int) (Bd : xBd p R s m args meth c G n0 t0 own mk lim) (hd : decode c.code pc = .ok (.if_icmp cd off, len)) (ok : xokI own c.maxLocals pc (.if_icmp cd off) len op = true) (h : xins own mk lim (.if_icmp cd off) len op pc ls st M = some S) (k : xPW p l e R s m args below meth c Qw G n0 t0 S.1 S.2.1 S.2.2.1 S.2.2.2) : xPW p l e R s m args below meth c Qw G n0 t0 pc ls st M := by
  obtain ⟨hx, hown, hts, hK, hin, hlim, hfr, hlo⟩ := Bd
  obtain ⟨ok1, ok2⟩ := Bool.and_eq_true_iff.mp ok
  obtain rfl : len = 3 := Nat.eq_of_beq_eq_true ok1
  simp only [xins] at h
  split at h
  · cases cd with
    | eq =>
      rcases xbr_cases h with ⟨hb, rfl⟩ | ⟨hb, rfl⟩
      · exact xs_go k (fun H locs LS cells slots _ _ _ w => lv_icmp_eq hx rfl hd (of_decide_eq_true ok2) (fun _ => w) (fun z => absurd (of_decide_eq_true hb) z))
      · exact xs_go k (fun H locs LS cells slots _ _ _ w => lv_icmp_eq hx rfl hd (of_decide_eq_true ok2) (fun z => absurd z (of_decide_eq_false hb)) (fun _ => w))
    | ne =>
      rcases xbr_cases h with ⟨hb, rfl⟩ | ⟨hb, rfl⟩
      · exact xs_go k (fun H locs LS cells slots _ _ _ w => lv_icmp_ne hx rfl hd (of_decide_eq_true ok2) (fun _ => w) (fun z => absurd z (of_decide_eq_true hb)))
      · exact xs_go k (fun H locs LS cells slots _ _ _ w => lv_icmp_ne hx rfl hd (of_decide_eq_true ok2) (fun z => absurd z (of_decide_eq_false hb)) (fun _ => w))
    | lt =>
      rcases xbr_cases h with ⟨hb, rfl⟩ | ⟨hb, rfl⟩
      · exact xs_go k (fun H locs LS cells slots _ _ _ w => lv_icmp_lt hx rfl hd (of_decide_eq_true ok2) (fun _ => w) (fun z => absurd (of_decide_eq_true hb) z))
      · exact xs_go k (fun H locs LS cells slots _ _ _ w => lv_icmp_lt hx rfl hd (of_decide_eq_true ok2) (fun z => absurd z (of_decide_eq_false hb)) (fun _ => w))
    | ge =>
      rcases xbr_cases h with ⟨hb, rfl⟩ | ⟨hb, rfl⟩
      · exact xs_go k (fun H locs LS cells slots _ _ _ w => lv_icmp_ge hx rfl hd (of_decide_eq_true ok2) (fun _ => w) (fun z => absurd (of_decide_eq_true hb) z))
      · exact xs_go k (fun H locs LS cells slots _ _ _ w => lv_icmp_ge hx rfl hd (of_decide_eq_true ok2) (fun z => absurd z (of_decide_eq_false hb)) (fun _ => w))
    | gt =>
      rcases xbr_cases h with ⟨hb, rfl⟩ | ⟨hb, rfl⟩
      · exact xs_go k (fun H locs LS cells slots _ _ _ w => lv_icmp_gt hx rfl hd (of_decide_eq_true ok2) (fun _ => w) (fun z => absurd (of_decide_eq_true hb) z))
      · exact xs_go k (fun H locs LS cells slots _ _ _ w => lv_icmp_gt hx rfl hd (of_decide_eq_true ok2) (fun z => absurd z (of_decide_eq_false hb)) (fun _ => w))
    | le =>
      rcases xbr_cases h with ⟨hb, rfl⟩ | ⟨hb, rfl⟩
      · exact xs_go k (fun H locs LS cells slots _ _ _ w => lv_icmp_le hx rfl hd (of_decide_eq_true ok2) (fun _ => w) (fun z => absurd (of_decide_eq_true hb) z))
      · exact xs_go k (fun H locs LS cells slots _ _ _ w => lv_icmp_le hx rfl hd (of_decide_eq_true ok2) (fun z => absurd z (of_decide_eq_false hb)) (fun _ => w))
  · cases h

theorem xi_goto (off : Int) (Bd : xBd p R s m args meth c G n0 t0 own mk lim) (hd : decode c.code pc = .ok (.goto off, len)) (ok : xokI own c.maxLocals pc (.goto off) len op = true) (h : xins own mk lim (.goto off) len op pc ls st M = some S) (k : xPW p l e R s m args below meth c Qw G n0 t0 S.1 S.2.1 S.2.2.1 S.2.2.2) : xPW p l e R s m args below meth c Qw G n0 t0 pc ls st M := by
  obtain ⟨hx, hown, hts, hK, hin, hlim, hfr, hlo⟩ := Bd
  obtain ⟨ok1, ok2⟩ := Bool.and_eq_true_iff.mp ok
  obtain rfl : len = 3 := Nat.eq_of_beq_eq_true ok1
  cases h
  exact xs_go k (fun H locs LS cells slots _ _ _ w => lv_goto hx rfl hd (of_decide_eq_true ok2) w)

theorem xi_tableswitch (d lo hi : Int) (offs : Array Int) (Bd : xBd p R s m args meth c G n0 t0 own mk lim) (hd : decode c.code pc = .ok (.tableswitch d lo hi offs, len)) (ok : xokI own c.maxLocals pc (.tableswitch d lo hi offs) len op = true) (h : xins own mk lim (.tableswitch d lo hi offs) len op pc ls st M = some S) (k : xPW p l e R s m args below meth c Qw G n0 t0 S.1 S.2.1 S.2.2.1 S.2.2.2) : xPW p l e R s m args below meth c Qw G n0 t0 pc ls st M := by
  obtain ⟨hx, hown, hts, hK, hin, hlim, hfr, hlo⟩ := Bd
  simp only [xins] at h
  split at h
  · rename_i x r
    cases hb : (decide (x.toInt < lo) || decide (hi < x.toInt)) with
    | true =>
      rw [hb] at h
      obtain ⟨t, ht, rfl⟩ := xto_eq h
      have ho : x.toInt < lo ∨ hi < x.toInt := by simpa using hb
      exact xs_go k (fun H locs LS cells slots _ _ _ w => lv_tableOut hx rfl hd ho ht w)
    | false =>
      rw [hb] at h
      simp only [Bool.or_eq_false_iff, decide_eq_false_iff_not] at hb
      simp only [cond_false] at h
      split at h
      · rename_i o hof
        obtain ⟨t, ht, rfl⟩ := xto_eq h
        exact xs_go k (fun H locs LS cells slots _ _ _ w => lv_tableIn hx rfl hd hb.1 hb.2 hof ht w)
      · cases h
  · cases h

theorem xi_lookupswitch (d : Int) (ps : Array (Int × Int)) (Bd : xBd p R s m args meth c G n0 t0 own mk lim) (hd : decode c.code pc = .ok (.lookupswitch d ps, len)) (ok : xokI own c.maxLocals pc (.lookupswitch d ps) len op = true) (h : xins own mk lim (.lookupswitch d ps) len op pc ls st M = some S) (k : xPW p l e R s m args below meth c Qw G n0 t0 S.1 S.2.1 S.2.2.1 S.2.2.2) : xPW p l e R s m args below meth c Qw G n0 t0 pc ls st M := by
  obtain ⟨hx, hown, hts, hK, hin, hlim, hfr, hlo⟩ := Bd
  simp only [xins] at h
  split at h
  · rename_i x r
    cases hb : ((ps.toList.zip (ps.toList.drop 1)).all (fun (a, next) => decide (a.1 < next.1))) with
    | true =>
      rw [hb] at h
      obtain ⟨t, ht, rfl⟩ := xto_eq h
      exact xs_go k (fun H locs LS cells slots _ _ _ w => lv_lookup hx rfl hd hb rfl ht w)
    | false => rw [hb] at h; cases h
  · cases h

end XINS
end
section
theorem xac_int : Jvm.Cond.arrayClass .int ∈ lw_tbl := by decide +kernel
theorem xac_long : Jvm.Cond.arrayClass .long ∈ lw_tbl := by decide +kernel
theorem xac_boolean : Jvm.Cond.arrayClass .boolean ∈ lw_tbl := by decide +kernel
def xkindB : FieldType → Bool
  | .int => true
  | .boolean => true
  | .long => true
  | .object _ => true
  | .array _ => true
  | _ => false
theorem xty_kindB : ∀ c, c < 10 → ∀ j, j < xN c → xkindB (xty c j) = true := by decide +kernel
theorem xty_kind (c : Nat) (hc : c < 10) (j : Nat) (hj : j < xN c) : xty c j = .int ∨ xty c j = .boolean ∨ xty c j = .long ∨ (∃ n, xty c j = .object n) ∨ ∃ t, xty c j = .array t := by
  have h := xty_kindB c hc j hj
  generalize xty c j = t at h ⊢
  cases t <;> simp [xkindB] at h ⊢
section XINS
variable {p : Program} {l : Launch} {e : Env} {R : Room} {s : State} {m : MethodId} {args : Array Value} {below : List Frame} {meth : Method} {c : Code} {Qw : State → Prop} {G : xG} {n0 t0 : Nat} {own mk : Nat} {lim : Nat × Nat} {len op pc : Nat} {ls : xL} {st : List Value} {M : xM} {S : xS}

theorem xkind {q1 q2 n : Nat} (h : Nat.beq q1 n = true) : q1 = n := Nat.eq_of_beq_eq_true h
theorem xE20 {r : Nat → Nat} {dA : Nat → ClassId} {M : xM} {a n : Nat} : xE r dA M a (20, n) = .inl (dA 0, n, .inl (M.2.2.1 a)) := rfl
theorem xE21 {r : Nat → Nat} {dA : Nat → ClassId} {M : xM} {a n : Nat} : xE r dA M a (21, n) = .inl (dA 1, n, .inr (.inl (M.2.2.2 a))) := rfl
theorem xE22 {r : Nat → Nat} {dA : Nat → ClassId} {M : xM} {a n : Nat} : xE r dA M a (22, n) = .inl (dA 2, n, .inl (M.2.2.1 a)) := rfl
theorem xE23 {r : Nat → Nat} {dA : Nat → ClassId} {M : xM} {a n : Nat} : xE r dA M a (23, n) = .inl (dA 3, n, .inr (.inr (.inr (.inr (fun i => (M.2.1 a i).map r))))) := rfl
theorem xE24 {r : Nat → Nat} {dA : Nat → ClassId} {M : xM} {a n : Nat} : xE r dA M a (24, n) = .inl (dA 4, n, .inr (.inr (.inr (.inr (fun i => (M.2.1 a i).map r))))) := rfl
/-- an array that nobody writes, at the heap as it now is -/
theorem xfix {s : State} {G : xG} {H : Heap} (hK : xKs G s) (hF : ∀ q : Nat, q < G.1 → H[q]? = s.heap[q]?) {k : Nat} (hk : k < 4) : va_T .int (G.2.1 k) (G.2.2.1 k) (fun i => .int (G.2.2.2.1 k i)) (fun q => G.1 ≤ q) s H :=
  (hK.2.2.2.1 k hk).kept (fun a _ g => hF a (Nat.not_le.mp g))
theorem xz_narrow {x : Int32} (h : xz x = true) : narrow .boolean (.int x) = .int x ∧ fits .boolean (.int x) = true := by
  have hx : x = 0 ∨ x = 1 := by simpa [xz] using h
  rcases hx with rfl | rfl <;> exact ⟨rfl, rfl⟩
theorem xfv_get {r : Nat → Nat} {M : xM} {a c k : Nat} (hk : k < xN c) : ((List.range (xN c)).map (fun j => xv r (xfv (xty c j) M a j)))[k]? = some (xv r (xfv (xty c k) M a k)) := by
  rw [List.getElem?_map, List.getElem?_range hk]; rfl

theorem xi_getfield (x : Nat) (Bd : xBd p R s m args meth c G n0 t0 own mk lim) (hd : decode c.code pc = .ok (.getfield x, len)) (ok : xokI own c.maxLocals pc (.getfield x) len op = true) (h : xins own mk lim (.getfield x) len op pc ls st M = some S) (k : xPW p l e R s m args below meth c Qw G n0 t0 S.1 S.2.1 S.2.2.1 S.2.2.2) : xPW p l e R s m args below meth c Qw G n0 t0 pc ls st M := by
  obtain ⟨hx, hown, hts, hK, hin, hlim, hfr, hlo⟩ := Bd
  obtain ⟨ok1, ok2⟩ := Bool.and_eq_true_iff.mp ok
  obtain rfl : len = 3 := Nat.eq_of_beq_eq_true ok1
  obtain ⟨hc10, hkN, hlk⟩ := xFL_ok _ (contains_mem ok2)
  dsimp only at hc10 hkN hlk
  simp only [xins] at h
  split at h
  · rename_i a r
    split at h
    · rename_i q1 q2 hq
      cases hb : Nat.beq q1 (op / 64) with
      | false => rw [hb] at h; cases h
      | true =>
        rw [hb] at h
        cases h
        obtain rfl := Nat.eq_of_beq_eq_true hb
        refine xs_go k (fun H locs LS cells slots g1 _ _ w => ?_)
        have ha := g1.2.2.1 a _ hq
        rw [xE_obj (q := (op / 64, q2)) hc10] at ha
        have hlt := xlay_lt g1 hq
        simp only [List.map_cons, xv, xGr_lt hlt]
        refine va_get (D := G.2.2.2.2.1) (ci := op / 64) (C := xnm (op / 64)) (T := xT (op / 64)) (N := xN (op / 64)) hx rfl hts (xws_in hc10) hown hK.1 (va_one ha) 0 rfl (xcl_at _ hc10) (op % 64) hkN (hts _ (gws_in hlk rfl)) ?_ (xfv_get hkN) hd w
        exact fun _ h9 => h9
    · cases h
  · cases h

theorem xfw_eq {ty : FieldType} {M M' : xM} {a k : Nat} {v : Value} (r : Nat → Nat) (h : xfw ty M a k v = some M') : M'.1 = M.1 ∧ (∀ x, x ≠ a → M'.2.1 x = M.2.1 x ∧ M'.2.2.1 x = M.2.2.1 x ∧ M'.2.2.2 x = M.2.2.2 x) ∧ narrow ty (xv r v) = xv r v ∧ fits ty (xv r v) = true ∧ xv r (xfv ty M' a k) = xv r v ∧ (∀ ty' j, j ≠ k → xfv ty' M' a j = xfv ty' M a j) := by
  obtain ⟨lay, mr, mi, ml⟩ := M
  have hrow : ∀ {α : Type} (f : Nat → Nat → α) (b : α) (x : Nat), x ≠ a → xU f a k b x = f x := fun f b x hx => va_up_ne f _ hx
  have hself : ∀ {α : Type} (f : Nat → Nat → α) (b : α), xU f a k b a k = b := fun f b => by unfold xU; rw [va_up_self, va_up_self]
  have hoth : ∀ {α : Type} (f : Nat → Nat → α) (b : α) (j : Nat), j ≠ k → xU f a k b a j = f a j := fun f b j hj => by unfold xU; rw [va_up_self, va_up_ne _ _ hj]
  unfold xfw at h
  split at h
  · cases h; exact ⟨rfl, fun x hx => ⟨rfl, hrow mi _ x hx, rfl⟩, rfl, rfl, by simp only [xwi, xfv, hself], fun ty' j hj => by cases ty' <;> simp only [xwi, xfv, hoth _ _ j hj]⟩
  · rename_i x
    cases hz : xz x with
    | false => rw [hz] at h; cases h
    | true =>
      rw [hz] at h; cases h
      exact ⟨rfl, fun x hx => ⟨rfl, hrow mi _ x hx, rfl⟩, (xz_narrow hz).1, (xz_narrow hz).2, by simp only [xwi, xfv, hself], fun ty' j hj => by cases ty' <;> simp only [xwi, xfv, hoth _ _ j hj]⟩
  · cases h; exact ⟨rfl, fun x hx => ⟨rfl, rfl, hrow ml _ x hx⟩, rfl, rfl, by simp only [xwl, xfv, hself], fun ty' j hj => by cases ty' <;> simp only [xwl, xfv, hoth _ _ j hj]⟩
  · cases h; exact ⟨rfl, fun x hx => ⟨hrow mr _ x hx, rfl, rfl⟩, rfl, rfl, by simp only [xwr, xfv, hself, xrv], fun ty' j hj => by cases ty' <;> simp only [xwr, xfv, hoth _ _ j hj]⟩
  · cases h; exact ⟨rfl, fun x hx => ⟨hrow mr _ x hx, rfl, rfl⟩, rfl, rfl, by simp only [xwr, xfv, hself, xrv], fun ty' j hj => by cases ty' <;> simp only [xwr, xfv, hoth _ _ j hj]⟩
  · cases h

theorem xi_putfield (x : Nat) (Bd : xBd p R s m args meth c G n0 t0 own mk lim) (hd : decode c.code pc = .ok (.putfield x, len)) (ok : xokI own c.maxLocals pc (.putfield x) len op = true) (h : xins own mk lim (.putfield x) len op pc ls st M = some S) (k : xPW p l e R s m args below meth c Qw G n0 t0 S.1 S.2.1 S.2.2.1 S.2.2.2) : xPW p l e R s m args below meth c Qw G n0 t0 pc ls st M := by
  obtain ⟨hx, hown, hts, hK, hin, hlim, hfr, hlo⟩ := Bd
  obtain ⟨ok1, ok2⟩ := Bool.and_eq_true_iff.mp ok
  obtain rfl : len = 3 := Nat.eq_of_beq_eq_true ok1
  obtain ⟨hc10, hkN, hlk⟩ := xFL_ok _ (contains_mem ok2)
  dsimp only at hc10 hkN hlk
  simp only [xins] at h
  split at h
  · rename_i v a r
    split at h
    · rename_i q1 q2 hq
      cases hb : (Nat.beq q1 (op / 64) && (!(xT (op / 64) (op % 64)).2.2.2 || (Nat.beq mk 2 && Nat.beq own (op / 64)))) with
      | false => rw [hb] at h; cases h
      | true =>
        rw [hb] at h
        simp only [cond_true] at h
        split at h
        · rename_i M' hM
          cases h
          obtain ⟨hb1, hb2⟩ := Bool.and_eq_true_iff.mp hb
          obtain rfl := Nat.eq_of_beq_eq_true hb1
          obtain ⟨e1, e2, e3, e4, e5, e6⟩ := xfw_eq (xGr G) hM
          have hfin : (xT (op / 64) (op % 64)).2.2.2 = false ∨ (meth.name = "<init>" ∧ (xT (op / 64) (op % 64)).1 = xnm own) := by
            rcases Bool.or_eq_true_iff.mp hb2 with z | z
            · exact Or.inl (by simpa using z)
            · obtain ⟨z1, z2⟩ := Bool.and_eq_true_iff.mp z
              exact Or.inr ⟨hin (Nat.eq_of_beq_eq_true z1), by rw [xdecl _ hc10 _ hkN, Nat.eq_of_beq_eq_true z2]⟩
          refine xs_wr k hq e1 e2 (fun H locs LS cells slots ha g1 kk => ?_)
          have hlt := xlay_lt g1 hq
          simp only [List.map_cons]
          rw [show xv (xGr G) (Value.ref a) = .ref (G.1 + a) from congrArg Value.ref (xGr_lt hlt)]
          rw [xE_obj (q := (op / 64, q2)) hc10] at ha
          refine xr_put (D := G.2.2.2.2.1) (ci := op / 64) (C := xnm (op / 64)) (T := xT (op / 64)) (N := xN (op / 64)) hx rfl hts (xws_in hc10) (xty (op / 64)) (xty_ok _ hc10) (xnm_ok _ hc10) hown hK.1 ha (xcl_at _ hc10) (op % 64) hkN (hts _ (gws_in hlk rfl)) (fun _ h9 => h9) hfin (xty_ok _ hc10 _ hkN) e3 e4 (by simpa using hkN) hd (fun H1 i ha1 hs ho => kk H1 i ?_ hs ho)
          rw [xE_obj (q := (op / 64, q2)) hc10]
          refine cast ?_ ha1
          congr 4
          apply List.ext_getElem?
          intro j
          by_cases hj : j = op % 64
          · subst hj
            rw [List.getElem?_set_self (by simpa using hkN), xfv_get hkN, e5]
          · rw [List.getElem?_set_ne (fun z => hj z.symm)]
            by_cases hjn : j < xN (op / 64)
            · rw [xfv_get hjn, xfv_get hjn, e6 _ j hj]
            · rw [List.getElem?_eq_none (by simpa using hjn), List.getElem?_eq_none (by simpa using hjn)]
        · cases h
    · cases h
  · cases h

theorem xi_getstatic (x : Nat) (Bd : xBd p R s m args meth c G n0 t0 own mk lim) (hd : decode c.code pc = .ok (.getstatic x, len)) (ok : xokI own c.maxLocals pc (.getstatic x) len op = true) (h : xins own mk lim (.getstatic x) len op pc ls st M = some S) (k : xPW p l e R s m args below meth c Qw G n0 t0 S.1 S.2.1 S.2.2.1 S.2.2.2) : xPW p l e R s m args below meth c Qw G n0 t0 pc ls st M := by
  obtain ⟨hx, hown, hts, hK, hin, hlim, hfr, hlo⟩ := Bd
  obtain ⟨ok1, ok2⟩ := Bool.and_eq_true_iff.mp ok
  obtain rfl : len = 3 := Nat.eq_of_beq_eq_true ok1
  obtain ⟨h1, h4, hlk⟩ := xSL_ok _ (contains_mem ok2)
  dsimp only at h1 h4 hlk
  cases h
  refine xs_go k (fun H locs LS cells slots _ hF _ w => ?_)
  have hZ := (hK.2.2.2.2 op h1 h4).kept (fun a _ g => hF a (Nat.not_le.mp g))
  obtain ⟨cf, kf, fi, f, a, cell, z1, z2, z3, z4, z5, z6, z7, z8⟩ := hZ
  simp only [List.map_cons, xv, xGr_fx] at w
  exact va_WgetsN hx rfl hown (va_Nw.use rfl (hK.2.1 _ hlk rfl)) z1 z2 z3 z4 z5 (fun e => by rw [e] at z6; cases z6) z7 rfl hd w

theorem xi_new (x : Nat) (Bd : xBd p R s m args meth c G n0 t0 own mk lim) (hd : decode c.code pc = .ok (.new x, len)) (ok : xokI own c.maxLocals pc (.new x) len op = true) (h : xins own mk lim (.new x) len op pc ls st M = some S) (k : xPW p l e R s m args below meth c Qw G n0 t0 S.1 S.2.1 S.2.2.1 S.2.2.2) : xPW p l e R s m args below meth c Qw G n0 t0 pc ls st M := by
  obtain ⟨hx, hown, hts, hK, hin, hlim, hfr, hlo⟩ := Bd
  obtain ⟨ok1, ok2⟩ := Bool.and_eq_true_iff.mp ok
  obtain rfl : len = 3 := Nat.eq_of_beq_eq_true ok1
  obtain ⟨hc10, hl1, hl2, hl3⟩ := xCL_ok _ (contains_mem ok2)
  dsimp only at hc10 hl1 hl2 hl3
  simp only [xins] at h
  split at h
  · rename_i M' hM
    cases h
    obtain ⟨rfl, m1, m2, m3⟩ := xmk_eq hM
    refine xs_new hlim m1 m2 m3 k (fun H locs LS cells slots hc hs hsz kk => ?_)
    have hKn := hK.1.1 op _ (xcl_at _ hc10)
    refine W.newcK hx rfl hown (hts _ (gws_in hl1 rfl)) (hts _ (gws_in hl2 rfl)) (hts _ (gws_in hl3 rfl)) rfl hd hc hs hKn.2.1 rfl fun H1 kC hkC e1 z1 o1 => kk H1 ?_ z1 o1
    rw [xE_obj (q := (op, xN op)) hc10, ← hsz]
    refine ⟨_, xcl_at _ hc10, (u_born (xty op) hts (xws_in hc10) hKn hkC e1 (xty_ok _ hc10)).to fun j hj => ?_⟩
    simp only [vp_V, List.getD_eq_getElem?_getD]
    rw [xfv_get hj]
    obtain ⟨lay, mr, mi, ml⟩ := M
    have hz : ∀ ty : FieldType, (ty = .int ∨ ty = .boolean ∨ ty = .long ∨ (∃ n, ty = .object n) ∨ ∃ t, ty = .array t) → defaultValue ty = xv (xGr G) (xfv ty (xnew (lay, mr, mi, ml) op (xN op)) lay.length j) := by
      rintro ty (rfl | rfl | rfl | ⟨n, rfl⟩ | ⟨n, rfl⟩) <;> simp only [xnew, xfv, va_up_self, xrv, xv, defaultValue]
    exact hz _ (xty_kind _ hc10 j hj)
  · cases h

theorem xnewcell {G : xG} {M : xM} {kind n : Nat} : True := trivial

theorem xi_newarray (t : ArrayType) (Bd : xBd p R s m args meth c G n0 t0 own mk lim) (hd : decode c.code pc = .ok (.newarray t, len)) (ok : xokI own c.maxLocals pc (.newarray t) len op = true) (h : xins own mk lim (.newarray t) len op pc ls st M = some S) (k : xPW p l e R s m args below meth c Qw G n0 t0 S.1 S.2.1 S.2.2.1 S.2.2.2) : xPW p l e R s m args below meth c Qw G n0 t0 pc ls st M := by
  obtain ⟨hx, hown, hts, hK, hin, hlim, hfr, hlo⟩ := Bd
  obtain ⟨ok1, ok2⟩ := Bool.and_eq_true_iff.mp ok
  obtain rfl : len = 2 := Nat.eq_of_beq_eq_true ok1
  simp only [xins] at h
  split at h
  · rename_i n r
    cases hb : (!(decide (n < 0)) && Nat.ble (n.toNatClampNeg * 8) 536870912) with
    | false => rw [hb] at h; cases h
    | true =>
      rw [hb] at h
      simp only [cond_true] at h
      obtain ⟨hb1, hb2⟩ := Bool.and_eq_true_iff.mp hb
      have hn : ¬ n < 0 := by simpa using hb1
      have hbt := Nat.le_of_ble_eq_true hb2
      split at h
      · rename_i M' hM
        cases h
        obtain ⟨rfl, m1, m2, m3⟩ := xmk_eq hM
        refine xs_new hlim m1 m2 m3 k (fun H locs LS cells slots hc hs hsz kk => ?_)
        obtain ⟨lay, mr, mi, ml⟩ := M
        cases t with
        | int =>
          obtain rfl := Nat.eq_of_beq_eq_true ok2
          refine va_newaK (atype := .int) hx rfl (hts _ (gws_in xac_int rfl)) rfl hd rfl hn rfl (by show n.toNatClampNeg * 4 ≤ _; omega) hc hs rfl fun H1 cA e1 z1 o1 _ hNm => kk H1 ?_ z1 o1
          obtain rfl : G.2.2.2.2.2 0 = cA := Option.some.inj ((hK.1.2 0 _ rfl).2.symm.trans hNm)
          rw [xE20, ← hsz]
          show H1[H.size]? = some (vp_cell _ _)
          rw [vp_cell_i, e1]
          simp only [xnew, va_up_self]; rfl
        | long =>
          obtain rfl := Nat.eq_of_beq_eq_true ok2
          refine va_newaK (atype := .long) hx rfl (hts _ (gws_in xac_long rfl)) rfl hd rfl hn rfl (by show n.toNatClampNeg * 8 ≤ _; omega) hc hs rfl fun H1 cA e1 z1 o1 _ hNm => kk H1 ?_ z1 o1
          obtain rfl : G.2.2.2.2.2 1 = cA := Option.some.inj ((hK.1.2 1 _ rfl).2.symm.trans hNm)
          rw [xE21, ← hsz]
          show H1[H.size]? = some (vp_cell _ _)
          rw [vp_cell_l, e1]
          simp only [xnew, va_up_self]; rfl
        | boolean =>
          obtain rfl := Nat.eq_of_beq_eq_true ok2
          refine va_newaK (atype := .boolean) hx rfl (hts _ (gws_in xac_boolean rfl)) rfl hd rfl hn rfl (by show n.toNatClampNeg * 1 ≤ _; omega) hc hs rfl fun H1 cA e1 z1 o1 _ hNm => kk H1 ?_ z1 o1
          obtain rfl : G.2.2.2.2.2 2 = cA := Option.some.inj ((hK.1.2 2 _ rfl).2.symm.trans hNm)
          rw [xE22, ← hsz]
          show H1[H.size]? = some (vp_cell _ _)
          rw [vp_cell_i, e1]
          simp only [xnew, va_up_self]; rfl
        | _ => cases ok2
      · cases h
  · cases h

theorem xi_anewarray (x : Nat) (Bd : xBd p R s m args meth c G n0 t0 own mk lim) (hd : decode c.code pc = .ok (.anewarray x, len)) (ok : xokI own c.maxLocals pc (.anewarray x) len op = true) (h : xins own mk lim (.anewarray x) len op pc ls st M = some S) (k : xPW p l e R s m args below meth c Qw G n0 t0 S.1 S.2.1 S.2.2.1 S.2.2.2) : xPW p l e R s m args below meth c Qw G n0 t0 pc ls st M := by
  obtain ⟨hx, hown, hts, hK, hin, hlim, hfr, hlo⟩ := Bd
  obtain ⟨ok1, ok2⟩ := Bool.and_eq_true_iff.mp ok
  obtain rfl : len = 3 := Nat.eq_of_beq_eq_true ok1
  obtain ⟨hkd, hl1⟩ := xAL_ok _ (contains_mem ok2)
  dsimp only at hkd hl1
  simp only [xins] at h
  split at h
  · rename_i n r
    cases hb : (!(decide (n < 0)) && Nat.ble (n.toNatClampNeg * 8) 536870912) with
    | false => rw [hb] at h; cases h
    | true =>
      rw [hb] at h
      simp only [cond_true] at h
      obtain ⟨hb1, hb2⟩ := Bool.and_eq_true_iff.mp hb
      have hn : ¬ n < 0 := by simpa using hb1
      have hbt := Nat.le_of_ble_eq_true hb2
      split at h
      · rename_i M' hM
        cases h
        obtain ⟨rfl, m1, m2, m3⟩ := xmk_eq hM
        refine xs_new hlim m1 m2 m3 k (fun H locs LS cells slots hc hs hsz kk => ?_)
        obtain ⟨lay, mr, mi, ml⟩ := M
        rcases hkd with rfl | rfl
        · refine W.anew hx rfl hown (hts _ (gws_in hl1 rfl)) (va_AO.use hK.2.2.1.1) rfl hd rfl hn (by omega) hc hs fun cA kA comp f1 f2 f3 f4 => kk _ ?_ (by rw [Array.size_push]) (fun q hq => by rw [Array.getElem?_push, if_neg (Nat.ne_of_lt hq)])
          obtain ⟨_, _, _, _, _, hNm⟩ := (hK.1.2 3 _ rfl).2
          obtain rfl : G.2.2.2.2.2 3 = cA := Option.some.inj (hNm.symm.trans f1)
          rw [xE23, ← hsz]
          show (Array.push H _)[H.size]? = some (vp_cell _ _)
          rw [Array.getElem?_push_size, vp_cell_q, arrV_new]
          simp only [xnew, va_up_self]; rfl
        · refine W.anew hx rfl hown (hts _ (gws_in hl1 rfl)) (va_AO.use hK.2.2.1.2) rfl hd rfl hn (by omega) hc hs fun cA kA comp f1 f2 f3 f4 => kk _ ?_ (by rw [Array.size_push]) (fun q hq => by rw [Array.getElem?_push, if_neg (Nat.ne_of_lt hq)])
          obtain ⟨_, _, _, _, _, hNm⟩ := (hK.1.2 4 _ rfl).2
          obtain rfl : G.2.2.2.2.2 4 = cA := Option.some.inj (hNm.symm.trans f1)
          rw [xE24, ← hsz]
          show (Array.push H _)[H.size]? = some (vp_cell _ _)
          rw [Array.getElem?_push_size, vp_cell_q, arrV_new]
          simp only [xnew, va_up_self]; rfl
      · cases h
  · cases h

end XINS
end
section
theorem xoi_inst : Jvm.Cond.instanceMethod objectInit ∈ lw_tbl := by decide +kernel
set_option maxRecDepth 100000 in
theorem xoi_code : Jvm.Cond.code objectInit ⟨#[0xb1]⟩ 1 none ∈ lw_tbl := List.mem_of_getElem? (i := 65) rfl
section XINS
variable {p : Program} {l : Launch} {e : Env} {R : Room} {s : State} {m : MethodId} {args : Array Value} {below : List Frame} {meth : Method} {c : Code} {Qw : State → Prop} {G : xG} {n0 t0 : Nat} {own mk : Nat} {lim : Nat × Nat} {len op pc : Nat} {ls : xL} {st : List Value} {M : xM} {S : xS}

theorem xU_ne {α : Type} {f : Nat → Nat → α} {a k : Nat} {v : α} {x : Nat} (h : x ≠ a) : xU f a k v x = f x := va_up_ne f _ h
theorem xU_at {α : Type} {f : Nat → Nat → α} {a k : Nat} {v : α} : xU f a k v a = va_up (f a) k v := va_up_self f a _

theorem xar_cases {M : xM} {a q1 q2 : Nat} (h : xar M a = some (q1, q2)) : (a < 1000 ∧ M.1[a]? = some (q1, q2)) ∨ (∃ k, k < 4 ∧ a = 1000 + k ∧ q1 = 20 ∧ M.2.1 1000 k = some q2) := by
  obtain ⟨lay, mr, mi, ml⟩ := M
  unfold xar at h
  cases hb : Nat.ble 1000 a with
  | false =>
    rw [hb] at h
    refine Or.inl ⟨?_, h⟩
    rcases Nat.lt_or_ge a 1000 with z | z
    · exact z
    · rw [Nat.ble_eq_true_of_le z] at hb; cases hb
  | true =>
    rw [hb] at h
    have h1 := Nat.le_of_ble_eq_true hb
    simp only [cond_true] at h
    cases hb2 : Nat.ble a 1003 with
    | false => rw [hb2] at h; cases h
    | true =>
      rw [hb2] at h
      have h2 := Nat.le_of_ble_eq_true hb2
      simp only [cond_true] at h
      split at h
      · rename_i n hn
        cases h
        exact Or.inr ⟨a - 1000, by omega, by omega, rfl, hn⟩
      · cases h

theorem xi_iaload  (Bd : xBd p R s m args meth c G n0 t0 own mk lim) (hd : decode c.code pc = .ok (.iaload, len)) (ok : xokI own c.maxLocals pc (.iaload) len op = true) (h : xins own mk lim (.iaload) len op pc ls st M = some S) (k : xPW p l e R s m args below meth c Qw G n0 t0 S.1 S.2.1 S.2.2.1 S.2.2.2) : xPW p l e R s m args below meth c Qw G n0 t0 pc ls st M := by
  obtain ⟨hx, hown, hts, hK, hin, hlim, hfr, hlo⟩ := Bd
  obtain rfl : len = 1 := Nat.eq_of_beq_eq_true ok
  simp only [xins] at h
  split at h
  · rename_i j a r
    split at h
    · rename_i q1 q2 hq
      cases hb : (Nat.beq q1 20 && xin j q2) with
      | false => rw [hb] at h; cases h
      | true =>
        rw [hb] at h
        cases h
        obtain ⟨hb1, hb2⟩ := Bool.and_eq_true_iff.mp hb
        obtain rfl := Nat.eq_of_beq_eq_true hb1
        refine xs_go k (fun H locs LS cells slots g1 hF _ w => ?_)
        rcases xar_cases hq with ⟨hlt, hq⟩ | ⟨z, hz4, rfl, -, hz⟩
        · have ha := g1.2.2.1 a _ hq
          rw [xE20] at ha
          simp only [List.map_cons, xv, xGr_lt hlt] at w ⊢
          exact va_iald hx rfl hK.1 (va_one ha) 0 0 rfl rfl (xin_in hb2) hd w
        · obtain ⟨cell, c1, c2, c3, c4, c5, c6, c7⟩ := xfix hK hF hz4
          obtain ⟨m1, m2⟩ := g1.2.2.2 z hz4
          obtain rfl : G.2.2.1 z = q2 := Option.some.inj (m1.symm.trans hz)
          have hi := xin_in hb2
          have hlt : j.toNatClampNeg < G.2.2.1 z := Nat.not_le.mp fun q => hi (Or.inr q)
          simp only [List.map_cons, xv, xGr_fx, m2] at w ⊢
          exact W.iald hx rfl c1 c2 c3 (fun q => q.elim (fun q => hi (Or.inl q)) (fun q => by omega)) (c6 _ hlt) rfl rfl hd w
    · cases h
  · cases h

theorem xi_baload  (Bd : xBd p R s m args meth c G n0 t0 own mk lim) (hd : decode c.code pc = .ok (.baload, len)) (ok : xokI own c.maxLocals pc (.baload) len op = true) (h : xins own mk lim (.baload) len op pc ls st M = some S) (k : xPW p l e R s m args below meth c Qw G n0 t0 S.1 S.2.1 S.2.2.1 S.2.2.2) : xPW p l e R s m args below meth c Qw G n0 t0 pc ls st M := by
  obtain ⟨hx, hown, hts, hK, hin, hlim, hfr, hlo⟩ := Bd
  obtain rfl : len = 1 := Nat.eq_of_beq_eq_true ok
  simp only [xins] at h
  split at h
  · rename_i j a r
    split at h
    · rename_i q1 q2 hq
      cases hb : (Nat.beq q1 22 && xin j q2) with
      | false => rw [hb] at h; cases h
      | true =>
        rw [hb] at h
        cases h
        obtain ⟨hb1, hb2⟩ := Bool.and_eq_true_iff.mp hb
        obtain rfl := Nat.eq_of_beq_eq_true hb1
        refine xs_go k (fun H locs LS cells slots g1 hF _ w => ?_)
        have hlt := xlay_lt g1 hq
        have ha := g1.2.2.1 a _ hq
        rw [xE22] at ha
        simp only [List.map_cons, xv, xGr_lt hlt] at w ⊢
        exact va_zald hx rfl hK.1 (va_one ha) 0 2 rfl rfl (xin_in hb2) hd w
    · cases h
  · cases h

theorem xi_laload  (Bd : xBd p R s m args meth c G n0 t0 own mk lim) (hd : decode c.code pc = .ok (.laload, len)) (ok : xokI own c.maxLocals pc (.laload) len op = true) (h : xins own mk lim (.laload) len op pc ls st M = some S) (k : xPW p l e R s m args below meth c Qw G n0 t0 S.1 S.2.1 S.2.2.1 S.2.2.2) : xPW p l e R s m args below meth c Qw G n0 t0 pc ls st M := by
  obtain ⟨hx, hown, hts, hK, hin, hlim, hfr, hlo⟩ := Bd
  obtain rfl : len = 1 := Nat.eq_of_beq_eq_true ok
  simp only [xins] at h
  split at h
  · rename_i j a r
    split at h
    · rename_i q1 q2 hq
      cases hb : (Nat.beq q1 21 && xin j q2) with
      | false => rw [hb] at h; cases h
      | true =>
        rw [hb] at h
        cases h
        obtain ⟨hb1, hb2⟩ := Bool.and_eq_true_iff.mp hb
        obtain rfl := Nat.eq_of_beq_eq_true hb1
        refine xs_go k (fun H locs LS cells slots g1 hF _ w => ?_)
        have hlt := xlay_lt g1 hq
        have ha := g1.2.2.1 a _ hq
        rw [xE21] at ha
        simp only [List.map_cons, xv, xGr_lt hlt] at w ⊢
        exact va_lald hx rfl hK.1 (va_one ha) 0 1 rfl rfl (xin_in hb2) hd w
    · cases h
  · cases h

theorem xi_aaload  (Bd : xBd p R s m args meth c G n0 t0 own mk lim) (hd : decode c.code pc = .ok (.aaload, len)) (ok : xokI own c.maxLocals pc (.aaload) len op = true) (h : xins own mk lim (.aaload) len op pc ls st M = some S) (k : xPW p l e R s m args below meth c Qw G n0 t0 S.1 S.2.1 S.2.2.1 S.2.2.2) : xPW p l e R s m args below meth c Qw G n0 t0 pc ls st M := by
  obtain ⟨hx, hown, hts, hK, hin, hlim, hfr, hlo⟩ := Bd
  obtain rfl : len = 1 := Nat.eq_of_beq_eq_true ok
  simp only [xins] at h
  split at h
  · rename_i j a r
    split at h
    · rename_i q1 q2 hq
      cases hb : ((Nat.beq q1 23 || Nat.beq q1 24) && xin j q2) with
      | false => rw [hb] at h; cases h
      | true =>
        rw [hb] at h
        cases h
        obtain ⟨hb1, hb2⟩ := Bool.and_eq_true_iff.mp hb
        refine xs_go k (fun H locs LS cells slots g1 hF _ w => ?_)
        have hlt := xlay_lt g1 hq
        have ha := g1.2.2.1 a _ hq
        simp only [List.map_cons, xrv_map] at w ⊢
        rw [show xv (xGr G) (Value.ref a) = .ref (G.1 + a) from congrArg Value.ref (xGr_lt hlt)]
        rcases Bool.or_eq_true_iff.mp hb1 with hb1 | hb1
        · obtain rfl := Nat.eq_of_beq_eq_true hb1
          rw [xE23] at ha
          exact va_aldq hx rfl hK.1 (va_one ha) 0 3 rfl rfl (xin_in hb2) hd w
        · obtain rfl := Nat.eq_of_beq_eq_true hb1
          rw [xE24] at ha
          exact va_aldq hx rfl hK.1 (va_one ha) 0 4 rfl rfl (xin_in hb2) hd w
    · cases h
  · cases h

theorem xi_arraylength  (Bd : xBd p R s m args meth c G n0 t0 own mk lim) (hd : decode c.code pc = .ok (.arraylength, len)) (ok : xokI own c.maxLocals pc (.arraylength) len op = true) (h : xins own mk lim (.arraylength) len op pc ls st M = some S) (k : xPW p l e R s m args below meth c Qw G n0 t0 S.1 S.2.1 S.2.2.1 S.2.2.2) : xPW p l e R s m args below meth c Qw G n0 t0 pc ls st M := by
  obtain ⟨hx, hown, hts, hK, hin, hlim, hfr, hlo⟩ := Bd
  obtain rfl : len = 1 := Nat.eq_of_beq_eq_true ok
  simp only [xins] at h
  split at h
  · rename_i a r
    split at h
    · rename_i q1 q2 hq
      cases hb : (Nat.ble 20 q1 && Nat.ble q1 24) with
      | false => rw [hb] at h; cases h
      | true =>
        rw [hb] at h
        cases h
        obtain ⟨hb1, hb2⟩ := Bool.and_eq_true_iff.mp hb
        have hb1 := Nat.le_of_ble_eq_true hb1
        have hb2 := Nat.le_of_ble_eq_true hb2
        refine xs_go k (fun H locs LS cells slots g1 hF _ w => ?_)
        rcases xar_cases hq with ⟨hlt, hq⟩ | ⟨z, hz4, rfl, -, hz⟩
        · have ha := g1.2.2.1 a _ hq
          simp only [List.map_cons, xv, xGr_lt hlt] at w ⊢
          rcases (show q1 = 20 ∨ q1 = 21 ∨ q1 = 22 ∨ q1 = 23 ∨ q1 = 24 by omega) with rfl | rfl | rfl | rfl | rfl
          · exact va_alen hx rfl hK.1 (va_one ha) 0 0 rfl rfl rfl hd w
          · exact va_alen hx rfl hK.1 (va_one ha) 0 1 rfl rfl rfl hd w
          · exact va_alen hx rfl hK.1 (va_one ha) 0 2 rfl rfl rfl hd w
          · exact va_alen hx rfl hK.1 (va_one ha) 0 3 rfl rfl rfl hd w
          · exact va_alen hx rfl hK.1 (va_one ha) 0 4 rfl rfl rfl hd w
        · obtain ⟨cell, c1, c2, c3, c4, c5, c6, c7⟩ := xfix hK hF hz4
          obtain ⟨m1, m2⟩ := g1.2.2.2 z hz4
          obtain rfl : G.2.2.1 z = q2 := Option.some.inj (m1.symm.trans hz)
          simp only [List.map_cons, xv, xGr_fx] at w ⊢
          exact W.alen hx rfl c1 c2 c5 rfl rfl hd w
    · cases h
  · cases h

theorem xi_iastore  (Bd : xBd p R s m args meth c G n0 t0 own mk lim) (hd : decode c.code pc = .ok (.iastore, len)) (ok : xokI own c.maxLocals pc (.iastore) len op = true) (h : xins own mk lim (.iastore) len op pc ls st M = some S) (k : xPW p l e R s m args below meth c Qw G n0 t0 S.1 S.2.1 S.2.2.1 S.2.2.2) : xPW p l e R s m args below meth c Qw G n0 t0 pc ls st M := by
  obtain ⟨hx, hown, hts, hK, hin, hlim, hfr, hlo⟩ := Bd
  obtain rfl : len = 1 := Nat.eq_of_beq_eq_true ok
  simp only [xins] at h
  split at h
  · rename_i x j a r
    split at h
    · rename_i q1 q2 hq
      cases hb : (Nat.beq q1 20 && xin j q2) with
      | false => rw [hb] at h; cases h
      | true =>
        rw [hb] at h
        cases h
        obtain ⟨hb1, hb2⟩ := Bool.and_eq_true_iff.mp hb
        obtain rfl := Nat.eq_of_beq_eq_true hb1
        obtain ⟨lay, mr, mi, ml⟩ := M
        refine xs_wr k hq rfl (fun y hy => ⟨rfl, xU_ne hy, rfl⟩) (fun H locs LS cells slots ha g1 kk => ?_)
        have hlt := xlay_lt g1 hq
        simp only [List.map_cons, xv, xGr_lt hlt]
        rw [xE20] at ha
        refine xr_iast hx rfl hK.1 0 ha rfl (xin_in hb2) hd (fun H1 i ha1 hs ho => kk H1 i ?_ hs ho)
        rw [xE20]
        simp only [xwi, xU_at]
        exact ha1
    · cases h
  · cases h

theorem xi_bastore  (Bd : xBd p R s m args meth c G n0 t0 own mk lim) (hd : decode c.code pc = .ok (.bastore, len)) (ok : xokI own c.maxLocals pc (.bastore) len op = true) (h : xins own mk lim (.bastore) len op pc ls st M = some S) (k : xPW p l e R s m args below meth c Qw G n0 t0 S.1 S.2.1 S.2.2.1 S.2.2.2) : xPW p l e R s m args below meth c Qw G n0 t0 pc ls st M := by
  obtain ⟨hx, hown, hts, hK, hin, hlim, hfr, hlo⟩ := Bd
  obtain rfl : len = 1 := Nat.eq_of_beq_eq_true ok
  simp only [xins] at h
  split at h
  · rename_i x j a r
    split at h
    · rename_i q1 q2 hq
      cases hb : (Nat.beq q1 22 && xin j q2 && xz x) with
      | false => rw [hb] at h; cases h
      | true =>
        rw [hb] at h
        cases h
        obtain ⟨hb0, hb3⟩ := Bool.and_eq_true_iff.mp hb
        obtain ⟨hb1, hb2⟩ := Bool.and_eq_true_iff.mp hb0
        obtain rfl := Nat.eq_of_beq_eq_true hb1
        obtain ⟨lay, mr, mi, ml⟩ := M
        refine xs_wr k hq rfl (fun y hy => ⟨rfl, xU_ne hy, rfl⟩) (fun H locs LS cells slots ha g1 kk => ?_)
        have hlt := xlay_lt g1 hq
        simp only [List.map_cons, xv, xGr_lt hlt]
        rw [xE22] at ha
        refine xr_zast hx rfl hK.1 2 ha rfl (xin_in hb2) (xz_narrow hb3).1 hd (fun H1 i ha1 hs ho => kk H1 i ?_ hs ho)
        rw [xE22]
        simp only [xwi, xU_at]
        exact ha1
    · cases h
  · cases h

theorem xi_lastore  (Bd : xBd p R s m args meth c G n0 t0 own mk lim) (hd : decode c.code pc = .ok (.lastore, len)) (ok : xokI own c.maxLocals pc (.lastore) len op = true) (h : xins own mk lim (.lastore) len op pc ls st M = some S) (k : xPW p l e R s m args below meth c Qw G n0 t0 S.1 S.2.1 S.2.2.1 S.2.2.2) : xPW p l e R s m args below meth c Qw G n0 t0 pc ls st M := by
  obtain ⟨hx, hown, hts, hK, hin, hlim, hfr, hlo⟩ := Bd
  obtain rfl : len = 1 := Nat.eq_of_beq_eq_true ok
  simp only [xins] at h
  split at h
  · rename_i x j a r
    split at h
    · rename_i q1 q2 hq
      cases hb : (Nat.beq q1 21 && xin j q2) with
      | false => rw [hb] at h; cases h
      | true =>
        rw [hb] at h
        cases h
        obtain ⟨hb1, hb2⟩ := Bool.and_eq_true_iff.mp hb
        obtain rfl := Nat.eq_of_beq_eq_true hb1
        obtain ⟨lay, mr, mi, ml⟩ := M
        refine xs_wr k hq rfl (fun y hy => ⟨rfl, rfl, xU_ne hy⟩) (fun H locs LS cells slots ha g1 kk => ?_)
        have hlt := xlay_lt g1 hq
        simp only [List.map_cons, xv, xGr_lt hlt]
        rw [xE21] at ha
        refine xr_last hx rfl hK.1 1 ha rfl (xin_in hb2) hd (fun H1 i ha1 hs ho => kk H1 i ?_ hs ho)
        rw [xE21]
        simp only [xwl, xU_at]
        exact ha1
    · cases h
  · cases h

theorem xi_aastore  (Bd : xBd p R s m args meth c G n0 t0 own mk lim) (hd : decode c.code pc = .ok (.aastore, len)) (ok : xokI own c.maxLocals pc (.aastore) len op = true) (h : xins own mk lim (.aastore) len op pc ls st M = some S) (k : xPW p l e R s m args below meth c Qw G n0 t0 S.1 S.2.1 S.2.2.1 S.2.2.2) : xPW p l e R s m args below meth c Qw G n0 t0 pc ls st M := by
  obtain ⟨hx, hown, hts, hK, hin, hlim, hfr, hlo⟩ := Bd
  obtain rfl : len = 1 := Nat.eq_of_beq_eq_true ok
  simp only [xins] at h
  split at h
  · rename_i b j a r
    split at h
    · rename_i q1 q2 o1 o2 hq ho
      cases hb : (Nat.ble 23 q1 && Nat.ble q1 24 && Nat.beq (xcomp q1) o1 && xin j q2) with
      | false => rw [hb] at h; cases h
      | true =>
        rw [hb] at h
        cases h
        simp only [Bool.and_eq_true] at hb
        obtain ⟨⟨⟨hb1, hb2⟩, hb3⟩, hb4⟩ := hb
        have hb1 := Nat.le_of_ble_eq_true hb1
        have hb2 := Nat.le_of_ble_eq_true hb2
        obtain rfl := Nat.eq_of_beq_eq_true hb3
        obtain ⟨lay, mr, mi, ml⟩ := M
        refine xs_wr k hq rfl (fun y hy => ⟨xU_ne hy, rfl, rfl⟩) (fun H locs LS cells slots ha g1 kk => ?_)
        have hlt := xlay_lt g1 hq
        have hlb := xlay_lt g1 ho
        have hvb := g1.2.2.1 b _ ho
        have hcm : xcomp q1 < 10 := by rcases (show q1 = 23 ∨ q1 = 24 by omega) with rfl | rfl <;> decide
        rw [xE_obj (q := (xcomp q1, o2)) hcm] at hvb
        simp only [List.map_cons, xv, xGr_lt hlt, xGr_lt hlb]
        rcases (show q1 = 23 ∨ q1 = 24 by omega) with rfl | rfl
        · rw [xE23] at ha
          refine xr_aast hx rfl hK.1 3 (xcomp 23) ha (r := (xnm (xcomp 23), xT (xcomp 23), xN (xcomp 23))) rfl hvb (xcl_at _ hcm) (xin_in hb4) hd (fun H1 i ha1 hs ho => kk H1 i ?_ hs ho)
          rw [xE23]
          simp only [xwr, xU_at]
          rw [← xGr_lt hlb] at ha1
          refine cast ?_ ha1
          congr 9
          funext z
          by_cases hz : z = j.toNatClampNeg
          · subst hz; rw [va_up_self, va_up_self]; rfl
          · rw [va_up_ne _ _ hz, va_up_ne _ _ hz]
        · rw [xE24] at ha
          refine xr_aast hx rfl hK.1 4 (xcomp 24) ha (r := (xnm (xcomp 24), xT (xcomp 24), xN (xcomp 24))) rfl hvb (xcl_at _ hcm) (xin_in hb4) hd (fun H1 i ha1 hs ho => kk H1 i ?_ hs ho)
          rw [xE24]
          simp only [xwr, xU_at]
          rw [← xGr_lt hlb] at ha1
          refine cast ?_ ha1
          congr 9
          funext z
          by_cases hz : z = j.toNatClampNeg
          · subst hz; rw [va_up_self, va_up_self]; rfl
          · rw [va_up_ne _ _ hz, va_up_ne _ _ hz]
    · cases h
  · cases h

theorem xi_objinit (x : Nat) (Bd : xBd p R s m args meth c G n0 t0 own mk lim) (hd : decode c.code pc = .ok (.invokespecial x, len)) (ok : xokI own c.maxLocals pc (.invokespecial x) len op = true) (h : xins own mk lim (.invokespecial x) len op pc ls st M = some S) (k : xPW p l e R s m args below meth c Qw G n0 t0 S.1 S.2.1 S.2.2.1 S.2.2.2) : xPW p l e R s m args below meth c Qw G n0 t0 pc ls st M := by
  obtain ⟨hx, hown, hts, hK, hin, hlim, hfr, hlo⟩ := Bd
  obtain ⟨ok1, ok2⟩ := Bool.and_eq_true_iff.mp ok
  obtain rfl : len = 3 := Nat.eq_of_beq_eq_true ok1
  simp only [xins] at h
  split at h
  · rename_i a r
    cases hb : (Nat.beq op 9999 && xroom 8 r) with
    | false => rw [hb] at h; cases h
    | true =>
      rw [hb] at h
      cases h
      obtain ⟨hb1, hb2⟩ := Bool.and_eq_true_iff.mp hb
      rw [hb1] at ok2
      have hl := xOL_ok _ (contains_mem ok2)
      have hsum := xroom_sum (xGr G) hb2
      refine xs_go k (fun H locs LS cells slots g1 hF hl4 w => ?_)
      refine W.objInit hx rfl hown (hts _ (gws_in hl rfl)) (hts _ (gws_in xoi_inst rfl)) (hts _ (gws_in xoi_code rfl)) rfl hl4.1 rfl hd hfr ?_ w
      show 2 * 0 + _ + 12 ≤ _
      omega
  · cases h

end XINS
end
section
theorem xtab_ownB : xtab.all (fun y => Nat.blt y.1 14) = true := by decide +kernel
theorem xtab_own (y : xMt) (h : y ∈ xtab) : y.1 < 14 := Nat.le_of_ble_eq_true (List.all_eq_true.mp xtab_ownB y h)
section XINS
variable {p : Program} {l : Launch} {e : Env} {R : Room} {s : State} {m : MethodId} {args : Array Value} {below : List Frame} {meth : Method} {c : Code} {Qw : State → Prop} {G : xG} {n0 t0 : Nat} {own mk : Nat} {lim : Nat × Nat} {len op pc : Nat} {ls : xL} {st : List Value} {M : xM} {S : xS}

theorem x_ins (Bd : xBd p R s m args meth c G n0 t0 own mk lim) {i : Instr} (hd : decode c.code pc = .ok (i, len)) (ok : xokI own c.maxLocals pc i len op = true) (h : xins own mk lim i len op pc ls st M = some S) (k : xPW p l e R s m args below meth c Qw G n0 t0 S.1 S.2.1 S.2.2.1 S.2.2.2) : xPW p l e R s m args below meth c Qw G n0 t0 pc ls st M := by
  cases i with
  | iadd => exact xi_iadd Bd hd ok h k
  | isub => exact xi_isub Bd hd ok h k
  | imul => exact xi_imul Bd hd ok h k
  | iand => exact xi_iand Bd hd ok h k
  | ior => exact xi_ior Bd hd ok h k
  | ixor => exact xi_ixor Bd hd ok h k
  | irem => exact xi_irem Bd hd ok h k
  | ladd => exact xi_ladd Bd hd ok h k
  | lsub => exact xi_lsub Bd hd ok h k
  | lmul => exact xi_lmul Bd hd ok h k
  | land => exact xi_land Bd hd ok h k
  | lor => exact xi_lor Bd hd ok h k
  | lxor => exact xi_lxor Bd hd ok h k
  | lneg => exact xi_lneg Bd hd ok h k
  | lshl => exact xi_lshl Bd hd ok h k
  | lushr => exact xi_lushr Bd hd ok h k
  | i2l => exact xi_i2l Bd hd ok h k
  | l2i => exact xi_l2i Bd hd ok h k
  | lcmp => exact xi_lcmp Bd hd ok h k
  | dup => exact xi_dup Bd hd ok h k
  | dup2 => exact xi_dup2 Bd hd ok h k
  | arraylength => exact xi_arraylength Bd hd ok h k
  | iaload => exact xi_iaload Bd hd ok h k
  | baload => exact xi_baload Bd hd ok h k
  | laload => exact xi_laload Bd hd ok h k
  | aaload => exact xi_aaload Bd hd ok h k
  | iastore => exact xi_iastore Bd hd ok h k
  | bastore => exact xi_bastore Bd hd ok h k
  | lastore => exact xi_lastore Bd hd ok h k
  | aastore => exact xi_aastore Bd hd ok h k
  | iconst n => exact xi_iconst n Bd hd ok h k
  | bipush n => exact xi_bipush n Bd hd ok h k
  | sipush n => exact xi_sipush n Bd hd ok h k
  | lconst n => exact xi_lconst n Bd hd ok h k
  | ldc2_w n => exact xi_ldc2_w n Bd hd ok h k
  | iload n => exact xi_iload n Bd hd ok h k
  | iload_n n => exact xi_iload_n n Bd hd ok h k
  | lload n => exact xi_lload n Bd hd ok h k
  | lload_n n => exact xi_lload_n n Bd hd ok h k
  | aload n => exact xi_aload n Bd hd ok h k
  | aload_n n => exact xi_aload_n n Bd hd ok h k
  | istore n => exact xi_istore n Bd hd ok h k
  | istore_n n => exact xi_istore_n n Bd hd ok h k
  | astore n => exact xi_astore n Bd hd ok h k
  | astore_n n => exact xi_astore_n n Bd hd ok h k
  | lstore n => exact xi_lstore n Bd hd ok h k
  | lstore_n n => exact xi_lstore_n n Bd hd ok h k
  | goto n => exact xi_goto n Bd hd ok h k
  | getfield n => exact xi_getfield n Bd hd ok h k
  | putfield n => exact xi_putfield n Bd hd ok h k
  | getstatic n => exact xi_getstatic n Bd hd ok h k
  | new n => exact xi_new n Bd hd ok h k
  | newarray n => exact xi_newarray n Bd hd ok h k
  | anewarray n => exact xi_anewarray n Bd hd ok h k
  | iinc n z => exact xi_iinc n z Bd hd ok h k
  | ifCond a b => exact xi_ifCond a b Bd hd ok h k
  | if_icmp a b => exact xi_if_icmp a b Bd hd ok h k
  | tableswitch a b c d => exact xi_tableswitch a b c d Bd hd ok h k
  | lookupswitch a b => exact xi_lookupswitch a b Bd hd ok h k
  | invokespecial x => exact xi_objinit x Bd hd ok h k
  | _ => exact nomatch (show (none : Option xS) = some S from h)

/-- a row of a method's code -/
theorem xat_mem {mt : xMt} {pc : Nat} {q : xI} (h : xat mt pc = some q) : ∃ b ∈ mt.2.2.2.2.2.2.2, (pc, q) ∈ b := by
  unfold xat at h
  have hl : ∀ (L : List (Nat × xI)), xlook L pc = some q → (pc, q) ∈ L := by
    intro L
    induction L with
    | nil => intro h; cases h
    | cons x t ih =>
      obtain ⟨j, v⟩ := x
      intro h
      simp only [xlook] at h
      cases hb : Nat.beq j pc with
      | true => rw [hb] at h; cases h; obtain rfl := Nat.eq_of_beq_eq_true hb; exact List.mem_cons_self
      | false => rw [hb] at h; exact List.mem_cons_of_mem _ (ih h)
  have h2 := hl _ h
  rw [List.getD_eq_getElem?_getD] at h2
  cases hb : mt.2.2.2.2.2.2.2[pc / 16]? with
  | none => rw [hb] at h2; cases h2
  | some b => rw [hb] at h2; exact ⟨b, List.mem_of_getElem? hb, h2⟩
theorem xat_ok {mt : xMt} {pc : Nat} {i : Instr} {len op : Nat} {bytes : ByteArray} {nL : Nat} (h : xat mt pc = some (i, len, op)) (hd : xdec bytes mt.2.2.2.2.2.2.2 = true) (ho : xokc mt.1 nL mt.2.2.2.2.2.2.2 = true) : decode bytes pc = .ok (i, len) ∧ xokI mt.1 nL pc i len op = true := by
  obtain ⟨b, hb, hm⟩ := xat_mem h
  have h1 := List.all_eq_true.mp (List.all_eq_true.mp hd b hb) _ hm
  have h2 := List.all_eq_true.mp (List.all_eq_true.mp ho b hb) _ hm
  exact ⟨of_decide_eq_true h1, h2⟩
def xQc (G : xG) (Q : Option Value → xM → Prop) : Array Value → State → Outcome → State → Prop := fun _ st o t =>
  ∃ (r : Option Value) (M' : xM), o = .returned (r.map (xv (xGr G))) ∧ Q r M' ∧ xHp G M' t.heap ∧ ∀ q : Nat, q < G.1 → t.heap[q]? = st.heap[q]?
def xPc (G : xG) (as : List Value) (M : xM) : Array Value → State → Prop := va_Pc (as.map (xv (xGr G))) (fun U => xHp G M U.heap ∧ xKs G U)
theorem xPc_blind (G : xG) (as : List Value) (M : xM) : FrameBlind (xPc G as M) := fun a U g mk h => ⟨h.1, h.2.1, h.2.2.moved (U := U.calling g mk a) (State.WarmedH.refl U) (fun _ _ => rfl)⟩
def xrm (d kc ks : Nat) : Room := { frames := d, cells := kc, slots := ks, locals := 36 * d }
/-- every method of the table keeps what the pure machine says of it, d calls deep -/
def xSnd (d : Nat) : Prop := ∀ (l : Launch) (G : xG) (j : Nat) (y : xMt) (as : List Value) (M : xM) (kc ks : Nat) (Q : Option Value → xM → Prop), xtab[j]? = some y → xC d j as M kc ks Q →
  Met l y.2.2.2.1 (.code y.2.2.2.1 y.2.2.2.2.1 y.2.2.2.2.2.1 y.2.2.2.2.2.2.1 :: gws) (xrm d kc ks) (xPc G as M) (xQc G (fun r M' => Q r M' ∧ M'.1.length = M.1.length + kc ∧ xsum M' = xsum M + ks)) kc ks (fun q => G.1 ≤ q)
/-- behind a call -/
theorem x_back {kc ks : Nat} {rest : List Value} {Q : Option Value → xM → Prop} {a : Array Value} {H : Heap} {locs : List Loc} {LS : Array Slot} {cells slots : Nat}
    (hr : va_Run p l e R s m args below meth c H locs cells slots kc ks (F0 m pc LS (st.map (xv (xGr G)))) (rest.map (xv (xGr G))) (xQc G (fun r M' => Q r M' ∧ M'.1.length = M.1.length + kc ∧ xsum M' = xsum M + ks) a) (fun q => G.1 ≤ q))
    (h2 : ∀ q : Nat, q < G.1 → H[q]? = s.heap[q]?) (h3 : ∀ q ∈ locs, G.1 ≤ q.base) (h4 : lv_has LS c.maxLocals (xvl (xGr G) ls)) (h5 : M.1.length = n0 + cells) (h6 : xsum M = t0 + slots)
    (k : ∀ r M', Q r M' → xPW p l e R s m args below meth c Qw G n0 t0 (pc + 3) ls (match r with
      | some v => v :: rest
      | none => rest) M') : W p l e R s m args below meth c H locs cells slots Qw (F0 m pc LS (st.map (xv (xGr G)))) := by
  intro T hT X
  obtain ⟨v, st₀, t, T', L, h0, X', hL, e1, e2, ⟨r, M', hv, ⟨hq, hlen, hsum⟩, hH, hF⟩, st⟩ := hr T hT X
  cases hv
  have hw := k r M' hq T'.heap (locs ++ L) LS (cells + kc) (slots + ks) (by rw [e1]; exact hH) (fun q hq => by rw [e1, hF q hq, h0]; exact h2 q hq) (fun q hq => (List.mem_append.mp hq).elim (h3 q) (hL q)) h4 (by omega) (by omega)
  obtain ⟨t2, a1, b1⟩ := hw T' rfl X'
  refine ⟨t2, st t2 ?_, b1⟩
  cases r <;> exact a1

theorem x_call {d : Nat} (hS : xSnd d) (Bd : xBd p R s m args meth c G n0 t0 own mk lim) (hRf : d + 1 ≤ R.frames) (hRl : 36 * d + 36 ≤ R.locals) {mt : xMt} (hown : mt.1 = own) (hdc : xdec c.code mt.2.2.2.2.2.2.2 = true) (hok : xokc mt.1 c.maxLocals mt.2.2.2.2.2.2.2 = true)
    {j : Nat} {as rest : List Value} {kc ks : Nat} {Q : Option Value → xM → Prop} (h : xcall mt (pc, ls, st, M) = some (j, as, rest)) (h1 : M.1.length + kc ≤ lim.1) (h2 : xsum M + ks ≤ lim.2) (hC : xC d j as M kc ks Q)
    (k : ∀ r M', Q r M' → xPW p l e R s m args below meth c Qw G n0 t0 (pc + 3) ls (match r with
      | some v => v :: rest
      | none => rest) M') : xPW p l e R s m args below meth c Qw G n0 t0 pc ls st M := by
  obtain ⟨hx, hown', hts, hK, hin, hlim, hfr, hlo⟩ := Bd
  subst hown
  simp only [xcall] at h
  split at h
  · rename_i i len op hat
    obtain ⟨hd, ok⟩ := xat_ok hat hdc hok
    split at h
    · rename_i yo yk ynp yy hy
      split at h
      · rename_i as' rest' hpop
        obtain ⟨tt, ht1, ht2, ht3⟩ := xpop_eq hpop
        simp only [List.append_nil] at ht2
        have hmok := xtab_ok _ (List.mem_of_getElem? hy)
        obtain ⟨k1, k2, k3, k4, k5, k6, k7, k8, k9, -, -⟩ := hmok
        dsimp only at k1 k2 k3 k4 k5 k6 k7 k8 k9
        have hG := gws_good _ (gws_in k2 rfl)
        split at h
        · -- static
          rename_i x
          cases hb : (Nat.beq yk 0 && xroom 8 rest') with
          | false => rw [hb] at h; cases h
          | true =>
            rw [hb] at h
            cases h
            obtain ⟨hb1, hb2⟩ := Bool.and_eq_true_iff.mp hb
            obtain rfl := Nat.eq_of_beq_eq_true hb1
            obtain ⟨ok1, ok2⟩ := Bool.and_eq_true_iff.mp ok
            obtain rfl : len = 3 := Nat.eq_of_beq_eq_true ok1
            have hM := hS l G j _ as M kc ks Q hy hC
            have hsum := xroom_sum (xGr G) hb2
            intro H locs LS cells slots g1 g2 g3 g4 g5 g6
            rw [hlim] at h1 h2
            have hf : cells + kc ≤ R.cells ∧ slots + ks ≤ R.slots := by dsimp only at h1 h2; omega
            have hstk : (F0 m pc LS (st.map (xv (xGr G)))).stack = (as.map (xv (xGr G))).reverse ++ rest.map (xv (xGr G)) := by
              show st.map (xv (xGr G)) = _
              rw [ht3, ht2, List.map_append, ← List.map_reverse, List.reverse_reverse]
            have hlen : (as.map (xv (xGr G))).length = ynp := by rw [List.length_map, ht2, List.length_reverse, ht1]
            have hR : (xrm d kc ks).frames + 1 ≤ R.frames ∧ 8 + (yy.2.2.1 + 11) + (xrm d kc ks).locals ≤ R.locals := ⟨hRf, by show 8 + (yy.2.2.1 + 11) + 36 * d ≤ R.locals; omega⟩
            have hP : PreS s H (xPc G as M) (as.map (xv (xGr G))) := ⟨xPc_blind G as M, fun U hU hW => ⟨rfl, by rw [hU]; exact g1, hK.moved hW (fun q hq => by rw [hU]; exact g2 q hq)⟩⟩
            refine x_back (Q := Q) (kc := kc) (ks := ks) (a := (as.map (xv (xGr G))).toArray) ?_ g2 g3 g4 g5 g6 k
            rcases Bool.or_eq_true_iff.mp ok2 with hl | hl
            · exact va_runS ⟨hx, rfl, rfl, hown', hts⟩ hM ⟨callB_of ynp hts hG rfl rfl rfl (hts _ (gws_in k3 rfl)) (hts _ (gws_in (xML_ok _ (contains_mem hl) _ hy) rfl)) k4 hR, hts _ (gws_in (k7 rfl) rfl)⟩ hP rfl hlen g4.1 hstk (lv_room hsum) hd hf
            · exact va_runSN ⟨hx, rfl, rfl, hown', hts⟩ hM ⟨va_cnB ynp hts hG rfl rfl rfl (hK.2.1 _ (xMN_ok _ (contains_mem hl) _ hy) rfl) (hts _ (gws_in k3 rfl)) k4 hR, hts _ (gws_in (k7 rfl) rfl), trivial⟩ hP rfl hlen g4.1 hstk (lv_room hsum) hd hf
        · -- virtual
          rename_i x
          split at h
          · rename_i b r
            split at h
            · rename_i o1 o2 ho
              cases hb : (Nat.beq yk 1 && Nat.beq o1 yo && xroom 8 r) with
              | false => rw [hb] at h; cases h
              | true =>
                rw [hb] at h
                cases h
                obtain ⟨hb0, hb2⟩ := Bool.and_eq_true_iff.mp hb
                obtain ⟨hb1, hb3⟩ := Bool.and_eq_true_iff.mp hb0
                obtain rfl := Nat.eq_of_beq_eq_true hb1
                obtain rfl := Nat.eq_of_beq_eq_true hb3
                obtain ⟨ok1, ok2⟩ := Bool.and_eq_true_iff.mp ok
                obtain rfl : len = 3 := Nat.eq_of_beq_eq_true ok1
                have hM := hS l G j _ (.ref b :: as') M kc ks Q hy hC
                have hsum := xroom_sum (xGr G) hb2
                intro H locs LS cells slots g1 g2 g3 g4 g5 g6
                rw [hlim] at h1 h2
                have hf : cells + kc ≤ R.cells ∧ slots + ks ≤ R.slots := by dsimp only at h1 h2; omega
                have hlt := xlay_lt g1 ho
                have hrb : xv (xGr G) (Value.ref b) = .ref (G.1 + b) := congrArg Value.ref (xGr_lt hlt)
                have hstk : (F0 m pc LS (st.map (xv (xGr G)))).stack = (as'.map (xv (xGr G))).reverse ++ .ref (G.1 + b) :: rest.map (xv (xGr G)) := by
                  show st.map (xv (xGr G)) = _
                  rw [ht3, ht2, List.map_append, ← List.map_reverse, List.reverse_reverse, List.map_cons, hrb]
                have hlen : (as'.map (xv (xGr G))).length = ynp := by rw [List.length_map, ht2, List.length_reverse, ht1]
                have hR : (xrm d kc ks).frames + 1 ≤ R.frames ∧ 8 + (yy.2.2.1 + 11) + (xrm d kc ks).locals ≤ R.locals := ⟨hRf, by show 8 + (yy.2.2.1 + 11) + 36 * d ≤ R.locals; omega⟩
                have ho10 : o1 < 10 := by
                  have ha := g1.2.2.1 b _ ho
                  have h14 : o1 < 14 := xtab_own _ (List.mem_of_getElem? hy)
                  unfold xE at ha
                  rw [if_neg (by dsimp only; omega), if_neg (by dsimp only; omega), if_neg (by dsimp only; omega), if_neg (by dsimp only; omega), if_neg (by dsimp only; omega)] at ha
                  obtain ⟨r, hr, -⟩ := ha
                  exact xcl_lt hr
                have ha := g1.2.2.1 b _ ho
                rw [xE_obj (q := (o1, o2)) ho10] at ha
                have hrc := va_recv hK.1 (va_one ha) (xcl_at _ ho10) (q0 := 0) rfl
                have hP : PreV s H yy.1.cls (G.1 + b) (xPc G (.ref b :: as') M) (as'.map (xv (xGr G))) := ⟨xPc_blind G _ M, by rw [← k5]; exact hrc, fun U hU hW => ⟨by rw [List.map_cons, hrb], by rw [hU]; exact g1, hK.moved hW (fun q hq => by rw [hU]; exact g2 q hq)⟩⟩
                refine x_back (Q := Q) (kc := kc) (ks := ks) (a := (Value.ref (G.1 + b) :: as'.map (xv (xGr G))).toArray) ?_ g2 g3 g4 g5 g6 k
                rcases Bool.or_eq_true_iff.mp ok2 with hl | hl
                · exact va_runV ⟨hx, rfl, rfl, hown', hts⟩ hM ⟨callB_of ynp hts hG rfl rfl rfl (hts _ (gws_in k3 rfl)) (hts _ (gws_in (xML_ok _ (contains_mem hl) _ hy) rfl)) k4 hR, hts _ (gws_in (k8 rfl).1 rfl), hts _ (gws_in (k8 rfl).2 rfl)⟩ hP rfl hlen g4.1 hstk (lv_room hsum) hd hf
                · exact va_runVN ⟨hx, rfl, rfl, hown', hts⟩ hM ⟨va_cnB ynp hts hG rfl rfl rfl (hK.2.1 _ (xMN_ok _ (contains_mem hl) _ hy) rfl) (hts _ (gws_in k3 rfl)) k4 hR, hts _ (gws_in (k8 rfl).1 rfl), hts _ (gws_in (k8 rfl).2 rfl)⟩ hP rfl hlen g4.1 hstk (lv_room hsum) hd hf
            · cases h
          · cases h
        · -- special
          rename_i x
          split at h
          · rename_i b r
            cases hb : (Nat.beq yk 2 && xroom 8 r) with
            | false => rw [hb] at h; cases h
            | true =>
              rw [hb] at h
              cases h
              obtain ⟨hb1, hb2⟩ := Bool.and_eq_true_iff.mp hb
              obtain rfl := Nat.eq_of_beq_eq_true hb1
              obtain ⟨ok1, ok2⟩ := Bool.and_eq_true_iff.mp ok
              obtain rfl : len = 3 := Nat.eq_of_beq_eq_true ok1
              have hM := hS l G j _ (.ref b :: as') M kc ks Q hy hC
              have hsum := xroom_sum (xGr G) hb2
              obtain ⟨k91, k92, k93⟩ := k9 rfl
              intro H locs LS cells slots g1 g2 g3 g4 g5 g6
              rw [hlim] at h1 h2
              have hf : cells + kc ≤ R.cells ∧ slots + ks ≤ R.slots := by dsimp only at h1 h2; omega
              have hstk : (F0 m pc LS (st.map (xv (xGr G)))).stack = (as'.map (xv (xGr G))).reverse ++ .ref (xGr G b) :: rest.map (xv (xGr G)) := by
                show st.map (xv (xGr G)) = _
                rw [ht3, ht2, List.map_append, ← List.map_reverse, List.reverse_reverse, List.map_cons]; rfl
              have hlen : (as'.map (xv (xGr G))).length = ynp := by rw [List.length_map, ht2, List.length_reverse, ht1]
              have hR : (xrm d kc ks).frames + 1 ≤ R.frames ∧ 8 + (yy.2.2.1 + 11) + (xrm d kc ks).locals ≤ R.locals := ⟨hRf, by show 8 + (yy.2.2.1 + 11) + 36 * d ≤ R.locals; omega⟩
              have hP : PreS s H (xPc G (.ref b :: as') M) (.ref (xGr G b) :: as'.map (xv (xGr G))) := ⟨xPc_blind G _ M, fun U hU hW => ⟨rfl, by rw [hU]; exact g1, hK.moved hW (fun q hq => by rw [hU]; exact g2 q hq)⟩⟩
              obtain ⟨yn, yb, yL, yr, yc⟩ := yy
              dsimp only at k93
              subst k93
              refine x_back (Q := Q) (kc := kc) (ks := ks) (a := (Value.ref (xGr G b) :: as'.map (xv (xGr G))).toArray) ?_ g2 g3 g4 g5 g6 k
              have hne : Nat.beq j 9999 = false := by
                have hl := (List.getElem?_eq_some_iff.mp hy).1
                have : xtab.length = 138 := rfl
                cases hz : Nat.beq j 9999 with
                | false => rfl
                | true => have := Nat.eq_of_beq_eq_true hz; omega
              rw [hne] at ok2
              simp only [cond_false] at ok2
              rcases Bool.or_eq_true_iff.mp ok2 with hl | hl
              · exact va_runI ⟨hx, rfl, rfl, hown', hts⟩ hM ⟨callB_of ynp hts hG rfl rfl rfl (hts _ (gws_in k3 rfl)) (hts _ (gws_in (xML_ok _ (contains_mem hl) _ hy) rfl)) k4 hR, k91, hts _ (gws_in k92 rfl)⟩ hP rfl hlen g4.1 hstk (lv_room hsum) hd hf
              · exact va_runIN ⟨hx, rfl, rfl, hown', hts⟩ hM ⟨va_cnB ynp hts hG rfl rfl rfl (hK.2.1 _ (xMN_ok _ (contains_mem hl) _ hy) rfl) (hts _ (gws_in k3 rfl)) k4 hR, k91, hts _ (gws_in k92 rfl)⟩ hP rfl hlen g4.1 hstk (lv_room hsum) hd hf
          · cases h
        · cases h
      · cases h
    · cases h
  · cases h

end XINS
end
section
/-! a body, a method, all methods -/
section XBODY
variable {p : Program} {l : Launch} {e : Env} {R : Room} {s : State} {m : MethodId} {args : Array Value} {below : List Frame} {meth : Method} {c : Code} {Qw : State → Prop} {G : xG} {n0 t0 : Nat} {own mk : Nat} {lim : Nat × Nat}
theorem x_run {d : Nat} (hS : xSnd d) (Bd : xBd p R s m args meth c G n0 t0 own mk lim) (hRf : d + 1 ≤ R.frames) (hRl : 36 * d + 36 ≤ R.locals) {mt : xMt} (hown : mt.1 = own) (hmk : mt.2.1 = mk) (hdc : xdec c.code mt.2.2.2.2.2.2.2 = true) (hok : xokc mt.1 c.maxLocals mt.2.2.2.2.2.2.2 = true) {Q : Option Value → xM → Prop}
    (hret : ∀ (pc : Nat) (ls : xL) (st : List Value) (M : xM) (r : Option Value) (M' : xM), xret mt (pc, ls, st, M) = some (r, M') → Q r M' → xPW p l e R s m args below meth c Qw G n0 t0 pc ls st M)
    {pc : Nat} {ls : xL} {st : List Value} {M : xM} (h : xR (xC d) mt lim Q (pc, ls, st, M)) : xPW p l e R s m args below meth c Qw G n0 t0 pc ls st M := by
  refine h (fun S => xPW p l e R s m args below meth c Qw G n0 t0 S.1 S.2.1 S.2.2.1 S.2.2.2) ?_ ?_ ?_ ?_
  · rintro ⟨pc, ls, st, M⟩ r M' h1 h2
    exact hret pc ls st M r M' h1 h2
  · rintro ⟨pc, ls, st, M⟩ S' h1 k
    simp only [xstep] at h1
    split at h1
    · rename_i i len op hat
      obtain ⟨hd, ok⟩ := xat_ok hat hdc hok
      rw [hown, hmk] at h1
      rw [hown] at ok
      exact x_ins Bd hd ok h1 k
    · cases h1
  · rintro ⟨pc, ls, st, M⟩ j as rest kc ks Q' h1 h2 h3 h4 k
    exact x_call hS Bd hRf hRl hown hdc hok h1 h2 h3 h4 k
  · rintro ⟨pc, ls, st, M⟩ ls' h1 k H locs LS cells slots g1 g2 g3 g4 g5 g6
    exact k H locs LS cells slots g1 g2 g3 (lv_less g4 (fun q hq => by
      obtain ⟨q0, hq0, rfl⟩ := List.mem_map.mp hq
      exact List.mem_map.mpr ⟨q0, h1 q0 hq0, rfl⟩)) g5 g6
end XBODY
theorem xSnd_succ {d : Nat} (hS : xSnd d) : xSnd (d + 1) := by
  intro l G j y as M kc ks Q hy hC
  obtain ⟨mt, hj, hw_words, hR⟩ := hC
  obtain rfl : mt = y := Option.some.inj (hj.symm.trans hy)
  obtain ⟨k1, k2, k3, k4, k5, k6, k7, k8, k9, kd, ko⟩ := xtab_ok _ (List.mem_of_getElem? hy)
  refine va_MetF (cc := mt.2.2.2.2.1) (maxL := mt.2.2.2.2.2.1) (ret := mt.2.2.2.2.2.2.1) k1 rfl ?_
  intro p e s m args below meth c s₁ B hml hv
  obtain ⟨rfl, hHp, hKs⟩ := hv
  have hb := B.bytes
  have hr := B.returns
  have hlocks := B.notSynchronized
  have hts0 := atoms_spec (ws := .code mt.2.2.2.1 mt.2.2.2.2.1 mt.2.2.2.2.2.1 mt.2.2.2.2.2.2.1 :: gws) B.pre
  have hts : ∀ w ∈ gws, w.before (as.map (xv (xGr G))).toArray s = true := fun w h => hts0 w (List.mem_cons_of_mem _ h)
  have hown : s.vm.findClass (xnm mt.1) = some m.cls := by rw [k5]; exact findClass_of_methodNamed B.named
  have hin : mt.2.1 = 2 → meth.name = "<init>" := fun h => (name_of_methodNamed B.named B.method).1.trans (k9 h).1
  have Bd : xBd p (headSpec (.code mt.2.2.2.1 mt.2.2.2.2.1 mt.2.2.2.2.2.1 mt.2.2.2.2.2.2.1 :: gws) (xrm (d + 1) kc ks)).room s m (as.map (xv (xGr G))).toArray meth c G M.1.length (xsum M) mt.1 mt.2.1 (M.1.length + kc, xsum M + ks) :=
    ⟨B.exec, hown, hts, hKs, hin, rfl, by show 1 ≤ d + 1; omega, by show 36 ≤ 36 * (d + 1); omega⟩
  have hx := B.exec
  have hret : ∀ (pc : Nat) (ls : xL) (st : List Value) (M1 : xM) (r : Option Value) (M' : xM), xret mt (pc, ls, st, M1) = some (r, M') → (Q r M' ∧ M'.1.length = M.1.length + kc ∧ xsum M' = xsum M + ks) → xPW p l e (headSpec (.code mt.2.2.2.1 mt.2.2.2.2.1 mt.2.2.2.2.2.1 mt.2.2.2.2.2.2.1 :: gws) (xrm (d + 1) kc ks)).room s m (as.map (xv (xGr G))).toArray below meth c (MQ below (xQc G (fun r M' => Q r M' ∧ M'.1.length = M.1.length + kc ∧ xsum M' = xsum M + ks)) (as.map (xv (xGr G))).toArray s kc ks (fun q => G.1 ≤ q)) G M.1.length (xsum M) pc ls st M1 := by
    intro pc ls st M1 r M' h hQ H locs LS cells slots g1 g2 g3 g4 g5 g6
    simp only [xret] at h
    split at h
    · rename_i i len op hat
      obtain ⟨hd, ok⟩ := xat_ok (bytes := c.code) hat (by rw [hb]; exact kd) (show xokc mt.1 c.maxLocals mt.2.2.2.2.2.2.2 = true by rw [hml]; exact ko)
      split at h
      · rename_i v hrt
        cases h
        rw [hrt] at hr
        obtain rfl : cells = kc := by omega
        obtain rfl : slots = ks := by omega
        obtain rfl : len = 1 := Nat.eq_of_beq_eq_true ok
        exact W.iret hx rfl hr (fun t ht hW => ⟨some (.int v), _, rfl, hQ, by rw [ht]; exact g1, fun q hq => by rw [ht]; exact g2 q hq⟩) g3 hd
      · rename_i v hrt
        cases hz : xz v with
        | false => rw [hz] at h; cases h
        | true =>
          rw [hz] at h
          cases h
          rw [hrt] at hr
          obtain rfl : cells = kc := by omega
          obtain rfl : slots = ks := by omega
          obtain rfl : len = 1 := Nat.eq_of_beq_eq_true ok
          exact W.zret hx rfl hr (xz_narrow hz).1 (fun t ht hW => ⟨some (.int v), _, rfl, hQ, by rw [ht]; exact g1, fun q hq => by rw [ht]; exact g2 q hq⟩) g3 hd
      · rename_i v hrt
        cases h
        rw [hrt] at hr
        obtain rfl : cells = kc := by omega
        obtain rfl : slots = ks := by omega
        obtain rfl : len = 1 := Nat.eq_of_beq_eq_true ok
        exact W.lret hx rfl hr (fun t ht hW => ⟨some (.long v), _, rfl, hQ, by rw [ht]; exact g1, fun q hq => by rw [ht]; exact g2 q hq⟩) g3 hd
      · rename_i nm v hrt
        cases h
        rw [hrt] at hr
        obtain rfl : cells = kc := by omega
        obtain rfl : slots = ks := by omega
        obtain rfl : len = 1 := Nat.eq_of_beq_eq_true ok
        exact W.aret hx rfl hr (Or.inl ⟨nm, rfl⟩) (Or.inr ⟨_, rfl⟩) (fun t ht hW => ⟨some (.ref v), _, rfl, hQ, by rw [ht]; exact g1, fun q hq => by rw [ht]; exact g2 q hq⟩) g3 hd
      · rename_i hrt
        cases h
        rw [hrt] at hr
        obtain rfl : cells = kc := by omega
        obtain rfl : slots = ks := by omega
        obtain rfl : len = 1 := Nat.eq_of_beq_eq_true ok
        exact W.vret hx rfl hr (fun t ht hW => ⟨none, _, rfl, hQ, by rw [ht]; exact g1, fun q hq => by rw [ht]; exact g2 q hq⟩) g3 hd
      · cases h
    · cases h
  have hw := x_run (l := l) (e := e) (below := below) (Qw := MQ below (xQc G (fun r M' => Q r M' ∧ M'.1.length = M.1.length + kc ∧ xsum M' = xsum M + ks)) (as.map (xv (xGr G))).toArray s kc ks (fun q => G.1 ≤ q)) hS Bd (Nat.le_refl _) (by show 36 * d + 36 ≤ 36 * (d + 1); omega) rfl rfl (by rw [hb]; exact kd) (by rw [hml]; exact ko) hret hR
  have hl := lv_entry (as.map (xv (xGr G))) (n := mt.2.2.2.2.2.1) (by rw [xwords_eq]; exact hw_words)
  rw [lg_entry_eq]
  exact hw s.heap [] _ 0 0 hHp (fun _ _ => rfl) (fun _ h => by cases h) (by rw [xargs_map, hml]; exact hl) rfl rfl
theorem xSnd_all : ∀ d, xSnd d
  | 0 => fun _ _ _ _ _ _ _ _ _ _ h => h.elim
  | d + 1 => xSnd_succ (xSnd_all d)
end
section
/-! the memory at the law's entry -/
def xnumb (i : Nat) : Int32 := ([0, 8, 8, 7, 64, 64, 2, 2, 4, 0] : List Int32).getD i 0
def xtake (i : Nat) : Int32 := ([0, 0, 1, 2, 0, 1, 1, 2, 1, 0] : List Int32).getD i 0
def xputs (i : Nat) : Int32 := ([1, 1, 0, 1, 0, 0, 1, 0, 0, 0] : List Int32).getD i 0
def xcf (xs : Nat → Int32) (k : Nat) : Nat → Int32 := match k with
  | 0 => xs
  | 1 => xnumb
  | 2 => xtake
  | _ => xputs
def xmr0 (L : Nat) (a k : Nat) : Option Nat := match a with
  | 1000 => (match k with
    | 0 => some L
    | 1 => some 10
    | 2 => some 10
    | 3 => some 10
    | _ => none)
  | _ => none
def xmi0 (xs : Nat → Int32) (a : Nat) : Nat → Int32 := match a with
  | 1000 => xs
  | 1001 => xnumb
  | 1002 => xtake
  | 1003 => xputs
  | _ => fun _ => 0
def x0 (L : Nat) (xs : Nat → Int32) : xM := ([], xmr0 L, xmi0 xs, fun _ _ => 0)
/-- what is left: the law, over the pure machine -/
def xPure : Prop := ∀ (L : Nat) (xs : Nat → Int32), L ≤ 2560 → xR (xC 10) mL_law (600000, 7302250) (fun r M => r = some (.int 1) ∧ xsum M ≤ 7302250) (0, [(0, .ref 1000)], [], x0 L xs)
/-! THE CLAIM OUT OF ONE WALK OF THE LAW'S BODY. Your part is whole_start (and what it stands on); all else here is the same for every law, but numbers. -/
def R_law : String := "SecretLoomLaw"
def lw_P (b : Addr) (xs : List Int32) (args : Array Value) (s : State) : Prop := args = #[.ref b] ∧ s.IntsAt b xs ∧ xs.length ≤ 2560 ∧ (Jvm.Cond.and given_1 narrow_1).before args s = true
def lw_Q (_ : Array Value) (s : State) (o : Outcome) (t : State) : Prop := o = .returned (some (.int 1)) ∧ Framed s o t [] 600000 7302250
def lw_Z (below : List Frame) (a : Array Value) (s : State) : State → Prop := fun t => ∃ o, t.status = .running ∧ Ended t below o ∧ lw_Q a s o t
/-- the law's own end, with 1 on the stack, nothing written that was there before, its room as the claim has it -/
theorem lw_ret {p : Program} {l : Launch} {e : Env} {s : State} {m : MethodId} {below : List Frame} {meth : Method} {c : Code} {b : Nat} (hx : p.tables.exec = Jvm.exec) (hb : c.code = code) (hr : meth.sig.returnType = ret) (hlocks : meth.locks = false) {pc : Nat} {H : Heap} {ls : Array Slot} (hdg : decode code pc = .ok (.ireturn, 1)) : W p l e room_1 s m #[Value.ref b] below meth c H [] 600000 7302250 (lw_Z below #[Value.ref b] s) (F0 m pc ls [.int 1]) := by
  intro T hT X
  obtain ⟨fs, hret, hrun, hended, hW, hframe⟩ := X.leave (v := some (.int 1)) (hlocks := hlocks) (fun h => by rw [hr] at h; cases h)
  have hmeth' : T.vm.method? m = some meth := X.method'
  refine ⟨T.setFrames fs, ?_, .returned (some (.int 1)), hrun, hended, rfl, ⟨_, rfl⟩, hW, hframe⟩
  jvm_step X.here [X.here.top, hx, hb, hdg, hmeth', hr, ret, narrow_b1]
  (try refine ⟨rfl, ?_⟩); (try refine ⟨rfl, ?_⟩)
  first | (intro acts; rw [hret _ acts rfl rfl rfl]) | rw [hret _ _ rfl rfl rfl]
  exact Steps.refl _
/-- what holds at the law's entry: the machine, the code, the tables' words (any of lw_tbl by 'hts w (by decide +kernel)'), the script of L ints xs at the cell b, what the Statement gives of the start (any of its parts by flat_of_before) -/
def lw_At (p : Program) (s : State) (m : MethodId) (meth : Method) (c : Code) (b L : Nat) (xs : Nat → Int32) : Prop :=
  p.tables.exec = Jvm.exec ∧ c.code = code ∧ meth.sig.returnType = ret ∧ c.maxLocals = 4 ∧ s.vm.findClass R_law = some m.cls ∧ (∀ w ∈ lw_tbl, w.before #[Value.ref b] s = true) ∧ va_X b L xs s s.heap ∧ b < s.heap.size ∧ meth.locks = false ∧ (Jvm.Cond.and given_1 narrow_1).before #[Value.ref b] s = true
theorem xe_arr {s : State} {args : Array Value} {ty : FieldType} (hty : ∀ C, ty ≠ .object C) (h : (Jvm.Cond.arrayClass ty).before args s = true) : ∃ cA : ClassId, ArrOfT s cA ty ∧ va_RA s cA ty := by
  obtain ⟨cA, k, comp, h1, h2, h3⟩ := Cond.arrayClass_spec h
  refine ⟨cA, fun n z => ⟨fun k h => (by cases h), k, h2, comp, h3⟩, ?_⟩
  cases ty <;> first | exact h1 | exact absurd rfl (hty _)
theorem xe_ref {s : State} {args : Array Value} {C : String} (h : (Jvm.Cond.arrayOver (.object C)).before args s = true) : ∃ cA : ClassId, ArrOfT s cA (.object C) ∧ va_RA s cA (.object C) := by
  obtain ⟨comp, cA, k, h1, -, h2, h3, h4⟩ := Cond.arrayOver_spec h
  exact ⟨cA, fun n z => ⟨fun k h => (by cases h), k, h2, comp, h3⟩, k, comp, h2, h3, h1, h4⟩
theorem xao_1 : Jvm.Cond.arrayOver (.object (xnm (xcomp 23))) ∈ lw_tbl := by decide +kernel
theorem xao_2 : Jvm.Cond.arrayOver (.object (xnm (xcomp 24))) ∈ lw_tbl := by decide +kernel
theorem xini_S : Jvm.Cond.initialized "SecretLoom" ∈ lw_tbl := by decide +kernel
theorem xls_1 : Jvm.Cond.laysStatic "SecretLoom" "NUMBERS" "[I" ∈ lw_tbl := by decide +kernel
theorem xls_2 : Jvm.Cond.laysStatic "SecretLoom" "TAKES" "[I" ∈ lw_tbl := by decide +kernel
theorem xls_3 : Jvm.Cond.laysStatic "SecretLoom" "PUTS" "[I" ∈ lw_tbl := by decide +kernel
theorem xinst : ∀ c, c < 10 → Jvm.Cond.instantiable (xnm c) (xN c) ∈ lw_tbl := by decide +kernel
theorem xe_st1 {s : State} {args : Array Value} {A : Nat → Prop} (hs : ∀ w ∈ flatC (Jvm.Cond.and given_1 narrow_1), w.before args s = true) (hts : ∀ w ∈ lw_tbl, w.before args s = true) (hA : ∀ a : Nat, a < s.heap.size → ¬ A a) : ∃ t : Nat, va_T .int t 10 (fun i => .int (xnumb i)) A s s.heap ∧ va_Z "SecretLoom" "NUMBERS" "[I" (.ref t) A s s.heap := by
  obtain ⟨t, h1, h2⟩ := va_Tof (tm := .static "SecretLoom" "NUMBERS" "[I") (ty := .int) (N := 10) (f := fun i => .int (xnumb i)) (A := A) (by decide) (hs _ (by decide +kernel)) (va_eqt (z := 10) (hs _ (by decide +kernel))) (fun j hj => by
    rcases (show j = 0 ∨ j = 1 ∨ j = 2 ∨ j = 3 ∨ j = 4 ∨ j = 5 ∨ j = 6 ∨ j = 7 ∨ j = 8 ∨ j = 9 by omega) with rfl | rfl | rfl | rfl | rfl | rfl | rfl | rfl | rfl | rfl
    · exact va_eqt (z := 0) (hs _ (by decide +kernel))
    · exact va_eqt (z := 8) (hs _ (by decide +kernel))
    · exact va_eqt (z := 8) (hs _ (by decide +kernel))
    · exact va_eqt (z := 7) (hs _ (by decide +kernel))
    · exact va_eqt (z := 64) (hs _ (by decide +kernel))
    · exact va_eqt (z := 64) (hs _ (by decide +kernel))
    · exact va_eqt (z := 2) (hs _ (by decide +kernel))
    · exact va_eqt (z := 2) (hs _ (by decide +kernel))
    · exact va_eqt (z := 4) (hs _ (by decide +kernel))
    · exact va_eqt (z := 0) (hs _ (by decide +kernel))) hA
  exact ⟨t, h2, va_Zref (hts _ xls_1) (hts _ xini_S) h1 hA⟩
theorem xe_st2 {s : State} {args : Array Value} {A : Nat → Prop} (hs : ∀ w ∈ flatC (Jvm.Cond.and given_1 narrow_1), w.before args s = true) (hts : ∀ w ∈ lw_tbl, w.before args s = true) (hA : ∀ a : Nat, a < s.heap.size → ¬ A a) : ∃ t : Nat, va_T .int t 10 (fun i => .int (xtake i)) A s s.heap ∧ va_Z "SecretLoom" "TAKES" "[I" (.ref t) A s s.heap := by
  obtain ⟨t, h1, h2⟩ := va_Tof (tm := .static "SecretLoom" "TAKES" "[I") (ty := .int) (N := 10) (f := fun i => .int (xtake i)) (A := A) (by decide) (hs _ (by decide +kernel)) (va_eqt (z := 10) (hs _ (by decide +kernel))) (fun j hj => by
    rcases (show j = 0 ∨ j = 1 ∨ j = 2 ∨ j = 3 ∨ j = 4 ∨ j = 5 ∨ j = 6 ∨ j = 7 ∨ j = 8 ∨ j = 9 by omega) with rfl | rfl | rfl | rfl | rfl | rfl | rfl | rfl | rfl | rfl
    · exact va_eqt (z := 0) (hs _ (by decide +kernel))
    · exact va_eqt (z := 0) (hs _ (by decide +kernel))
    · exact va_eqt (z := 1) (hs _ (by decide +kernel))
    · exact va_eqt (z := 2) (hs _ (by decide +kernel))
    · exact va_eqt (z := 0) (hs _ (by decide +kernel))
    · exact va_eqt (z := 1) (hs _ (by decide +kernel))
    · exact va_eqt (z := 1) (hs _ (by decide +kernel))
    · exact va_eqt (z := 2) (hs _ (by decide +kernel))
    · exact va_eqt (z := 1) (hs _ (by decide +kernel))
    · exact va_eqt (z := 0) (hs _ (by decide +kernel))) hA
  exact ⟨t, h2, va_Zref (hts _ xls_2) (hts _ xini_S) h1 hA⟩
theorem xe_st3 {s : State} {args : Array Value} {A : Nat → Prop} (hs : ∀ w ∈ flatC (Jvm.Cond.and given_1 narrow_1), w.before args s = true) (hts : ∀ w ∈ lw_tbl, w.before args s = true) (hA : ∀ a : Nat, a < s.heap.size → ¬ A a) : ∃ t : Nat, va_T .int t 10 (fun i => .int (xputs i)) A s s.heap ∧ va_Z "SecretLoom" "PUTS" "[I" (.ref t) A s s.heap := by
  obtain ⟨t, h1, h2⟩ := va_Tof (tm := .static "SecretLoom" "PUTS" "[I") (ty := .int) (N := 10) (f := fun i => .int (xputs i)) (A := A) (by decide) (hs _ (by decide +kernel)) (va_eqt (z := 10) (hs _ (by decide +kernel))) (fun j hj => by
    rcases (show j = 0 ∨ j = 1 ∨ j = 2 ∨ j = 3 ∨ j = 4 ∨ j = 5 ∨ j = 6 ∨ j = 7 ∨ j = 8 ∨ j = 9 by omega) with rfl | rfl | rfl | rfl | rfl | rfl | rfl | rfl | rfl | rfl
    · exact va_eqt (z := 1) (hs _ (by decide +kernel))
    · exact va_eqt (z := 1) (hs _ (by decide +kernel))
    · exact va_eqt (z := 0) (hs _ (by decide +kernel))
    · exact va_eqt (z := 1) (hs _ (by decide +kernel))
    · exact va_eqt (z := 0) (hs _ (by decide +kernel))
    · exact va_eqt (z := 0) (hs _ (by decide +kernel))
    · exact va_eqt (z := 1) (hs _ (by decide +kernel))
    · exact va_eqt (z := 0) (hs _ (by decide +kernel))
    · exact va_eqt (z := 0) (hs _ (by decide +kernel))
    · exact va_eqt (z := 0) (hs _ (by decide +kernel))) hA
  exact ⟨t, h2, va_Zref (hts _ xls_3) (hts _ xini_S) h1 hA⟩
theorem xsel {α : Type} (f : Nat → α → Prop) (n : Nat) (d : α) (h : ∀ k, k < n → ∃ x, f k x) : ∃ g : Nat → α, ∀ k, k < n → f k (g k) := by
  refine ⟨fun k => if hk : k < n then (h k hk).choose else d, fun k hk => ?_⟩
  simp only [dif_pos hk]
  exact (h k hk).choose_spec
set_option maxHeartbeats 4000000 in
set_option maxRecDepth 100000 in
theorem xentry (hpure : xPure) {p : Program} {e : Env} {s : State} {m : MethodId} {below : List Frame} {meth : Method} {c : Code} (l : Launch) {b L : Nat} {xs : Nat → Int32} (hL : L ≤ 2560) (C0 : lw_At p s m meth c b L xs) : W p l e room_1 s m #[Value.ref b] below meth c s.heap [] 0 0 (lw_Z below #[Value.ref b] s) (entryFrame m ([Value.ref b] : List Value).toArray 4) := by
  obtain ⟨hx, hb, hr, hml, hown, hts, hX, hbl, hlocks, hgv⟩ := id C0
  have hs := flat_of_before _ hgv
  have hA : ∀ a : Nat, a < s.heap.size → ¬ (fun q : Nat => s.heap.size ≤ q) a := fun a h g => absurd g (Nat.not_le.mpr h)
  have htg : ∀ w ∈ gws, w.before #[Value.ref b] s = true := fun w h => hts w (List.mem_filter.mp h).1
  obtain ⟨t1, hT1, hZ1⟩ := xe_st1 (A := fun q : Nat => s.heap.size ≤ q) hs hts hA
  obtain ⟨t2, hT2, hZ2⟩ := xe_st2 (A := fun q : Nat => s.heap.size ≤ q) hs hts hA
  obtain ⟨t3, hT3, hZ3⟩ := xe_st3 (A := fun q : Nat => s.heap.size ≤ q) hs hts hA
  obtain ⟨cA0, a0, r0⟩ := xe_arr (fun C h => by cases h) (hts _ xac_int)
  obtain ⟨cA1, a1, r1⟩ := xe_arr (fun C h => by cases h) (hts _ xac_long)
  obtain ⟨cA2, a2, r2⟩ := xe_arr (fun C h => by cases h) (hts _ xac_boolean)
  obtain ⟨cA3, a3, r3⟩ := xe_ref (hts _ xao_1)
  obtain ⟨cA4, a4, r4⟩ := xe_ref (hts _ xao_2)
  have hkn : ∀ c, c < 10 → ∃ q : ClassId × (Nat → Nat), u_Kn s (xnm c) (xT c) (xN c) q.1 q.2 := fun c hc => by
    obtain ⟨cC, iS, h⟩ := u_known (C := xnm c) (T := xT c) (N := xN c) (n := xN c) htg (xws_in hc) (hts _ (xinst c hc))
    exact ⟨(cC, iS), h⟩
  obtain ⟨g, hg⟩ := xsel _ 10 (0, fun _ => 0) hkn
  obtain ⟨scr, x1, x2, x3, x4, x5⟩ := hX
  have hTs : va_T .int b L (fun i => .int (xs i)) (fun q : Nat => s.heap.size ≤ q) s s.heap := ⟨scr, x1, x2, x3, by omega, by rw [x4], x5, hA b hbl⟩
  let fx : Nat → Nat := fun k => match k with
    | 0 => b
    | 1 => t1
    | 2 => t2
    | _ => t3
  let fl : Nat → Nat := fun k => match k with
    | 0 => L
    | _ => 10
  let dA : Nat → ClassId := fun k => match k with
    | 0 => cA0
    | 1 => cA1
    | 2 => cA2
    | 3 => cA3
    | _ => cA4
  let G : xG := (s.heap.size, fx, fl, xcf xs, (fun k => (g k).1, fun k => (g k).2), dA)
  have hK : xKs G s := by
    refine ⟨⟨fun c q hq => ?_, fun k q hq => ?_⟩, fun w hw hn => ?_, ⟨va_AO.of (hts _ xao_1), va_AO.of (hts _ xao_2)⟩, fun k hk => ?_, fun k k1 k4 => ?_⟩
    · have hc := xcl_lt hq
      rw [xcl_at c hc] at hq
      cases hq
      exact hg c hc
    · have hk5 : k < 5 := (List.getElem?_eq_some_iff.mp hq).1
      rcases (show k = 0 ∨ k = 1 ∨ k = 2 ∨ k = 3 ∨ k = 4 by omega) with rfl | rfl | rfl | rfl | rfl
      · cases hq; exact ⟨a0, r0⟩
      · cases hq; exact ⟨a1, r1⟩
      · cases hq; exact ⟨a2, r2⟩
      · cases hq; exact ⟨a3, r3⟩
      · cases hq; exact ⟨a4, r4⟩
    · refine va_Nw.of ?_ (hts w hw)
      cases w <;> first | rfl | (simp [xnest] at hn)
    · rcases (show k = 0 ∨ k = 1 ∨ k = 2 ∨ k = 3 by omega) with rfl | rfl | rfl | rfl
      · exact hTs
      · exact hT1
      · exact hT2
      · exact hT3
    · rcases (show k = 1 ∨ k = 2 ∨ k = 3 by omega) with rfl | rfl | rfl
      · exact hZ1
      · exact hZ2
      · exact hZ3
  have hHp : xHp G (x0 L xs) s.heap := by
    refine ⟨rfl, Nat.zero_le _, (fun a q h => by simp [x0] at h), fun k hk => ?_⟩
    rcases (show k = 0 ∨ k = 1 ∨ k = 2 ∨ k = 3 by omega) with rfl | rfl | rfl | rfl
    · exact ⟨rfl, fun _ => rfl⟩
    · exact ⟨rfl, fun _ => rfl⟩
    · exact ⟨rfl, fun _ => rfl⟩
    · exact ⟨rfl, fun _ => rfl⟩
  have Bd : xBd p room_1 s m #[Value.ref b] meth c G 0 0 13 0 (600000, 7302250) := ⟨hx, hown, htg, hK, fun h => absurd h (by decide), rfl, by decide, by decide⟩
  have hret : ∀ (pc : Nat) (ls : xL) (st : List Value) (M : xM) (r : Option Value) (M' : xM), xret mL_law (pc, ls, st, M) = some (r, M') → (r = some (.int 1) ∧ xsum M' ≤ 7302250) → xPW p l e room_1 s m #[Value.ref b] below meth c (lw_Z below #[Value.ref b] s) G 0 0 pc ls st M := by
    intro pc ls st M r M' h hQ H locs LS cells slots g1 g2 g3 g4 g5 g6
    simp only [xret] at h
    split at h
    · rename_i i len op hat
      obtain ⟨hd, ok⟩ := xat_ok (bytes := c.code) hat (by rw [hb]; exact kL_dec) (show xokc mL_law.1 4 mL_law.2.2.2.2.2.2.2 = true from kL_ok)
      split at h
      · rename_i v hrt; exact absurd hrt (by decide)
      · rename_i v hrt
        cases hz : xz v with
        | false => rw [hz] at h; cases h
        | true =>
          rw [hz] at h
          cases h
          obtain ⟨hv, hsl⟩ := hQ
          cases hv
          obtain rfl : len = 1 := Nat.eq_of_beq_eq_true ok
          have hl1 := g1.2.1
          rw [hb] at hd
          refine va_forget g3 ?_
          refine W.widen (k := 600000) (n := 7302250) (by omega) (by omega) ?_
          exact lw_ret hx hb hr hlocks hd
      · rename_i v hrt; exact absurd hrt (by decide)
      · rename_i nm v hrt; exact absurd hrt (by simp [mL_law])
      · rename_i hrt; exact absurd hrt (by decide)
      · cases h
    · cases h
  have hw := x_run (l := l) (e := e) (below := below) (Qw := lw_Z below #[Value.ref b] s) (xSnd_all 10) Bd (by decide) (by decide) (mt := mL_law) rfl rfl (by rw [hb]; exact kL_dec) (by rw [hml]; exact kL_ok) hret (hpure L xs hL)
  have hl := lv_entry ([.ref b]) (n := 4) (Nat.le_of_ble_eq_true rfl)
  rw [lg_entry_eq]
  exact hw s.heap [] _ 0 0 hHp (fun _ _ => rfl) (fun _ h => by cases h) (by rw [hml]; exact hl) rfl rfl
end
section
/-! the memory once both objects are made: what the cells are, which refer to which; then bodies and calls over it -/
def xLAY : List (Nat × Nat) := [(8, 10), (5, 3), (20, 64), (20, 64), (1, 3), (20, 8), (20, 2), (20, 4), (6, 5), (20, 64), (0, 9), (21, 64), (21, 64), (21, 64), (20, 64), (21, 64), (7, 8), (21, 64), (2, 3), (20, 16), (23, 2), (24, 2), (3, 1), (20, 24), (4, 5), (20, 64), (20, 64), (3, 1), (20, 24), (4, 5), (20, 64), (20, 64), (9, 21), (20, 64), (20, 64), (20, 14), (20, 48), (20, 64), (20, 64), (22, 4096), (20, 1088), (22, 65), (22, 65), (22, 2), (22, 2), (20, 2), (20, 128), (20, 128), (20, 16), (22, 65)]
def xMRT : List (List Nat) := [[1, 4, 8, 10, 16, 18, 20, 21], [2, 3], [], [], [5, 6, 7], [], [], [], [1, 9], [], [1, 8, 11, 12, 13, 14, 15], [], [], [], [], [], [1, 4, 8, 10, 17], [], [1, 19], [], [22, 27], [24, 29], [23], [], [25, 26], [], [], [28], [], [30, 31], [], [], [33, 34, 0, 35, 36, 0, 0, 37, 38, 39, 0, 40, 41, 42, 43, 44, 45, 46, 47, 48, 49], [], [], [], [], [], [], [], [], [], [], [], [], [], [], [], [], []]
def xMR (L a k : Nat) : Option Nat := bif Nat.beq a 1000 then xmr0 L 1000 k else (match (xMRT.getD a []).getD k 0 with
  | 0 => none
  | b + 1 => some (b + 1))
abbrev xmi : Type := Nat → Nat → Int32
abbrev xml : Type := Nat → Nat → Int64
abbrev XM (L : Nat) (mi : xmi) (ml : xml) : xM := (xLAY, xMR L, mi, ml)
abbrev xlim : Nat × Nat := (50, 6963)
/-- method j, called with as over mi, ml, comes back with Q -/
def xF (d j : Nat) (as : List Value) (L : Nat) (mi : xmi) (ml : xml) (Q : Option Value → xmi → xml → Prop) : Prop := xC d j as (XM L mi ml) 0 0 (fun r M => ∃ a b, M = XM L a b ∧ Q r a b)
/-- a body -/
def xB (d : Nat) (mt : xMt) (L : Nat) (Q : Option Value → xmi → xml → Prop) (s : xS) : Prop := xR (xC d) mt xlim (fun r M => ∃ a b, M = XM L a b ∧ Q r a b) s
theorem xF.mk {d j : Nat} {as : List Value} {L : Nat} {mi : xmi} {ml : xml} {Q : Option Value → xmi → xml → Prop} (mt : xMt) (hj : xtab[j]? = some mt) (hw : Nat.ble (xwords as) mt.2.2.2.2.2.1 = true) (h : xB d mt L Q (0, xargs 0 as, [], XM L mi ml)) : xF (d + 1) j as L mi ml Q := by
  refine ⟨mt, hj, Nat.le_of_ble_eq_true hw, xR.po h (fun r M q => ⟨q, ?_, ?_⟩)⟩
  · obtain ⟨a, b, rfl, -⟩ := q; rfl
  · obtain ⟨a, b, rfl, -⟩ := q; rfl
theorem xF.po {d j : Nat} {as : List Value} {L : Nat} {mi : xmi} {ml : xml} {Q Q' : Option Value → xmi → xml → Prop} (h : xF d j as L mi ml Q) (k : ∀ r a b, Q r a b → Q' r a b) : xF d j as L mi ml Q' := xC.po h (fun r M ⟨a, b, e, q⟩ => ⟨a, b, e, k r a b q⟩)
section XB
variable {d : Nat} {mt : xMt} {L : Nat} {Q : Option Value → xmi → xml → Prop} {s : xS}
theorem xB.go (n : Nat) (s' : xS) (h : xmany mt xlim n s = some s') (k : xB d mt L Q s') : xB d mt L Q s := xR.go n s' h k
theorem xB.bp (c : Prop) [inst : Decidable c] (s1 s2 : xS) (h : xstep mt xlim s = bif decide c then some s1 else some s2) (k1 : c → xB d mt L Q s1) (k2 : ¬ c → xB d mt L Q s2) : xB d mt L Q s := xR.br (decide c) s1 s2 h (fun h => k1 (of_decide_eq_true h)) (fun h => k2 (of_decide_eq_false h))
theorem xb_eq0 {p : Prop} [Decidable p] : xb p = 0 ↔ ¬ p := by
  unfold xb; split
  · rename_i h; exact ⟨fun z => absurd z (by decide), fun z => absurd h z⟩
  · rename_i h; exact ⟨fun _ => h, fun _ => rfl⟩
theorem xb_t {p : Prop} [Decidable p] (h : p) : xb p = 1 := if_pos h
theorem xb_f {p : Prop} [Decidable p] (h : ¬ p) : xb p = 0 := if_neg h
theorem xz_xb {p : Prop} [Decidable p] : xz (xb p) = true := by unfold xb; split <;> rfl
/-- ifeq over a truth value: to s1 if it is false -/
theorem xB.bz (p : Prop) [Decidable p] (s1 s2 : xS) (h : xstep mt xlim s = bif decide (xb p = 0) then some s1 else some s2) (k1 : ¬ p → xB d mt L Q s1) (k2 : p → xB d mt L Q s2) : xB d mt L Q s := xB.bp (xb p = 0) s1 s2 h (fun h => k1 (xb_eq0.mp h)) (fun h => k2 (Decidable.byContradiction (fun z => h (xb_eq0.mpr z))))
/-- ifne over a truth value: to s1 if it is true -/
theorem xB.bn (p : Prop) [Decidable p] (s1 s2 : xS) (h : xstep mt xlim s = bif decide (¬ xb p = 0) then some s1 else some s2) (k1 : p → xB d mt L Q s1) (k2 : ¬ p → xB d mt L Q s2) : xB d mt L Q s := xB.bp (¬ xb p = 0) s1 s2 h (fun h => k1 (Decidable.byContradiction (fun z => h (xb_eq0.mpr z)))) (fun h => k2 (xb_eq0.mp (Decidable.not_not.mp h)))
theorem xB.ck (c : Bool) (s' : xS) (h : xstep mt xlim s = bif c then some s' else none) (hc : c = true) (k : xB d mt L Q s') : xB d mt L Q s := xR.ck c s' h hc k
theorem xB.fo (ls : xL) {pc : Nat} {ls0 : xL} {st : List Value} {M : xM} (h : ∀ q ∈ ls, q ∈ ls0) (k : xB d mt L Q (pc, ls, st, M)) : xB d mt L Q (pc, ls0, st, M) := xR.fo ls h k
theorem xB.rt (r : Option Value) (mi : xmi) (ml : xml) (h : xret mt s = some (r, XM L mi ml)) (k : Q r mi ml) : xB d mt L Q s := xR.rt r _ h ⟨mi, ml, rfl, k⟩
theorem xB.rz (v : Int32) (mi : xmi) (ml : xml) (h : xret mt s = bif xz v then some (some (.int v), XM L mi ml) else none) (hz : xz v = true) (k : Q (some (.int v)) mi ml) : xB d mt L Q s := xR.rt (some (.int v)) (XM L mi ml) (by rw [h, hz]; rfl) ⟨mi, ml, rfl, k⟩
theorem xB.ca (j : Nat) (as rest : List Value) {pc : Nat} {ls : xL} {st : List Value} {mi : xmi} {ml : xml} {Q' : Option Value → xmi → xml → Prop} (hF : xF d j as L mi ml Q') (h : xcall mt (pc, ls, st, XM L mi ml) = some (j, as, rest)) (k : ∀ r a b, Q' r a b → xB d mt L Q (xback (pc, ls, st, XM L mi ml) rest r (XM L a b))) : xB d mt L Q (pc, ls, st, XM L mi ml) :=
  xR.ca j as rest 0 0 h (Nat.le_refl _) (Nat.le_refl _) hF (fun r M ⟨a, b, e, q⟩ => by subst e; exact k r a b q)
/-- a call whose end is known: an answer -/
theorem xB.c1 (j : Nat) (as rest : List Value) {pc : Nat} {ls : xL} {st : List Value} {mi : xmi} {ml : xml} {v : Value} {a : xmi} {b : xml} (hF : xF d j as L mi ml (fun r x y => r = some v ∧ x = a ∧ y = b)) (h : xcall mt (pc, ls, st, XM L mi ml) = some (j, as, rest)) (k : xB d mt L Q (pc + 3, ls, v :: rest, XM L a b)) : xB d mt L Q (pc, ls, st, XM L mi ml) :=
  xB.ca j as rest hF h (fun r x y ⟨h1, h2, h3⟩ => by subst h1; subst h2; subst h3; exact k)
/-- a call whose end is known: no answer -/
theorem xB.c0 (j : Nat) (as rest : List Value) {pc : Nat} {ls : xL} {st : List Value} {mi : xmi} {ml : xml} {a : xmi} {b : xml} (hF : xF d j as L mi ml (fun r x y => r = none ∧ x = a ∧ y = b)) (h : xcall mt (pc, ls, st, XM L mi ml) = some (j, as, rest)) (k : xB d mt L Q (pc + 3, ls, rest, XM L a b)) : xB d mt L Q (pc, ls, st, XM L mi ml) :=
  xB.ca j as rest hF h (fun r x y ⟨h1, h2, h3⟩ => by subst h1; subst h2; subst h3; exact k)
end XB
/-- a method that answers and changes nothing -/
abbrev xFr (d j : Nat) (as : List Value) (L : Nat) (mi : xmi) (ml : xml) (v : Value) : Prop := xF d j as L mi ml (fun r x y => r = some v ∧ x = mi ∧ y = ml)
abbrev xFv (d j : Nat) (as : List Value) (L : Nat) (mi : xmi) (ml : xml) (v : Value) (a : xmi) (b : xml) : Prop := xF d j as L mi ml (fun r x y => r = some v ∧ x = a ∧ y = b)
abbrev xFn (d j : Nat) (as : List Value) (L : Nat) (mi : xmi) (ml : xml) (a : xmi) (b : xml) : Prop := xF d j as L mi ml (fun r x y => r = none ∧ x = a ∧ y = b)
end
section
/-! further rules of bodies: switches, longs compared with 0, truth -/
section XB2
variable {d : Nat} {mt : xMt} {L : Nat} {Q : Option Value → xmi → xml → Prop} {s : xS}
theorem xB.st (s' : xS) (h : xstep mt xlim s = some s') (k : xB d mt L Q s') : xB d mt L Q s := xR.st s' h k
theorem xB.tp {x y : Int32} {pc : Nat} {ls : xL} {st : List Value} {M : xM} (h : x = y) (k : xB d mt L Q (pc, ls, .int y :: st, M)) : xB d mt L Q (pc, ls, .int x :: st, M) := h ▸ k
theorem lgz {x y : Int64} : lg_cmp x y = 0 ↔ x = y := by
  unfold lg_cmp
  by_cases h : x > y
  · rw [if_pos h]
    refine ⟨fun z => absurd z (by decide), fun z => ?_⟩
    subst z
    exact absurd h (by simp)
  · rw [if_neg h]
    by_cases h2 : x = y
    · rw [if_pos h2]; exact ⟨fun _ => h2, fun _ => rfl⟩
    · rw [if_neg h2]; exact ⟨fun z => absurd z (by decide), fun z => absurd z h2⟩
theorem xB.lz (x y : Int64) (s1 s2 : xS) (h : xstep mt xlim s = bif decide (lg_cmp x y = 0) then some s1 else some s2) (k1 : x = y → xB d mt L Q s1) (k2 : ¬ x = y → xB d mt L Q s2) : xB d mt L Q s := xB.bp (lg_cmp x y = 0) s1 s2 h (fun h => k1 (lgz.mp h)) (fun h => k2 (fun z => h (lgz.mpr z)))
theorem xB.ln (x y : Int64) (s1 s2 : xS) (h : xstep mt xlim s = bif decide (¬ lg_cmp x y = 0) then some s1 else some s2) (k1 : ¬ x = y → xB d mt L Q s1) (k2 : x = y → xB d mt L Q s2) : xB d mt L Q s := xB.bp (¬ lg_cmp x y = 0) s1 s2 h (fun h => k1 (fun z => h (lgz.mpr z))) (fun h => k2 (lgz.mp (Decidable.not_not.mp h)))
theorem xsw_ne {x : Int32} (n : Nat) (hn : n < 2 ^ 31) (h : ∀ k, k < n → ¬ x = nI k) : x.toInt < 0 ∨ (n : Int) - 1 < x.toInt := by
  rcases pk_ix x hn with z | z | ⟨j, h1, h2⟩
  · left; rw [Int32.lt_iff_toInt_lt, Int32.toInt_zero] at z; exact z
  · right; rw [Int32.le_iff_toInt_le, nI_toInt hn] at z; omega
  · exact absurd h2 (h j h1)
theorem xsw_d {pc len op t : Nat} {dd lo hi : Int} {offs : Array Int} {x : Int32} {ls : xL} {st : List Value} {M : xM} (hat : xat mt pc = some (.tableswitch dd lo hi offs, len, op)) (hx : x.toInt < lo ∨ hi < x.toInt) (ht : (pc : Int) + dd = Int.ofNat t) : xstep mt xlim (pc, ls, .int x :: st, M) = some (t, ls, st, M) := by
  have hb : (decide (x.toInt < lo) || decide (hi < x.toInt)) = true := by simpa using hx
  simp only [xstep, hat, xins, hb, cond_true, xto, ht]
theorem xls_d {pc len op t : Nat} {dd : Int} {ps : Array (Int × Int)} {x : Int32} {ls : xL} {st : List Value} {M : xM} (hat : xat mt pc = some (.lookupswitch dd ps, len, op)) (hs : ((ps.toList.zip (ps.toList.drop 1)).all (fun (a, next) => decide (a.1 < next.1))) = true) (ho : Op.lookupswitch.offset ps.toList dd x.toInt = dd) (ht : (pc : Int) + dd = Int.ofNat t) : xstep mt xlim (pc, ls, .int x :: st, M) = some (t, ls, st, M) := by
  simp only [xstep, hat, xins, hs, cond_true, xto, ho, ht]
theorem xne_toInt {x : Int32} {k : Nat} (hk : k < 2 ^ 31) (h : ¬ x = nI k) : ¬ x.toInt = (k : Int) := fun z => h (Int32.toInt_inj.mp (by rw [z, nI_toInt hk]))
theorem xlk_2 {x : Int32} {a b oa ob dd : Int} (h1 : ¬ x.toInt = a) (h2 : ¬ x.toInt = b) : Op.lookupswitch.offset [(a, oa), (b, ob)] dd x.toInt = dd := by
  simp [Op.lookupswitch.offset, h1, h2, Ne.symm]
theorem xlk_3 {x : Int32} {a b c oa ob oc dd : Int} (h1 : ¬ x.toInt = a) (h2 : ¬ x.toInt = b) (h3 : ¬ x.toInt = c) : Op.lookupswitch.offset [(a, oa), (b, ob), (c, oc)] dd x.toInt = dd := by
  simp [Op.lookupswitch.offset, h1, h2, h3, Ne.symm]
end XB2
theorem xB.cg {d : Nat} {mt : xMt} {L : Nat} {Q : Option Value → xmi → xml → Prop} {s : xS} (s' : xS) (h : s = s') (k : xB d mt L Q s') : xB d mt L Q s := h ▸ k
end
section
/-! sets of places as longs -/
def hb (x : Int64) (i : Nat) : Bool := x.toBitVec.getLsbD i
theorem hb_or (x y : Int64) (i : Nat) : hb (x ||| y) i = (hb x i || hb y i) := by unfold hb; rw [Int64.toBitVec_or, BitVec.getLsbD_or]
theorem hb_and (x y : Int64) (i : Nat) : hb (x &&& y) i = (hb x i && hb y i) := by unfold hb; rw [Int64.toBitVec_and, BitVec.getLsbD_and]
theorem hb_big {x : Int64} {i : Nat} (h : 64 ≤ i) : hb x i = false := by unfold hb; exact BitVec.getLsbD_of_ge _ _ h
theorem hb_m1 {i : Nat} (h : i < 64) : hb (-1) i = true := by
  unfold hb
  rw [show (-1 : Int64).toBitVec = BitVec.allOnes 64 by decide +kernel, BitVec.getLsbD_allOnes]
  simpa using h
theorem hb_not (x : Int64) {i : Nat} (h : i < 64) : hb (x ^^^ (-1)) i = !hb x i := by
  have := hb_m1 h
  unfold hb at this ⊢
  rw [Int64.toBitVec_xor, BitVec.getLsbD_xor, this, Bool.xor_true]
theorem hb_0 (i : Nat) : hb 0 i = false := by unfold hb; simp
theorem hb_ext {x y : Int64} (h : ∀ i, i < 64 → hb x i = hb y i) : x = y := by
  refine Int64.toBitVec_inj.mp (BitVec.eq_of_getLsbD_eq fun i hi => h i hi)
theorem hb_ne {x : Int64} (h : ¬ x = 0) : ∃ i, i < 64 ∧ hb x i = true := by
  refine Decidable.byContradiction fun hn => h (hb_ext fun i hi => ?_)
  rw [hb_0]
  cases hx : hb x i with
  | false => rfl
  | true => exact absurd ⟨i, hi, hx⟩ hn
theorem hb_eq0 {x : Int64} : x = 0 ↔ ∀ i, i < 64 → hb x i = false := ⟨fun h i _ => by rw [h, hb_0], fun h => hb_ext fun i hi => by rw [h i hi, hb_0]⟩
theorem xc63 : ∀ k, k < 64 → ((nI k).toInt64.toUInt64 &&& Int64.toUInt64 63).toNat = k := by decide +kernel
theorem ts_bit' {w : Int64} {s : UInt64} {j : Nat} (hj : j < 64) (hs : s.toNat = j) : ((w.toUInt64 >>> s).toInt64 &&& 1) = 0 ↔ w.toBitVec.getLsbD j = false := by
  have e : (w.toUInt64 >>> s).toInt64.toBitVec = w.toBitVec >>> j := by
    apply BitVec.eq_of_toNat_eq
    show (w.toUInt64 >>> s).toNat = _
    rw [UInt64.toNat_shiftRight, hs, Nat.mod_eq_of_lt hj, BitVec.toNat_ushiftRight]
    rfl
  rw [← Int64.toBitVec_inj, Int64.toBitVec_and, e]
  show w.toBitVec >>> j &&& 1#64 = 0#64 ↔ _
  constructor
  · intro h
    have t := congrArg (fun x => x.getLsbD 0) h
    simpa using t
  · intro h
    apply BitVec.eq_of_getLsbD_eq
    intro i hi
    cases i with
    | zero => simp [h]
    | succ i => simp
theorem hb_test {x : Int64} {k : Nat} (hk : k < 64) : ((x.toUInt64 >>> ((nI k).toInt64.toUInt64 &&& Int64.toUInt64 63)).toInt64 &&& 1) = 0 ↔ hb x k = false := ts_bit' hk (xc63 k hk)
/-- the set of one place, none if there is no such place -/
def xbit (p : Int32) : Int64 := if p < 0 then 0 else if 64 ≤ p then 0 else 1 <<< (p.toInt64 &&& 63)
theorem xbit_tp : ∀ k, k < 64 → (xbit (nI k)).toBitVec = BitVec.twoPow 64 k := by decide +kernel
theorem hb_bit {k : Nat} (hk : k < 64) (i : Nat) : hb (xbit (nI k)) i = decide (i = k) := by
  unfold hb
  rw [xbit_tp k hk, BitVec.getLsbD_twoPow]
  by_cases h : k = i
  · subst h; simp [hk]
  · have : ¬ i = k := fun z => h z.symm
    simp [h, this]
theorem xbit_out {p : Int32} (h : p < 0 ∨ 64 ≤ p) : xbit p = 0 := by
  unfold xbit
  rcases h with h | h
  · rw [if_pos h]
  · by_cases h2 : p < 0
    · rw [if_pos h2]
    · rw [if_neg h2, if_pos h]
/-- the lowest place of a set -/
def xlowN (x : Int64) : Nat → Nat → Nat
  | 0, i => i
  | f + 1, i => bif hb x i then i else xlowN x f (i + 1)
def xlow (x : Int64) : Nat := xlowN x 64 0
theorem xlowN_spec {x : Int64} : ∀ (f i : Nat), (∃ j, i ≤ j ∧ j < i + f ∧ hb x j = true) → hb x (xlowN x f i) = true ∧ i ≤ xlowN x f i ∧ xlowN x f i < i + f ∧ ∀ j, i ≤ j → j < xlowN x f i → hb x j = false := by
  intro f
  induction f with
  | zero => rintro i ⟨j, h1, h2, -⟩; omega
  | succ f ih =>
    rintro i ⟨j, h1, h2, h3⟩
    unfold xlowN
    cases hx : hb x i with
    | true => exact ⟨hx, Nat.le_refl _, by simp only [cond_true]; omega, fun j h4 h5 => by simp only [cond_true] at h5; omega⟩
    | false =>
      simp only [cond_false]
      have hj : i + 1 ≤ j := by
        rcases Nat.lt_or_ge i j with z | z
        · exact z
        · have : j = i := by omega
          subst this; rw [hx] at h3; cases h3
      obtain ⟨g1, g2, g3, g4⟩ := ih (i + 1) ⟨j, hj, by omega, h3⟩
      refine ⟨g1, by omega, by omega, fun k h4 h5 => ?_⟩
      rcases Nat.lt_or_ge i k with z | z
      · exact g4 k z h5
      · have : k = i := by omega
        subst this; exact hx
theorem xlow_spec {x : Int64} (h : ¬ x = 0) : xlow x < 64 ∧ hb x (xlow x) = true ∧ ∀ j, j < xlow x → hb x j = false := by
  obtain ⟨i, hi, hx⟩ := hb_ne h
  obtain ⟨g1, -, g3, g4⟩ := xlowN_spec 64 0 ⟨i, Nat.zero_le _, by omega, hx⟩
  exact ⟨by unfold xlow; omega, g1, fun j hj => g4 j (Nat.zero_le _) hj⟩
theorem xlow_and {x : Int64} (h : ¬ x = 0) : x &&& -x = xbit (nI (xlow x)) := by
  obtain ⟨h1, h2, h3⟩ := xlow_spec h
  refine hb_ext fun i hi => ?_
  rw [hb_bit h1, hb_and]
  have hn : hb (-x) i = (hb x i ^^ decide (∃ j, j < i ∧ hb x j = true)) := by
    unfold hb
    rw [Int64.toBitVec_neg, BitVec.getLsbD_neg]
    simp [hi]
  rw [hn]
  rcases Nat.lt_trichotomy i (xlow x) with z | z | z
  · rw [h3 i z]; simp; omega
  · subst z
    rw [h2]
    have : ¬ ∃ j, j < xlow x ∧ hb x j = true := fun ⟨j, g1, g2⟩ => by rw [h3 j g1] at g2; cases g2
    simp [this]
  · have : ∃ j, j < i ∧ hb x j = true := ⟨_, z, h2⟩
    simp [this]; omega
/-- Long.bitCount -/
def xbc1 (x : Int64) : Int64 := x - ((x.toUInt64 >>> ((Int32.toInt64 1).toUInt64 &&& Int64.toUInt64 63)).toInt64 &&& 6148914691236517205)
def xbc2 (x : Int64) : Int64 := (x &&& 3689348814741910323) + ((x.toUInt64 >>> ((Int32.toInt64 2).toUInt64 &&& Int64.toUInt64 63)).toInt64 &&& 3689348814741910323)
def xbc3 (x : Int64) : Int64 := (x + (x.toUInt64 >>> ((Int32.toInt64 4).toUInt64 &&& Int64.toUInt64 63)).toInt64) &&& 1085102592571150095
def xbc4 (k : Int32) (x : Int64) : Int64 := x + (x.toUInt64 >>> ((Int32.toInt64 k).toUInt64 &&& Int64.toUInt64 63)).toInt64
def xbc (x : Int64) : Int32 := (xbc4 32 (xbc4 16 (xbc4 8 (xbc3 (xbc2 (xbc1 x)))))).toInt32 &&& 127
theorem xbc_low : ∀ k, k < 64 → xbc (xbit (nI k) - 1) = nI k := by decide +kernel
theorem xbc_of {x : Int64} (h : ¬ x = 0) : xbc ((x &&& -x) - 1) = nI (xlow x) := by rw [xlow_and h, xbc_low _ (xlow_spec h).1]
/-! the truth of a range -/
theorem xin_of {x : Int32} {n : Nat} {j : Nat} (hj : j < n) (hn : n < 2 ^ 31) (h : x = nI j) : xin x n = true := by
  subst h
  have h0 := nI_pos (show j < 2 ^ 31 by omega)
  unfold xin
  rw [nI_clamp (by omega)]
  have : Nat.ble n j = false := by
    cases hb : Nat.ble n j with
    | false => rfl
    | true => have := Nat.le_of_ble_eq_true hb; omega
  rw [this]
  simp [h0]
theorem xin_iff {x : Int32} {n : Nat} (hn : n < 2 ^ 31) (h0 : ¬ x < 0) (h1 : x < nI n) : xin x n = true := by
  rcases pk_ix x hn with z | z | ⟨j, h2, h3⟩
  · exact absurd z h0
  · rw [Int32.le_iff_toInt_le] at z; rw [Int32.lt_iff_toInt_lt] at h1; omega
  · exact xin_of h2 hn h3
theorem i_nlt {x y : Int32} : ¬ x < y ↔ y ≤ x := by rw [Int32.lt_iff_toInt_lt, Int32.le_iff_toInt_le]; omega
theorem i_nle {x y : Int32} : ¬ x ≤ y ↔ y < x := by rw [Int32.lt_iff_toInt_lt, Int32.le_iff_toInt_le]; omega
end
section
set_option maxRecDepth 100000 in
theorem c_isBetween (d L : Nat) (mi : xmi) (ml : xml) (x n : Int32)  : xFv (d + 1) 86 [.int x, .int n] L mi ml (.int (xb (0 ≤ x ∧ x < n))) mi ml := by
  refine xF.mk mX8_isBetween rfl rfl ?_
  refine xB.go 1 (1, [(0, .int x), (1, .int n)], [.int x], XM L mi ml) rfl ?_
  refine xB.bp (x < 0) (13, [(0, .int x), (1, .int n)], [], XM L mi ml) (4, [(0, .int x), (1, .int n)], [], XM L mi ml) rfl (fun h1 => ?_) (fun h1 => ?_)
  · refine xB.go 1 (14, [(0, .int x), (1, .int n)], [.int 0], XM L mi ml) rfl ?_
    refine xB.rt (some (.int 0)) mi ml rfl ?_
    have hP : ¬ (0 ≤ x ∧ x < n) := by rw [Int32.le_iff_toInt_le, Int32.lt_iff_toInt_lt] at *; simp only [Int32.lt_iff_toInt_lt, Int32.le_iff_toInt_le, Int32.toInt_zero] at *; omega
    exact ⟨by rw [xb_f hP], rfl, rfl⟩
  · refine xB.go 2 (6, [(0, .int x), (1, .int n)], [.int n, .int x], XM L mi ml) rfl ?_
    refine xB.bp (n ≤ x) (13, [(0, .int x), (1, .int n)], [], XM L mi ml) (9, [(0, .int x), (1, .int n)], [], XM L mi ml) rfl (fun h2 => ?_) (fun h2 => ?_)
    · refine xB.go 1 (14, [(0, .int x), (1, .int n)], [.int 0], XM L mi ml) rfl ?_
      refine xB.rt (some (.int 0)) mi ml rfl ?_
      have hP : ¬ (0 ≤ x ∧ x < n) := by rw [Int32.le_iff_toInt_le, Int32.lt_iff_toInt_lt] at *; simp only [Int32.lt_iff_toInt_lt, Int32.le_iff_toInt_le, Int32.toInt_zero] at *; omega
      exact ⟨by rw [xb_f hP], rfl, rfl⟩
    · refine xB.go 2 (14, [(0, .int x), (1, .int n)], [.int 1], XM L mi ml) rfl ?_
      refine xB.rt (some (.int 1)) mi ml rfl ?_
      have hP : (0 ≤ x ∧ x < n) := by rw [Int32.le_iff_toInt_le, Int32.lt_iff_toInt_lt] at *; simp only [Int32.lt_iff_toInt_lt, Int32.le_iff_toInt_le, Int32.toInt_zero] at *; omega
      exact ⟨by rw [xb_t hP], rfl, rfl⟩
set_option maxRecDepth 100000 in
theorem c_isMemory (d L : Nat) (mi : xmi) (ml : xml) (x : Int32)  : xFv (d + 2) 85 [.int x] L mi ml (.int (xb (0 ≤ x ∧ x < 2))) mi ml := by
  refine xF.mk mX8_isMemory rfl rfl ?_
  refine xB.go 2 (2, [(0, .int x)], [.int 2, .int x], XM L mi ml) rfl ?_
  refine xB.c1 86 [.int x, .int 2] [] (c_isBetween _ L mi ml x 2 ) rfl ?_
  refine xB.rz (xb (0 ≤ x ∧ x < 2)) mi ml rfl xz_xb ?_
  exact ⟨rfl, rfl, rfl⟩
set_option maxRecDepth 100000 in
theorem c_isBelow (d L : Nat) (mi : xmi) (ml : xml) (x y : Int32)  : xFv (d + 1) 87 [.int x, .int y] L mi ml (.int (xb (x &&& (y ^^^ (-1)) = 0))) mi ml := by
  refine xF.mk mX8_isBelow rfl rfl ?_
  refine xB.go 5 (5, [(0, .int x), (1, .int y)], [.int (x &&& (y ^^^ (-1)))], XM L mi ml) rfl ?_
  refine xB.bp (¬ (x &&& (y ^^^ (-1))) = 0) (12, [(0, .int x), (1, .int y)], [], XM L mi ml) (8, [(0, .int x), (1, .int y)], [], XM L mi ml) rfl (fun h1 => ?_) (fun h1 => ?_)
  · refine xB.go 1 (13, [(0, .int x), (1, .int y)], [.int 0], XM L mi ml) rfl ?_
    refine xB.rt (some (.int 0)) mi ml rfl ?_
    have hP : ¬ (x &&& (y ^^^ (-1)) = 0) := by first | assumption | (simp_all; done)
    exact ⟨by rw [xb_f hP], rfl, rfl⟩
  · refine xB.go 2 (13, [(0, .int x), (1, .int y)], [.int 1], XM L mi ml) rfl ?_
    refine xB.rt (some (.int 1)) mi ml rfl ?_
    have hP : (x &&& (y ^^^ (-1)) = 0) := by first | assumption | (simp_all; done)
    exact ⟨by rw [xb_t hP], rfl, rfl⟩
set_option maxRecDepth 100000 in
theorem c_bit (d L : Nat) (mi : xmi) (ml : xml) (x : Int32)  : xFv (d + 1) 88 [.int x] L mi ml (.long (xbit x)) mi ml := by
  refine xF.mk mX8_bit rfl rfl ?_
  refine xB.go 1 (1, [(0, .int x)], [.int x], XM L mi ml) rfl ?_
  refine xB.bp (x < 0) (16, [(0, .int x)], [], XM L mi ml) (4, [(0, .int x)], [], XM L mi ml) rfl (fun h1 => ?_) (fun h1 => ?_)
  · refine xB.go 1 (17, [(0, .int x)], [.long 0], XM L mi ml) rfl ?_
    refine xB.rt (some (.long 0)) mi ml rfl ?_
    refine ⟨?_, rfl, rfl⟩
    unfold xbit; simp only [h1, if_true, if_false]
  · refine xB.go 2 (7, [(0, .int x)], [.int 64, .int x], XM L mi ml) rfl ?_
    refine xB.bp (64 ≤ x) (16, [(0, .int x)], [], XM L mi ml) (10, [(0, .int x)], [], XM L mi ml) rfl (fun h2 => ?_) (fun h2 => ?_)
    · refine xB.go 1 (17, [(0, .int x)], [.long 0], XM L mi ml) rfl ?_
      refine xB.rt (some (.long 0)) mi ml rfl ?_
      refine ⟨?_, rfl, rfl⟩
      unfold xbit; simp only [h1, h2, if_true, if_false]
    · refine xB.go 4 (17, [(0, .int x)], [.long (1 <<< (Int32.toInt64 x &&& 63))], XM L mi ml) rfl ?_
      refine xB.rt (some (.long (1 <<< (Int32.toInt64 x &&& 63)))) mi ml rfl ?_
      refine ⟨?_, rfl, rfl⟩
      unfold xbit; simp only [h1, h2, if_true, if_false]
theorem xholds_1 {s : Int64} {x : Int32} (h : x < 0) : ¬ (0 ≤ x ∧ x < 64 ∧ hb s x.toNatClampNeg = true) := fun z => absurd h (i_nlt.mpr z.1)
theorem xholds_2 {s : Int64} {x : Int32} (h1 : ¬ x < 0) (h : 64 ≤ x) : ¬ (0 ≤ x ∧ x < 64 ∧ hb s x.toNatClampNeg = true) := fun z => absurd z.2.1 (i_nlt.mpr h)
theorem xholds_j {x : Int32} (h1 : ¬ x < 0) (h2 : ¬ 64 ≤ x) : ∃ j, j < 64 ∧ x = nI j := by
  rcases pk_ix x (n := 64) (by decide) with z | z | z
  · exact absurd z h1
  · exact absurd z h2
  · exact z
theorem xholds_f {s : Int64} {x : Int32} (h1 : ¬ x < 0) (h2 : ¬ 64 ≤ x) (h : ((s.toUInt64 >>> (x.toInt64.toUInt64 &&& Int64.toUInt64 63)).toInt64 &&& 1) = 0) : ¬ (0 ≤ x ∧ x < 64 ∧ hb s x.toNatClampNeg = true) := by
  obtain ⟨j, hj, rfl⟩ := xholds_j h1 h2
  rw [hb_test hj] at h
  rw [nI_clamp (by omega)]
  rintro ⟨-, -, z⟩
  rw [h] at z; cases z
theorem xholds_t {s : Int64} {x : Int32} (h1 : ¬ x < 0) (h2 : ¬ 64 ≤ x) (h : ¬ ((s.toUInt64 >>> (x.toInt64.toUInt64 &&& Int64.toUInt64 63)).toInt64 &&& 1) = 0) : 0 ≤ x ∧ x < 64 ∧ hb s x.toNatClampNeg = true := by
  obtain ⟨j, hj, rfl⟩ := xholds_j h1 h2
  rw [hb_test hj] at h
  refine ⟨i_nlt.mp h1, i_nle.mp h2, ?_⟩
  rw [nI_clamp (by omega)]
  simpa using h
set_option maxRecDepth 100000 in
theorem c_holds (d L : Nat) (mi : xmi) (ml : xml) (s : Int64) (x : Int32)  : xFv (d + 1) 89 [.long s, .int x] L mi ml (.int (xb (0 ≤ x ∧ x < 64 ∧ hb s x.toNatClampNeg = true))) mi ml := by
  refine xF.mk mX8_holds rfl rfl ?_
  refine xB.go 1 (1, [(0, .long s), (2, .int x)], [.int x], XM L mi ml) rfl ?_
  refine xB.bp (x < 0) (24, [(0, .long s), (2, .int x)], [], XM L mi ml) (4, [(0, .long s), (2, .int x)], [], XM L mi ml) rfl (fun h1 => ?_) (fun h1 => ?_)
  · refine xB.go 1 (25, [(0, .long s), (2, .int x)], [.int 0], XM L mi ml) rfl ?_
    refine xB.rt (some (.int 0)) mi ml rfl ?_
    exact ⟨by rw [xb_f (xholds_1 h1)], rfl, rfl⟩
  · refine xB.go 2 (7, [(0, .long s), (2, .int x)], [.int 64, .int x], XM L mi ml) rfl ?_
    refine xB.bp (64 ≤ x) (24, [(0, .long s), (2, .int x)], [], XM L mi ml) (10, [(0, .long s), (2, .int x)], [], XM L mi ml) rfl (fun h2 => ?_) (fun h2 => ?_)
    · refine xB.go 1 (25, [(0, .long s), (2, .int x)], [.int 0], XM L mi ml) rfl ?_
      refine xB.rt (some (.int 0)) mi ml rfl ?_
      exact ⟨by rw [xb_f (xholds_2 h1 h2)], rfl, rfl⟩
    · refine xB.go 7 (17, [(0, .long s), (2, .int x)], [.int (lg_cmp ((Int64.toUInt64 s >>> ((Int32.toInt64 x).toUInt64 &&& Int64.toUInt64 63)).toInt64 &&& 1) 0)], XM L mi ml) rfl ?_
      refine xB.lz ((Int64.toUInt64 s >>> ((Int32.toInt64 x).toUInt64 &&& Int64.toUInt64 63)).toInt64 &&& 1) 0 (24, [(0, .long s), (2, .int x)], [], XM L mi ml) (20, [(0, .long s), (2, .int x)], [], XM L mi ml) rfl (fun h3 => ?_) (fun h3 => ?_)
      · refine xB.go 1 (25, [(0, .long s), (2, .int x)], [.int 0], XM L mi ml) rfl ?_
        refine xB.rt (some (.int 0)) mi ml rfl ?_
        exact ⟨by rw [xb_f (xholds_f h1 h2 h3)], rfl, rfl⟩
      · refine xB.go 2 (25, [(0, .long s), (2, .int x)], [.int 1], XM L mi ml) rfl ?_
        refine xB.rt (some (.int 1)) mi ml rfl ?_
        exact ⟨by rw [xb_t (xholds_t h1 h2 h3)], rfl, rfl⟩
set_option maxRecDepth 100000 in
theorem c_bitCount (d L : Nat) (mi : xmi) (ml : xml) (x : Int64)  : xFv (d + 1) 134 [.long x] L mi ml (.int (xbc x)) mi ml := by
  refine xF.mk mJ13_bitCount_95d88 rfl rfl ?_
  refine xB.go 48 (60, [(0, .long ((((((((x - ((Int64.toUInt64 x >>> ((Int32.toInt64 1).toUInt64 &&& Int64.toUInt64 63)).toInt64 &&& 6148914691236517205)) &&& 3689348814741910323) + ((Int64.toUInt64 (x - ((Int64.toUInt64 x >>> ((Int32.toInt64 1).toUInt64 &&& Int64.toUInt64 63)).toInt64 &&& 6148914691236517205)) >>> ((Int32.toInt64 2).toUInt64 &&& Int64.toUInt64 63)).toInt64 &&& 3689348814741910323)) + (Int64.toUInt64 (((x - ((Int64.toUInt64 x >>> ((Int32.toInt64 1).toUInt64 &&& Int64.toUInt64 63)).toInt64 &&& 6148914691236517205)) &&& 3689348814741910323) + ((Int64.toUInt64 (x - ((Int64.toUInt64 x >>> ((Int32.toInt64 1).toUInt64 &&& Int64.toUInt64 63)).toInt64 &&& 6148914691236517205)) >>> ((Int32.toInt64 2).toUInt64 &&& Int64.toUInt64 63)).toInt64 &&& 3689348814741910323)) >>> ((Int32.toInt64 4).toUInt64 &&& Int64.toUInt64 63)).toInt64) &&& 1085102592571150095) + (Int64.toUInt64 (((((x - ((Int64.toUInt64 x >>> ((Int32.toInt64 1).toUInt64 &&& Int64.toUInt64 63)).toInt64 &&& 6148914691236517205)) &&& 3689348814741910323) + ((Int64.toUInt64 (x - ((Int64.toUInt64 x >>> ((Int32.toInt64 1).toUInt64 &&& Int64.toUInt64 63)).toInt64 &&& 6148914691236517205)) >>> ((Int32.toInt64 2).toUInt64 &&& Int64.toUInt64 63)).toInt64 &&& 3689348814741910323)) + (Int64.toUInt64 (((x - ((Int64.toUInt64 x >>> ((Int32.toInt64 1).toUInt64 &&& Int64.toUInt64 63)).toInt64 &&& 6148914691236517205)) &&& 3689348814741910323) + ((Int64.toUInt64 (x - ((Int64.toUInt64 x >>> ((Int32.toInt64 1).toUInt64 &&& Int64.toUInt64 63)).toInt64 &&& 6148914691236517205)) >>> ((Int32.toInt64 2).toUInt64 &&& Int64.toUInt64 63)).toInt64 &&& 3689348814741910323)) >>> ((Int32.toInt64 4).toUInt64 &&& Int64.toUInt64 63)).toInt64) &&& 1085102592571150095) >>> ((Int32.toInt64 8).toUInt64 &&& Int64.toUInt64 63)).toInt64) + (Int64.toUInt64 ((((((x - ((Int64.toUInt64 x >>> ((Int32.toInt64 1).toUInt64 &&& Int64.toUInt64 63)).toInt64 &&& 6148914691236517205)) &&& 3689348814741910323) + ((Int64.toUInt64 (x - ((Int64.toUInt64 x >>> ((Int32.toInt64 1).toUInt64 &&& Int64.toUInt64 63)).toInt64 &&& 6148914691236517205)) >>> ((Int32.toInt64 2).toUInt64 &&& Int64.toUInt64 63)).toInt64 &&& 3689348814741910323)) + (Int64.toUInt64 (((x - ((Int64.toUInt64 x >>> ((Int32.toInt64 1).toUInt64 &&& Int64.toUInt64 63)).toInt64 &&& 6148914691236517205)) &&& 3689348814741910323) + ((Int64.toUInt64 (x - ((Int64.toUInt64 x >>> ((Int32.toInt64 1).toUInt64 &&& Int64.toUInt64 63)).toInt64 &&& 6148914691236517205)) >>> ((Int32.toInt64 2).toUInt64 &&& Int64.toUInt64 63)).toInt64 &&& 3689348814741910323)) >>> ((Int32.toInt64 4).toUInt64 &&& Int64.toUInt64 63)).toInt64) &&& 1085102592571150095) + (Int64.toUInt64 (((((x - ((Int64.toUInt64 x >>> ((Int32.toInt64 1).toUInt64 &&& Int64.toUInt64 63)).toInt64 &&& 6148914691236517205)) &&& 3689348814741910323) + ((Int64.toUInt64 (x - ((Int64.toUInt64 x >>> ((Int32.toInt64 1).toUInt64 &&& Int64.toUInt64 63)).toInt64 &&& 6148914691236517205)) >>> ((Int32.toInt64 2).toUInt64 &&& Int64.toUInt64 63)).toInt64 &&& 3689348814741910323)) + (Int64.toUInt64 (((x - ((Int64.toUInt64 x >>> ((Int32.toInt64 1).toUInt64 &&& Int64.toUInt64 63)).toInt64 &&& 6148914691236517205)) &&& 3689348814741910323) + ((Int64.toUInt64 (x - ((Int64.toUInt64 x >>> ((Int32.toInt64 1).toUInt64 &&& Int64.toUInt64 63)).toInt64 &&& 6148914691236517205)) >>> ((Int32.toInt64 2).toUInt64 &&& Int64.toUInt64 63)).toInt64 &&& 3689348814741910323)) >>> ((Int32.toInt64 4).toUInt64 &&& Int64.toUInt64 63)).toInt64) &&& 1085102592571150095) >>> ((Int32.toInt64 8).toUInt64 &&& Int64.toUInt64 63)).toInt64) >>> ((Int32.toInt64 16).toUInt64 &&& Int64.toUInt64 63)).toInt64) + (Int64.toUInt64 (((((((x - ((Int64.toUInt64 x >>> ((Int32.toInt64 1).toUInt64 &&& Int64.toUInt64 63)).toInt64 &&& 6148914691236517205)) &&& 3689348814741910323) + ((Int64.toUInt64 (x - ((Int64.toUInt64 x >>> ((Int32.toInt64 1).toUInt64 &&& Int64.toUInt64 63)).toInt64 &&& 6148914691236517205)) >>> ((Int32.toInt64 2).toUInt64 &&& Int64.toUInt64 63)).toInt64 &&& 3689348814741910323)) + (Int64.toUInt64 (((x - ((Int64.toUInt64 x >>> ((Int32.toInt64 1).toUInt64 &&& Int64.toUInt64 63)).toInt64 &&& 6148914691236517205)) &&& 3689348814741910323) + ((Int64.toUInt64 (x - ((Int64.toUInt64 x >>> ((Int32.toInt64 1).toUInt64 &&& Int64.toUInt64 63)).toInt64 &&& 6148914691236517205)) >>> ((Int32.toInt64 2).toUInt64 &&& Int64.toUInt64 63)).toInt64 &&& 3689348814741910323)) >>> ((Int32.toInt64 4).toUInt64 &&& Int64.toUInt64 63)).toInt64) &&& 1085102592571150095) + (Int64.toUInt64 (((((x - ((Int64.toUInt64 x >>> ((Int32.toInt64 1).toUInt64 &&& Int64.toUInt64 63)).toInt64 &&& 6148914691236517205)) &&& 3689348814741910323) + ((Int64.toUInt64 (x - ((Int64.toUInt64 x >>> ((Int32.toInt64 1).toUInt64 &&& Int64.toUInt64 63)).toInt64 &&& 6148914691236517205)) >>> ((Int32.toInt64 2).toUInt64 &&& Int64.toUInt64 63)).toInt64 &&& 3689348814741910323)) + (Int64.toUInt64 (((x - ((Int64.toUInt64 x >>> ((Int32.toInt64 1).toUInt64 &&& Int64.toUInt64 63)).toInt64 &&& 6148914691236517205)) &&& 3689348814741910323) + ((Int64.toUInt64 (x - ((Int64.toUInt64 x >>> ((Int32.toInt64 1).toUInt64 &&& Int64.toUInt64 63)).toInt64 &&& 6148914691236517205)) >>> ((Int32.toInt64 2).toUInt64 &&& Int64.toUInt64 63)).toInt64 &&& 3689348814741910323)) >>> ((Int32.toInt64 4).toUInt64 &&& Int64.toUInt64 63)).toInt64) &&& 1085102592571150095) >>> ((Int32.toInt64 8).toUInt64 &&& Int64.toUInt64 63)).toInt64) + (Int64.toUInt64 ((((((x - ((Int64.toUInt64 x >>> ((Int32.toInt64 1).toUInt64 &&& Int64.toUInt64 63)).toInt64 &&& 6148914691236517205)) &&& 3689348814741910323) + ((Int64.toUInt64 (x - ((Int64.toUInt64 x >>> ((Int32.toInt64 1).toUInt64 &&& Int64.toUInt64 63)).toInt64 &&& 6148914691236517205)) >>> ((Int32.toInt64 2).toUInt64 &&& Int64.toUInt64 63)).toInt64 &&& 3689348814741910323)) + (Int64.toUInt64 (((x - ((Int64.toUInt64 x >>> ((Int32.toInt64 1).toUInt64 &&& Int64.toUInt64 63)).toInt64 &&& 6148914691236517205)) &&& 3689348814741910323) + ((Int64.toUInt64 (x - ((Int64.toUInt64 x >>> ((Int32.toInt64 1).toUInt64 &&& Int64.toUInt64 63)).toInt64 &&& 6148914691236517205)) >>> ((Int32.toInt64 2).toUInt64 &&& Int64.toUInt64 63)).toInt64 &&& 3689348814741910323)) >>> ((Int32.toInt64 4).toUInt64 &&& Int64.toUInt64 63)).toInt64) &&& 1085102592571150095) + (Int64.toUInt64 (((((x - ((Int64.toUInt64 x >>> ((Int32.toInt64 1).toUInt64 &&& Int64.toUInt64 63)).toInt64 &&& 6148914691236517205)) &&& 3689348814741910323) + ((Int64.toUInt64 (x - ((Int64.toUInt64 x >>> ((Int32.toInt64 1).toUInt64 &&& Int64.toUInt64 63)).toInt64 &&& 6148914691236517205)) >>> ((Int32.toInt64 2).toUInt64 &&& Int64.toUInt64 63)).toInt64 &&& 3689348814741910323)) + (Int64.toUInt64 (((x - ((Int64.toUInt64 x >>> ((Int32.toInt64 1).toUInt64 &&& Int64.toUInt64 63)).toInt64 &&& 6148914691236517205)) &&& 3689348814741910323) + ((Int64.toUInt64 (x - ((Int64.toUInt64 x >>> ((Int32.toInt64 1).toUInt64 &&& Int64.toUInt64 63)).toInt64 &&& 6148914691236517205)) >>> ((Int32.toInt64 2).toUInt64 &&& Int64.toUInt64 63)).toInt64 &&& 3689348814741910323)) >>> ((Int32.toInt64 4).toUInt64 &&& Int64.toUInt64 63)).toInt64) &&& 1085102592571150095) >>> ((Int32.toInt64 8).toUInt64 &&& Int64.toUInt64 63)).toInt64) >>> ((Int32.toInt64 16).toUInt64 &&& Int64.toUInt64 63)).toInt64) >>> ((Int32.toInt64 32).toUInt64 &&& Int64.toUInt64 63)).toInt64))], [.int ((Int64.toInt32 ((((((((x - ((Int64.toUInt64 x >>> ((Int32.toInt64 1).toUInt64 &&& Int64.toUInt64 63)).toInt64 &&& 6148914691236517205)) &&& 3689348814741910323) + ((Int64.toUInt64 (x - ((Int64.toUInt64 x >>> ((Int32.toInt64 1).toUInt64 &&& Int64.toUInt64 63)).toInt64 &&& 6148914691236517205)) >>> ((Int32.toInt64 2).toUInt64 &&& Int64.toUInt64 63)).toInt64 &&& 3689348814741910323)) + (Int64.toUInt64 (((x - ((Int64.toUInt64 x >>> ((Int32.toInt64 1).toUInt64 &&& Int64.toUInt64 63)).toInt64 &&& 6148914691236517205)) &&& 3689348814741910323) + ((Int64.toUInt64 (x - ((Int64.toUInt64 x >>> ((Int32.toInt64 1).toUInt64 &&& Int64.toUInt64 63)).toInt64 &&& 6148914691236517205)) >>> ((Int32.toInt64 2).toUInt64 &&& Int64.toUInt64 63)).toInt64 &&& 3689348814741910323)) >>> ((Int32.toInt64 4).toUInt64 &&& Int64.toUInt64 63)).toInt64) &&& 1085102592571150095) + (Int64.toUInt64 (((((x - ((Int64.toUInt64 x >>> ((Int32.toInt64 1).toUInt64 &&& Int64.toUInt64 63)).toInt64 &&& 6148914691236517205)) &&& 3689348814741910323) + ((Int64.toUInt64 (x - ((Int64.toUInt64 x >>> ((Int32.toInt64 1).toUInt64 &&& Int64.toUInt64 63)).toInt64 &&& 6148914691236517205)) >>> ((Int32.toInt64 2).toUInt64 &&& Int64.toUInt64 63)).toInt64 &&& 3689348814741910323)) + (Int64.toUInt64 (((x - ((Int64.toUInt64 x >>> ((Int32.toInt64 1).toUInt64 &&& Int64.toUInt64 63)).toInt64 &&& 6148914691236517205)) &&& 3689348814741910323) + ((Int64.toUInt64 (x - ((Int64.toUInt64 x >>> ((Int32.toInt64 1).toUInt64 &&& Int64.toUInt64 63)).toInt64 &&& 6148914691236517205)) >>> ((Int32.toInt64 2).toUInt64 &&& Int64.toUInt64 63)).toInt64 &&& 3689348814741910323)) >>> ((Int32.toInt64 4).toUInt64 &&& Int64.toUInt64 63)).toInt64) &&& 1085102592571150095) >>> ((Int32.toInt64 8).toUInt64 &&& Int64.toUInt64 63)).toInt64) + (Int64.toUInt64 ((((((x - ((Int64.toUInt64 x >>> ((Int32.toInt64 1).toUInt64 &&& Int64.toUInt64 63)).toInt64 &&& 6148914691236517205)) &&& 3689348814741910323) + ((Int64.toUInt64 (x - ((Int64.toUInt64 x >>> ((Int32.toInt64 1).toUInt64 &&& Int64.toUInt64 63)).toInt64 &&& 6148914691236517205)) >>> ((Int32.toInt64 2).toUInt64 &&& Int64.toUInt64 63)).toInt64 &&& 3689348814741910323)) + (Int64.toUInt64 (((x - ((Int64.toUInt64 x >>> ((Int32.toInt64 1).toUInt64 &&& Int64.toUInt64 63)).toInt64 &&& 6148914691236517205)) &&& 3689348814741910323) + ((Int64.toUInt64 (x - ((Int64.toUInt64 x >>> ((Int32.toInt64 1).toUInt64 &&& Int64.toUInt64 63)).toInt64 &&& 6148914691236517205)) >>> ((Int32.toInt64 2).toUInt64 &&& Int64.toUInt64 63)).toInt64 &&& 3689348814741910323)) >>> ((Int32.toInt64 4).toUInt64 &&& Int64.toUInt64 63)).toInt64) &&& 1085102592571150095) + (Int64.toUInt64 (((((x - ((Int64.toUInt64 x >>> ((Int32.toInt64 1).toUInt64 &&& Int64.toUInt64 63)).toInt64 &&& 6148914691236517205)) &&& 3689348814741910323) + ((Int64.toUInt64 (x - ((Int64.toUInt64 x >>> ((Int32.toInt64 1).toUInt64 &&& Int64.toUInt64 63)).toInt64 &&& 6148914691236517205)) >>> ((Int32.toInt64 2).toUInt64 &&& Int64.toUInt64 63)).toInt64 &&& 3689348814741910323)) + (Int64.toUInt64 (((x - ((Int64.toUInt64 x >>> ((Int32.toInt64 1).toUInt64 &&& Int64.toUInt64 63)).toInt64 &&& 6148914691236517205)) &&& 3689348814741910323) + ((Int64.toUInt64 (x - ((Int64.toUInt64 x >>> ((Int32.toInt64 1).toUInt64 &&& Int64.toUInt64 63)).toInt64 &&& 6148914691236517205)) >>> ((Int32.toInt64 2).toUInt64 &&& Int64.toUInt64 63)).toInt64 &&& 3689348814741910323)) >>> ((Int32.toInt64 4).toUInt64 &&& Int64.toUInt64 63)).toInt64) &&& 1085102592571150095) >>> ((Int32.toInt64 8).toUInt64 &&& Int64.toUInt64 63)).toInt64) >>> ((Int32.toInt64 16).toUInt64 &&& Int64.toUInt64 63)).toInt64) + (Int64.toUInt64 (((((((x - ((Int64.toUInt64 x >>> ((Int32.toInt64 1).toUInt64 &&& Int64.toUInt64 63)).toInt64 &&& 6148914691236517205)) &&& 3689348814741910323) + ((Int64.toUInt64 (x - ((Int64.toUInt64 x >>> ((Int32.toInt64 1).toUInt64 &&& Int64.toUInt64 63)).toInt64 &&& 6148914691236517205)) >>> ((Int32.toInt64 2).toUInt64 &&& Int64.toUInt64 63)).toInt64 &&& 3689348814741910323)) + (Int64.toUInt64 (((x - ((Int64.toUInt64 x >>> ((Int32.toInt64 1).toUInt64 &&& Int64.toUInt64 63)).toInt64 &&& 6148914691236517205)) &&& 3689348814741910323) + ((Int64.toUInt64 (x - ((Int64.toUInt64 x >>> ((Int32.toInt64 1).toUInt64 &&& Int64.toUInt64 63)).toInt64 &&& 6148914691236517205)) >>> ((Int32.toInt64 2).toUInt64 &&& Int64.toUInt64 63)).toInt64 &&& 3689348814741910323)) >>> ((Int32.toInt64 4).toUInt64 &&& Int64.toUInt64 63)).toInt64) &&& 1085102592571150095) + (Int64.toUInt64 (((((x - ((Int64.toUInt64 x >>> ((Int32.toInt64 1).toUInt64 &&& Int64.toUInt64 63)).toInt64 &&& 6148914691236517205)) &&& 3689348814741910323) + ((Int64.toUInt64 (x - ((Int64.toUInt64 x >>> ((Int32.toInt64 1).toUInt64 &&& Int64.toUInt64 63)).toInt64 &&& 6148914691236517205)) >>> ((Int32.toInt64 2).toUInt64 &&& Int64.toUInt64 63)).toInt64 &&& 3689348814741910323)) + (Int64.toUInt64 (((x - ((Int64.toUInt64 x >>> ((Int32.toInt64 1).toUInt64 &&& Int64.toUInt64 63)).toInt64 &&& 6148914691236517205)) &&& 3689348814741910323) + ((Int64.toUInt64 (x - ((Int64.toUInt64 x >>> ((Int32.toInt64 1).toUInt64 &&& Int64.toUInt64 63)).toInt64 &&& 6148914691236517205)) >>> ((Int32.toInt64 2).toUInt64 &&& Int64.toUInt64 63)).toInt64 &&& 3689348814741910323)) >>> ((Int32.toInt64 4).toUInt64 &&& Int64.toUInt64 63)).toInt64) &&& 1085102592571150095) >>> ((Int32.toInt64 8).toUInt64 &&& Int64.toUInt64 63)).toInt64) + (Int64.toUInt64 ((((((x - ((Int64.toUInt64 x >>> ((Int32.toInt64 1).toUInt64 &&& Int64.toUInt64 63)).toInt64 &&& 6148914691236517205)) &&& 3689348814741910323) + ((Int64.toUInt64 (x - ((Int64.toUInt64 x >>> ((Int32.toInt64 1).toUInt64 &&& Int64.toUInt64 63)).toInt64 &&& 6148914691236517205)) >>> ((Int32.toInt64 2).toUInt64 &&& Int64.toUInt64 63)).toInt64 &&& 3689348814741910323)) + (Int64.toUInt64 (((x - ((Int64.toUInt64 x >>> ((Int32.toInt64 1).toUInt64 &&& Int64.toUInt64 63)).toInt64 &&& 6148914691236517205)) &&& 3689348814741910323) + ((Int64.toUInt64 (x - ((Int64.toUInt64 x >>> ((Int32.toInt64 1).toUInt64 &&& Int64.toUInt64 63)).toInt64 &&& 6148914691236517205)) >>> ((Int32.toInt64 2).toUInt64 &&& Int64.toUInt64 63)).toInt64 &&& 3689348814741910323)) >>> ((Int32.toInt64 4).toUInt64 &&& Int64.toUInt64 63)).toInt64) &&& 1085102592571150095) + (Int64.toUInt64 (((((x - ((Int64.toUInt64 x >>> ((Int32.toInt64 1).toUInt64 &&& Int64.toUInt64 63)).toInt64 &&& 6148914691236517205)) &&& 3689348814741910323) + ((Int64.toUInt64 (x - ((Int64.toUInt64 x >>> ((Int32.toInt64 1).toUInt64 &&& Int64.toUInt64 63)).toInt64 &&& 6148914691236517205)) >>> ((Int32.toInt64 2).toUInt64 &&& Int64.toUInt64 63)).toInt64 &&& 3689348814741910323)) + (Int64.toUInt64 (((x - ((Int64.toUInt64 x >>> ((Int32.toInt64 1).toUInt64 &&& Int64.toUInt64 63)).toInt64 &&& 6148914691236517205)) &&& 3689348814741910323) + ((Int64.toUInt64 (x - ((Int64.toUInt64 x >>> ((Int32.toInt64 1).toUInt64 &&& Int64.toUInt64 63)).toInt64 &&& 6148914691236517205)) >>> ((Int32.toInt64 2).toUInt64 &&& Int64.toUInt64 63)).toInt64 &&& 3689348814741910323)) >>> ((Int32.toInt64 4).toUInt64 &&& Int64.toUInt64 63)).toInt64) &&& 1085102592571150095) >>> ((Int32.toInt64 8).toUInt64 &&& Int64.toUInt64 63)).toInt64) >>> ((Int32.toInt64 16).toUInt64 &&& Int64.toUInt64 63)).toInt64) >>> ((Int32.toInt64 32).toUInt64 &&& Int64.toUInt64 63)).toInt64)) &&& 127)], XM L mi ml) rfl ?_
  refine xB.rt (some (.int ((Int64.toInt32 ((((((((x - ((Int64.toUInt64 x >>> ((Int32.toInt64 1).toUInt64 &&& Int64.toUInt64 63)).toInt64 &&& 6148914691236517205)) &&& 3689348814741910323) + ((Int64.toUInt64 (x - ((Int64.toUInt64 x >>> ((Int32.toInt64 1).toUInt64 &&& Int64.toUInt64 63)).toInt64 &&& 6148914691236517205)) >>> ((Int32.toInt64 2).toUInt64 &&& Int64.toUInt64 63)).toInt64 &&& 3689348814741910323)) + (Int64.toUInt64 (((x - ((Int64.toUInt64 x >>> ((Int32.toInt64 1).toUInt64 &&& Int64.toUInt64 63)).toInt64 &&& 6148914691236517205)) &&& 3689348814741910323) + ((Int64.toUInt64 (x - ((Int64.toUInt64 x >>> ((Int32.toInt64 1).toUInt64 &&& Int64.toUInt64 63)).toInt64 &&& 6148914691236517205)) >>> ((Int32.toInt64 2).toUInt64 &&& Int64.toUInt64 63)).toInt64 &&& 3689348814741910323)) >>> ((Int32.toInt64 4).toUInt64 &&& Int64.toUInt64 63)).toInt64) &&& 1085102592571150095) + (Int64.toUInt64 (((((x - ((Int64.toUInt64 x >>> ((Int32.toInt64 1).toUInt64 &&& Int64.toUInt64 63)).toInt64 &&& 6148914691236517205)) &&& 3689348814741910323) + ((Int64.toUInt64 (x - ((Int64.toUInt64 x >>> ((Int32.toInt64 1).toUInt64 &&& Int64.toUInt64 63)).toInt64 &&& 6148914691236517205)) >>> ((Int32.toInt64 2).toUInt64 &&& Int64.toUInt64 63)).toInt64 &&& 3689348814741910323)) + (Int64.toUInt64 (((x - ((Int64.toUInt64 x >>> ((Int32.toInt64 1).toUInt64 &&& Int64.toUInt64 63)).toInt64 &&& 6148914691236517205)) &&& 3689348814741910323) + ((Int64.toUInt64 (x - ((Int64.toUInt64 x >>> ((Int32.toInt64 1).toUInt64 &&& Int64.toUInt64 63)).toInt64 &&& 6148914691236517205)) >>> ((Int32.toInt64 2).toUInt64 &&& Int64.toUInt64 63)).toInt64 &&& 3689348814741910323)) >>> ((Int32.toInt64 4).toUInt64 &&& Int64.toUInt64 63)).toInt64) &&& 1085102592571150095) >>> ((Int32.toInt64 8).toUInt64 &&& Int64.toUInt64 63)).toInt64) + (Int64.toUInt64 ((((((x - ((Int64.toUInt64 x >>> ((Int32.toInt64 1).toUInt64 &&& Int64.toUInt64 63)).toInt64 &&& 6148914691236517205)) &&& 3689348814741910323) + ((Int64.toUInt64 (x - ((Int64.toUInt64 x >>> ((Int32.toInt64 1).toUInt64 &&& Int64.toUInt64 63)).toInt64 &&& 6148914691236517205)) >>> ((Int32.toInt64 2).toUInt64 &&& Int64.toUInt64 63)).toInt64 &&& 3689348814741910323)) + (Int64.toUInt64 (((x - ((Int64.toUInt64 x >>> ((Int32.toInt64 1).toUInt64 &&& Int64.toUInt64 63)).toInt64 &&& 6148914691236517205)) &&& 3689348814741910323) + ((Int64.toUInt64 (x - ((Int64.toUInt64 x >>> ((Int32.toInt64 1).toUInt64 &&& Int64.toUInt64 63)).toInt64 &&& 6148914691236517205)) >>> ((Int32.toInt64 2).toUInt64 &&& Int64.toUInt64 63)).toInt64 &&& 3689348814741910323)) >>> ((Int32.toInt64 4).toUInt64 &&& Int64.toUInt64 63)).toInt64) &&& 1085102592571150095) + (Int64.toUInt64 (((((x - ((Int64.toUInt64 x >>> ((Int32.toInt64 1).toUInt64 &&& Int64.toUInt64 63)).toInt64 &&& 6148914691236517205)) &&& 3689348814741910323) + ((Int64.toUInt64 (x - ((Int64.toUInt64 x >>> ((Int32.toInt64 1).toUInt64 &&& Int64.toUInt64 63)).toInt64 &&& 6148914691236517205)) >>> ((Int32.toInt64 2).toUInt64 &&& Int64.toUInt64 63)).toInt64 &&& 3689348814741910323)) + (Int64.toUInt64 (((x - ((Int64.toUInt64 x >>> ((Int32.toInt64 1).toUInt64 &&& Int64.toUInt64 63)).toInt64 &&& 6148914691236517205)) &&& 3689348814741910323) + ((Int64.toUInt64 (x - ((Int64.toUInt64 x >>> ((Int32.toInt64 1).toUInt64 &&& Int64.toUInt64 63)).toInt64 &&& 6148914691236517205)) >>> ((Int32.toInt64 2).toUInt64 &&& Int64.toUInt64 63)).toInt64 &&& 3689348814741910323)) >>> ((Int32.toInt64 4).toUInt64 &&& Int64.toUInt64 63)).toInt64) &&& 1085102592571150095) >>> ((Int32.toInt64 8).toUInt64 &&& Int64.toUInt64 63)).toInt64) >>> ((Int32.toInt64 16).toUInt64 &&& Int64.toUInt64 63)).toInt64) + (Int64.toUInt64 (((((((x - ((Int64.toUInt64 x >>> ((Int32.toInt64 1).toUInt64 &&& Int64.toUInt64 63)).toInt64 &&& 6148914691236517205)) &&& 3689348814741910323) + ((Int64.toUInt64 (x - ((Int64.toUInt64 x >>> ((Int32.toInt64 1).toUInt64 &&& Int64.toUInt64 63)).toInt64 &&& 6148914691236517205)) >>> ((Int32.toInt64 2).toUInt64 &&& Int64.toUInt64 63)).toInt64 &&& 3689348814741910323)) + (Int64.toUInt64 (((x - ((Int64.toUInt64 x >>> ((Int32.toInt64 1).toUInt64 &&& Int64.toUInt64 63)).toInt64 &&& 6148914691236517205)) &&& 3689348814741910323) + ((Int64.toUInt64 (x - ((Int64.toUInt64 x >>> ((Int32.toInt64 1).toUInt64 &&& Int64.toUInt64 63)).toInt64 &&& 6148914691236517205)) >>> ((Int32.toInt64 2).toUInt64 &&& Int64.toUInt64 63)).toInt64 &&& 3689348814741910323)) >>> ((Int32.toInt64 4).toUInt64 &&& Int64.toUInt64 63)).toInt64) &&& 1085102592571150095) + (Int64.toUInt64 (((((x - ((Int64.toUInt64 x >>> ((Int32.toInt64 1).toUInt64 &&& Int64.toUInt64 63)).toInt64 &&& 6148914691236517205)) &&& 3689348814741910323) + ((Int64.toUInt64 (x - ((Int64.toUInt64 x >>> ((Int32.toInt64 1).toUInt64 &&& Int64.toUInt64 63)).toInt64 &&& 6148914691236517205)) >>> ((Int32.toInt64 2).toUInt64 &&& Int64.toUInt64 63)).toInt64 &&& 3689348814741910323)) + (Int64.toUInt64 (((x - ((Int64.toUInt64 x >>> ((Int32.toInt64 1).toUInt64 &&& Int64.toUInt64 63)).toInt64 &&& 6148914691236517205)) &&& 3689348814741910323) + ((Int64.toUInt64 (x - ((Int64.toUInt64 x >>> ((Int32.toInt64 1).toUInt64 &&& Int64.toUInt64 63)).toInt64 &&& 6148914691236517205)) >>> ((Int32.toInt64 2).toUInt64 &&& Int64.toUInt64 63)).toInt64 &&& 3689348814741910323)) >>> ((Int32.toInt64 4).toUInt64 &&& Int64.toUInt64 63)).toInt64) &&& 1085102592571150095) >>> ((Int32.toInt64 8).toUInt64 &&& Int64.toUInt64 63)).toInt64) + (Int64.toUInt64 ((((((x - ((Int64.toUInt64 x >>> ((Int32.toInt64 1).toUInt64 &&& Int64.toUInt64 63)).toInt64 &&& 6148914691236517205)) &&& 3689348814741910323) + ((Int64.toUInt64 (x - ((Int64.toUInt64 x >>> ((Int32.toInt64 1).toUInt64 &&& Int64.toUInt64 63)).toInt64 &&& 6148914691236517205)) >>> ((Int32.toInt64 2).toUInt64 &&& Int64.toUInt64 63)).toInt64 &&& 3689348814741910323)) + (Int64.toUInt64 (((x - ((Int64.toUInt64 x >>> ((Int32.toInt64 1).toUInt64 &&& Int64.toUInt64 63)).toInt64 &&& 6148914691236517205)) &&& 3689348814741910323) + ((Int64.toUInt64 (x - ((Int64.toUInt64 x >>> ((Int32.toInt64 1).toUInt64 &&& Int64.toUInt64 63)).toInt64 &&& 6148914691236517205)) >>> ((Int32.toInt64 2).toUInt64 &&& Int64.toUInt64 63)).toInt64 &&& 3689348814741910323)) >>> ((Int32.toInt64 4).toUInt64 &&& Int64.toUInt64 63)).toInt64) &&& 1085102592571150095) + (Int64.toUInt64 (((((x - ((Int64.toUInt64 x >>> ((Int32.toInt64 1).toUInt64 &&& Int64.toUInt64 63)).toInt64 &&& 6148914691236517205)) &&& 3689348814741910323) + ((Int64.toUInt64 (x - ((Int64.toUInt64 x >>> ((Int32.toInt64 1).toUInt64 &&& Int64.toUInt64 63)).toInt64 &&& 6148914691236517205)) >>> ((Int32.toInt64 2).toUInt64 &&& Int64.toUInt64 63)).toInt64 &&& 3689348814741910323)) + (Int64.toUInt64 (((x - ((Int64.toUInt64 x >>> ((Int32.toInt64 1).toUInt64 &&& Int64.toUInt64 63)).toInt64 &&& 6148914691236517205)) &&& 3689348814741910323) + ((Int64.toUInt64 (x - ((Int64.toUInt64 x >>> ((Int32.toInt64 1).toUInt64 &&& Int64.toUInt64 63)).toInt64 &&& 6148914691236517205)) >>> ((Int32.toInt64 2).toUInt64 &&& Int64.toUInt64 63)).toInt64 &&& 3689348814741910323)) >>> ((Int32.toInt64 4).toUInt64 &&& Int64.toUInt64 63)).toInt64) &&& 1085102592571150095) >>> ((Int32.toInt64 8).toUInt64 &&& Int64.toUInt64 63)).toInt64) >>> ((Int32.toInt64 16).toUInt64 &&& Int64.toUInt64 63)).toInt64) >>> ((Int32.toInt64 32).toUInt64 &&& Int64.toUInt64 63)).toInt64)) &&& 127))) mi ml rfl ?_
  exact ⟨rfl, rfl, rfl⟩
set_option maxRecDepth 100000 in
theorem c_lowest (d L : Nat) (mi : xmi) (ml : xml) (x : Int64)  : xFv (d + 2) 90 [.long x] L mi ml (.int (xbc ((x &&& -x) - 1))) mi ml := by
  refine xF.mk mX8_lowest rfl rfl ?_
  refine xB.go 6 (6, [(0, .long x)], [.long ((x &&& (-x)) - 1)], XM L mi ml) rfl ?_
  refine xB.c1 134 [.long ((x &&& (-x)) - 1)] [] (c_bitCount _ L mi ml ((x &&& (-x)) - 1) ) rfl ?_
  refine xB.rt (some (.int (xbc ((x &&& (-x)) - 1)))) mi ml rfl ?_
  exact ⟨rfl, rfl, rfl⟩
set_option maxRecDepth 100000 in
theorem c_min (d L : Nat) (mi : xmi) (ml : xml) (x y : Int32)  : xFv (d + 1) 136 [.int x, .int y] L mi ml (.int (if x ≤ y then x else y)) mi ml := by
  refine xF.mk mJ9_min_7cf53 rfl rfl ?_
  refine xB.go 2 (2, [(0, .int x), (1, .int y)], [.int y, .int x], XM L mi ml) rfl ?_
  refine xB.bp (y < x) (9, [(0, .int x), (1, .int y)], [], XM L mi ml) (5, [(0, .int x), (1, .int y)], [], XM L mi ml) rfl (fun h1 => ?_) (fun h1 => ?_)
  · refine xB.go 1 (10, [(0, .int x), (1, .int y)], [.int y], XM L mi ml) rfl ?_
    refine xB.rt (some (.int y)) mi ml rfl ?_
    exact ⟨by rw [if_neg (i_nle.mpr h1)], rfl, rfl⟩
  · refine xB.go 2 (10, [(0, .int x), (1, .int y)], [.int x], XM L mi ml) rfl ?_
    refine xB.rt (some (.int x)) mi ml rfl ?_
    exact ⟨by rw [if_pos (i_nlt.mp h1)], rfl, rfl⟩
end
section
/-! the program: cells 1, 2, 3 -/
def sl_kind (mi : xmi) (p : Int32) : Int32 := if 0 ≤ p ∧ p < mi 1 2 then mi 2 p.toNatClampNeg else 9
def sl_num (mi : xmi) (p : Int32) : Int32 := if 0 ≤ p ∧ p < mi 1 2 then mi 3 p.toNatClampNeg else 0
def sl_pf (mi : xmi) (p : Int32) : Int32 := if sl_kind mi p = 9 then -1 else if sl_kind mi p = 4 then sl_num mi p else p + 1
def sl_of (mi : xmi) (p : Int32) : Int32 := if sl_kind mi p = 5 then sl_num mi p else -1
theorem xck {s p : Int32} {n : Nat} (hs : s = nI n) (hn : n ≤ 64) (h : 0 ≤ p ∧ p < s) : xin p 64 = true := by
  subst hs
  rcases pk_ix p (n := n) (by omega) with z | z | ⟨j, h2, h3⟩
  · exact absurd z (i_nlt.mpr h.1)
  · exact absurd h.2 (i_nlt.mpr z)
  · exact xin_of (by omega) (by decide) h3
theorem xck2 {s : Int32} {n : Nat} (hs : s = nI n) (h : ¬ 64 ≤ s) (hn : n ≤ 64) : xin s 64 = true := by
  subst hs
  refine xin_of (j := n) ?_ (by decide) rfl
  rcases Nat.lt_or_ge n 64 with z | z
  · exact z
  · exact absurd (nI_le z (by omega)) h
theorem xck10 {p : Int32} (h : 0 ≤ p ∧ p < 10) : xin p 10 = true := xin_iff (by decide) (i_nlt.mpr h.1) h.2
set_option maxRecDepth 100000 in
theorem c_size (d L : Nat) (mi : xmi) (ml : xml)   : xFv (d + 1) 40 [.ref 1] L mi ml (.int (mi 1 2)) mi ml := by
  refine xF.mk mX5_size rfl rfl ?_
  refine xB.go 2 (4, [(0, .ref 1)], [.int (mi 1 2)], XM L mi ml) rfl ?_
  refine xB.rt (some (.int (mi 1 2))) mi ml rfl ?_
  exact ⟨rfl, rfl, rfl⟩
set_option maxRecDepth 100000 in
theorem c_has (d L : Nat) (mi : xmi) (ml : xml) (x : Int32)  : xFv (d + 1) 41 [.ref 1, .int x] L mi ml (.int (xb (0 ≤ x ∧ x < mi 1 2))) mi ml := by
  refine xF.mk mX5_has rfl rfl ?_
  refine xB.go 1 (1, [(0, .ref 1), (1, .int x)], [.int x], XM L mi ml) rfl ?_
  refine xB.bp (x < 0) (16, [(0, .ref 1), (1, .int x)], [], XM L mi ml) (4, [(0, .ref 1), (1, .int x)], [], XM L mi ml) rfl (fun h1 => ?_) (fun h1 => ?_)
  · refine xB.go 1 (17, [(0, .ref 1), (1, .int x)], [.int 0], XM L mi ml) rfl ?_
    refine xB.rt (some (.int 0)) mi ml rfl ?_
    have hP : ¬ (0 ≤ x ∧ x < mi 1 2) := by simp only [Int32.lt_iff_toInt_lt, Int32.le_iff_toInt_le, Int32.toInt_zero] at *; omega
    exact ⟨by rw [xb_f hP], rfl, rfl⟩
  · refine xB.go 3 (9, [(0, .ref 1), (1, .int x)], [.int (mi 1 2), .int x], XM L mi ml) rfl ?_
    refine xB.bp ((mi 1 2) ≤ x) (16, [(0, .ref 1), (1, .int x)], [], XM L mi ml) (12, [(0, .ref 1), (1, .int x)], [], XM L mi ml) rfl (fun h2 => ?_) (fun h2 => ?_)
    · refine xB.go 1 (17, [(0, .ref 1), (1, .int x)], [.int 0], XM L mi ml) rfl ?_
      refine xB.rt (some (.int 0)) mi ml rfl ?_
      have hP : ¬ (0 ≤ x ∧ x < mi 1 2) := by simp only [Int32.lt_iff_toInt_lt, Int32.le_iff_toInt_le, Int32.toInt_zero] at *; omega
      exact ⟨by rw [xb_f hP], rfl, rfl⟩
    · refine xB.go 2 (17, [(0, .ref 1), (1, .int x)], [.int 1], XM L mi ml) rfl ?_
      refine xB.rt (some (.int 1)) mi ml rfl ?_
      have hP : (0 ≤ x ∧ x < mi 1 2) := by simp only [Int32.lt_iff_toInt_lt, Int32.le_iff_toInt_le, Int32.toInt_zero] at *; omega
      exact ⟨by rw [xb_t hP], rfl, rfl⟩
set_option maxRecDepth 100000 in
theorem c_kindAt (d L : Nat) (mi : xmi) (ml : xml) {n : Nat} (x : Int32) (hs : mi 1 2 = nI n) (hn : n ≤ 64) : xFv (d + 2) 42 [.ref 1, .int x] L mi ml (.int (sl_kind mi x)) mi ml := by
  refine xF.mk mX5_kindAt rfl rfl ?_
  refine xB.go 2 (2, [(0, .ref 1), (1, .int x)], [.int x, .ref 1], XM L mi ml) rfl ?_
  refine xB.c1 41 [.ref 1, .int x] [] (c_has _ L mi ml x ) rfl ?_
  refine xB.bz (0 ≤ x ∧ x < mi 1 2) (17, [(0, .ref 1), (1, .int x)], [], XM L mi ml) (8, [(0, .ref 1), (1, .int x)], [], XM L mi ml) rfl (fun h1 => ?_) (fun h1 => ?_)
  · refine xB.go 1 (19, [(0, .ref 1), (1, .int x)], [.int 9], XM L mi ml) rfl ?_
    refine xB.rt (some (.int 9)) mi ml rfl ?_
    exact ⟨by unfold sl_kind; rw [if_neg h1], rfl, rfl⟩
  · refine xB.go 3 (13, [(0, .ref 1), (1, .int x)], [.int x, .ref 2], XM L mi ml) rfl ?_
    refine xB.ck (xin x 64) (14, [(0, .ref 1), (1, .int x)], [.int (mi 2 x.toNatClampNeg)], XM L mi ml) rfl (xck hs hn h1) ?_
    refine xB.go 1 (19, [(0, .ref 1), (1, .int x)], [.int (mi 2 x.toNatClampNeg)], XM L mi ml) rfl ?_
    refine xB.rt (some (.int (mi 2 x.toNatClampNeg))) mi ml rfl ?_
    exact ⟨by unfold sl_kind; rw [if_pos h1], rfl, rfl⟩
set_option maxRecDepth 100000 in
theorem c_numberAt (d L : Nat) (mi : xmi) (ml : xml) {n : Nat} (x : Int32) (hs : mi 1 2 = nI n) (hn : n ≤ 64) : xFv (d + 2) 43 [.ref 1, .int x] L mi ml (.int (sl_num mi x)) mi ml := by
  refine xF.mk mX5_numberAt rfl rfl ?_
  refine xB.go 2 (2, [(0, .ref 1), (1, .int x)], [.int x, .ref 1], XM L mi ml) rfl ?_
  refine xB.c1 41 [.ref 1, .int x] [] (c_has _ L mi ml x ) rfl ?_
  refine xB.bz (0 ≤ x ∧ x < mi 1 2) (17, [(0, .ref 1), (1, .int x)], [], XM L mi ml) (8, [(0, .ref 1), (1, .int x)], [], XM L mi ml) rfl (fun h1 => ?_) (fun h1 => ?_)
  · refine xB.go 1 (18, [(0, .ref 1), (1, .int x)], [.int 0], XM L mi ml) rfl ?_
    refine xB.rt (some (.int 0)) mi ml rfl ?_
    exact ⟨by unfold sl_num; rw [if_neg h1], rfl, rfl⟩
  · refine xB.go 3 (13, [(0, .ref 1), (1, .int x)], [.int x, .ref 3], XM L mi ml) rfl ?_
    refine xB.ck (xin x 64) (14, [(0, .ref 1), (1, .int x)], [.int (mi 3 x.toNatClampNeg)], XM L mi ml) rfl (xck hs hn h1) ?_
    refine xB.go 1 (18, [(0, .ref 1), (1, .int x)], [.int (mi 3 x.toNatClampNeg)], XM L mi ml) rfl ?_
    refine xB.rt (some (.int (mi 3 x.toNatClampNeg))) mi ml rfl ?_
    exact ⟨by unfold sl_num; rw [if_pos h1], rfl, rfl⟩
set_option maxRecDepth 100000 in
theorem c_plainFollower (d L : Nat) (mi : xmi) (ml : xml) {n : Nat} (x : Int32) (hs : mi 1 2 = nI n) (hn : n ≤ 64) : xFv (d + 3) 46 [.ref 1, .int x] L mi ml (.int (sl_pf mi x)) mi ml := by
  refine xF.mk mX5_plainFollower rfl rfl ?_
  refine xB.go 2 (2, [(0, .ref 1), (1, .int x)], [.int x, .ref 1], XM L mi ml) rfl ?_
  refine xB.c1 42 [.ref 1, .int x] [] (c_kindAt _ L mi ml x hs hn) rfl ?_
  by_cases h1 : (sl_kind mi x) = 4
  · refine xB.tp h1 ?_
    refine xB.go 1 (34, [(0, .ref 1), (1, .int x)], [], XM L mi ml) rfl ?_
    refine xB.go 2 (36, [(0, .ref 1), (1, .int x)], [.int x, .ref 1], XM L mi ml) rfl ?_
    refine xB.c1 43 [.ref 1, .int x] [] (c_numberAt _ L mi ml x hs hn) rfl ?_
    refine xB.rt (some (.int (sl_num mi x))) mi ml rfl ?_
    exact ⟨by unfold sl_pf; simp [h1], rfl, rfl⟩
  by_cases h2 : (sl_kind mi x) = 9
  · refine xB.tp h2 ?_
    refine xB.go 1 (32, [(0, .ref 1), (1, .int x)], [], XM L mi ml) rfl ?_
    refine xB.go 1 (33, [(0, .ref 1), (1, .int x)], [.int (-1)], XM L mi ml) rfl ?_
    refine xB.rt (some (.int (-1))) mi ml rfl ?_
    exact ⟨by unfold sl_pf; simp [h1, h2], rfl, rfl⟩
  refine xB.st (40, [(0, .ref 1), (1, .int x)], [], XM L mi ml) (xls_d (mt := mX5_plainFollower) rfl rfl (xlk_2 (xne_toInt (k := 4) (by decide) h1) (xne_toInt (k := 9) (by decide) h2)) rfl) ?_
  refine xB.go 3 (43, [(0, .ref 1), (1, .int x)], [.int (x + 1)], XM L mi ml) rfl ?_
  refine xB.rt (some (.int (x + 1))) mi ml rfl ?_
  exact ⟨by unfold sl_pf; simp [h1, h2], rfl, rfl⟩
set_option maxRecDepth 100000 in
theorem c_otherFollower (d L : Nat) (mi : xmi) (ml : xml) {n : Nat} (x : Int32) (hs : mi 1 2 = nI n) (hn : n ≤ 64) : xFv (d + 3) 47 [.ref 1, .int x] L mi ml (.int (sl_of mi x)) mi ml := by
  refine xF.mk mX5_otherFollower rfl rfl ?_
  refine xB.go 2 (2, [(0, .ref 1), (1, .int x)], [.int x, .ref 1], XM L mi ml) rfl ?_
  refine xB.c1 42 [.ref 1, .int x] [] (c_kindAt _ L mi ml x hs hn) rfl ?_
  refine xB.go 1 (6, [(0, .ref 1), (1, .int x)], [.int 5, .int (sl_kind mi x)], XM L mi ml) rfl ?_
  refine xB.bp (¬ (sl_kind mi x) = 5) (17, [(0, .ref 1), (1, .int x)], [], XM L mi ml) (9, [(0, .ref 1), (1, .int x)], [], XM L mi ml) rfl (fun h1 => ?_) (fun h1 => ?_)
  · refine xB.go 1 (18, [(0, .ref 1), (1, .int x)], [.int (-1)], XM L mi ml) rfl ?_
    refine xB.rt (some (.int (-1))) mi ml rfl ?_
    exact ⟨by unfold sl_of; simp [h1], rfl, rfl⟩
  · refine xB.go 2 (11, [(0, .ref 1), (1, .int x)], [.int x, .ref 1], XM L mi ml) rfl ?_
    refine xB.c1 43 [.ref 1, .int x] [] (c_numberAt _ L mi ml x hs hn) rfl ?_
    refine xB.go 1 (18, [(0, .ref 1), (1, .int x)], [.int (sl_num mi x)], XM L mi ml) rfl ?_
    refine xB.rt (some (.int (sl_num mi x))) mi ml rfl ?_
    exact ⟨by unfold sl_of; simp [h1], rfl, rfl⟩
set_option maxRecDepth 100000 in
theorem c_canBe (d L : Nat) (mi : xmi) (ml : xml) (x y : Int32)  : xFv (d + 2) 48 [.int x, .int y] L mi ml (.int (xb ((0 ≤ x ∧ x < 10) ∧ (mi 1001 x.toNatClampNeg = 0 ∨ (0 ≤ y ∧ y < mi 1001 x.toNatClampNeg))))) mi ml := by
  refine xF.mk mX5_canBe rfl rfl ?_
  refine xB.go 2 (3, [(0, .int x), (1, .int y)], [.int 10, .int x], XM L mi ml) rfl ?_
  refine xB.c1 86 [.int x, .int 10] [] (c_isBetween _ L mi ml x 10 ) rfl ?_
  refine xB.bn (0 ≤ x ∧ x < 10) (11, [(0, .int x), (1, .int y)], [], XM L mi ml) (9, [(0, .int x), (1, .int y)], [], XM L mi ml) rfl (fun h1 => ?_) (fun h1 => ?_)
  · refine xB.go 2 (15, [(0, .int x), (1, .int y)], [.int x, .ref 1001], XM L mi ml) rfl ?_
    refine xB.ck (xin x 10) (16, [(0, .int x), (1, .int y)], [.int (mi 1001 x.toNatClampNeg)], XM L mi ml) rfl (xck10 h1) ?_
    refine xB.bp ((mi 1001 x.toNatClampNeg) = 0) (31, [(0, .int x), (1, .int y)], [], XM L mi ml) (19, [(0, .int x), (1, .int y)], [], XM L mi ml) rfl (fun h2 => ?_) (fun h2 => ?_)
    · refine xB.go 2 (36, [(0, .int x), (1, .int y)], [.int 1], XM L mi ml) rfl ?_
      refine xB.rt (some (.int 1)) mi ml rfl ?_
      have hP : ((0 ≤ x ∧ x < 10) ∧ (mi 1001 x.toNatClampNeg = 0 ∨ (0 ≤ y ∧ y < mi 1001 x.toNatClampNeg))) := by first | (rintro ⟨z, -⟩; exact absurd z h1) | simp_all
      exact ⟨by rw [xb_t hP], rfl, rfl⟩
    · refine xB.go 3 (24, [(0, .int x), (1, .int y)], [.int x, .ref 1001, .int y], XM L mi ml) rfl ?_
      refine xB.ck (xin x 10) (25, [(0, .int x), (1, .int y)], [.int (mi 1001 x.toNatClampNeg), .int y], XM L mi ml) rfl (xck10 h1) ?_
      refine xB.c1 86 [.int y, .int (mi 1001 x.toNatClampNeg)] [] (c_isBetween _ L mi ml y (mi 1001 x.toNatClampNeg) ) rfl ?_
      refine xB.bz (0 ≤ y ∧ y < (mi 1001 x.toNatClampNeg)) (35, [(0, .int x), (1, .int y)], [], XM L mi ml) (31, [(0, .int x), (1, .int y)], [], XM L mi ml) rfl (fun h3 => ?_) (fun h3 => ?_)
      · refine xB.go 1 (36, [(0, .int x), (1, .int y)], [.int 0], XM L mi ml) rfl ?_
        refine xB.rt (some (.int 0)) mi ml rfl ?_
        have hP : ¬ ((0 ≤ x ∧ x < 10) ∧ (mi 1001 x.toNatClampNeg = 0 ∨ (0 ≤ y ∧ y < mi 1001 x.toNatClampNeg))) := by first | (rintro ⟨z, -⟩; exact absurd z h1) | simp_all
        exact ⟨by rw [xb_f hP], rfl, rfl⟩
      · refine xB.go 2 (36, [(0, .int x), (1, .int y)], [.int 1], XM L mi ml) rfl ?_
        refine xB.rt (some (.int 1)) mi ml rfl ?_
        have hP : ((0 ≤ x ∧ x < 10) ∧ (mi 1001 x.toNatClampNeg = 0 ∨ (0 ≤ y ∧ y < mi 1001 x.toNatClampNeg))) := by first | (rintro ⟨z, -⟩; exact absurd z h1) | simp_all
        exact ⟨by rw [xb_t hP], rfl, rfl⟩
  · refine xB.go 1 (10, [(0, .int x), (1, .int y)], [.int 0], XM L mi ml) rfl ?_
    refine xB.rt (some (.int 0)) mi ml rfl ?_
    have hP : ¬ ((0 ≤ x ∧ x < 10) ∧ (mi 1001 x.toNatClampNeg = 0 ∨ (0 ≤ y ∧ y < mi 1001 x.toNatClampNeg))) := by first | (rintro ⟨z, -⟩; exact absurd z h1) | simp_all
    exact ⟨by rw [xb_f hP], rfl, rfl⟩
set_option maxRecDepth 100000 in
theorem c_add (d L : Nat) (mi : xmi) (ml : xml) {n : Nat} (x y : Int32) (hs : mi 1 2 = nI n) (hn : n ≤ 64) : xFv (d + 3) 44 [.ref 1, .int x, .int y] L mi ml (.int (if (¬ 64 ≤ mi 1 2) ∧ ((0 ≤ x ∧ x < 10) ∧ (mi 1001 x.toNatClampNeg = 0 ∨ (0 ≤ y ∧ y < mi 1001 x.toNatClampNeg))) then mi 1 2 + 1 - 1 else -1)) (if (¬ 64 ≤ mi 1 2) ∧ ((0 ≤ x ∧ x < 10) ∧ (mi 1001 x.toNatClampNeg = 0 ∨ (0 ≤ y ∧ y < mi 1001 x.toNatClampNeg))) then xU (xU (xU mi 2 (mi 1 2).toNatClampNeg x) 3 (mi 1 2).toNatClampNeg y) 1 2 (mi 1 2 + 1) else mi) ml := by
  refine xF.mk mX5_add rfl rfl ?_
  refine xB.go 3 (6, [(0, .ref 1), (1, .int x), (2, .int y)], [.int 64, .int (mi 1 2)], XM L mi ml) rfl ?_
  refine xB.bp (64 ≤ (mi 1 2)) (17, [(0, .ref 1), (1, .int x), (2, .int y)], [], XM L mi ml) (9, [(0, .ref 1), (1, .int x), (2, .int y)], [], XM L mi ml) rfl (fun h1 => ?_) (fun h1 => ?_)
  · refine xB.go 1 (18, [(0, .ref 1), (1, .int x), (2, .int y)], [.int (-1)], XM L mi ml) rfl ?_
    refine xB.rt (some (.int (-1))) mi ml rfl ?_
    exact ⟨by rw [if_neg (by simp_all)], by rw [if_neg (by simp_all)], rfl⟩
  · refine xB.go 2 (11, [(0, .ref 1), (1, .int x), (2, .int y)], [.int y, .int x], XM L mi ml) rfl ?_
    refine xB.c1 48 [.int x, .int y] [] (c_canBe _ L mi ml x y ) rfl ?_
    refine xB.bn ((0 ≤ x ∧ x < 10) ∧ (mi 1001 x.toNatClampNeg = 0 ∨ (0 ≤ y ∧ y < mi 1001 x.toNatClampNeg))) (19, [(0, .ref 1), (1, .int x), (2, .int y)], [], XM L mi ml) (17, [(0, .ref 1), (1, .int x), (2, .int y)], [], XM L mi ml) rfl (fun h2 => ?_) (fun h2 => ?_)
    · refine xB.go 5 (28, [(0, .ref 1), (1, .int x), (2, .int y)], [.int x, .int (mi 1 2), .ref 2], XM L mi ml) rfl ?_
      refine xB.ck (xin (mi 1 2) 64) (29, [(0, .ref 1), (1, .int x), (2, .int y)], [], XM L (xU mi 2 (mi 1 2).toNatClampNeg x) ml) rfl (xck2 hs h1 hn) ?_
      refine xB.go 5 (38, [(0, .ref 1), (1, .int x), (2, .int y)], [.int y, .int (mi 1 2), .ref 3], XM L (xU mi 2 (mi 1 2).toNatClampNeg x) ml) rfl ?_
      refine xB.ck (xin (mi 1 2) 64) (39, [(0, .ref 1), (1, .int x), (2, .int y)], [], XM L (xU (xU mi 2 (mi 1 2).toNatClampNeg x) 3 (mi 1 2).toNatClampNeg y) ml) rfl (xck2 hs h1 hn) ?_
      refine xB.go 10 (55, [(0, .ref 1), (1, .int x), (2, .int y)], [.int (((mi 1 2) + 1) - 1)], XM L (xU (xU (xU mi 2 (mi 1 2).toNatClampNeg x) 3 (mi 1 2).toNatClampNeg y) 1 2 ((mi 1 2) + 1)) ml) rfl ?_
      refine xB.rt (some (.int (((mi 1 2) + 1) - 1))) (xU (xU (xU mi 2 (mi 1 2).toNatClampNeg x) 3 (mi 1 2).toNatClampNeg y) 1 2 ((mi 1 2) + 1)) ml rfl ?_
      have hP : (¬ 64 ≤ mi 1 2) ∧ ((0 ≤ x ∧ x < 10) ∧ (mi 1001 x.toNatClampNeg = 0 ∨ (0 ≤ y ∧ y < mi 1001 x.toNatClampNeg))) := by simp_all
      exact ⟨by rw [if_pos hP], by rw [if_pos hP], rfl⟩
    · refine xB.go 1 (18, [(0, .ref 1), (1, .int x), (2, .int y)], [.int (-1)], XM L mi ml) rfl ?_
      refine xB.rt (some (.int (-1))) mi ml rfl ?_
      exact ⟨by rw [if_neg (by simp_all)], by rw [if_neg (by simp_all)], rfl⟩
set_option maxRecDepth 100000 in
theorem c_removeAll (d L : Nat) (mi : xmi) (ml : xml)   : xFn (d + 1) 45 [.ref 1] L mi ml (xU mi 1 2 0) ml := by
  refine xF.mk mX5_removeAll rfl rfl ?_
  refine xB.go 3 (5, [(0, .ref 1)], [], XM L (xU mi 1 2 0) ml) rfl ?_
  refine xB.rt none (xU mi 1 2 0) ml rfl ?_
  exact ⟨rfl, rfl, rfl⟩
end
section
/-! levels, memories, outcomes, the machine's pile -/
theorem xckn {x : Int32} {k : Nat} (n : Int32) (hn : n = nI k) (hk : k < 2 ^ 31) (h : 0 ≤ x ∧ x < n) : xin x k = true := xin_iff hk (i_nlt.mpr h.1) (by rw [← hn]; exact h.2)
def sl_lv (mi : xmi) (a : Nat) (n : Int32) (x : Int32) : Int32 := if 0 ≤ x ∧ x < n then mi a x.toNatClampNeg else 0
theorem xck64 {x c : Int32} (h : 0 ≤ x ∧ x < if c ≤ 64 then c else 64) : xin x 64 = true := by
  refine xin_iff (by decide) (i_nlt.mpr h.1) ?_
  have h2 := h.2
  by_cases z : c ≤ 64
  · rw [if_pos z] at h2; rw [Int32.lt_iff_toInt_lt] at h2 ⊢; rw [Int32.le_iff_toInt_le] at z; exact Int.lt_of_lt_of_le h2 z
  · rw [if_neg z] at h2; exact h2
theorem xck64n {c : Int32} {n : Nat} (hc : c = nI n) (hn : n < 2 ^ 31) (h : ¬ 64 ≤ c) : xin c 64 = true := by
  subst hc
  refine xin_of (j := n) ?_ (by decide) rfl
  rcases Nat.lt_or_ge n 64 with z | z
  · exact z
  · exact absurd (nI_le z hn) h
set_option maxRecDepth 100000 in
theorem c_ofVariable (d L : Nat) (mi : xmi) (ml : xml) (x : Int32)  : xFv (d + 2) 11 [.ref 4, .int x] L mi ml (.int (sl_lv mi 5 8 x)) mi ml := by
  refine xF.mk mX1_ofVariable rfl rfl ?_
  refine xB.go 2 (3, [(0, .ref 4), (1, .int x)], [.int 8, .int x], XM L mi ml) rfl ?_
  refine xB.c1 86 [.int x, .int 8] [] (c_isBetween _ L mi ml x 8 ) rfl ?_
  refine xB.bz (0 ≤ x ∧ x < 8) (18, [(0, .ref 4), (1, .int x)], [], XM L mi ml) (9, [(0, .ref 4), (1, .int x)], [], XM L mi ml) rfl (fun h1 => ?_) (fun h1 => ?_)
  · refine xB.go 1 (19, [(0, .ref 4), (1, .int x)], [.int 0], XM L mi ml) rfl ?_
    refine xB.rt (some (.int 0)) mi ml rfl ?_
    exact ⟨by unfold sl_lv; rw [if_neg h1], rfl, rfl⟩
  · refine xB.go 3 (14, [(0, .ref 4), (1, .int x)], [.int x, .ref 5], XM L mi ml) rfl ?_
    refine xB.ck (xin x 8) (15, [(0, .ref 4), (1, .int x)], [.int (mi 5 x.toNatClampNeg)], XM L mi ml) rfl (xckn 8 rfl (by decide) h1) ?_
    refine xB.go 1 (19, [(0, .ref 4), (1, .int x)], [.int (mi 5 x.toNatClampNeg)], XM L mi ml) rfl ?_
    refine xB.rt (some (.int (mi 5 x.toNatClampNeg))) mi ml rfl ?_
    exact ⟨by unfold sl_lv; rw [if_pos h1], rfl, rfl⟩
set_option maxRecDepth 100000 in
theorem c_ofArray (d L : Nat) (mi : xmi) (ml : xml) (x : Int32)  : xFv (d + 2) 12 [.ref 4, .int x] L mi ml (.int (sl_lv mi 6 2 x)) mi ml := by
  refine xF.mk mX1_ofArray rfl rfl ?_
  refine xB.go 2 (2, [(0, .ref 4), (1, .int x)], [.int 2, .int x], XM L mi ml) rfl ?_
  refine xB.c1 86 [.int x, .int 2] [] (c_isBetween _ L mi ml x 2 ) rfl ?_
  refine xB.bz (0 ≤ x ∧ x < 2) (17, [(0, .ref 4), (1, .int x)], [], XM L mi ml) (8, [(0, .ref 4), (1, .int x)], [], XM L mi ml) rfl (fun h1 => ?_) (fun h1 => ?_)
  · refine xB.go 1 (18, [(0, .ref 4), (1, .int x)], [.int 0], XM L mi ml) rfl ?_
    refine xB.rt (some (.int 0)) mi ml rfl ?_
    exact ⟨by unfold sl_lv; rw [if_neg h1], rfl, rfl⟩
  · refine xB.go 3 (13, [(0, .ref 4), (1, .int x)], [.int x, .ref 6], XM L mi ml) rfl ?_
    refine xB.ck (xin x 2) (14, [(0, .ref 4), (1, .int x)], [.int (mi 6 x.toNatClampNeg)], XM L mi ml) rfl (xckn 2 rfl (by decide) h1) ?_
    refine xB.go 1 (18, [(0, .ref 4), (1, .int x)], [.int (mi 6 x.toNatClampNeg)], XM L mi ml) rfl ?_
    refine xB.rt (some (.int (mi 6 x.toNatClampNeg))) mi ml rfl ?_
    exact ⟨by unfold sl_lv; rw [if_pos h1], rfl, rfl⟩
set_option maxRecDepth 100000 in
theorem c_ofChannel (d L : Nat) (mi : xmi) (ml : xml) (x : Int32)  : xFv (d + 2) 13 [.ref 4, .int x] L mi ml (.int (sl_lv mi 7 4 x)) mi ml := by
  refine xF.mk mX1_ofChannel rfl rfl ?_
  refine xB.go 2 (2, [(0, .ref 4), (1, .int x)], [.int 4, .int x], XM L mi ml) rfl ?_
  refine xB.c1 86 [.int x, .int 4] [] (c_isBetween _ L mi ml x 4 ) rfl ?_
  refine xB.bz (0 ≤ x ∧ x < 4) (17, [(0, .ref 4), (1, .int x)], [], XM L mi ml) (8, [(0, .ref 4), (1, .int x)], [], XM L mi ml) rfl (fun h1 => ?_) (fun h1 => ?_)
  · refine xB.go 1 (18, [(0, .ref 4), (1, .int x)], [.int 0], XM L mi ml) rfl ?_
    refine xB.rt (some (.int 0)) mi ml rfl ?_
    exact ⟨by unfold sl_lv; rw [if_neg h1], rfl, rfl⟩
  · refine xB.go 3 (13, [(0, .ref 4), (1, .int x)], [.int x, .ref 7], XM L mi ml) rfl ?_
    refine xB.ck (xin x 4) (14, [(0, .ref 4), (1, .int x)], [.int (mi 7 x.toNatClampNeg)], XM L mi ml) rfl (xckn 4 rfl (by decide) h1) ?_
    refine xB.go 1 (18, [(0, .ref 4), (1, .int x)], [.int (mi 7 x.toNatClampNeg)], XM L mi ml) rfl ?_
    refine xB.rt (some (.int (mi 7 x.toNatClampNeg))) mi ml rfl ?_
    exact ⟨by unfold sl_lv; rw [if_pos h1], rfl, rfl⟩
set_option maxRecDepth 100000 in
theorem c_setIn5 (d L : Nat) (mi : xmi) (ml : xml) (x y : Int32)  : xFv (d + 2) 14 [.ref 5, .int x, .int y] L mi ml (.int (xb ((0 ≤ x ∧ x < 8) ∧ (0 ≤ y ∧ y < 4)))) (if (0 ≤ x ∧ x < 8) ∧ (0 ≤ y ∧ y < 4) then xU mi 5 x.toNatClampNeg y else mi) ml := by
  refine xF.mk mX1_setIn rfl rfl ?_
  refine xB.go 3 (3, [(0, .ref 5), (1, .int x), (2, .int y)], [.int 8, .int x], XM L mi ml) rfl ?_
  refine xB.c1 86 [.int x, .int 8] [] (c_isBetween _ L mi ml x 8 ) rfl ?_
  refine xB.bz (0 ≤ x ∧ x < 8) (17, [(0, .ref 5), (1, .int x), (2, .int y)], [], XM L mi ml) (9, [(0, .ref 5), (1, .int x), (2, .int y)], [], XM L mi ml) rfl (fun h1 => ?_) (fun h1 => ?_)
  · refine xB.go 1 (18, [(0, .ref 5), (1, .int x), (2, .int y)], [.int 0], XM L mi ml) rfl ?_
    refine xB.rt (some (.int 0)) mi ml rfl ?_
    have hP : ¬ ((0 ≤ x ∧ x < 8) ∧ (0 ≤ y ∧ y < 4)) := by first | (rintro ⟨z, -⟩; exact absurd z h1) | (rintro ⟨-, z⟩; exact absurd z h2)
    exact ⟨by rw [xb_f hP], by rw [if_neg hP], rfl⟩
  · refine xB.go 2 (11, [(0, .ref 5), (1, .int x), (2, .int y)], [.int 4, .int y], XM L mi ml) rfl ?_
    refine xB.c1 86 [.int y, .int 4] [] (c_isBetween _ L mi ml y 4 ) rfl ?_
    refine xB.bn (0 ≤ y ∧ y < 4) (19, [(0, .ref 5), (1, .int x), (2, .int y)], [], XM L mi ml) (17, [(0, .ref 5), (1, .int x), (2, .int y)], [], XM L mi ml) rfl (fun h2 => ?_) (fun h2 => ?_)
    · refine xB.go 3 (22, [(0, .ref 5), (1, .int x), (2, .int y)], [.int y, .int x, .ref 5], XM L mi ml) rfl ?_
      refine xB.ck (xin x 8) (23, [(0, .ref 5), (1, .int x), (2, .int y)], [], XM L (xU mi 5 x.toNatClampNeg y) ml) rfl (xckn 8 rfl (by decide) h1) ?_
      refine xB.go 1 (24, [(0, .ref 5), (1, .int x), (2, .int y)], [.int 1], XM L (xU mi 5 x.toNatClampNeg y) ml) rfl ?_
      refine xB.rt (some (.int 1)) (xU mi 5 x.toNatClampNeg y) ml rfl ?_
      have hP : (0 ≤ x ∧ x < 8) ∧ (0 ≤ y ∧ y < 4) := by simp_all
      exact ⟨by rw [xb_t hP], by rw [if_pos hP], rfl⟩
    · refine xB.go 1 (18, [(0, .ref 5), (1, .int x), (2, .int y)], [.int 0], XM L mi ml) rfl ?_
      refine xB.rt (some (.int 0)) mi ml rfl ?_
      have hP : ¬ ((0 ≤ x ∧ x < 8) ∧ (0 ≤ y ∧ y < 4)) := by first | (rintro ⟨z, -⟩; exact absurd z h1) | (rintro ⟨-, z⟩; exact absurd z h2)
      exact ⟨by rw [xb_f hP], by rw [if_neg hP], rfl⟩
set_option maxRecDepth 100000 in
theorem c_setIn6 (d L : Nat) (mi : xmi) (ml : xml) (x y : Int32)  : xFv (d + 2) 14 [.ref 6, .int x, .int y] L mi ml (.int (xb ((0 ≤ x ∧ x < 2) ∧ (0 ≤ y ∧ y < 4)))) (if (0 ≤ x ∧ x < 2) ∧ (0 ≤ y ∧ y < 4) then xU mi 6 x.toNatClampNeg y else mi) ml := by
  refine xF.mk mX1_setIn rfl rfl ?_
  refine xB.go 3 (3, [(0, .ref 6), (1, .int x), (2, .int y)], [.int 2, .int x], XM L mi ml) rfl ?_
  refine xB.c1 86 [.int x, .int 2] [] (c_isBetween _ L mi ml x 2 ) rfl ?_
  refine xB.bz (0 ≤ x ∧ x < 2) (17, [(0, .ref 6), (1, .int x), (2, .int y)], [], XM L mi ml) (9, [(0, .ref 6), (1, .int x), (2, .int y)], [], XM L mi ml) rfl (fun h1 => ?_) (fun h1 => ?_)
  · refine xB.go 1 (18, [(0, .ref 6), (1, .int x), (2, .int y)], [.int 0], XM L mi ml) rfl ?_
    refine xB.rt (some (.int 0)) mi ml rfl ?_
    have hP : ¬ ((0 ≤ x ∧ x < 2) ∧ (0 ≤ y ∧ y < 4)) := by first | (rintro ⟨z, -⟩; exact absurd z h1) | (rintro ⟨-, z⟩; exact absurd z h2)
    exact ⟨by rw [xb_f hP], by rw [if_neg hP], rfl⟩
  · refine xB.go 2 (11, [(0, .ref 6), (1, .int x), (2, .int y)], [.int 4, .int y], XM L mi ml) rfl ?_
    refine xB.c1 86 [.int y, .int 4] [] (c_isBetween _ L mi ml y 4 ) rfl ?_
    refine xB.bn (0 ≤ y ∧ y < 4) (19, [(0, .ref 6), (1, .int x), (2, .int y)], [], XM L mi ml) (17, [(0, .ref 6), (1, .int x), (2, .int y)], [], XM L mi ml) rfl (fun h2 => ?_) (fun h2 => ?_)
    · refine xB.go 3 (22, [(0, .ref 6), (1, .int x), (2, .int y)], [.int y, .int x, .ref 6], XM L mi ml) rfl ?_
      refine xB.ck (xin x 2) (23, [(0, .ref 6), (1, .int x), (2, .int y)], [], XM L (xU mi 6 x.toNatClampNeg y) ml) rfl (xckn 2 rfl (by decide) h1) ?_
      refine xB.go 1 (24, [(0, .ref 6), (1, .int x), (2, .int y)], [.int 1], XM L (xU mi 6 x.toNatClampNeg y) ml) rfl ?_
      refine xB.rt (some (.int 1)) (xU mi 6 x.toNatClampNeg y) ml rfl ?_
      have hP : (0 ≤ x ∧ x < 2) ∧ (0 ≤ y ∧ y < 4) := by simp_all
      exact ⟨by rw [xb_t hP], by rw [if_pos hP], rfl⟩
    · refine xB.go 1 (18, [(0, .ref 6), (1, .int x), (2, .int y)], [.int 0], XM L mi ml) rfl ?_
      refine xB.rt (some (.int 0)) mi ml rfl ?_
      have hP : ¬ ((0 ≤ x ∧ x < 2) ∧ (0 ≤ y ∧ y < 4)) := by first | (rintro ⟨z, -⟩; exact absurd z h1) | (rintro ⟨-, z⟩; exact absurd z h2)
      exact ⟨by rw [xb_f hP], by rw [if_neg hP], rfl⟩
set_option maxRecDepth 100000 in
theorem c_setIn7 (d L : Nat) (mi : xmi) (ml : xml) (x y : Int32)  : xFv (d + 2) 14 [.ref 7, .int x, .int y] L mi ml (.int (xb ((0 ≤ x ∧ x < 4) ∧ (0 ≤ y ∧ y < 4)))) (if (0 ≤ x ∧ x < 4) ∧ (0 ≤ y ∧ y < 4) then xU mi 7 x.toNatClampNeg y else mi) ml := by
  refine xF.mk mX1_setIn rfl rfl ?_
  refine xB.go 3 (3, [(0, .ref 7), (1, .int x), (2, .int y)], [.int 4, .int x], XM L mi ml) rfl ?_
  refine xB.c1 86 [.int x, .int 4] [] (c_isBetween _ L mi ml x 4 ) rfl ?_
  refine xB.bz (0 ≤ x ∧ x < 4) (17, [(0, .ref 7), (1, .int x), (2, .int y)], [], XM L mi ml) (9, [(0, .ref 7), (1, .int x), (2, .int y)], [], XM L mi ml) rfl (fun h1 => ?_) (fun h1 => ?_)
  · refine xB.go 1 (18, [(0, .ref 7), (1, .int x), (2, .int y)], [.int 0], XM L mi ml) rfl ?_
    refine xB.rt (some (.int 0)) mi ml rfl ?_
    have hP : ¬ ((0 ≤ x ∧ x < 4) ∧ (0 ≤ y ∧ y < 4)) := by first | (rintro ⟨z, -⟩; exact absurd z h1) | (rintro ⟨-, z⟩; exact absurd z h2)
    exact ⟨by rw [xb_f hP], by rw [if_neg hP], rfl⟩
  · refine xB.go 2 (11, [(0, .ref 7), (1, .int x), (2, .int y)], [.int 4, .int y], XM L mi ml) rfl ?_
    refine xB.c1 86 [.int y, .int 4] [] (c_isBetween _ L mi ml y 4 ) rfl ?_
    refine xB.bn (0 ≤ y ∧ y < 4) (19, [(0, .ref 7), (1, .int x), (2, .int y)], [], XM L mi ml) (17, [(0, .ref 7), (1, .int x), (2, .int y)], [], XM L mi ml) rfl (fun h2 => ?_) (fun h2 => ?_)
    · refine xB.go 3 (22, [(0, .ref 7), (1, .int x), (2, .int y)], [.int y, .int x, .ref 7], XM L mi ml) rfl ?_
      refine xB.ck (xin x 4) (23, [(0, .ref 7), (1, .int x), (2, .int y)], [], XM L (xU mi 7 x.toNatClampNeg y) ml) rfl (xckn 4 rfl (by decide) h1) ?_
      refine xB.go 1 (24, [(0, .ref 7), (1, .int x), (2, .int y)], [.int 1], XM L (xU mi 7 x.toNatClampNeg y) ml) rfl ?_
      refine xB.rt (some (.int 1)) (xU mi 7 x.toNatClampNeg y) ml rfl ?_
      have hP : (0 ≤ x ∧ x < 4) ∧ (0 ≤ y ∧ y < 4) := by simp_all
      exact ⟨by rw [xb_t hP], by rw [if_pos hP], rfl⟩
    · refine xB.go 1 (18, [(0, .ref 7), (1, .int x), (2, .int y)], [.int 0], XM L mi ml) rfl ?_
      refine xB.rt (some (.int 0)) mi ml rfl ?_
      have hP : ¬ ((0 ≤ x ∧ x < 4) ∧ (0 ≤ y ∧ y < 4)) := by first | (rintro ⟨z, -⟩; exact absurd z h1) | (rintro ⟨-, z⟩; exact absurd z h2)
      exact ⟨by rw [xb_f hP], by rw [if_neg hP], rfl⟩
def sl_setP (w x y : Int32) : Prop := if w = 0 then (0 ≤ x ∧ x < 8) ∧ (0 ≤ y ∧ y < 4) else if w = 1 then (0 ≤ x ∧ x < 2) ∧ (0 ≤ y ∧ y < 4) else if w = 2 then (0 ≤ x ∧ x < 4) ∧ (0 ≤ y ∧ y < 4) else False
theorem sl_set0 {x y : Int32} : sl_setP 0 x y ↔ (0 ≤ x ∧ x < 8) ∧ (0 ≤ y ∧ y < 4) := by unfold sl_setP; rw [if_pos rfl]
theorem sl_set1 {x y : Int32} : sl_setP 1 x y ↔ (0 ≤ x ∧ x < 2) ∧ (0 ≤ y ∧ y < 4) := by unfold sl_setP; rw [if_neg (by decide), if_pos rfl]
theorem sl_set2 {x y : Int32} : sl_setP 2 x y ↔ (0 ≤ x ∧ x < 4) ∧ (0 ≤ y ∧ y < 4) := by unfold sl_setP; rw [if_neg (by decide), if_neg (by decide), if_pos rfl]
theorem sl_set3 {w x y : Int32} (h0 : ¬ w = 0) (h1 : ¬ w = 1) (h2 : ¬ w = 2) : ¬ sl_setP w x y := by unfold sl_setP; rw [if_neg h0, if_neg h1, if_neg h2]; exact fun h => h
set_option maxRecDepth 100000 in
theorem c_lset0 (d L : Nat) (mi : xmi) (ml : xml) (x y : Int32)  : xFv (d + 3) 10 [.ref 4, .int 0, .int x, .int y] L mi ml (.int (xb ((0 ≤ x ∧ x < 8) ∧ (0 ≤ y ∧ y < 4)))) (if (0 ≤ x ∧ x < 8) ∧ (0 ≤ y ∧ y < 4) then xU mi 5 x.toNatClampNeg y else mi) ml := by
  refine xF.mk mX1_set rfl rfl ?_
  refine xB.go 6 (34, [(0, .ref 4), (1, .int 0), (2, .int x), (3, .int y)], [.int y, .int x, .ref 5], XM L mi ml) rfl ?_
  refine xB.c1 14 [.ref 5, .int x, .int y] [] (c_setIn5 _ L mi ml x y ) rfl ?_
  refine xB.rz (xb ((0 ≤ x ∧ x < 8) ∧ (0 ≤ y ∧ y < 4))) (if (0 ≤ x ∧ x < 8) ∧ (0 ≤ y ∧ y < 4) then xU mi 5 x.toNatClampNeg y else mi) ml rfl xz_xb ?_
  exact ⟨rfl, rfl, rfl⟩
set_option maxRecDepth 100000 in
theorem c_lset1 (d L : Nat) (mi : xmi) (ml : xml) (x y : Int32)  : xFv (d + 3) 10 [.ref 4, .int 1, .int x, .int y] L mi ml (.int (xb ((0 ≤ x ∧ x < 2) ∧ (0 ≤ y ∧ y < 4)))) (if (0 ≤ x ∧ x < 2) ∧ (0 ≤ y ∧ y < 4) then xU mi 6 x.toNatClampNeg y else mi) ml := by
  refine xF.mk mX1_set rfl rfl ?_
  refine xB.go 6 (44, [(0, .ref 4), (1, .int 1), (2, .int x), (3, .int y)], [.int y, .int x, .ref 6], XM L mi ml) rfl ?_
  refine xB.c1 14 [.ref 6, .int x, .int y] [] (c_setIn6 _ L mi ml x y ) rfl ?_
  refine xB.rz (xb ((0 ≤ x ∧ x < 2) ∧ (0 ≤ y ∧ y < 4))) (if (0 ≤ x ∧ x < 2) ∧ (0 ≤ y ∧ y < 4) then xU mi 6 x.toNatClampNeg y else mi) ml rfl xz_xb ?_
  exact ⟨rfl, rfl, rfl⟩
set_option maxRecDepth 100000 in
theorem c_lset2 (d L : Nat) (mi : xmi) (ml : xml) (x y : Int32)  : xFv (d + 3) 10 [.ref 4, .int 2, .int x, .int y] L mi ml (.int (xb ((0 ≤ x ∧ x < 4) ∧ (0 ≤ y ∧ y < 4)))) (if (0 ≤ x ∧ x < 4) ∧ (0 ≤ y ∧ y < 4) then xU mi 7 x.toNatClampNeg y else mi) ml := by
  refine xF.mk mX1_set rfl rfl ?_
  refine xB.go 6 (54, [(0, .ref 4), (1, .int 2), (2, .int x), (3, .int y)], [.int y, .int x, .ref 7], XM L mi ml) rfl ?_
  refine xB.c1 14 [.ref 7, .int x, .int y] [] (c_setIn7 _ L mi ml x y ) rfl ?_
  refine xB.rz (xb ((0 ≤ x ∧ x < 4) ∧ (0 ≤ y ∧ y < 4))) (if (0 ≤ x ∧ x < 4) ∧ (0 ≤ y ∧ y < 4) then xU mi 7 x.toNatClampNeg y else mi) ml rfl xz_xb ?_
  exact ⟨rfl, rfl, rfl⟩
set_option maxRecDepth 100000 in
theorem c_mget22 (d L : Nat) (mi : xmi) (ml : xml) (x : Int32)  : xFv (d + 2) 25 [.ref 22, .int x] L mi ml (.int (sl_lv mi 23 24 x)) mi ml := by
  refine xF.mk mX3_get rfl rfl ?_
  refine xB.go 2 (3, [(0, .ref 22), (1, .int x)], [.int 24, .int x], XM L mi ml) rfl ?_
  refine xB.c1 86 [.int x, .int 24] [] (c_isBetween _ L mi ml x 24 ) rfl ?_
  refine xB.bz (0 ≤ x ∧ x < 24) (18, [(0, .ref 22), (1, .int x)], [], XM L mi ml) (9, [(0, .ref 22), (1, .int x)], [], XM L mi ml) rfl (fun h1 => ?_) (fun h1 => ?_)
  · refine xB.go 1 (19, [(0, .ref 22), (1, .int x)], [.int 0], XM L mi ml) rfl ?_
    refine xB.rt (some (.int 0)) mi ml rfl ?_
    exact ⟨by unfold sl_lv; rw [if_neg h1], rfl, rfl⟩
  · refine xB.go 3 (14, [(0, .ref 22), (1, .int x)], [.int x, .ref 23], XM L mi ml) rfl ?_
    refine xB.ck (xin x 24) (15, [(0, .ref 22), (1, .int x)], [.int (mi 23 x.toNatClampNeg)], XM L mi ml) rfl (xckn 24 rfl (by decide) h1) ?_
    refine xB.go 1 (19, [(0, .ref 22), (1, .int x)], [.int (mi 23 x.toNatClampNeg)], XM L mi ml) rfl ?_
    refine xB.rt (some (.int (mi 23 x.toNatClampNeg))) mi ml rfl ?_
    exact ⟨by unfold sl_lv; rw [if_pos h1], rfl, rfl⟩
set_option maxRecDepth 100000 in
theorem c_mset22 (d L : Nat) (mi : xmi) (ml : xml) (x y : Int32)  : xFn (d + 2) 26 [.ref 22, .int x, .int y] L mi ml (if 0 ≤ x ∧ x < 24 then xU mi 23 x.toNatClampNeg y else mi) ml := by
  refine xF.mk mX3_set rfl rfl ?_
  refine xB.go 2 (3, [(0, .ref 22), (1, .int x), (2, .int y)], [.int 24, .int x], XM L mi ml) rfl ?_
  refine xB.c1 86 [.int x, .int 24] [] (c_isBetween _ L mi ml x 24 ) rfl ?_
  refine xB.bz (0 ≤ x ∧ x < 24) (16, [(0, .ref 22), (1, .int x), (2, .int y)], [], XM L mi ml) (9, [(0, .ref 22), (1, .int x), (2, .int y)], [], XM L mi ml) rfl (fun h1 => ?_) (fun h1 => ?_)
  · refine xB.rt none mi ml rfl ?_
    exact ⟨rfl, by rw [if_neg h1], rfl⟩
  · refine xB.go 4 (15, [(0, .ref 22), (1, .int x), (2, .int y)], [.int y, .int x, .ref 23], XM L mi ml) rfl ?_
    refine xB.ck (xin x 24) (16, [(0, .ref 22), (1, .int x), (2, .int y)], [], XM L (xU mi 23 x.toNatClampNeg y) ml) rfl (xckn 24 rfl (by decide) h1) ?_
    refine xB.rt none (xU mi 23 x.toNatClampNeg y) ml rfl ?_
    exact ⟨rfl, by rw [if_pos h1], rfl⟩
set_option maxRecDepth 100000 in
theorem c_mget27 (d L : Nat) (mi : xmi) (ml : xml) (x : Int32)  : xFv (d + 2) 25 [.ref 27, .int x] L mi ml (.int (sl_lv mi 28 24 x)) mi ml := by
  refine xF.mk mX3_get rfl rfl ?_
  refine xB.go 2 (3, [(0, .ref 27), (1, .int x)], [.int 24, .int x], XM L mi ml) rfl ?_
  refine xB.c1 86 [.int x, .int 24] [] (c_isBetween _ L mi ml x 24 ) rfl ?_
  refine xB.bz (0 ≤ x ∧ x < 24) (18, [(0, .ref 27), (1, .int x)], [], XM L mi ml) (9, [(0, .ref 27), (1, .int x)], [], XM L mi ml) rfl (fun h1 => ?_) (fun h1 => ?_)
  · refine xB.go 1 (19, [(0, .ref 27), (1, .int x)], [.int 0], XM L mi ml) rfl ?_
    refine xB.rt (some (.int 0)) mi ml rfl ?_
    exact ⟨by unfold sl_lv; rw [if_neg h1], rfl, rfl⟩
  · refine xB.go 3 (14, [(0, .ref 27), (1, .int x)], [.int x, .ref 28], XM L mi ml) rfl ?_
    refine xB.ck (xin x 24) (15, [(0, .ref 27), (1, .int x)], [.int (mi 28 x.toNatClampNeg)], XM L mi ml) rfl (xckn 24 rfl (by decide) h1) ?_
    refine xB.go 1 (19, [(0, .ref 27), (1, .int x)], [.int (mi 28 x.toNatClampNeg)], XM L mi ml) rfl ?_
    refine xB.rt (some (.int (mi 28 x.toNatClampNeg))) mi ml rfl ?_
    exact ⟨by unfold sl_lv; rw [if_pos h1], rfl, rfl⟩
set_option maxRecDepth 100000 in
theorem c_mset27 (d L : Nat) (mi : xmi) (ml : xml) (x y : Int32)  : xFn (d + 2) 26 [.ref 27, .int x, .int y] L mi ml (if 0 ≤ x ∧ x < 24 then xU mi 28 x.toNatClampNeg y else mi) ml := by
  refine xF.mk mX3_set rfl rfl ?_
  refine xB.go 2 (3, [(0, .ref 27), (1, .int x), (2, .int y)], [.int 24, .int x], XM L mi ml) rfl ?_
  refine xB.c1 86 [.int x, .int 24] [] (c_isBetween _ L mi ml x 24 ) rfl ?_
  refine xB.bz (0 ≤ x ∧ x < 24) (16, [(0, .ref 27), (1, .int x), (2, .int y)], [], XM L mi ml) (9, [(0, .ref 27), (1, .int x), (2, .int y)], [], XM L mi ml) rfl (fun h1 => ?_) (fun h1 => ?_)
  · refine xB.rt none mi ml rfl ?_
    exact ⟨rfl, by rw [if_neg h1], rfl⟩
  · refine xB.go 4 (15, [(0, .ref 27), (1, .int x), (2, .int y)], [.int y, .int x, .ref 28], XM L mi ml) rfl ?_
    refine xB.ck (xin x 24) (16, [(0, .ref 27), (1, .int x), (2, .int y)], [], XM L (xU mi 28 x.toNatClampNeg y) ml) rfl (xckn 24 rfl (by decide) h1) ?_
    refine xB.rt none (xU mi 28 x.toNatClampNeg y) ml rfl ?_
    exact ⟨rfl, by rw [if_pos h1], rfl⟩
set_option maxRecDepth 100000 in
theorem c_isThere24 (d L : Nat) (mi : xmi) (ml : xml)  (hz24 : xz (mi 24 2) = true) : xFv (d + 1) 28 [.ref 24] L mi ml (.int (mi 24 2)) mi ml := by
  refine xF.mk mX4_isThere rfl rfl ?_
  refine xB.go 2 (4, [(0, .ref 24)], [.int (mi 24 2)], XM L mi ml) rfl ?_
  refine xB.rz (mi 24 2) mi ml rfl hz24 ?_
  exact ⟨rfl, rfl, rfl⟩
set_option maxRecDepth 100000 in
theorem c_isHalted24 (d L : Nat) (mi : xmi) (ml : xml)  (hh24 : xz (mi 24 3) = true) : xFv (d + 1) 29 [.ref 24] L mi ml (.int (mi 24 3)) mi ml := by
  refine xF.mk mX4_isHalted rfl rfl ?_
  refine xB.go 2 (4, [(0, .ref 24)], [.int (mi 24 3)], XM L mi ml) rfl ?_
  refine xB.rz (mi 24 3) mi ml rfl hh24 ?_
  exact ⟨rfl, rfl, rfl⟩
set_option maxRecDepth 100000 in
theorem c_count24 (d L : Nat) (mi : xmi) (ml : xml)   : xFv (d + 1) 30 [.ref 24] L mi ml (.int (mi 24 4)) mi ml := by
  refine xF.mk mX4_count rfl rfl ?_
  refine xB.go 2 (4, [(0, .ref 24)], [.int (mi 24 4)], XM L mi ml) rfl ?_
  refine xB.rt (some (.int (mi 24 4))) mi ml rfl ?_
  exact ⟨rfl, rfl, rfl⟩
set_option maxRecDepth 100000 in
theorem c_kept24 (d L : Nat) (mi : xmi) (ml : xml)   : xFv (d + 2) 31 [.ref 24] L mi ml (.int (if mi 24 4 ≤ 64 then mi 24 4 else 64)) mi ml := by
  refine xF.mk mX4_kept rfl rfl ?_
  refine xB.go 3 (6, [(0, .ref 24)], [.int 64, .int (mi 24 4)], XM L mi ml) rfl ?_
  refine xB.c1 136 [.int (mi 24 4), .int 64] [] (c_min _ L mi ml (mi 24 4) 64 ) rfl ?_
  refine xB.rt (some (.int (if (mi 24 4) ≤ 64 then (mi 24 4) else 64))) mi ml rfl ?_
  exact ⟨rfl, rfl, rfl⟩
set_option maxRecDepth 100000 in
theorem c_channelAt24 (d L : Nat) (mi : xmi) (ml : xml) (x : Int32)  : xFv (d + 3) 32 [.ref 24, .int x] L mi ml (.int (sl_lv mi 25 (if mi 24 4 ≤ 64 then mi 24 4 else 64) x)) mi ml := by
  refine xF.mk mX4_channelAt rfl rfl ?_
  refine xB.go 2 (2, [(0, .ref 24), (1, .int x)], [.ref 24, .int x], XM L mi ml) rfl ?_
  refine xB.c1 31 [.ref 24] [.int x] (c_kept24 _ L mi ml  ) rfl ?_
  refine xB.c1 86 [.int x, .int (if mi 24 4 ≤ 64 then mi 24 4 else 64)] [] (c_isBetween _ L mi ml x (if mi 24 4 ≤ 64 then mi 24 4 else 64) ) rfl ?_
  refine xB.bz (0 ≤ x ∧ x < (if mi 24 4 ≤ 64 then mi 24 4 else 64)) (20, [(0, .ref 24), (1, .int x)], [], XM L mi ml) (11, [(0, .ref 24), (1, .int x)], [], XM L mi ml) rfl (fun h1 => ?_) (fun h1 => ?_)
  · refine xB.go 1 (21, [(0, .ref 24), (1, .int x)], [.int 0], XM L mi ml) rfl ?_
    refine xB.rt (some (.int 0)) mi ml rfl ?_
    exact ⟨by unfold sl_lv; rw [if_neg h1], rfl, rfl⟩
  · refine xB.go 3 (16, [(0, .ref 24), (1, .int x)], [.int x, .ref 25], XM L mi ml) rfl ?_
    refine xB.ck (xin x 64) (17, [(0, .ref 24), (1, .int x)], [.int (mi 25 x.toNatClampNeg)], XM L mi ml) rfl (xck64 h1) ?_
    refine xB.go 1 (21, [(0, .ref 24), (1, .int x)], [.int (mi 25 x.toNatClampNeg)], XM L mi ml) rfl ?_
    refine xB.rt (some (.int (mi 25 x.toNatClampNeg))) mi ml rfl ?_
    exact ⟨by unfold sl_lv; rw [if_pos h1], rfl, rfl⟩
set_option maxRecDepth 100000 in
theorem c_intAt24 (d L : Nat) (mi : xmi) (ml : xml) (x : Int32)  : xFv (d + 3) 33 [.ref 24, .int x] L mi ml (.int (sl_lv mi 26 (if mi 24 4 ≤ 64 then mi 24 4 else 64) x)) mi ml := by
  refine xF.mk mX4_intAt rfl rfl ?_
  refine xB.go 2 (2, [(0, .ref 24), (1, .int x)], [.ref 24, .int x], XM L mi ml) rfl ?_
  refine xB.c1 31 [.ref 24] [.int x] (c_kept24 _ L mi ml  ) rfl ?_
  refine xB.c1 86 [.int x, .int (if mi 24 4 ≤ 64 then mi 24 4 else 64)] [] (c_isBetween _ L mi ml x (if mi 24 4 ≤ 64 then mi 24 4 else 64) ) rfl ?_
  refine xB.bz (0 ≤ x ∧ x < (if mi 24 4 ≤ 64 then mi 24 4 else 64)) (20, [(0, .ref 24), (1, .int x)], [], XM L mi ml) (11, [(0, .ref 24), (1, .int x)], [], XM L mi ml) rfl (fun h1 => ?_) (fun h1 => ?_)
  · refine xB.go 1 (21, [(0, .ref 24), (1, .int x)], [.int 0], XM L mi ml) rfl ?_
    refine xB.rt (some (.int 0)) mi ml rfl ?_
    exact ⟨by unfold sl_lv; rw [if_neg h1], rfl, rfl⟩
  · refine xB.go 3 (16, [(0, .ref 24), (1, .int x)], [.int x, .ref 26], XM L mi ml) rfl ?_
    refine xB.ck (xin x 64) (17, [(0, .ref 24), (1, .int x)], [.int (mi 26 x.toNatClampNeg)], XM L mi ml) rfl (xck64 h1) ?_
    refine xB.go 1 (21, [(0, .ref 24), (1, .int x)], [.int (mi 26 x.toNatClampNeg)], XM L mi ml) rfl ?_
    refine xB.rt (some (.int (mi 26 x.toNatClampNeg))) mi ml rfl ?_
    exact ⟨by unfold sl_lv; rw [if_pos h1], rfl, rfl⟩
set_option maxRecDepth 100000 in
theorem c_begin24 (d L : Nat) (mi : xmi) (ml : xml)   : xFn (d + 1) 34 [.ref 24] L mi ml (xU (xU (xU mi 24 2 1) 24 3 0) 24 4 0) ml := by
  refine xF.mk mX4_begin rfl rfl ?_
  refine xB.go 9 (15, [(0, .ref 24)], [], XM L (xU (xU (xU mi 24 2 1) 24 3 0) 24 4 0) ml) rfl ?_
  refine xB.rt none (xU (xU (xU mi 24 2 1) 24 3 0) 24 4 0) ml rfl ?_
  exact ⟨rfl, rfl, rfl⟩
set_option maxRecDepth 100000 in
theorem c_halt24 (d L : Nat) (mi : xmi) (ml : xml)   : xFn (d + 1) 35 [.ref 24] L mi ml (xU mi 24 3 1) ml := by
  refine xF.mk mX4_halt rfl rfl ?_
  refine xB.go 3 (5, [(0, .ref 24)], [], XM L (xU mi 24 3 1) ml) rfl ?_
  refine xB.rt none (xU mi 24 3 1) ml rfl ?_
  exact ⟨rfl, rfl, rfl⟩
set_option maxRecDepth 100000 in
theorem c_oadd24 (d L : Nat) (mi : xmi) (ml : xml) {n : Nat} (x y : Int32) (hc24 : mi 24 4 = nI n) (hc224 : n < 2 ^ 31) : xFn (d + 1) 36 [.ref 24, .int x, .int y] L mi ml (if ¬ 64 ≤ mi 24 4 then xU (xU (xU mi 25 (mi 24 4).toNatClampNeg x) 26 (mi 24 4).toNatClampNeg y) 24 4 (mi 24 4 + 1) else xU mi 24 4 (mi 24 4 + 1)) ml := by
  refine xF.mk mX4_add rfl rfl ?_
  refine xB.go 3 (6, [(0, .ref 24), (1, .int x), (2, .int y)], [.int 64, .int (mi 24 4)], XM L mi ml) rfl ?_
  refine xB.bp (64 ≤ (mi 24 4)) (29, [(0, .ref 24), (1, .int x), (2, .int y)], [], XM L mi ml) (9, [(0, .ref 24), (1, .int x), (2, .int y)], [], XM L mi ml) rfl (fun h1 => ?_) (fun h1 => ?_)
  · refine xB.go 6 (39, [(0, .ref 24), (1, .int x), (2, .int y)], [], XM L (xU mi 24 4 ((mi 24 4) + 1)) ml) rfl ?_
    refine xB.rt none (xU mi 24 4 ((mi 24 4) + 1)) ml rfl ?_
    exact ⟨rfl, by rw [if_neg (Classical.not_not.mpr h1)], rfl⟩
  · refine xB.go 5 (18, [(0, .ref 24), (1, .int x), (2, .int y)], [.int x, .int (mi 24 4), .ref 25], XM L mi ml) rfl ?_
    refine xB.ck (xin (mi 24 4) 64) (19, [(0, .ref 24), (1, .int x), (2, .int y)], [], XM L (xU mi 25 (mi 24 4).toNatClampNeg x) ml) rfl (xck64n hc24 hc224 h1) ?_
    refine xB.go 5 (28, [(0, .ref 24), (1, .int x), (2, .int y)], [.int y, .int (mi 24 4), .ref 26], XM L (xU mi 25 (mi 24 4).toNatClampNeg x) ml) rfl ?_
    refine xB.ck (xin (mi 24 4) 64) (29, [(0, .ref 24), (1, .int x), (2, .int y)], [], XM L (xU (xU mi 25 (mi 24 4).toNatClampNeg x) 26 (mi 24 4).toNatClampNeg y) ml) rfl (xck64n hc24 hc224 h1) ?_
    refine xB.go 6 (39, [(0, .ref 24), (1, .int x), (2, .int y)], [], XM L (xU (xU (xU mi 25 (mi 24 4).toNatClampNeg x) 26 (mi 24 4).toNatClampNeg y) 24 4 ((mi 24 4) + 1)) ml) rfl ?_
    refine xB.rt none (xU (xU (xU mi 25 (mi 24 4).toNatClampNeg x) 26 (mi 24 4).toNatClampNeg y) 24 4 ((mi 24 4) + 1)) ml rfl ?_
    exact ⟨rfl, by rw [if_pos h1], rfl⟩
set_option maxRecDepth 100000 in
theorem c_isThere29 (d L : Nat) (mi : xmi) (ml : xml)  (hz29 : xz (mi 29 2) = true) : xFv (d + 1) 28 [.ref 29] L mi ml (.int (mi 29 2)) mi ml := by
  refine xF.mk mX4_isThere rfl rfl ?_
  refine xB.go 2 (4, [(0, .ref 29)], [.int (mi 29 2)], XM L mi ml) rfl ?_
  refine xB.rz (mi 29 2) mi ml rfl hz29 ?_
  exact ⟨rfl, rfl, rfl⟩
set_option maxRecDepth 100000 in
theorem c_isHalted29 (d L : Nat) (mi : xmi) (ml : xml)  (hh29 : xz (mi 29 3) = true) : xFv (d + 1) 29 [.ref 29] L mi ml (.int (mi 29 3)) mi ml := by
  refine xF.mk mX4_isHalted rfl rfl ?_
  refine xB.go 2 (4, [(0, .ref 29)], [.int (mi 29 3)], XM L mi ml) rfl ?_
  refine xB.rz (mi 29 3) mi ml rfl hh29 ?_
  exact ⟨rfl, rfl, rfl⟩
set_option maxRecDepth 100000 in
theorem c_count29 (d L : Nat) (mi : xmi) (ml : xml)   : xFv (d + 1) 30 [.ref 29] L mi ml (.int (mi 29 4)) mi ml := by
  refine xF.mk mX4_count rfl rfl ?_
  refine xB.go 2 (4, [(0, .ref 29)], [.int (mi 29 4)], XM L mi ml) rfl ?_
  refine xB.rt (some (.int (mi 29 4))) mi ml rfl ?_
  exact ⟨rfl, rfl, rfl⟩
set_option maxRecDepth 100000 in
theorem c_kept29 (d L : Nat) (mi : xmi) (ml : xml)   : xFv (d + 2) 31 [.ref 29] L mi ml (.int (if mi 29 4 ≤ 64 then mi 29 4 else 64)) mi ml := by
  refine xF.mk mX4_kept rfl rfl ?_
  refine xB.go 3 (6, [(0, .ref 29)], [.int 64, .int (mi 29 4)], XM L mi ml) rfl ?_
  refine xB.c1 136 [.int (mi 29 4), .int 64] [] (c_min _ L mi ml (mi 29 4) 64 ) rfl ?_
  refine xB.rt (some (.int (if (mi 29 4) ≤ 64 then (mi 29 4) else 64))) mi ml rfl ?_
  exact ⟨rfl, rfl, rfl⟩
set_option maxRecDepth 100000 in
theorem c_channelAt29 (d L : Nat) (mi : xmi) (ml : xml) (x : Int32)  : xFv (d + 3) 32 [.ref 29, .int x] L mi ml (.int (sl_lv mi 30 (if mi 29 4 ≤ 64 then mi 29 4 else 64) x)) mi ml := by
  refine xF.mk mX4_channelAt rfl rfl ?_
  refine xB.go 2 (2, [(0, .ref 29), (1, .int x)], [.ref 29, .int x], XM L mi ml) rfl ?_
  refine xB.c1 31 [.ref 29] [.int x] (c_kept29 _ L mi ml  ) rfl ?_
  refine xB.c1 86 [.int x, .int (if mi 29 4 ≤ 64 then mi 29 4 else 64)] [] (c_isBetween _ L mi ml x (if mi 29 4 ≤ 64 then mi 29 4 else 64) ) rfl ?_
  refine xB.bz (0 ≤ x ∧ x < (if mi 29 4 ≤ 64 then mi 29 4 else 64)) (20, [(0, .ref 29), (1, .int x)], [], XM L mi ml) (11, [(0, .ref 29), (1, .int x)], [], XM L mi ml) rfl (fun h1 => ?_) (fun h1 => ?_)
  · refine xB.go 1 (21, [(0, .ref 29), (1, .int x)], [.int 0], XM L mi ml) rfl ?_
    refine xB.rt (some (.int 0)) mi ml rfl ?_
    exact ⟨by unfold sl_lv; rw [if_neg h1], rfl, rfl⟩
  · refine xB.go 3 (16, [(0, .ref 29), (1, .int x)], [.int x, .ref 30], XM L mi ml) rfl ?_
    refine xB.ck (xin x 64) (17, [(0, .ref 29), (1, .int x)], [.int (mi 30 x.toNatClampNeg)], XM L mi ml) rfl (xck64 h1) ?_
    refine xB.go 1 (21, [(0, .ref 29), (1, .int x)], [.int (mi 30 x.toNatClampNeg)], XM L mi ml) rfl ?_
    refine xB.rt (some (.int (mi 30 x.toNatClampNeg))) mi ml rfl ?_
    exact ⟨by unfold sl_lv; rw [if_pos h1], rfl, rfl⟩
set_option maxRecDepth 100000 in
theorem c_intAt29 (d L : Nat) (mi : xmi) (ml : xml) (x : Int32)  : xFv (d + 3) 33 [.ref 29, .int x] L mi ml (.int (sl_lv mi 31 (if mi 29 4 ≤ 64 then mi 29 4 else 64) x)) mi ml := by
  refine xF.mk mX4_intAt rfl rfl ?_
  refine xB.go 2 (2, [(0, .ref 29), (1, .int x)], [.ref 29, .int x], XM L mi ml) rfl ?_
  refine xB.c1 31 [.ref 29] [.int x] (c_kept29 _ L mi ml  ) rfl ?_
  refine xB.c1 86 [.int x, .int (if mi 29 4 ≤ 64 then mi 29 4 else 64)] [] (c_isBetween _ L mi ml x (if mi 29 4 ≤ 64 then mi 29 4 else 64) ) rfl ?_
  refine xB.bz (0 ≤ x ∧ x < (if mi 29 4 ≤ 64 then mi 29 4 else 64)) (20, [(0, .ref 29), (1, .int x)], [], XM L mi ml) (11, [(0, .ref 29), (1, .int x)], [], XM L mi ml) rfl (fun h1 => ?_) (fun h1 => ?_)
  · refine xB.go 1 (21, [(0, .ref 29), (1, .int x)], [.int 0], XM L mi ml) rfl ?_
    refine xB.rt (some (.int 0)) mi ml rfl ?_
    exact ⟨by unfold sl_lv; rw [if_neg h1], rfl, rfl⟩
  · refine xB.go 3 (16, [(0, .ref 29), (1, .int x)], [.int x, .ref 31], XM L mi ml) rfl ?_
    refine xB.ck (xin x 64) (17, [(0, .ref 29), (1, .int x)], [.int (mi 31 x.toNatClampNeg)], XM L mi ml) rfl (xck64 h1) ?_
    refine xB.go 1 (21, [(0, .ref 29), (1, .int x)], [.int (mi 31 x.toNatClampNeg)], XM L mi ml) rfl ?_
    refine xB.rt (some (.int (mi 31 x.toNatClampNeg))) mi ml rfl ?_
    exact ⟨by unfold sl_lv; rw [if_pos h1], rfl, rfl⟩
set_option maxRecDepth 100000 in
theorem c_begin29 (d L : Nat) (mi : xmi) (ml : xml)   : xFn (d + 1) 34 [.ref 29] L mi ml (xU (xU (xU mi 29 2 1) 29 3 0) 29 4 0) ml := by
  refine xF.mk mX4_begin rfl rfl ?_
  refine xB.go 9 (15, [(0, .ref 29)], [], XM L (xU (xU (xU mi 29 2 1) 29 3 0) 29 4 0) ml) rfl ?_
  refine xB.rt none (xU (xU (xU mi 29 2 1) 29 3 0) 29 4 0) ml rfl ?_
  exact ⟨rfl, rfl, rfl⟩
set_option maxRecDepth 100000 in
theorem c_halt29 (d L : Nat) (mi : xmi) (ml : xml)   : xFn (d + 1) 35 [.ref 29] L mi ml (xU mi 29 3 1) ml := by
  refine xF.mk mX4_halt rfl rfl ?_
  refine xB.go 3 (5, [(0, .ref 29)], [], XM L (xU mi 29 3 1) ml) rfl ?_
  refine xB.rt none (xU mi 29 3 1) ml rfl ?_
  exact ⟨rfl, rfl, rfl⟩
set_option maxRecDepth 100000 in
theorem c_oadd29 (d L : Nat) (mi : xmi) (ml : xml) {n : Nat} (x y : Int32) (hc29 : mi 29 4 = nI n) (hc229 : n < 2 ^ 31) : xFn (d + 1) 36 [.ref 29, .int x, .int y] L mi ml (if ¬ 64 ≤ mi 29 4 then xU (xU (xU mi 30 (mi 29 4).toNatClampNeg x) 31 (mi 29 4).toNatClampNeg y) 29 4 (mi 29 4 + 1) else xU mi 29 4 (mi 29 4 + 1)) ml := by
  refine xF.mk mX4_add rfl rfl ?_
  refine xB.go 3 (6, [(0, .ref 29), (1, .int x), (2, .int y)], [.int 64, .int (mi 29 4)], XM L mi ml) rfl ?_
  refine xB.bp (64 ≤ (mi 29 4)) (29, [(0, .ref 29), (1, .int x), (2, .int y)], [], XM L mi ml) (9, [(0, .ref 29), (1, .int x), (2, .int y)], [], XM L mi ml) rfl (fun h1 => ?_) (fun h1 => ?_)
  · refine xB.go 6 (39, [(0, .ref 29), (1, .int x), (2, .int y)], [], XM L (xU mi 29 4 ((mi 29 4) + 1)) ml) rfl ?_
    refine xB.rt none (xU mi 29 4 ((mi 29 4) + 1)) ml rfl ?_
    exact ⟨rfl, by rw [if_neg (Classical.not_not.mpr h1)], rfl⟩
  · refine xB.go 5 (18, [(0, .ref 29), (1, .int x), (2, .int y)], [.int x, .int (mi 29 4), .ref 30], XM L mi ml) rfl ?_
    refine xB.ck (xin (mi 29 4) 64) (19, [(0, .ref 29), (1, .int x), (2, .int y)], [], XM L (xU mi 30 (mi 29 4).toNatClampNeg x) ml) rfl (xck64n hc29 hc229 h1) ?_
    refine xB.go 5 (28, [(0, .ref 29), (1, .int x), (2, .int y)], [.int y, .int (mi 29 4), .ref 31], XM L (xU mi 30 (mi 29 4).toNatClampNeg x) ml) rfl ?_
    refine xB.ck (xin (mi 29 4) 64) (29, [(0, .ref 29), (1, .int x), (2, .int y)], [], XM L (xU (xU mi 30 (mi 29 4).toNatClampNeg x) 31 (mi 29 4).toNatClampNeg y) ml) rfl (xck64n hc29 hc229 h1) ?_
    refine xB.go 6 (39, [(0, .ref 29), (1, .int x), (2, .int y)], [], XM L (xU (xU (xU mi 30 (mi 29 4).toNatClampNeg x) 31 (mi 29 4).toNatClampNeg y) 29 4 ((mi 29 4) + 1)) ml) rfl ?_
    refine xB.rt none (xU (xU (xU mi 30 (mi 29 4).toNatClampNeg x) 31 (mi 29 4).toNatClampNeg y) 29 4 ((mi 29 4) + 1)) ml rfl ?_
    exact ⟨rfl, by rw [if_pos h1], rfl⟩
end
section
/-! THE DOCUMENT'S TERMS over a program of n instructions, kinds K, jumps T -/
def tk (k : Nat) : Nat := [0, 0, 1, 2, 0, 1, 1, 2, 1, 0].getD k 0
def pt (k : Nat) : Nat := [1, 1, 0, 1, 0, 0, 1, 0, 0, 0].getD k 0
/-- a way goes on from i to j -/
def Fo (K T : Nat → Nat) (i j : Nat) : Prop := K i ≠ 9 ∧ ((j = if K i = 4 then T i else i + 1) ∨ (K i = 5 ∧ j = T i))
/-- instruction i is come to with h ints on the pile -/
def Rh (n : Nat) (K T : Nat → Nat) (i h : Nat) : Prop := ∀ X : Nat → Nat → Prop, X 0 0 → (∀ i h j, X i h → i < n → tk (K i) ≤ h → h - tk (K i) + pt (K i) ≤ 16 → Fo K T i j → X j (h - tk (K i) + pt (K i))) → X i h
theorem Rh.zero {n : Nat} {K T : Nat → Nat} : Rh n K T 0 0 := fun _ h _ => h
theorem Rh.next {n : Nat} {K T : Nat → Nat} {i h j : Nat} (hr : Rh n K T i h) (h1 : i < n) (h2 : tk (K i) ≤ h) (h3 : h - tk (K i) + pt (K i) ≤ 16) (h4 : Fo K T i j) : Rh n K T j (h - tk (K i) + pt (K i)) := fun X a b => b i h j (hr X a b) h1 h2 h3 h4
/-- well formed -/
def WF (n : Nat) (K T : Nat → Nat) : Prop := (∀ i h, Rh n K T i h → i < n ∧ tk (K i) ≤ h ∧ h - tk (K i) + pt (K i) ≤ 16) ∧ ∀ i h h', Rh n K T i h → Rh n K T i h' → h = h'
/-- a set of places with heights that is closed and in order: then all is well formed, and it is what is come to -/
theorem WF_of {n : Nat} {K T : Nat → Nat} (S : Nat → Nat → Prop) (h0 : S 0 0) (hin : ∀ i h, S i h → i < n ∧ tk (K i) ≤ h ∧ h - tk (K i) + pt (K i) ≤ 16) (hcl : ∀ i h j, S i h → Fo K T i j → S j (h - tk (K i) + pt (K i))) (huq : ∀ i h h', S i h → S i h' → h = h') : WF n K T ∧ ∀ i h, Rh n K T i h → S i h := by
  have hs : ∀ i h, Rh n K T i h → S i h := fun i h hr => hr S h0 (fun i h j g _ _ _ g4 => hcl i h j g g4)
  exact ⟨⟨fun i h hr => hin i h (hs i h hr), fun i h h' a b => huq i h h' (hs i h a) (hs i h' b)⟩, hs⟩
/-! how many places of a row are in a set -/
def cnt (f : Nat → Bool) : Nat → Nat
  | 0 => 0
  | m + 1 => cnt f m + (bif f m then 1 else 0)
theorem cnt_le (f : Nat → Bool) (m : Nat) : cnt f m ≤ m := by
  induction m with
  | zero => exact Nat.le_refl _
  | succ m ih => unfold cnt; cases f m <;> simp only [cond_true, cond_false] <;> omega
theorem cnt_congr {f g : Nat → Bool} {m : Nat} (h : ∀ i, i < m → f i = g i) : cnt f m = cnt g m := by
  induction m with
  | zero => rfl
  | succ m ih => unfold cnt; rw [ih (fun i hi => h i (by omega)), h m (by omega)]
theorem cnt_mono {f g : Nat → Bool} {m : Nat} (h : ∀ i, i < m → f i = true → g i = true) : cnt f m ≤ cnt g m := by
  induction m with
  | zero => exact Nat.le_refl _
  | succ m ih =>
    unfold cnt
    have h1 := ih (fun i hi => h i (by omega))
    have h2 := h m (by omega)
    cases hf : f m <;> cases hg : g m <;> simp only [cond_true, cond_false] <;> first | omega | (rw [hf, hg] at h2; exact absurd (h2 rfl) (by decide))
theorem cnt_lt {f g : Nat → Bool} {m j : Nat} (h : ∀ i, i < m → f i = true → g i = true) (hj : j < m) (h1 : f j = false) (h2 : g j = true) : cnt f m < cnt g m := by
  induction m with
  | zero => omega
  | succ m ih =>
    unfold cnt
    by_cases e : j = m
    · subst e
      have := cnt_mono (f := f) (g := g) (m := j) (fun i hi => h i (by omega))
      rw [h1, h2]; simp only [cond_true, cond_false]; omega
    · have h3 := ih (fun i hi => h i (by omega)) (by omega)
      have h4 := h m (by omega)
      cases hf : f m <;> cases hg : g m <;> simp only [cond_true, cond_false] <;> first | omega | (rw [hf, hg] at h4; exact absurd (h4 rfl) (by decide))
theorem cnt_zero {f : Nat → Bool} {m : Nat} (h : ∀ i, i < m → f i = false) : cnt f m = 0 := by
  induction m with
  | zero => rfl
  | succ m ih => unfold cnt; rw [ih (fun i hi => h i (by omega)), h m (by omega)]; rfl
theorem cnt_full {f : Nat → Bool} {m : Nat} (h : m ≤ cnt f m) : ∀ i, i < m → f i = true := by
  induction m with
  | zero => intro i hi; omega
  | succ m ih =>
    unfold cnt at h
    have h1 := cnt_le f m
    cases hf : f m with
    | false => rw [hf] at h; simp only [cond_false] at h; omega
    | true =>
      rw [hf] at h; simp only [cond_true] at h
      intro i hi
      by_cases e : i = m
      · subst e; exact hf
      · exact ih (by omega) i (by omega)
/-! the program in the class's cells -/
def PRG (mi : xmi) (n : Nat) (K T : Nat → Nat) : Prop := mi 1 2 = nI n ∧ n ≤ 64 ∧ (∀ i, i < n → mi 2 i = nI (K i) ∧ K i < 10) ∧ (∀ i, i < n → K i = 4 ∨ K i = 5 → mi 3 i = nI (T i) ∧ T i < 64) ∧ mi 1002 = xtake ∧ mi 1003 = xputs
theorem tk_le : ∀ k, k < 10 → tk k ≤ 2 ∧ xtake k = nI (tk k) := by decide +kernel
theorem pt_le : ∀ k, k < 10 → pt k ≤ 1 ∧ xputs k = nI (pt k) := by decide +kernel
theorem nI_rng {i n : Nat} (hn : n < 2 ^ 31) (hi : i < 2 ^ 31) : (0 ≤ nI i ∧ nI i < nI n) ↔ i < n := by
  rw [nI_ltI hi hn]
  exact ⟨fun h => h.2, fun h => ⟨nI_pos' hi, h⟩⟩
theorem PRG.kind {mi : xmi} {n : Nat} {K T : Nat → Nat} (h : PRG mi n K T) {i : Nat} (hi : i < n) : sl_kind mi (nI i) = nI (K i) := by
  obtain ⟨h1, h2, h3, -⟩ := h
  unfold sl_kind
  rw [h1, if_pos ((nI_rng (by omega) (by omega)).mpr hi), nI_clamp (by omega), (h3 i hi).1]
theorem PRG.num {mi : xmi} {n : Nat} {K T : Nat → Nat} (h : PRG mi n K T) {i : Nat} (hi : i < n) : sl_num mi (nI i) = mi 3 i := by
  obtain ⟨h1, h2, h3, -⟩ := h
  unfold sl_num
  rw [h1, if_pos ((nI_rng (by omega) (by omega)).mpr hi), nI_clamp (by omega)]
theorem PRG.pf {mi : xmi} {n : Nat} {K T : Nat → Nat} (h : PRG mi n K T) {i : Nat} (hi : i < n) (h9 : K i ≠ 9) : sl_pf mi (nI i) = nI (if K i = 4 then T i else i + 1) := by
  have hk := (h.2.2.1 i hi).2
  unfold sl_pf
  rw [h.kind hi, if_neg (by rw [show (9 : Int32) = nI 9 from rfl, nI_eq (by omega) (by omega)]; exact h9)]
  by_cases h4 : K i = 4
  · rw [if_pos (by rw [h4]; rfl), if_pos h4, h.num hi, (h.2.2.2.1 i hi (Or.inl h4)).1]
  · rw [if_neg (by rw [show (4 : Int32) = nI 4 from rfl, nI_eq (by omega) (by omega)]; exact h4), if_neg h4, nI_1]
theorem PRG.ofr {mi : xmi} {n : Nat} {K T : Nat → Nat} (h : PRG mi n K T) {i : Nat} (hi : i < n) (h5 : K i = 5) : sl_of mi (nI i) = nI (T i) := by
  unfold sl_of
  rw [h.kind hi, if_pos (by rw [h5]; rfl), h.num hi, (h.2.2.2.1 i hi (Or.inr h5)).1]
end
section
/-! the shape -/
def CT (n : Nat) (mi : xmi) (ml : xml) (q h : Nat) (a : xmi) (b : xml) : Prop :=
  (¬ q < n ∧ a = xU mi 8 4 0 ∧ b = ml) ∨ (q < n ∧ hb (ml 8 2) q = false ∧ a = xU mi 9 q (nI h) ∧ b = xU (xU ml 8 2 (ml 8 2 ||| xbit (nI q))) 8 3 (ml 8 3 ||| xbit (nI q))) ∨
  (q < n ∧ hb (ml 8 2) q = true ∧ ¬ mi 9 q = nI h ∧ a = xU mi 8 4 0 ∧ b = ml) ∨ (q < n ∧ hb (ml 8 2) q = true ∧ mi 9 q = nI h ∧ a = mi ∧ b = ml)
theorem PRG.has {mi : xmi} {n : Nat} {K T : Nat → Nat} (hP : PRG mi n K T) {q : Nat} (hq : q < 2 ^ 31) : (0 ≤ nI q ∧ nI q < mi 1 2) ↔ q < n := by rw [hP.1]; exact nI_rng (by have := hP.2.1; omega) hq
theorem hb_P {s : Int64} {q : Nat} (hq : q < 64) : (0 ≤ nI q ∧ nI q < 64 ∧ hb s (nI q).toNatClampNeg = true) ↔ hb s q = true := by
  rw [nI_clamp (by omega)]
  exact ⟨fun h => h.2.2, fun h => ⟨nI_pos' (by omega), nI_lt hq (by decide), h⟩⟩
theorem xU_64 {α : Type} {f : Nat → Nat → α} {a q : Nat} {v : α} (hq : q < 2 ^ 31) : xU f a (nI q).toNatClampNeg v = xU f a q v := by rw [nI_clamp hq]
set_option maxRecDepth 100000 in
set_option maxHeartbeats 1000000 in
theorem c_comeTo (d L : Nat) (mi : xmi) (ml : xml) {n : Nat} {K T : Nat → Nat} (hP : PRG mi n K T) (q h : Nat) (hq : q < 2 ^ 31) : xF (d + 2) 55 [.ref 8, .int (nI q), .int (nI h)] L mi ml (fun r a b => r = none ∧ CT n mi ml q h a b) := by
  refine xF.mk mX6_comeTo rfl rfl ?_
  refine xB.go 3 (5, [(0, .ref 8), (1, .int (nI q)), (2, .int (nI h))], [.int (nI q), .ref 1], XM L mi ml) rfl ?_
  refine xB.c1 41 [.ref 1, .int (nI q)] [] (c_has _ L mi ml (nI q) ) rfl ?_
  refine xB.bn (0 ≤ (nI q) ∧ (nI q) < mi 1 2) (19, [(0, .ref 8), (1, .int (nI q)), (2, .int (nI h))], [], XM L mi ml) (11, [(0, .ref 8), (1, .int (nI q)), (2, .int (nI h))], [], XM L mi ml) rfl (fun h1 => ?_) (fun h1 => ?_)
  · refine xB.go 3 (24, [(0, .ref 8), (1, .int (nI q)), (2, .int (nI h))], [.int (nI q), .long (ml 8 2)], XM L mi ml) rfl ?_
    refine xB.c1 89 [.long (ml 8 2), .int (nI q)] [] (c_holds _ L mi ml (ml 8 2) (nI q) ) rfl ?_
    refine xB.bn (0 ≤ (nI q) ∧ (nI q) < 64 ∧ hb (ml 8 2) (nI q).toNatClampNeg = true) (66, [(0, .ref 8), (1, .int (nI q)), (2, .int (nI h))], [], XM L mi ml) (30, [(0, .ref 8), (1, .int (nI q)), (2, .int (nI h))], [], XM L mi ml) rfl (fun h2 => ?_) (fun h2 => ?_)
    · refine xB.go 3 (71, [(0, .ref 8), (1, .int (nI q)), (2, .int (nI h))], [.int (nI q), .ref 9], XM L mi ml) rfl ?_
      refine xB.ck (xin (nI q) 64) (72, [(0, .ref 8), (1, .int (nI q)), (2, .int (nI h))], [.int (mi 9 (nI q).toNatClampNeg)], XM L mi ml) rfl (xck hP.1 hP.2.1 h1) ?_
      refine xB.go 1 (73, [(0, .ref 8), (1, .int (nI q)), (2, .int (nI h))], [.int (nI h), .int (mi 9 (nI q).toNatClampNeg)], XM L mi ml) rfl ?_
      refine xB.bp ((mi 9 (nI q).toNatClampNeg) = (nI h)) (81, [(0, .ref 8), (1, .int (nI q)), (2, .int (nI h))], [], XM L mi ml) (76, [(0, .ref 8), (1, .int (nI q)), (2, .int (nI h))], [], XM L mi ml) rfl (fun h3 => ?_) (fun h3 => ?_)
      · refine xB.rt none mi ml rfl ?_
        have g1 := (hP.has hq).mp h1
        have g64 : q < 64 := Nat.lt_of_lt_of_le g1 hP.2.1
        have g2 := (hb_P g64).mp h2
        rw [nI_clamp hq] at h3
        exact ⟨rfl, Or.inr (Or.inr (Or.inr ⟨g1, g2, h3, rfl, rfl⟩))⟩
      · refine xB.go 3 (81, [(0, .ref 8), (1, .int (nI q)), (2, .int (nI h))], [], XM L (xU mi 8 4 0) ml) rfl ?_
        refine xB.rt none (xU mi 8 4 0) ml rfl ?_
        have g1 := (hP.has hq).mp h1
        have g64 : q < 64 := Nat.lt_of_lt_of_le g1 hP.2.1
        have g2 := (hb_P g64).mp h2
        rw [nI_clamp hq] at h3
        exact ⟨rfl, Or.inr (Or.inr (Or.inl ⟨g1, g2, h3, rfl, rfl⟩))⟩
    · refine xB.go 4 (36, [(0, .ref 8), (1, .int (nI q)), (2, .int (nI h))], [.int (nI q), .long (ml 8 2), .ref 8], XM L mi ml) rfl ?_
      refine xB.c1 88 [.int (nI q)] [.long (ml 8 2), .ref 8] (c_bit _ L mi ml (nI q) ) rfl ?_
      refine xB.go 6 (49, [(0, .ref 8), (1, .int (nI q)), (2, .int (nI h))], [.int (nI q), .long (ml 8 3), .ref 8], XM L mi (xU ml 8 2 ((ml 8 2) ||| (xbit (nI q))))) rfl ?_
      refine xB.c1 88 [.int (nI q)] [.long (ml 8 3), .ref 8] (c_bit _ L mi (xU ml 8 2 ((ml 8 2) ||| (xbit (nI q)))) (nI q) ) rfl ?_
      refine xB.go 6 (62, [(0, .ref 8), (1, .int (nI q)), (2, .int (nI h))], [.int (nI h), .int (nI q), .ref 9], XM L mi (xU (xU ml 8 2 ((ml 8 2) ||| (xbit (nI q)))) 8 3 ((ml 8 3) ||| (xbit (nI q))))) rfl ?_
      refine xB.ck (xin (nI q) 64) (63, [(0, .ref 8), (1, .int (nI q)), (2, .int (nI h))], [], XM L (xU mi 9 (nI q).toNatClampNeg (nI h)) (xU (xU ml 8 2 ((ml 8 2) ||| (xbit (nI q)))) 8 3 ((ml 8 3) ||| (xbit (nI q))))) rfl (xck hP.1 hP.2.1 h1) ?_
      refine xB.go 1 (81, [(0, .ref 8), (1, .int (nI q)), (2, .int (nI h))], [], XM L (xU mi 9 (nI q).toNatClampNeg (nI h)) (xU (xU ml 8 2 ((ml 8 2) ||| (xbit (nI q)))) 8 3 ((ml 8 3) ||| (xbit (nI q))))) rfl ?_
      refine xB.rt none (xU mi 9 (nI q).toNatClampNeg (nI h)) (xU (xU ml 8 2 ((ml 8 2) ||| (xbit (nI q)))) 8 3 ((ml 8 3) ||| (xbit (nI q)))) rfl ?_
      have g1 := (hP.has hq).mp h1
      have g64 : q < 64 := Nat.lt_of_lt_of_le g1 hP.2.1
      have g2 : hb (ml 8 2) q = false := by cases hz : hb (ml 8 2) q with | false => rfl | true => exact absurd ((hb_P g64).mpr hz) h2
      exact ⟨rfl, Or.inr (Or.inl ⟨g1, g2, xU_64 hq, rfl⟩)⟩
  · refine xB.go 4 (81, [(0, .ref 8), (1, .int (nI q)), (2, .int (nI h))], [], XM L (xU mi 8 4 0) ml) rfl ?_
    refine xB.rt none (xU mi 8 4 0) ml rfl ?_
    exact ⟨rfl, Or.inl ⟨fun z => h1 ((hP.has hq).mpr z), rfl, rfl⟩⟩
theorem c_kindN (d L : Nat) (mi : xmi) (ml : xml) {n : Nat} {K T : Nat → Nat} (hP : PRG mi n K T) {i : Nat} (hi : i < n) : xFv (d + 2) 42 [.ref 1, .int (nI i)] L mi ml (.int (nI (K i))) mi ml := by
  have h := c_kindAt d L mi ml (nI i) hP.1 hP.2.1
  rwa [hP.kind hi] at h
theorem c_pfN (d L : Nat) (mi : xmi) (ml : xml) {n : Nat} {K T : Nat → Nat} (hP : PRG mi n K T) {i : Nat} (hi : i < n) (h9 : K i ≠ 9) : xFv (d + 3) 46 [.ref 1, .int (nI i)] L mi ml (.int (nI (if K i = 4 then T i else i + 1))) mi ml := by
  have h := c_plainFollower d L mi ml (nI i) hP.1 hP.2.1
  rwa [hP.pf hi h9] at h
theorem c_ofN (d L : Nat) (mi : xmi) (ml : xml) {n : Nat} {K T : Nat → Nat} (hP : PRG mi n K T) {i : Nat} (hi : i < n) (h5 : K i = 5) : xFv (d + 3) 47 [.ref 1, .int (nI i)] L mi ml (.int (nI (T i))) mi ml := by
  have h := c_otherFollower d L mi ml (nI i) hP.1 hP.2.1
  rwa [hP.ofr hi h5] at h
theorem PRG.frame {mi a : xmi} {n : Nat} {K T : Nat → Nat} (hP : PRG mi n K T) (h1 : a 1 = mi 1) (h2 : a 2 = mi 2) (h3 : a 3 = mi 3) (h4 : a 1002 = mi 1002) (h5 : a 1003 = mi 1003) : PRG a n K T := by
  unfold PRG; rw [h1, h2, h3, h4, h5]; exact hP
theorem CT.frame {n q h : Nat} {mi a : xmi} {ml b : xml} (hc : CT n mi ml q h a b) : (∀ x, x ≠ 8 → x ≠ 9 → a x = mi x) ∧ (∀ x, x ≠ 8 → b x = ml x) := by
  rcases hc with ⟨-, rfl, rfl⟩ | ⟨-, -, rfl, rfl⟩ | ⟨-, -, -, rfl, rfl⟩ | ⟨-, -, -, rfl, rfl⟩
  · exact ⟨fun x h8 _ => xU_ne h8, fun _ _ => rfl⟩
  · exact ⟨fun x _ h9 => xU_ne h9, fun x h8 => by rw [xU_ne h8, xU_ne h8]⟩
  · exact ⟨fun x h8 _ => xU_ne h8, fun _ _ => rfl⟩
  · exact ⟨fun _ _ _ => rfl, fun _ _ => rfl⟩
theorem CT.prg {n n' q h : Nat} {K T : Nat → Nat} {mi a : xmi} {ml b : xml} (hc : CT n' mi ml q h a b) (hP : PRG mi n K T) : PRG a n K T := by
  obtain ⟨h1, -⟩ := hc.frame
  exact hP.frame (h1 1 (by decide) (by decide)) (h1 2 (by decide) (by decide)) (h1 3 (by decide) (by decide)) (h1 1002 (by decide) (by decide)) (h1 1003 (by decide) (by decide))
/-- what goOnFrom does at i, with h ints on the pile -/
def GO (n : Nat) (K T : Nat → Nat) (mi : xmi) (ml : xml) (i h : Nat) (a : xmi) (b : xml) : Prop :=
  (¬ (tk (K i) ≤ h ∧ h - tk (K i) + pt (K i) ≤ 16) ∧ a = xU mi 8 4 0 ∧ b = ml) ∨
  ((tk (K i) ≤ h ∧ h - tk (K i) + pt (K i) ≤ 16) ∧ ((K i = 9 ∧ a = mi ∧ b = ml) ∨ (K i ≠ 9 ∧ K i ≠ 5 ∧ CT n mi ml (if K i = 4 then T i else i + 1) (h - tk (K i) + pt (K i)) a b) ∨
    (K i = 5 ∧ ∃ a1 b1, CT n mi ml (i + 1) (h - tk (K i) + pt (K i)) a1 b1 ∧ CT n a1 b1 (T i) (h - tk (K i) + pt (K i)) a b)))
theorem nI_subneg {h t : Nat} (hh : h < 2 ^ 30) (ht : t < 2 ^ 30) : nI h - nI t < 0 ↔ h < t := by
  rw [Int32.lt_iff_toInt_lt, pk_sub_toInt hh ht, Int32.toInt_zero]; omega
theorem nI_subeq {h t : Nat} (h1 : t ≤ h) : nI h - nI t = nI (h - t) := pk_sub h1
theorem go_le {h : Nat} {k : Nat} (h16 : h ≤ 16) (hk : k < 10) (g : ¬ nI h - nI (tk k) < 0) : tk k ≤ h := by
  have := (tk_le k hk).1
  rw [nI_subneg (by omega) (by omega)] at g
  omega
theorem go_n9 {k : Nat} (hk : k < 10) (g : ¬ nI k = 9) : k ≠ 9 := fun z => g (by rw [z]; rfl)
theorem go_5 {k : Nat} (hk : k < 10) (g : ¬ ¬ nI k = 5) : k = 5 := by
  have g := Classical.not_not.mp g
  rw [show (5 : Int32) = nI 5 from rfl, nI_eq (by omega) (by omega)] at g
  exact g
theorem go_n5 {k : Nat} (hk : k < 10) (g : ¬ nI k = 5) : k ≠ 5 := fun z => g (by rw [z]; rfl)
theorem go_9 {k : Nat} (hk : k < 10) (g : nI k = 9) : k = 9 := by
  rw [show (9 : Int32) = nI 9 from rfl, nI_eq (by omega) (by omega)] at g
  exact g
theorem go_lt {mi : xmi} {n : Nat} {K T : Nat → Nat} (hP : PRG mi n K T) {i : Nat} (hi : i < n) (hk : K i < 10) : (if K i = 4 then T i else i + 1) < 2 ^ 31 := by
  have := hP.2.1
  by_cases h : K i = 4
  · rw [if_pos h]; have := (hP.2.2.2.1 i hi (Or.inl h)).2; omega
  · rw [if_neg h]; omega
theorem go_lt5 {mi : xmi} {n : Nat} {K T : Nat → Nat} (hP : PRG mi n K T) {i : Nat} (hi : i < n) (h : K i = 5) : T i < 2 ^ 31 := by
  have := (hP.2.2.2.1 i hi (Or.inr h)).2; omega
set_option maxRecDepth 100000 in
set_option maxHeartbeats 1000000 in
theorem c_goOnFrom (d L : Nat) (mi : xmi) (ml : xml) {n : Nat} {K T : Nat → Nat} (hP : PRG mi n K T) {i h : Nat} (hi : i < n) (hh : mi 9 i = nI h) (h16 : h ≤ 16) : xF (d + 4) 54 [.ref 8, .int (nI i)] L mi ml (fun r a b => r = none ∧ GO n K T mi ml i h a b) := by
  have hk := (hP.2.2.1 i hi).2
  have hi31 : i < 2 ^ 31 := by have := hP.2.1; omega
  have hk31 : K i < 2 ^ 31 := by omega
  refine xF.mk mX6_goOnFrom rfl rfl ?_
  refine xB.go 3 (5, [(0, .ref 8), (1, .int (nI i))], [.int (nI i), .ref 1], XM L mi ml) rfl ?_
  refine xB.c1 42 [.ref 1, .int (nI i)] [] (c_kindN _ L _ _ hP hi) rfl ?_
  refine xB.go 4 (14, [(0, .ref 8), (1, .int (nI i)), (2, .int (nI (K i)))], [.int (nI i), .ref 9], XM L mi ml) rfl ?_
  refine xB.ck (xin (nI i) 64) (15, [(0, .ref 8), (1, .int (nI i)), (2, .int (nI (K i)))], [.int (mi 9 (nI i).toNatClampNeg)], XM L mi ml) rfl (xin_of (show i < 64 from Nat.lt_of_lt_of_le hi hP.2.1) (by decide) rfl) ?_
  refine xB.cg (15, [(0, .ref 8), (1, .int (nI i)), (2, .int (nI (K i)))], [.int (nI h)], XM L mi ml) (by rw [nI_clamp hi31, hh]) ?_
  refine xB.go 2 (19, [(0, .ref 8), (1, .int (nI i)), (2, .int (nI (K i)))], [.int (nI (K i)), .ref 1002, .int (nI h)], XM L mi ml) rfl ?_
  refine xB.ck (xin (nI (K i)) 10) (20, [(0, .ref 8), (1, .int (nI i)), (2, .int (nI (K i)))], [.int (mi 1002 (nI (K i)).toNatClampNeg), .int (nI h)], XM L mi ml) rfl (xin_of hk (by decide) rfl) ?_
  refine xB.cg (20, [(0, .ref 8), (1, .int (nI i)), (2, .int (nI (K i)))], [.int (nI (tk (K i))), .int (nI h)], XM L mi ml) (by rw [nI_clamp hk31, hP.2.2.2.2.1, (tk_le _ hk).2]) ?_
  refine xB.go 5 (27, [(0, .ref 8), (1, .int (nI i)), (2, .int (nI (K i))), (3, .int ((nI h) - (nI (tk (K i)))))], [.int (nI (K i)), .ref 1003, .int ((nI h) - (nI (tk (K i))))], XM L mi ml) rfl ?_
  refine xB.ck (xin (nI (K i)) 10) (28, [(0, .ref 8), (1, .int (nI i)), (2, .int (nI (K i))), (3, .int ((nI h) - (nI (tk (K i)))))], [.int (mi 1003 (nI (K i)).toNatClampNeg), .int ((nI h) - (nI (tk (K i))))], XM L mi ml) rfl (xin_of hk (by decide) rfl) ?_
  refine xB.cg (28, [(0, .ref 8), (1, .int (nI i)), (2, .int (nI (K i))), (3, .int ((nI h) - (nI (tk (K i)))))], [.int (nI (pt (K i))), .int ((nI h) - (nI (tk (K i))))], XM L mi ml) (by rw [nI_clamp hk31, hP.2.2.2.2.2, (pt_le _ hk).2]) ?_
  refine xB.go 3 (32, [(0, .ref 8), (1, .int (nI i)), (2, .int (nI (K i))), (3, .int ((nI h) - (nI (tk (K i))))), (4, .int (((nI h) - (nI (tk (K i)))) + (nI (pt (K i)))))], [.int ((nI h) - (nI (tk (K i))))], XM L mi ml) rfl ?_
  refine xB.bp (((nI h) - (nI (tk (K i)))) < 0) (42, [(0, .ref 8), (1, .int (nI i)), (2, .int (nI (K i))), (3, .int ((nI h) - (nI (tk (K i))))), (4, .int (((nI h) - (nI (tk (K i)))) + (nI (pt (K i)))))], [], XM L mi ml) (35, [(0, .ref 8), (1, .int (nI i)), (2, .int (nI (K i))), (3, .int ((nI h) - (nI (tk (K i))))), (4, .int (((nI h) - (nI (tk (K i)))) + (nI (pt (K i)))))], [], XM L mi ml) rfl (fun h1 => ?_) (fun h1 => ?_)
  · refine xB.go 3 (47, [(0, .ref 8), (1, .int (nI i)), (2, .int (nI (K i))), (3, .int ((nI h) - (nI (tk (K i))))), (4, .int (((nI h) - (nI (tk (K i)))) + (nI (pt (K i)))))], [], XM L (xU mi 8 4 0) ml) rfl ?_
    refine xB.rt none (xU mi 8 4 0) ml rfl ?_
    refine ⟨rfl, Or.inl ⟨fun z => ?_, rfl, rfl⟩⟩
    have := (tk_le _ hk).1
    rw [nI_subneg (by omega) (by omega)] at h1
    omega
  · refine xB.cg (35, [(0, .ref 8), (1, .int (nI i)), (2, .int (nI (K i))), (3, .int (nI (h - tk (K i)))), (4, .int ((nI (h - tk (K i))) + (nI (pt (K i)))))], [], XM L mi ml) (by rw [nI_subeq (go_le h16 hk h1)]) ?_
    refine xB.cg (35, [(0, .ref 8), (1, .int (nI i)), (2, .int (nI (K i))), (3, .int (nI (h - tk (K i)))), (4, .int (nI (h - tk (K i) + pt (K i))))], [], XM L mi ml) (by rw [nI_add]) ?_
    refine xB.go 2 (39, [(0, .ref 8), (1, .int (nI i)), (2, .int (nI (K i))), (3, .int (nI (h - tk (K i)))), (4, .int (nI (h - tk (K i) + pt (K i))))], [.int 16, .int (nI (h - tk (K i) + pt (K i)))], XM L mi ml) rfl ?_
    refine xB.bp ((nI (h - tk (K i) + pt (K i))) ≤ 16) (48, [(0, .ref 8), (1, .int (nI i)), (2, .int (nI (K i))), (3, .int (nI (h - tk (K i)))), (4, .int (nI (h - tk (K i) + pt (K i))))], [], XM L mi ml) (42, [(0, .ref 8), (1, .int (nI i)), (2, .int (nI (K i))), (3, .int (nI (h - tk (K i)))), (4, .int (nI (h - tk (K i) + pt (K i))))], [], XM L mi ml) rfl (fun h2 => ?_) (fun h2 => ?_)
    · refine xB.go 2 (51, [(0, .ref 8), (1, .int (nI i)), (2, .int (nI (K i))), (3, .int (nI (h - tk (K i)))), (4, .int (nI (h - tk (K i) + pt (K i))))], [.int 9, .int (nI (K i))], XM L mi ml) rfl ?_
      refine xB.bp ((nI (K i)) = 9) (68, [(0, .ref 8), (1, .int (nI i)), (2, .int (nI (K i))), (3, .int (nI (h - tk (K i)))), (4, .int (nI (h - tk (K i) + pt (K i))))], [], XM L mi ml) (54, [(0, .ref 8), (1, .int (nI i)), (2, .int (nI (K i))), (3, .int (nI (h - tk (K i)))), (4, .int (nI (h - tk (K i) + pt (K i))))], [], XM L mi ml) rfl (fun h3 => ?_) (fun h3 => ?_)
      · refine xB.go 2 (70, [(0, .ref 8), (1, .int (nI i)), (2, .int (nI (K i))), (3, .int (nI (h - tk (K i)))), (4, .int (nI (h - tk (K i) + pt (K i))))], [.int 5, .int (nI (K i))], XM L mi ml) rfl ?_
        refine xB.bp (¬ (nI (K i)) = 5) (87, [(0, .ref 8), (1, .int (nI i)), (2, .int (nI (K i))), (3, .int (nI (h - tk (K i)))), (4, .int (nI (h - tk (K i) + pt (K i))))], [], XM L mi ml) (73, [(0, .ref 8), (1, .int (nI i)), (2, .int (nI (K i))), (3, .int (nI (h - tk (K i)))), (4, .int (nI (h - tk (K i) + pt (K i))))], [], XM L mi ml) rfl (fun h4 => ?_) (fun h4 => ?_)
        · refine xB.rt none mi ml rfl ?_
          have g1 := go_le h16 hk h1
          have g2 : h - tk (K i) + pt (K i) ≤ 16 := by have := (tk_le _ hk).1; have := (pt_le _ hk).1; exact (nI_leI (by omega) (by decide)).mp h2
          exact ⟨rfl, Or.inr ⟨⟨g1, g2⟩, Or.inl ⟨go_9 hk h3, rfl, rfl⟩⟩⟩
        · refine xB.go 4 (79, [(0, .ref 8), (1, .int (nI i)), (2, .int (nI (K i))), (3, .int (nI (h - tk (K i)))), (4, .int (nI (h - tk (K i) + pt (K i))))], [.int (nI i), .ref 1, .ref 8], XM L mi ml) rfl ?_
          refine xB.c1 47 [.ref 1, .int (nI i)] [.ref 8] (c_ofN _ L _ _ hP hi (go_5 hk h4)) rfl ?_
          refine xB.go 1 (84, [(0, .ref 8), (1, .int (nI i)), (2, .int (nI (K i))), (3, .int (nI (h - tk (K i)))), (4, .int (nI (h - tk (K i) + pt (K i))))], [.int (nI (h - tk (K i) + pt (K i))), .int (nI (T i)), .ref 8], XM L mi ml) rfl ?_
          refine xB.ca 55 [.ref 8, .int (nI (T i)), .int (nI (h - tk (K i) + pt (K i)))] [] (c_comeTo _ L _ _ hP (T i) (h - tk (K i) + pt (K i)) (go_lt5 hP hi (go_5 hk h4))) rfl ?_
          intro r1 a1 b1 hq1
          obtain ⟨rfl, hq1⟩ := hq1
          have hP1 := hq1.prg hP
          show xB _ _ L _ (87, [(0, .ref 8), (1, .int (nI i)), (2, .int (nI (K i))), (3, .int (nI (h - tk (K i)))), (4, .int (nI (h - tk (K i) + pt (K i))))], [], XM L a1 b1)
          refine xB.rt none a1 b1 rfl ?_
          exact absurd ((go_5 hk h4).symm.trans (go_9 hk h3)) (by decide)
      · refine xB.go 4 (60, [(0, .ref 8), (1, .int (nI i)), (2, .int (nI (K i))), (3, .int (nI (h - tk (K i)))), (4, .int (nI (h - tk (K i) + pt (K i))))], [.int (nI i), .ref 1, .ref 8], XM L mi ml) rfl ?_
        refine xB.c1 46 [.ref 1, .int (nI i)] [.ref 8] (c_pfN _ L _ _ hP hi (go_n9 hk h3)) rfl ?_
        refine xB.go 1 (65, [(0, .ref 8), (1, .int (nI i)), (2, .int (nI (K i))), (3, .int (nI (h - tk (K i)))), (4, .int (nI (h - tk (K i) + pt (K i))))], [.int (nI (h - tk (K i) + pt (K i))), .int (nI (if K i = 4 then T i else i + 1)), .ref 8], XM L mi ml) rfl ?_
        refine xB.ca 55 [.ref 8, .int (nI (if K i = 4 then T i else i + 1)), .int (nI (h - tk (K i) + pt (K i)))] [] (c_comeTo _ L _ _ hP (if K i = 4 then T i else i + 1) (h - tk (K i) + pt (K i)) (go_lt hP hi hk)) rfl ?_
        intro r1 a1 b1 hq1
        obtain ⟨rfl, hq1⟩ := hq1
        have hP1 := hq1.prg hP
        show xB _ _ L _ (68, [(0, .ref 8), (1, .int (nI i)), (2, .int (nI (K i))), (3, .int (nI (h - tk (K i)))), (4, .int (nI (h - tk (K i) + pt (K i))))], [], XM L a1 b1)
        refine xB.go 2 (70, [(0, .ref 8), (1, .int (nI i)), (2, .int (nI (K i))), (3, .int (nI (h - tk (K i)))), (4, .int (nI (h - tk (K i) + pt (K i))))], [.int 5, .int (nI (K i))], XM L a1 b1) rfl ?_
        refine xB.bp (¬ (nI (K i)) = 5) (87, [(0, .ref 8), (1, .int (nI i)), (2, .int (nI (K i))), (3, .int (nI (h - tk (K i)))), (4, .int (nI (h - tk (K i) + pt (K i))))], [], XM L a1 b1) (73, [(0, .ref 8), (1, .int (nI i)), (2, .int (nI (K i))), (3, .int (nI (h - tk (K i)))), (4, .int (nI (h - tk (K i) + pt (K i))))], [], XM L a1 b1) rfl (fun h5 => ?_) (fun h5 => ?_)
        · refine xB.rt none a1 b1 rfl ?_
          have g1 := go_le h16 hk h1
          have g2 : h - tk (K i) + pt (K i) ≤ 16 := by have := (tk_le _ hk).1; have := (pt_le _ hk).1; exact (nI_leI (by omega) (by decide)).mp h2
          exact ⟨rfl, Or.inr ⟨⟨g1, g2⟩, Or.inr (Or.inl ⟨go_n9 hk h3, go_n5 hk h5, hq1⟩)⟩⟩
        · refine xB.go 4 (79, [(0, .ref 8), (1, .int (nI i)), (2, .int (nI (K i))), (3, .int (nI (h - tk (K i)))), (4, .int (nI (h - tk (K i) + pt (K i))))], [.int (nI i), .ref 1, .ref 8], XM L a1 b1) rfl ?_
          refine xB.c1 47 [.ref 1, .int (nI i)] [.ref 8] (c_ofN _ L _ _ hP1 hi (go_5 hk h5)) rfl ?_
          refine xB.go 1 (84, [(0, .ref 8), (1, .int (nI i)), (2, .int (nI (K i))), (3, .int (nI (h - tk (K i)))), (4, .int (nI (h - tk (K i) + pt (K i))))], [.int (nI (h - tk (K i) + pt (K i))), .int (nI (T i)), .ref 8], XM L a1 b1) rfl ?_
          refine xB.ca 55 [.ref 8, .int (nI (T i)), .int (nI (h - tk (K i) + pt (K i)))] [] (c_comeTo _ L _ _ hP1 (T i) (h - tk (K i) + pt (K i)) (go_lt5 hP hi (go_5 hk h5))) rfl ?_
          intro r2 a2 b2 hq2
          obtain ⟨rfl, hq2⟩ := hq2
          show xB _ _ L _ (87, [(0, .ref 8), (1, .int (nI i)), (2, .int (nI (K i))), (3, .int (nI (h - tk (K i)))), (4, .int (nI (h - tk (K i) + pt (K i))))], [], XM L a2 b2)
          refine xB.rt none a2 b2 rfl ?_
          have g1 := go_le h16 hk h1
          have g2 : h - tk (K i) + pt (K i) ≤ 16 := by have := (tk_le _ hk).1; have := (pt_le _ hk).1; exact (nI_leI (by omega) (by decide)).mp h2
          have g5 := go_5 hk h5
          rw [if_neg (by rw [g5]; decide)] at hq1
          exact ⟨rfl, Or.inr ⟨⟨g1, g2⟩, Or.inr (Or.inr ⟨g5, a1, b1, hq1, hq2⟩)⟩⟩
    · refine xB.go 3 (47, [(0, .ref 8), (1, .int (nI i)), (2, .int (nI (K i))), (3, .int (nI (h - tk (K i)))), (4, .int (nI (h - tk (K i) + pt (K i))))], [], XM L (xU mi 8 4 0) ml) rfl ?_
      refine xB.rt none (xU mi 8 4 0) ml rfl ?_
      refine ⟨rfl, Or.inl ⟨fun z => ?_, rfl, rfl⟩⟩
      have := (tk_le _ hk).1
      have := (pt_le _ hk).1
      exact h2 (nI_le z.2 (by decide))
end
section
/-! Shape.find -/
/-- what is met is come to; what is open is met -/
def sI0 (n : Nat) (K T : Nat → Nat) (a : xmi) (b : xml) : Prop := (∀ i, i < 64 → hb (b 8 2) i = true → i < n ∧ ∃ h, h ≤ 16 ∧ a 9 i = nI h ∧ Rh n K T i h) ∧ (∀ i, i < 64 → hb (b 8 3) i = true → hb (b 8 2) i = true)
theorem nI_inj {x y : Nat} (hx : x ≤ 16) (hy : y ≤ 16) (h : nI x = nI y) : x = y := (nI_eq (by omega) (by omega)).mp h
theorem CT.wf0 {n q h : Nat} {mi a : xmi} {ml b : xml} (hc : CT n mi ml q h a b) (h0 : mi 8 4 = 0) : a 8 4 = 0 := by
  rcases hc with ⟨-, rfl, rfl⟩ | ⟨-, -, rfl, rfl⟩ | ⟨-, -, -, rfl, rfl⟩ | ⟨-, -, -, rfl, rfl⟩ <;> first | rfl | exact h0
theorem CT.step {n q h : Nat} {K T : Nat → Nat} {a a1 : xmi} {b b1 : xml} (hn : n ≤ 64) (hc : CT n a b q h a1 b1) (hI : sI0 n K T a b) (hw : a 8 4 = 1) (hr : Rh n K T q h) (h16 : h ≤ 16) :
    (a1 8 4 = 0 ∧ ¬ WF n K T) ∨ (a1 8 4 = 1 ∧ sI0 n K T a1 b1 ∧ q < n ∧ hb (b1 8 2) q = true ∧ a1 9 q = nI h ∧ (∀ i, i < 64 → hb (b 8 2) i = true → hb (b1 8 2) i = true ∧ a1 9 i = a 9 i) ∧ (∀ i, i < 64 → (hb (b1 8 2) i && !hb (b1 8 3) i) = (hb (b 8 2) i && !hb (b 8 3) i))) := by
  rcases hc with ⟨h1, rfl, rfl⟩ | ⟨h1, h2, rfl, rfl⟩ | ⟨h1, h2, h3, rfl, rfl⟩ | ⟨h1, h2, h3, rfl, rfl⟩
  · exact Or.inl ⟨rfl, fun w => h1 (w.1 q h hr).1⟩
  · right
    have hq64 : q < 64 := by omega
    have e2 : xU (xU b 8 2 (b 8 2 ||| xbit (nI q))) 8 3 (b 8 3 ||| xbit (nI q)) 8 2 = b 8 2 ||| xbit (nI q) := rfl
    have e3 : xU (xU b 8 2 (b 8 2 ||| xbit (nI q))) 8 3 (b 8 3 ||| xbit (nI q)) 8 3 = b 8 3 ||| xbit (nI q) := rfl
    have e9 : ∀ i, i ≠ q → xU a 9 q (nI h) 9 i = a 9 i := fun i hi => by unfold xU; rw [va_up_self, va_up_ne _ _ hi]
    have e9q : xU a 9 q (nI h) 9 q = nI h := by unfold xU; rw [va_up_self, va_up_self]
    have hne : ∀ i, i < 64 → hb (b 8 2) i = true → i ≠ q := fun i _ g z => by rw [z, h2] at g; cases g
    rw [sI0, e2, e3]
    refine ⟨hw, ⟨fun i hi g => ?_, fun i hi g => ?_⟩, h1, ?_, e9q, fun i hi g => ⟨?_, e9 i (hne i hi g)⟩, fun i hi => ?_⟩
    · rw [hb_or, hb_bit hq64] at g
      by_cases z : i = q
      · subst z; exact ⟨h1, h, h16, e9q, hr⟩
      · have g : hb (b 8 2) i = true := by simpa [z] using g
        obtain ⟨g1, g2⟩ := hI.1 i hi g
        rw [e9 i z]; exact ⟨g1, g2⟩
    · rw [hb_or, hb_bit hq64] at g ⊢
      by_cases z : i = q
      · simp [z]
      · have g : hb (b 8 3) i = true := by simpa [z] using g
        rw [hI.2 i hi g]; rfl
    · rw [hb_or, hb_bit hq64]; simp
    · rw [hb_or, g]; rfl
    · rw [hb_or, hb_or, hb_bit hq64]
      by_cases z : i = q
      · subst z
        rw [h2]; simp
      · simp [z]
  · exact Or.inl ⟨rfl, fun w => by
      obtain ⟨-, h', g1, g2, g3⟩ := hI.1 q (by omega) h2
      exact h3 (by rw [g2, w.2 q h' h g3 hr])⟩
  · exact Or.inr ⟨hw, hI, h1, h2, h3, fun i _ g => ⟨g, rfl⟩, fun _ _ => rfl⟩
/-- the loop's invariant: r places are done -/
def sLI (n : Nat) (K T : Nat → Nat) (mi : xmi) (ml : xml) (r : Nat) (a : xmi) (b : xml) : Prop :=
  (∀ x, x ≠ 8 → x ≠ 9 → a x = mi x) ∧ (∀ x, x ≠ 8 → b x = ml x) ∧ ((a 8 4 = 0 ∧ ¬ WF n K T) ∨ (a 8 4 = 1 ∧ sI0 n K T a b ∧ hb (b 8 2) 0 = true ∧ 0 < n ∧ a 9 0 = nI 0 ∧ r ≤ cnt (fun i => hb (b 8 2) i && !hb (b 8 3) i) 64 ∧
    (∀ i h, i < 64 → hb (b 8 2) i = true → hb (b 8 3) i = false → h ≤ 16 → a 9 i = nI h → tk (K i) ≤ h ∧ h - tk (K i) + pt (K i) ≤ 16 ∧ ∀ j, Fo K T i j → j < n ∧ hb (b 8 2) j = true ∧ a 9 j = nI (h - tk (K i) + pt (K i)))))
/-- what is known behind find -/
def SHP (n : Nat) (K T : Nat → Nat) (a : xmi) (b : xml) : Prop := (a 8 4 = 1 ∧ WF n K T ∧ (∀ i, i < 64 → (hb (b 8 2) i = true ↔ ∃ h, Rh n K T i h)) ∧ (∀ i h, Rh n K T i h → a 9 i = nI h ∧ h ≤ 16)) ∨ (a 8 4 = 0 ∧ ¬ WF n K T)
theorem sLI.done {n r : Nat} {K T : Nat → Nat} {mi a : xmi} {ml b : xml} (hn : n ≤ 64) (h : sLI n K T mi ml r a b) (hw : ¬ a 8 4 = 0) (ho : ∀ i, i < 64 → hb (b 8 3) i = false) : SHP n K T a b := by
  obtain ⟨-, -, h | ⟨h1, h2, h3, h4, h5, -, h7⟩⟩ := h
  · exact absurd h.1 hw
  have key := WF_of (n := n) (K := K) (T := T) (fun i h => i < n ∧ hb (b 8 2) i = true ∧ a 9 i = nI h ∧ h ≤ 16) ⟨h4, h3, h5, by omega⟩
    (fun i h ⟨g1, g2, g3, g4⟩ => ⟨g1, (h7 i h (by omega) g2 (ho i (by omega)) g4 g3).1, (h7 i h (by omega) g2 (ho i (by omega)) g4 g3).2.1⟩)
    (fun i h j ⟨g1, g2, g3, g4⟩ hf => by
      obtain ⟨k1, k2, k3⟩ := h7 i h (by omega) g2 (ho i (by omega)) g4 g3
      obtain ⟨k4, k5, k6⟩ := k3 j hf
      exact ⟨k4, k5, k6, k2⟩)
    (fun i h h' g g' => nI_inj g.2.2.2 g'.2.2.2 (g.2.2.1.symm.trans g'.2.2.1))
  refine Or.inl ⟨h1, key.1, fun i hi => ⟨fun g => ?_, fun ⟨h, g⟩ => (key.2 i h g).2.1⟩, fun i h g => ⟨(key.2 i h g).2.2.1, (key.2 i h g).2.2.2⟩⟩
  obtain ⟨-, h, -, -, g⟩ := h2.1 i hi g
  exact ⟨h, g⟩
theorem sLI.next {n r i h : Nat} {K T : Nat → Nat} {mi a a1 : xmi} {ml b b1 : xml} (hn : n ≤ 64) (hL : sLI n K T mi ml r a b) (hw : ¬ a 8 4 = 0) (hi : i < 64) (ho : hb (b 8 3) i = true) (hh : a 9 i = nI h) (h16 : h ≤ 16) (hg : GO n K T a (xU b 8 3 (b 8 3 &&& (xbit (nI i) ^^^ (-1)))) i h a1 b1) : sLI n K T mi ml (r + 1) a1 b1 := by
  obtain ⟨f1, f2, hL | ⟨h1, h2, h3, h4, h5, h6, h7⟩⟩ := hL
  · exact absurd hL.1 hw
  -- the state with i taken out of what is open
  generalize hb' : xU b 8 3 (b 8 3 &&& (xbit (nI i) ^^^ (-1))) = b' at hg
  have e2 : b' 8 2 = b 8 2 := by rw [← hb']; rfl
  have e3 : ∀ j, j < 64 → hb (b' 8 3) j = (hb (b 8 3) j && !decide (j = i)) := fun j hj => by
    rw [← hb']; show hb (b 8 3 &&& (xbit (nI i) ^^^ (-1))) j = _
    rw [hb_and, hb_not _ hj, hb_bit hi]
  have f2' : ∀ x, x ≠ 8 → b' x = ml x := fun x hx => by rw [← hb', xU_ne hx]; exact f2 x hx
  have hm : hb (b 8 2) i = true := h2.2 i hi ho
  obtain ⟨hin, h', hh1, hh2, hrh⟩ := h2.1 i hi hm
  obtain rfl : h' = h := nI_inj hh1 h16 (hh2.symm.trans hh)
  have hI : sI0 n K T a b' := ⟨fun j hj g => by rw [e2] at g; exact h2.1 j hj g, fun j hj g => by rw [e3 j hj] at g; rw [e2]; exact h2.2 j hj (by simp at g; exact g.1)⟩
  have hcnt : r + 1 ≤ cnt (fun j => hb (b' 8 2) j && !hb (b' 8 3) j) 64 := by
    refine Nat.lt_of_le_of_lt h6 (cnt_lt (j := i) (fun j hj g => ?_) hi (by simp [ho]) (by rw [e2, e3 i hi, hm]; simp))
    rw [e2, e3 j hj]; simp at g ⊢; exact ⟨g.1, Or.inl g.2⟩
  have hold : ∀ j h', j < 64 → hb (b 8 2) j = true → hb (b 8 3) j = false → h' ≤ 16 → a 9 j = nI h' → tk (K j) ≤ h' ∧ h' - tk (K j) + pt (K j) ≤ 16 ∧ ∀ q, Fo K T j q → q < n ∧ hb (b' 8 2) q = true ∧ a 9 q = nI (h' - tk (K j) + pt (K j)) := by rw [e2]; exact h7
  have hproc : ∀ j, j < 64 → hb (b' 8 2) j = true → hb (b' 8 3) j = false → j = i ∨ (hb (b 8 2) j = true ∧ hb (b 8 3) j = false) := fun j hj g1 g2 => by
    rw [e2] at g1
    rw [e3 j hj] at g2
    by_cases z : j = i
    · exact Or.inl z
    · exact Or.inr ⟨g1, by simpa [z] using g2⟩
  rcases hg with ⟨g1, rfl, rfl⟩ | ⟨⟨g1, g2⟩, hg⟩
  · refine ⟨fun x x8 x9 => by rw [xU_ne x8]; exact f1 x x8 x9, f2', Or.inl ⟨rfl, fun w => g1 (w.1 i _ hrh).2⟩⟩
  rcases hg with ⟨k9, rfl, rfl⟩ | ⟨k9, k5, hc⟩ | ⟨k5, a2, b2, hc1, hc2⟩
  · refine ⟨f1, f2', Or.inr ⟨h1, hI, by rw [e2]; exact h3, h4, h5, hcnt, fun j hj' q1 q2 q3 q4 q5 => ?_⟩⟩
    rcases hproc j q1 q2 q3 with rfl | ⟨z1, z2⟩
    · obtain rfl := nI_inj q4 h16 (q5.symm.trans hh)
      exact ⟨g1, g2, fun q hq => absurd k9 hq.1⟩
    · exact hold j hj' q1 z1 z2 q4 q5
  · obtain ⟨fr1, fr2⟩ := hc.frame
    have hF : Fo K T i (if K i = 4 then T i else i + 1) := ⟨k9, Or.inl rfl⟩
    refine ⟨fun x x8 x9 => by rw [fr1 x x8 x9]; exact f1 x x8 x9, fun x x8 => by rw [fr2 x x8]; exact f2' x x8, ?_⟩
    rcases hc.step hn hI h1 (hrh.next hin g1 g2 hF) g2 with z | ⟨z1, z2, z3, z4, z5, z6, z7⟩
    · exact Or.inl z
    · refine Or.inr ⟨z1, z2, (z6 0 (by omega) (by rw [e2]; exact h3)).1, h4, by rw [(z6 0 (by omega) (by rw [e2]; exact h3)).2]; exact h5, ?_, fun j hj' q1 q2 q3 q4 q5 => ?_⟩
      · rw [cnt_congr (fun j hj => z7 j hj)]; exact hcnt
      · have hz := z7 j q1
        rw [q2, q3] at hz
        have hz2 : hb (b' 8 2) j = true ∧ hb (b' 8 3) j = false := by simpa using hz.symm
        have e9 := (z6 j q1 hz2.1).2
        rw [e9] at q5
        rcases hproc j q1 hz2.1 hz2.2 with rfl | ⟨y1, y2⟩
        · obtain rfl := nI_inj q4 h16 (q5.symm.trans hh)
          refine ⟨g1, g2, fun q hq => ?_⟩
          obtain rfl : q = if K j = 4 then T j else j + 1 := by
            rcases hq.2 with w | w
            · exact w
            · exact absurd w.1 k5
          exact ⟨z3, z4, z5⟩
        · obtain ⟨w1, w2, w3⟩ := hold j hj' q1 y1 y2 q4 q5
          refine ⟨w1, w2, fun q hq => ?_⟩
          obtain ⟨w4, w5, w6⟩ := w3 q hq
          have := z6 q (by omega) w5
          exact ⟨w4, this.1, by rw [this.2]; exact w6⟩
  · obtain ⟨fr1, fr2⟩ := hc1.frame
    obtain ⟨fs1, fs2⟩ := hc2.frame
    have hF1 : Fo K T i (i + 1) := ⟨by rw [k5]; decide, Or.inl (by rw [if_neg (by rw [k5]; decide)])⟩
    have hF2 : Fo K T i (T i) := ⟨by rw [k5]; decide, Or.inr ⟨k5, rfl⟩⟩
    refine ⟨fun x x8 x9 => by rw [fs1 x x8 x9, fr1 x x8 x9]; exact f1 x x8 x9, fun x x8 => by rw [fs2 x x8, fr2 x x8]; exact f2' x x8, ?_⟩
    rcases hc1.step hn hI h1 (hrh.next hin g1 g2 hF1) g2 with z | ⟨z1, z2, z3, z4, z5, z6, z7⟩
    · exact Or.inl ⟨hc2.wf0 z.1, z.2⟩
    rcases hc2.step hn z2 z1 (hrh.next hin g1 g2 hF2) g2 with y | ⟨y1, y2, y3, y4, y5, y6, y7⟩
    · exact Or.inl y
    have h30 := (z6 0 (by omega) (by rw [e2]; exact h3))
    have h31 := y6 0 (by omega) h30.1
    refine Or.inr ⟨y1, y2, h31.1, h4, by rw [h31.2, h30.2]; exact h5, ?_, fun j hj' q1 q2 q3 q4 q5 => ?_⟩
    · rw [cnt_congr (fun j hj => (y7 j hj).trans (z7 j hj))]; exact hcnt
    · have hz := (y7 j q1).trans (z7 j q1)
      rw [q2, q3] at hz
      have hz2 : hb (b' 8 2) j = true ∧ hb (b' 8 3) j = false := by simpa using hz.symm
      have e9 := (z6 j q1 hz2.1)
      have e9' := (y6 j q1 e9.1)
      rw [e9'.2, e9.2] at q5
      rcases hproc j q1 hz2.1 hz2.2 with rfl | ⟨x1, x2⟩
      · obtain rfl := nI_inj q4 h16 (q5.symm.trans hh)
        refine ⟨g1, g2, fun q hq => ?_⟩
        rcases hq.2 with w | w
        · rw [if_neg (by rw [k5]; decide)] at w
          subst w
          have := y6 (j + 1) (by omega) z4
          exact ⟨z3, this.1, by rw [this.2]; exact z5⟩
        · rw [w.2]; exact ⟨y3, y4, y5⟩
      · obtain ⟨w1, w2, w3⟩ := hold j hj' q1 x1 x2 q4 q5
        refine ⟨w1, w2, fun q hq => ?_⟩
        obtain ⟨w4, w5, w6⟩ := w3 q hq
        have t1 := z6 q (by omega) w5
        have t2 := y6 q (by omega) t1.1
        exact ⟨w4, t2.1, by rw [t2.2, t1.2]; exact w6⟩
set_option maxRecDepth 100000 in
set_option maxHeartbeats 1000000 in
theorem find_loop (d L : Nat) (mi : xmi) (ml : xml) {n : Nat} {K T : Nat → Nat} (hP : PRG mi n K T) : ∀ (f r : Nat), r ≤ 64 → 64 - r ≤ f → ∀ (a : xmi) (b : xml), sLI n K T mi ml r a b → xB (d + 4) mX6_find L (fun rr x y => rr = none ∧ (∀ q, q ≠ 8 → q ≠ 9 → x q = mi q) ∧ (∀ q, q ≠ 8 → y q = ml q) ∧ SHP n K T x y) (23, [(0, .ref 8), (1, .int (nI r))], [], XM L a b) := by
  have hn64 := hP.2.1
  intro f
  induction f with
  | zero =>
    intro r hr hf a b hL
    obtain rfl : r = 64 := by omega
    refine xB.go 2 (26, [(0, .ref 8), (1, .int (nI 64))], [.int 64, .int (nI 64)], XM L a b) rfl ?_
    refine xB.bp (64 ≤ (nI 64)) (81, [(0, .ref 8), (1, .int (nI 64))], [], XM L a b) (29, [(0, .ref 8), (1, .int (nI 64))], [], XM L a b) rfl (fun h1 => ?_) (fun h1 => ?_)
    · refine xB.rt none a b rfl ?_
      refine ⟨rfl, hL.1, hL.2.1, ?_⟩
      have hr64 : 64 ≤ 64 := Nat.le_refl _
      by_cases hw : a 8 4 = 0
      · rcases hL.2.2 with z | z
        · exact Or.inr z
        · rw [z.1] at hw; cases hw
      · refine hL.done hn64 hw (fun i hi => ?_)
        obtain ⟨-, -, z | ⟨z1, z2, -, -, -, z6, -⟩⟩ := hL
        · exact absurd z.1 hw
        · have := cnt_full (Nat.le_trans hr64 z6) i hi
          simp at this
          exact this.2
    · exact absurd (Int32.le_refl _) h1
  | succ f ih =>
    intro r hr hf a b hL
    have hPa : PRG a n K T := hP.frame (hL.1 1 (by decide) (by decide)) (hL.1 2 (by decide) (by decide)) (hL.1 3 (by decide) (by decide)) (hL.1 1002 (by decide) (by decide)) (hL.1 1003 (by decide) (by decide))
    refine xB.go 2 (26, [(0, .ref 8), (1, .int (nI r))], [.int 64, .int (nI r)], XM L a b) rfl ?_
    refine xB.bp (64 ≤ (nI r)) (81, [(0, .ref 8), (1, .int (nI r))], [], XM L a b) (29, [(0, .ref 8), (1, .int (nI r))], [], XM L a b) rfl (fun h1 => ?_) (fun h1 => ?_)
    · refine xB.rt none a b rfl ?_
      refine ⟨rfl, hL.1, hL.2.1, ?_⟩
      have hr64 : 64 ≤ r := (nI_leI (by decide) (by omega)).mp h1
      by_cases hw : a 8 4 = 0
      · rcases hL.2.2 with z | z
        · exact Or.inr z
        · rw [z.1] at hw; cases hw
      · refine hL.done hn64 hw (fun i hi => ?_)
        obtain ⟨-, -, z | ⟨z1, z2, -, -, -, z6, -⟩⟩ := hL
        · exact absurd z.1 hw
        · have := cnt_full (Nat.le_trans hr64 z6) i hi
          simp at this
          exact this.2
    · refine xB.go 2 (33, [(0, .ref 8), (1, .int (nI r))], [.int (a 8 4)], XM L a b) rfl ?_
      refine xB.bp ((a 8 4) = 0) (81, [(0, .ref 8), (1, .int (nI r))], [], XM L a b) (36, [(0, .ref 8), (1, .int (nI r))], [], XM L a b) rfl (fun h2 => ?_) (fun h2 => ?_)
      · refine xB.rt none a b rfl ?_
        refine ⟨rfl, hL.1, hL.2.1, ?_⟩
        rcases hL.2.2 with z | z
        · exact Or.inr z
        · rw [z.1] at h2; cases h2
      · refine xB.go 4 (42, [(0, .ref 8), (1, .int (nI r))], [.int (lg_cmp (b 8 3) 0)], XM L a b) rfl ?_
        refine xB.lz (b 8 3) 0 (81, [(0, .ref 8), (1, .int (nI r))], [], XM L a b) (45, [(0, .ref 8), (1, .int (nI r))], [], XM L a b) rfl (fun h3 => ?_) (fun h3 => ?_)
        · refine xB.rt none a b rfl ?_
          refine ⟨rfl, hL.1, hL.2.1, hL.done hn64 h2 (fun i hi => ?_)⟩
          rw [h3, hb_0]
        · have hlo := xlow_spec h3
          have hmet : hb (b 8 2) (xlow (b 8 3)) = true := by
            obtain ⟨-, -, z | ⟨z1, z2, -⟩⟩ := hL
            · exact absurd z.1 h2
            · exact z2.2 _ hlo.1 hlo.2.1
          obtain ⟨hin, h, h16, hh⟩ : xlow (b 8 3) < n ∧ ∃ h, h ≤ 16 ∧ a 9 (xlow (b 8 3)) = nI h := by
            obtain ⟨-, -, z | ⟨z1, z2, -⟩⟩ := hL
            · exact absurd z.1 h2
            · obtain ⟨w1, h, w2, w3, -⟩ := z2.1 _ hlo.1 hmet
              exact ⟨w1, h, w2, w3⟩
          refine xB.go 2 (49, [(0, .ref 8), (1, .int (nI r))], [.long (b 8 3)], XM L a b) rfl ?_
          refine xB.c1 90 [.long (b 8 3)] [] (c_lowest _ L a b (b 8 3) ) rfl ?_
          refine xB.cg (52, [(0, .ref 8), (1, .int (nI r))], [.int (nI (xlow (b 8 3)))], XM L a b) (by rw [xbc_of h3]) ?_
          refine xB.go 5 (59, [(0, .ref 8), (1, .int (nI r)), (2, .int (nI (xlow (b 8 3))))], [.int (nI (xlow (b 8 3))), .long (b 8 3), .ref 8], XM L a b) rfl ?_
          refine xB.c1 88 [.int (nI (xlow (b 8 3)))] [.long (b 8 3), .ref 8] (c_bit _ L a b (nI (xlow (b 8 3))) ) rfl ?_
          refine xB.go 6 (72, [(0, .ref 8), (1, .int (nI r)), (2, .int (nI (xlow (b 8 3))))], [.int (nI (xlow (b 8 3))), .ref 8], XM L a (xU b 8 3 ((b 8 3) &&& ((xbit (nI (xlow (b 8 3)))) ^^^ (-1))))) rfl ?_
          refine xB.ca 54 [.ref 8, .int (nI (xlow (b 8 3)))] [] (c_goOnFrom _ L a _ hPa hin hh h16) rfl ?_
          intro r1 a1 b1 hq1
          obtain ⟨rfl, hq1⟩ := hq1
          show xB _ _ L _ (75, [(0, .ref 8), (1, .int (nI r)), (2, .int (nI (xlow (b 8 3))))], [], XM L a1 b1)
          refine xB.go 2 (23, [(0, .ref 8), (1, .int ((nI r) + 1)), (2, .int (nI (xlow (b 8 3))))], [], XM L a1 b1) rfl ?_
          refine xB.fo [(0, .ref 8), (1, .int (nI r + 1))] (by simp) ?_
          rw [nI_1]
          have hr64 : r < 64 := Nat.lt_of_not_le (fun z => h1 (nI_le z (by omega)))
          exact ih (r + 1) (by omega) (by omega) a1 b1 (hL.next hn64 h2 hlo.1 hlo.2.1 hh h16 hq1)
theorem sLI_zero {n : Nat} {K T : Nat → Nat} {mi a1 : xmi} {ml b1 : xml} (hn : n ≤ 64) (hc : CT n (xU mi 8 4 1) (xU (xU ml 8 2 0) 8 3 0) 0 0 a1 b1) : sLI n K T mi ml 0 a1 b1 := by
  obtain ⟨f1, f2⟩ := hc.frame
  have hI : sI0 n K T (xU mi 8 4 1) (xU (xU ml 8 2 0) 8 3 0) := ⟨(fun i _ g => by have : hb 0 i = true := g; rw [hb_0] at this; cases this), (fun i _ g => by have : hb 0 i = true := g; rw [hb_0] at this; cases this)⟩
  refine ⟨fun x x8 x9 => by rw [f1 x x8 x9, xU_ne x8], fun x x8 => by rw [f2 x x8, xU_ne x8, xU_ne x8], ?_⟩
  rcases hc.step hn hI rfl Rh.zero (by omega) with z | ⟨z1, z2, z3, z4, z5, z6, z7⟩
  · exact Or.inl z
  · refine Or.inr ⟨z1, z2, z4, z3, z5, Nat.zero_le _, fun i h q1 q2 q3 _ _ => ?_⟩
    have := z7 i q1
    rw [q2, q3] at this
    have h0 : hb (0 : Int64) i = true := by
      have e : (hb (0 : Int64) i && !hb (0 : Int64) i) = true := this.symm
      simp at e
    rw [hb_0] at h0; cases h0
set_option maxRecDepth 100000 in
set_option maxHeartbeats 1000000 in
theorem c_find (d L : Nat) (mi : xmi) (ml : xml) {n : Nat} {K T : Nat → Nat} (hP : PRG mi n K T) : xF (d + 5) 53 [.ref 8] L mi ml (fun rr x y => rr = none ∧ (∀ q, q ≠ 8 → q ≠ 9 → x q = mi q) ∧ (∀ q, q ≠ 8 → y q = ml q) ∧ SHP n K T x y) := by
  have hP1 : PRG (xU mi 8 4 1) n K T := hP.frame (xU_ne (by decide)) (xU_ne (by decide)) (xU_ne (by decide)) (xU_ne (by decide)) (xU_ne (by decide))
  refine xF.mk mX6_find rfl rfl ?_
  refine xB.go 12 (18, [(0, .ref 8)], [.int 0, .int 0, .ref 8], XM L (xU mi 8 4 1) (xU (xU ml 8 2 0) 8 3 0)) rfl ?_
  refine xB.ca 55 [.ref 8, .int 0, .int 0] [] (c_comeTo _ L _ _ hP1 0 0 (by decide)) rfl ?_
  intro r1 a1 b1 hq1
  obtain ⟨rfl, hq1⟩ := hq1
  show xB _ _ L _ (21, [(0, .ref 8)], [], XM L a1 b1)
  refine xB.go 2 (23, [(0, .ref 8), (1, .int 0)], [], XM L a1 b1) rfl ?_
  exact find_loop d L mi ml hP 64 0 (by omega) (by omega) a1 b1 (sLI_zero hP.2.1 hq1)
end
section
/-! the reference: its program, its walk -/
def nxm (n : Nat) (K T : Nat → Nat) (i : Nat) : Nat := if K i = 4 then T i else if K i = 9 then n else i + 1
def otm (n : Nat) (K T : Nat → Nat) (i : Nat) : Nat := if K i = 5 then T i else nxm n K T i
def PRM (mi : xmi) (n : Nat) (K T : Nat → Nat) : Prop := mi 32 2 = nI n ∧ n ≤ 64 ∧ (∀ i, i < n → mi 33 i = nI (K i) ∧ K i < 10) ∧ (∀ i, i < n → K i = 4 ∨ K i = 5 → mi 34 i = nI (T i) ∧ T i < 64)
theorem PRM.frame {mi a : xmi} {n : Nat} {K T : Nat → Nat} (hP : PRM mi n K T) (h1 : a 32 2 = mi 32 2) (h2 : a 33 = mi 33) (h3 : a 34 = mi 34) : PRM a n K T := by
  unfold PRM; rw [h1, h2, h3]; exact hP
theorem Fo_nxm {n : Nat} {K T : Nat → Nat} {i j : Nat} (h : Fo K T i j) : j = nxm n K T i ∨ j = otm n K T i := by
  obtain ⟨h9, h | ⟨h5, h⟩⟩ := h
  · left; unfold nxm; rw [if_neg h9]; exact h
  · right; unfold otm; rw [if_pos h5]; exact h
theorem nxm_Fo {n : Nat} {K T : Nat → Nat} {i : Nat} (h9 : K i ≠ 9) : Fo K T i (nxm n K T i) := ⟨h9, Or.inl (by unfold nxm; rw [if_neg h9])⟩
theorem otm_Fo {n : Nat} {K T : Nat → Nat} {i : Nat} (h9 : K i ≠ 9) : Fo K T i (otm n K T i) := by
  unfold otm
  by_cases h5 : K i = 5
  · rw [if_pos h5]; exact ⟨h9, Or.inr ⟨h5, rfl⟩⟩
  · rw [if_neg h5]; exact nxm_Fo h9
theorem PRM.nx_le {mi : xmi} {n : Nat} {K T : Nat → Nat} (hP : PRM mi n K T) {i : Nat} (hi : i < n) : nxm n K T i ≤ 64 ∧ otm n K T i ≤ 64 := by
  have h1 := hP.2.1
  have hx : nxm n K T i ≤ 64 := by
    unfold nxm
    by_cases h4 : K i = 4
    · rw [if_pos h4]; have := (hP.2.2.2 i hi (Or.inl h4)).2; omega
    · rw [if_neg h4]; by_cases h9 : K i = 9
      · rw [if_pos h9]; exact h1
      · rw [if_neg h9]; omega
  refine ⟨hx, ?_⟩
  unfold otm
  by_cases h5 : K i = 5
  · rw [if_pos h5]; have := (hP.2.2.2 i hi (Or.inr h5)).2; omega
  · rw [if_neg h5]; exact hx
set_option maxRecDepth 100000 in
set_option maxHeartbeats 1000000 in
theorem c_mtakes (d L : Nat) (mi : xmi) (ml : xml) {n : Nat} {K T : Nat → Nat} (hP : PRM mi n K T) {i : Nat} (hi : i < n) : xFv (d + 1) 97 [.ref 32, .int (nI i)] L mi ml (.int (nI (tk (K i)))) mi ml := by
  have hk := (hP.2.2.1 i hi).2
  have hi64 : i < 64 := Nat.lt_of_lt_of_le hi hP.2.1
  have hi31 : i < 2 ^ 31 := by omega
  refine xF.mk mX9_takes rfl rfl ?_
  refine xB.go 3 (5, [(0, .ref 32), (1, .int (nI i))], [.int (nI i), .ref 33], XM L mi ml) rfl ?_
  refine xB.ck (xin (nI i) 64) (6, [(0, .ref 32), (1, .int (nI i))], [.int (mi 33 (nI i).toNatClampNeg)], XM L mi ml) rfl (xin_of hi64 (by decide) rfl) ?_
  refine xB.cg (6, [(0, .ref 32), (1, .int (nI i))], [.int (nI (K i))], XM L mi ml) (by rw [nI_clamp hi31, (hP.2.2.1 i hi).1]) ?_
  refine xB.go 3 (9, [(0, .ref 32), (1, .int (nI i)), (2, .int (nI (K i)))], [.int 3, .int (nI (K i))], XM L mi ml) rfl ?_
  refine xB.bp ((nI (K i)) = 3) (18, [(0, .ref 32), (1, .int (nI i)), (2, .int (nI (K i)))], [], XM L mi ml) (12, [(0, .ref 32), (1, .int (nI i)), (2, .int (nI (K i)))], [], XM L mi ml) rfl (fun h1 => ?_) (fun h1 => ?_)
  · refine xB.go 2 (49, [(0, .ref 32), (1, .int (nI i)), (2, .int (nI (K i)))], [.int 2], XM L mi ml) rfl ?_
    refine xB.rt (some (.int 2)) mi ml rfl ?_
    have key : ∀ k, k < 10 → ((nI (k)) = 3) → (2 : Int32) = nI (tk (k)) := by decide +kernel
    exact ⟨congrArg (fun z => some (Value.int z)) (key _ hk h1), rfl, rfl⟩
  · refine xB.go 2 (15, [(0, .ref 32), (1, .int (nI i)), (2, .int (nI (K i)))], [.int 7, .int (nI (K i))], XM L mi ml) rfl ?_
    refine xB.bp (¬ (nI (K i)) = 7) (22, [(0, .ref 32), (1, .int (nI i)), (2, .int (nI (K i)))], [], XM L mi ml) (18, [(0, .ref 32), (1, .int (nI i)), (2, .int (nI (K i)))], [], XM L mi ml) rfl (fun h2 => ?_) (fun h2 => ?_)
    · refine xB.go 2 (24, [(0, .ref 32), (1, .int (nI i)), (2, .int (nI (K i)))], [.int 2, .int (nI (K i))], XM L mi ml) rfl ?_
      refine xB.bp ((nI (K i)) = 2) (44, [(0, .ref 32), (1, .int (nI i)), (2, .int (nI (K i)))], [], XM L mi ml) (27, [(0, .ref 32), (1, .int (nI i)), (2, .int (nI (K i)))], [], XM L mi ml) rfl (fun h3 => ?_) (fun h3 => ?_)
      · refine xB.go 2 (49, [(0, .ref 32), (1, .int (nI i)), (2, .int (nI (K i)))], [.int 1], XM L mi ml) rfl ?_
        refine xB.rt (some (.int 1)) mi ml rfl ?_
        have key : ∀ k, k < 10 → (¬ ((nI (k)) = 3)) ∧ (¬ (nI (k)) = 7) ∧ ((nI (k)) = 2) → (1 : Int32) = nI (tk (k)) := by decide +kernel
        exact ⟨congrArg (fun z => some (Value.int z)) (key _ hk ⟨h1, h2, h3⟩), rfl, rfl⟩
      · refine xB.go 2 (29, [(0, .ref 32), (1, .int (nI i)), (2, .int (nI (K i)))], [.int 5, .int (nI (K i))], XM L mi ml) rfl ?_
        refine xB.bp ((nI (K i)) = 5) (44, [(0, .ref 32), (1, .int (nI i)), (2, .int (nI (K i)))], [], XM L mi ml) (32, [(0, .ref 32), (1, .int (nI i)), (2, .int (nI (K i)))], [], XM L mi ml) rfl (fun h4 => ?_) (fun h4 => ?_)
        · refine xB.go 2 (49, [(0, .ref 32), (1, .int (nI i)), (2, .int (nI (K i)))], [.int 1], XM L mi ml) rfl ?_
          refine xB.rt (some (.int 1)) mi ml rfl ?_
          have key : ∀ k, k < 10 → (¬ ((nI (k)) = 3)) ∧ (¬ (nI (k)) = 7) ∧ (¬ ((nI (k)) = 2)) ∧ ((nI (k)) = 5) → (1 : Int32) = nI (tk (k)) := by decide +kernel
          exact ⟨congrArg (fun z => some (Value.int z)) (key _ hk ⟨h1, h2, h3, h4⟩), rfl, rfl⟩
        · refine xB.go 2 (35, [(0, .ref 32), (1, .int (nI i)), (2, .int (nI (K i)))], [.int 6, .int (nI (K i))], XM L mi ml) rfl ?_
          refine xB.bp ((nI (K i)) = 6) (44, [(0, .ref 32), (1, .int (nI i)), (2, .int (nI (K i)))], [], XM L mi ml) (38, [(0, .ref 32), (1, .int (nI i)), (2, .int (nI (K i)))], [], XM L mi ml) rfl (fun h5 => ?_) (fun h5 => ?_)
          · refine xB.go 2 (49, [(0, .ref 32), (1, .int (nI i)), (2, .int (nI (K i)))], [.int 1], XM L mi ml) rfl ?_
            refine xB.rt (some (.int 1)) mi ml rfl ?_
            have key : ∀ k, k < 10 → (¬ ((nI (k)) = 3)) ∧ (¬ (nI (k)) = 7) ∧ (¬ ((nI (k)) = 2)) ∧ (¬ ((nI (k)) = 5)) ∧ ((nI (k)) = 6) → (1 : Int32) = nI (tk (k)) := by decide +kernel
            exact ⟨congrArg (fun z => some (Value.int z)) (key _ hk ⟨h1, h2, h3, h4, h5⟩), rfl, rfl⟩
          · refine xB.go 2 (41, [(0, .ref 32), (1, .int (nI i)), (2, .int (nI (K i)))], [.int 8, .int (nI (K i))], XM L mi ml) rfl ?_
            refine xB.bp (¬ (nI (K i)) = 8) (48, [(0, .ref 32), (1, .int (nI i)), (2, .int (nI (K i)))], [], XM L mi ml) (44, [(0, .ref 32), (1, .int (nI i)), (2, .int (nI (K i)))], [], XM L mi ml) rfl (fun h6 => ?_) (fun h6 => ?_)
            · refine xB.go 1 (49, [(0, .ref 32), (1, .int (nI i)), (2, .int (nI (K i)))], [.int 0], XM L mi ml) rfl ?_
              refine xB.rt (some (.int 0)) mi ml rfl ?_
              have key : ∀ k, k < 10 → (¬ ((nI (k)) = 3)) ∧ (¬ (nI (k)) = 7) ∧ (¬ ((nI (k)) = 2)) ∧ (¬ ((nI (k)) = 5)) ∧ (¬ ((nI (k)) = 6)) ∧ (¬ (nI (k)) = 8) → (0 : Int32) = nI (tk (k)) := by decide +kernel
              exact ⟨congrArg (fun z => some (Value.int z)) (key _ hk ⟨h1, h2, h3, h4, h5, h6⟩), rfl, rfl⟩
            · refine xB.go 2 (49, [(0, .ref 32), (1, .int (nI i)), (2, .int (nI (K i)))], [.int 1], XM L mi ml) rfl ?_
              refine xB.rt (some (.int 1)) mi ml rfl ?_
              have key : ∀ k, k < 10 → (¬ ((nI (k)) = 3)) ∧ (¬ (nI (k)) = 7) ∧ (¬ ((nI (k)) = 2)) ∧ (¬ ((nI (k)) = 5)) ∧ (¬ ((nI (k)) = 6)) ∧ (¬ (¬ (nI (k)) = 8)) → (1 : Int32) = nI (tk (k)) := by decide +kernel
              exact ⟨congrArg (fun z => some (Value.int z)) (key _ hk ⟨h1, h2, h3, h4, h5, h6⟩), rfl, rfl⟩
    · refine xB.go 2 (49, [(0, .ref 32), (1, .int (nI i)), (2, .int (nI (K i)))], [.int 2], XM L mi ml) rfl ?_
      refine xB.rt (some (.int 2)) mi ml rfl ?_
      have key : ∀ k, k < 10 → (¬ ((nI (k)) = 3)) ∧ (¬ (¬ (nI (k)) = 7)) → (2 : Int32) = nI (tk (k)) := by decide +kernel
      exact ⟨congrArg (fun z => some (Value.int z)) (key _ hk ⟨h1, h2⟩), rfl, rfl⟩
set_option maxRecDepth 100000 in
set_option maxHeartbeats 1000000 in
theorem c_mgives (d L : Nat) (mi : xmi) (ml : xml) {n : Nat} {K T : Nat → Nat} (hP : PRM mi n K T) {i : Nat} (hi : i < n) : xFv (d + 1) 98 [.ref 32, .int (nI i)] L mi ml (.int (nI (pt (K i)))) mi ml := by
  have hk := (hP.2.2.1 i hi).2
  have hi64 : i < 64 := Nat.lt_of_lt_of_le hi hP.2.1
  have hi31 : i < 2 ^ 31 := by omega
  refine xF.mk mX9_gives rfl rfl ?_
  refine xB.go 3 (5, [(0, .ref 32), (1, .int (nI i))], [.int (nI i), .ref 33], XM L mi ml) rfl ?_
  refine xB.ck (xin (nI i) 64) (6, [(0, .ref 32), (1, .int (nI i))], [.int (mi 33 (nI i).toNatClampNeg)], XM L mi ml) rfl (xin_of hi64 (by decide) rfl) ?_
  refine xB.cg (6, [(0, .ref 32), (1, .int (nI i))], [.int (nI (K i))], XM L mi ml) (by rw [nI_clamp hi31, (hP.2.2.1 i hi).1]) ?_
  refine xB.go 2 (8, [(0, .ref 32), (1, .int (nI i)), (2, .int (nI (K i)))], [.int (nI (K i))], XM L mi ml) rfl ?_
  refine xB.bp ((nI (K i)) = 0) (27, [(0, .ref 32), (1, .int (nI i)), (2, .int (nI (K i)))], [], XM L mi ml) (11, [(0, .ref 32), (1, .int (nI i)), (2, .int (nI (K i)))], [], XM L mi ml) rfl (fun h1 => ?_) (fun h1 => ?_)
  · refine xB.go 2 (32, [(0, .ref 32), (1, .int (nI i)), (2, .int (nI (K i)))], [.int 1], XM L mi ml) rfl ?_
    refine xB.rt (some (.int 1)) mi ml rfl ?_
    have key : ∀ k, k < 10 → ((nI (k)) = 0) → (1 : Int32) = nI (pt (k)) := by decide +kernel
    exact ⟨congrArg (fun z => some (Value.int z)) (key _ hk h1), rfl, rfl⟩
  · refine xB.go 2 (13, [(0, .ref 32), (1, .int (nI i)), (2, .int (nI (K i)))], [.int 1, .int (nI (K i))], XM L mi ml) rfl ?_
    refine xB.bp ((nI (K i)) = 1) (27, [(0, .ref 32), (1, .int (nI i)), (2, .int (nI (K i)))], [], XM L mi ml) (16, [(0, .ref 32), (1, .int (nI i)), (2, .int (nI (K i)))], [], XM L mi ml) rfl (fun h2 => ?_) (fun h2 => ?_)
    · refine xB.go 2 (32, [(0, .ref 32), (1, .int (nI i)), (2, .int (nI (K i)))], [.int 1], XM L mi ml) rfl ?_
      refine xB.rt (some (.int 1)) mi ml rfl ?_
      have key : ∀ k, k < 10 → (¬ ((nI (k)) = 0)) ∧ ((nI (k)) = 1) → (1 : Int32) = nI (pt (k)) := by decide +kernel
      exact ⟨congrArg (fun z => some (Value.int z)) (key _ hk ⟨h1, h2⟩), rfl, rfl⟩
    · refine xB.go 2 (18, [(0, .ref 32), (1, .int (nI i)), (2, .int (nI (K i)))], [.int 3, .int (nI (K i))], XM L mi ml) rfl ?_
      refine xB.bp ((nI (K i)) = 3) (27, [(0, .ref 32), (1, .int (nI i)), (2, .int (nI (K i)))], [], XM L mi ml) (21, [(0, .ref 32), (1, .int (nI i)), (2, .int (nI (K i)))], [], XM L mi ml) rfl (fun h3 => ?_) (fun h3 => ?_)
      · refine xB.go 2 (32, [(0, .ref 32), (1, .int (nI i)), (2, .int (nI (K i)))], [.int 1], XM L mi ml) rfl ?_
        refine xB.rt (some (.int 1)) mi ml rfl ?_
        have key : ∀ k, k < 10 → (¬ ((nI (k)) = 0)) ∧ (¬ ((nI (k)) = 1)) ∧ ((nI (k)) = 3) → (1 : Int32) = nI (pt (k)) := by decide +kernel
        exact ⟨congrArg (fun z => some (Value.int z)) (key _ hk ⟨h1, h2, h3⟩), rfl, rfl⟩
      · refine xB.go 2 (24, [(0, .ref 32), (1, .int (nI i)), (2, .int (nI (K i)))], [.int 6, .int (nI (K i))], XM L mi ml) rfl ?_
        refine xB.bp (¬ (nI (K i)) = 6) (31, [(0, .ref 32), (1, .int (nI i)), (2, .int (nI (K i)))], [], XM L mi ml) (27, [(0, .ref 32), (1, .int (nI i)), (2, .int (nI (K i)))], [], XM L mi ml) rfl (fun h4 => ?_) (fun h4 => ?_)
        · refine xB.go 1 (32, [(0, .ref 32), (1, .int (nI i)), (2, .int (nI (K i)))], [.int 0], XM L mi ml) rfl ?_
          refine xB.rt (some (.int 0)) mi ml rfl ?_
          have key : ∀ k, k < 10 → (¬ ((nI (k)) = 0)) ∧ (¬ ((nI (k)) = 1)) ∧ (¬ ((nI (k)) = 3)) ∧ (¬ (nI (k)) = 6) → (0 : Int32) = nI (pt (k)) := by decide +kernel
          exact ⟨congrArg (fun z => some (Value.int z)) (key _ hk ⟨h1, h2, h3, h4⟩), rfl, rfl⟩
        · refine xB.go 2 (32, [(0, .ref 32), (1, .int (nI i)), (2, .int (nI (K i)))], [.int 1], XM L mi ml) rfl ?_
          refine xB.rt (some (.int 1)) mi ml rfl ?_
          have key : ∀ k, k < 10 → (¬ ((nI (k)) = 0)) ∧ (¬ ((nI (k)) = 1)) ∧ (¬ ((nI (k)) = 3)) ∧ (¬ (¬ (nI (k)) = 6)) → (1 : Int32) = nI (pt (k)) := by decide +kernel
          exact ⟨congrArg (fun z => some (Value.int z)) (key _ hk ⟨h1, h2, h3, h4⟩), rfl, rfl⟩
theorem k_eq {k c : Nat} (hk : k < 10) (hc : c < 10) (h : nI k = nI c) : k = c := (nI_eq (by omega) (by omega)).mp h
theorem k_ne {k c : Nat} (h : ¬ nI k = nI c) : k ≠ c := fun z => h (by rw [z])
set_option maxRecDepth 100000 in
set_option maxHeartbeats 1000000 in
theorem c_mnext (d L : Nat) (mi : xmi) (ml : xml) {n : Nat} {K T : Nat → Nat} (hP : PRM mi n K T) {i : Nat} (hi : i < n) : xFv (d + 1) 99 [.ref 32, .int (nI i)] L mi ml (.int (nI (nxm n K T i))) mi ml := by
  have hk := (hP.2.2.1 i hi).2
  have hi64 : i < 64 := Nat.lt_of_lt_of_le hi hP.2.1
  have hi31 : i < 2 ^ 31 := by omega
  refine xF.mk mX9_next rfl rfl ?_
  refine xB.go 3 (5, [(0, .ref 32), (1, .int (nI i))], [.int (nI i), .ref 33], XM L mi ml) rfl ?_
  refine xB.ck (xin (nI i) 64) (6, [(0, .ref 32), (1, .int (nI i))], [.int (mi 33 (nI i).toNatClampNeg)], XM L mi ml) rfl (xin_of hi64 (by decide) rfl) ?_
  refine xB.cg (6, [(0, .ref 32), (1, .int (nI i))], [.int (nI (K i))], XM L mi ml) (by rw [nI_clamp hi31, (hP.2.2.1 i hi).1]) ?_
  refine xB.go 1 (7, [(0, .ref 32), (1, .int (nI i))], [.int 4, .int (nI (K i))], XM L mi ml) rfl ?_
  refine xB.bp (¬ (nI (K i)) = 4) (19, [(0, .ref 32), (1, .int (nI i))], [], XM L mi ml) (10, [(0, .ref 32), (1, .int (nI i))], [], XM L mi ml) rfl (fun h1 => ?_) (fun h1 => ?_)
  · refine xB.go 3 (24, [(0, .ref 32), (1, .int (nI i))], [.int (nI i), .ref 33], XM L mi ml) rfl ?_
    refine xB.ck (xin (nI i) 64) (25, [(0, .ref 32), (1, .int (nI i))], [.int (mi 33 (nI i).toNatClampNeg)], XM L mi ml) rfl (xin_of hi64 (by decide) rfl) ?_
    refine xB.cg (25, [(0, .ref 32), (1, .int (nI i))], [.int (nI (K i))], XM L mi ml) (by rw [nI_clamp hi31, (hP.2.2.1 i hi).1]) ?_
    refine xB.go 1 (27, [(0, .ref 32), (1, .int (nI i))], [.int 9, .int (nI (K i))], XM L mi ml) rfl ?_
    refine xB.bp (¬ (nI (K i)) = 9) (37, [(0, .ref 32), (1, .int (nI i))], [], XM L mi ml) (30, [(0, .ref 32), (1, .int (nI i))], [], XM L mi ml) rfl (fun h2 => ?_) (fun h2 => ?_)
    · refine xB.go 3 (40, [(0, .ref 32), (1, .int (nI i))], [.int ((nI i) + 1)], XM L mi ml) rfl ?_
      refine xB.rt (some (.int ((nI i) + 1))) mi ml rfl ?_
      have g4 := k_ne (c := 4) h1
      have g9 := k_ne (c := 9) h2
      exact ⟨by rw [nI_1, nxm, if_neg g4, if_neg g9], rfl, rfl⟩
    · refine xB.go 3 (40, [(0, .ref 32), (1, .int (nI i))], [.int (mi 32 2)], XM L mi ml) rfl ?_
      refine xB.rt (some (.int (mi 32 2))) mi ml rfl ?_
      have g4 := k_ne (c := 4) h1
      have g := k_eq hk (c := 9) (by decide) (Classical.not_not.mp h2)
      exact ⟨by rw [hP.1, nxm, if_neg g4, if_pos g], rfl, rfl⟩
  · refine xB.go 3 (15, [(0, .ref 32), (1, .int (nI i))], [.int (nI i), .ref 34], XM L mi ml) rfl ?_
    refine xB.ck (xin (nI i) 64) (16, [(0, .ref 32), (1, .int (nI i))], [.int (mi 34 (nI i).toNatClampNeg)], XM L mi ml) rfl (xin_of hi64 (by decide) rfl) ?_
    refine xB.go 1 (40, [(0, .ref 32), (1, .int (nI i))], [.int (mi 34 (nI i).toNatClampNeg)], XM L mi ml) rfl ?_
    refine xB.rt (some (.int (mi 34 (nI i).toNatClampNeg))) mi ml rfl ?_
    have g := k_eq hk (c := 4) (by decide) (Classical.not_not.mp h1)
    exact ⟨by rw [nI_clamp hi31, (hP.2.2.2 i hi (Or.inl g)).1, nxm, if_pos g], rfl, rfl⟩
set_option maxRecDepth 100000 in
set_option maxHeartbeats 1000000 in
theorem c_mother (d L : Nat) (mi : xmi) (ml : xml) {n : Nat} {K T : Nat → Nat} (hP : PRM mi n K T) {i : Nat} (hi : i < n) : xFv (d + 2) 100 [.ref 32, .int (nI i)] L mi ml (.int (nI (otm n K T i))) mi ml := by
  have hk := (hP.2.2.1 i hi).2
  have hi64 : i < 64 := Nat.lt_of_lt_of_le hi hP.2.1
  have hi31 : i < 2 ^ 31 := by omega
  refine xF.mk mX9_other rfl rfl ?_
  refine xB.go 3 (5, [(0, .ref 32), (1, .int (nI i))], [.int (nI i), .ref 33], XM L mi ml) rfl ?_
  refine xB.ck (xin (nI i) 64) (6, [(0, .ref 32), (1, .int (nI i))], [.int (mi 33 (nI i).toNatClampNeg)], XM L mi ml) rfl (xin_of hi64 (by decide) rfl) ?_
  refine xB.cg (6, [(0, .ref 32), (1, .int (nI i))], [.int (nI (K i))], XM L mi ml) (by rw [nI_clamp hi31, (hP.2.2.1 i hi).1]) ?_
  refine xB.go 1 (7, [(0, .ref 32), (1, .int (nI i))], [.int 5, .int (nI (K i))], XM L mi ml) rfl ?_
  refine xB.bp (¬ (nI (K i)) = 5) (19, [(0, .ref 32), (1, .int (nI i))], [], XM L mi ml) (10, [(0, .ref 32), (1, .int (nI i))], [], XM L mi ml) rfl (fun h1 => ?_) (fun h1 => ?_)
  · refine xB.go 2 (21, [(0, .ref 32), (1, .int (nI i))], [.int (nI i), .ref 32], XM L mi ml) rfl ?_
    refine xB.c1 99 [.ref 32, .int (nI i)] [] (c_mnext _ L _ _ hP hi) rfl ?_
    refine xB.rt (some (.int (nI (nxm n K T i)))) mi ml rfl ?_
    have g := k_ne (c := 5) h1
    exact ⟨by rw [otm, if_neg g], rfl, rfl⟩
  · refine xB.go 3 (15, [(0, .ref 32), (1, .int (nI i))], [.int (nI i), .ref 34], XM L mi ml) rfl ?_
    refine xB.ck (xin (nI i) 64) (16, [(0, .ref 32), (1, .int (nI i))], [.int (mi 34 (nI i).toNatClampNeg)], XM L mi ml) rfl (xin_of hi64 (by decide) rfl) ?_
    refine xB.go 1 (24, [(0, .ref 32), (1, .int (nI i))], [.int (mi 34 (nI i).toNatClampNeg)], XM L mi ml) rfl ?_
    refine xB.rt (some (.int (mi 34 (nI i).toNatClampNeg))) mi ml rfl ?_
    have g := k_eq hk (c := 5) (by decide) (Classical.not_not.mp h1)
    exact ⟨by rw [nI_clamp hi31, (hP.2.2.2 i hi (Or.inr g)).1, otm, if_pos g], rfl, rfl⟩
end
section
/-! the reference's walk -/
def wMet (a : xmi) (i : Nat) : Bool := !(decide (a 37 i = -1))
/-- heights are -1, or those with which a place is come to -/
def wJ (n : Nat) (K T : Nat → Nat) (mi a : xmi) : Prop := (∀ x, x ≠ 37 → a x = mi x) ∧ (∀ i, i < 64 → a 37 i = -1 ∨ (i < n ∧ ∃ h, h ≤ 16 ∧ a 37 i = nI h ∧ Rh n K T i h)) ∧ a 37 0 = nI 0 ∧ 0 < n
def wCl (n : Nat) (K T : Nat → Nat) (a : xmi) (k : Nat) : Prop := ∀ i h, i < k → h ≤ 16 → a 37 i = nI h → tk (K i) ≤ h ∧ h - tk (K i) + pt (K i) ≤ 16 ∧ ∀ j, Fo K T i j → j < n ∧ a 37 j = nI (h - tk (K i) + pt (K i))
/-- what is known behind walk, with answer v -/
def SHM (n : Nat) (K T : Nat → Nat) (v : Int32) (a : xmi) : Prop := (v = 1 ∧ WF n K T ∧ ∀ i, i < 64 → (∃ h, h ≤ 16 ∧ Rh n K T i h ∧ a 37 i = nI h) ∨ (a 37 i = -1 ∧ ¬ ∃ h, Rh n K T i h)) ∨ (v = 0 ∧ ¬ WF n K T)
def wQ (n : Nat) (K T : Nat → Nat) (mi : xmi) (ml : xml) : Option Value → xmi → xml → Prop := fun r x y => ∃ v, r = some (.int v) ∧ y = ml ∧ (∀ q, q ≠ 37 → x q = mi q) ∧ SHM n K T v x
theorem nI_neg1 {h : Nat} (hh : h < 2 ^ 31) : nI h ≠ -1 := fun z => by
  have := nI_toInt hh
  rw [z] at this
  have h2 : (-1 : Int32).toInt = -1 := by decide +kernel
  omega
theorem neg1_lt : (-1 : Int32) < 0 := by decide +kernel
theorem wJ.prm {n : Nat} {K T : Nat → Nat} {mi a : xmi} (h : wJ n K T mi a) (hP : PRM mi n K T) : PRM a n K T := hP.frame (by rw [h.1 32 (by decide)]) (h.1 33 (by decide)) (h.1 34 (by decide))
theorem wJ.cl {n : Nat} {K T : Nat → Nat} {mi a : xmi} (hn : n ≤ 64) (h : wJ n K T mi a) (hc : wCl n K T a n) : SHM n K T 1 a := by
  obtain ⟨-, h2, h3, h4⟩ := h
  have key := WF_of (n := n) (K := K) (T := T) (fun i h => i < n ∧ a 37 i = nI h ∧ h ≤ 16) ⟨h4, h3, by omega⟩
    (fun i h ⟨g1, g2, g3⟩ => ⟨g1, (hc i h g1 g3 g2).1, (hc i h g1 g3 g2).2.1⟩)
    (fun i h j ⟨g1, g2, g3⟩ hf => by
      obtain ⟨k1, k2, k3⟩ := hc i h g1 g3 g2
      obtain ⟨k4, k5⟩ := k3 j hf
      exact ⟨k4, k5, k2⟩)
    (fun i h h' g g' => nI_inj g.2.2 g'.2.2 (g.2.1.symm.trans g'.2.1))
  refine Or.inl ⟨rfl, key.1, fun i hi => ?_⟩
  rcases h2 i hi with g | ⟨g1, h, g2, g3, g4⟩
  · refine Or.inr ⟨g, fun ⟨h, hr⟩ => ?_⟩
    have := key.2 i h hr
    exact nI_neg1 (by omega) (this.2.1.symm.trans g)
  · exact Or.inl ⟨h, g2, g4, g3⟩
/-- a follower f is given height h -/
theorem wJ.put {n f h : Nat} {K T : Nat → Nat} {mi a : xmi} (hn : n ≤ 64) (hJ : wJ n K T mi a) (hf : f < n) (hr : Rh n K T f h) (h16 : h ≤ 16) (hv : a 37 f = -1 ∨ a 37 f = nI h) :
    wJ n K T mi (xU a 37 f (nI h)) ∧ xU a 37 f (nI h) 37 f = nI h ∧ (∀ j, a 37 j ≠ -1 → xU a 37 f (nI h) 37 j = a 37 j) ∧ cnt (wMet a) 64 ≤ cnt (wMet (xU a 37 f (nI h))) 64 ∧ (a 37 f = -1 → cnt (wMet a) 64 + 1 ≤ cnt (wMet (xU a 37 f (nI h))) 64) ∧ (a 37 f = nI h → xU a 37 f (nI h) 37 = a 37) := by
  obtain ⟨h1, h2, h3, h4⟩ := hJ
  have e : ∀ j, j ≠ f → xU a 37 f (nI h) 37 j = a 37 j := fun j hj => by rw [xU_at, va_up_ne _ _ hj]
  have ef : xU a 37 f (nI h) 37 f = nI h := by rw [xU_at, va_up_self]
  have hk : ∀ j, a 37 j ≠ -1 → xU a 37 f (nI h) 37 j = a 37 j := fun j hj => by
    by_cases z : j = f
    · subst z
      rw [ef]
      rcases hv with w | w
      · exact absurd w hj
      · exact w.symm
    · exact e j z
  have hmono : ∀ j, j < 64 → wMet a j = true → wMet (xU a 37 f (nI h)) j = true := fun j _ g => by
    unfold wMet at g ⊢
    have g : a 37 j ≠ -1 := by simpa using g
    rw [hk j g]; simpa using g
  refine ⟨⟨fun x hx => by rw [xU_ne hx]; exact h1 x hx, fun i hi => ?_, ?_, h4⟩, ef, hk, cnt_mono hmono, fun g => ?_, fun g => ?_⟩
  · by_cases z : i = f
    · subst z; exact Or.inr ⟨hf, h, h16, ef, hr⟩
    · rw [e i z]; exact h2 i hi
  · rw [hk 0 (by rw [h3]; exact nI_neg1 (by omega))]; exact h3
  · refine cnt_lt hmono (show f < 64 by omega) ?_ ?_
    · unfold wMet; simp [g]
    · unfold wMet; rw [ef]; simpa using nI_neg1 (show h < 2 ^ 31 by omega)
  · funext j
    by_cases z : j = f
    · subst z; rw [ef]; exact g.symm
    · exact e j z
set_option maxRecDepth 100000 in
set_option maxHeartbeats 1000000 in
theorem walk_f (d L : Nat) (mi : xmi) (ml : xml) {n : Nat} {K T : Nat → Nat} (hP : PRM mi n K T) {a : xmi} (hJ : wJ n K T mi a) {i f h : Nat} (hi : i < n) (hr : Rh n K T f h) (h16 : h ≤ 16) (hf : f ≤ 64) {m tt w : Int32} (hm : m = 0 ∨ m = 1) (k : ∀ m', f < n → (a 37 f = -1 ∨ a 37 f = nI h) → (m' = 1 ∧ (m = 1 ∨ a 37 f = -1)) ∨ (m' = 0 ∧ m = 0 ∧ a 37 f = nI h) → xB (d + 2) mX9_walk L (wQ n K T mi ml) (228, [(0, .ref 32), (1, .int m'), (2, .int tt), (3, .int (nI i)), (4, .int (nI h)), (5, .int w), (6, .int (nI f))], [], XM L (xU a 37 f (nI h)) ml)) : xB (d + 2) mX9_walk L (wQ n K T mi ml) (166, [(0, .ref 32), (1, .int m), (2, .int tt), (3, .int (nI i)), (4, .int (nI h)), (5, .int w), (6, .int (nI f))], [], XM L a ml) := by
  have hPa := hJ.prm hP
  have hn64 := hP.2.1
  have hf31 : f < 2 ^ 31 := by omega
  refine xB.go 3 (172, [(0, .ref 32), (1, .int m), (2, .int tt), (3, .int (nI i)), (4, .int (nI h)), (5, .int w), (6, .int (nI f))], [.int (a 32 2), .int (nI f)], XM L a ml) rfl ?_
  refine xB.cg (172, [(0, .ref 32), (1, .int m), (2, .int tt), (3, .int (nI i)), (4, .int (nI h)), (5, .int w), (6, .int (nI f))], [.int (nI n), .int (nI f)], XM L a ml) (by rw [hPa.1]) ?_
  refine xB.bp ((nI n) ≤ (nI f)) (197, [(0, .ref 32), (1, .int m), (2, .int tt), (3, .int (nI i)), (4, .int (nI h)), (5, .int w), (6, .int (nI f))], [], XM L a ml) (175, [(0, .ref 32), (1, .int m), (2, .int tt), (3, .int (nI i)), (4, .int (nI h)), (5, .int w), (6, .int (nI f))], [], XM L a ml) rfl (fun h1 => ?_) (fun h1 => ?_)
  · refine xB.go 1 (198, [(0, .ref 32), (1, .int m), (2, .int tt), (3, .int (nI i)), (4, .int (nI h)), (5, .int w), (6, .int (nI f))], [.int 0], XM L a ml) rfl ?_
    refine xB.rt (some (.int 0)) a ml rfl ?_
    exact ⟨0, rfl, rfl, hJ.1, Or.inr ⟨rfl, fun w => absurd (w.1 f h hr).1 (fun z => absurd (nI_ltI hf31 (by omega) |>.mpr z) (i_nlt.mpr h1))⟩⟩
  · refine xB.go 3 (181, [(0, .ref 32), (1, .int m), (2, .int tt), (3, .int (nI i)), (4, .int (nI h)), (5, .int w), (6, .int (nI f))], [.int (nI f), .ref 37], XM L a ml) rfl ?_
    refine xB.ck (xin (nI f) 64) (182, [(0, .ref 32), (1, .int m), (2, .int tt), (3, .int (nI i)), (4, .int (nI h)), (5, .int w), (6, .int (nI f))], [.int (a 37 (nI f).toNatClampNeg)], XM L a ml) rfl (xin_of (Nat.lt_of_lt_of_le ((nI_ltI hf31 (by have := hP.2.1; omega)).mp (i_nle.mp h1)) hP.2.1) (by decide) rfl) ?_
    refine xB.bp ((a 37 (nI f).toNatClampNeg) < 0) (199, [(0, .ref 32), (1, .int m), (2, .int tt), (3, .int (nI i)), (4, .int (nI h)), (5, .int w), (6, .int (nI f))], [], XM L a ml) (185, [(0, .ref 32), (1, .int m), (2, .int tt), (3, .int (nI i)), (4, .int (nI h)), (5, .int w), (6, .int (nI f))], [], XM L a ml) rfl (fun h2 => ?_) (fun h2 => ?_)
    · refine xB.go 1 (200, [(0, .ref 32), (1, .int m), (2, .int tt), (3, .int (nI i)), (4, .int (nI h)), (5, .int w), (6, .int (nI f))], [.int m], XM L a ml) rfl ?_
      refine xB.bp (¬ m = 0) (213, [(0, .ref 32), (1, .int m), (2, .int tt), (3, .int (nI i)), (4, .int (nI h)), (5, .int w), (6, .int (nI f))], [], XM L a ml) (203, [(0, .ref 32), (1, .int m), (2, .int tt), (3, .int (nI i)), (4, .int (nI h)), (5, .int w), (6, .int (nI f))], [], XM L a ml) rfl (fun h3 => ?_) (fun h3 => ?_)
      · refine xB.go 7 (227, [(0, .ref 32), (1, .int 1), (2, .int tt), (3, .int (nI i)), (4, .int (nI h)), (5, .int w), (6, .int (nI f))], [.int (nI h), .int (nI f), .ref 37], XM L a ml) rfl ?_
        refine xB.ck (xin (nI f) 64) (228, [(0, .ref 32), (1, .int 1), (2, .int tt), (3, .int (nI i)), (4, .int (nI h)), (5, .int w), (6, .int (nI f))], [], XM L (xU a 37 (nI f).toNatClampNeg (nI h)) ml) rfl (xin_of (Nat.lt_of_lt_of_le ((nI_ltI hf31 (by have := hP.2.1; omega)).mp (i_nle.mp h1)) hP.2.1) (by decide) rfl) ?_
        have hfn : f < n := (nI_ltI hf31 (by omega)).mp (i_nle.mp h1)
        rw [nI_clamp hf31] at h2 ⊢
        have hv : a 37 f = -1 ∨ a 37 f = nI h := by
          rcases hJ.2.1 f (by omega) with z | ⟨z1, hx2, z2, z3, z4⟩
          · exact Or.inl z
          · rw [z3] at h2; exact absurd h2 (nI_pos (by omega))
        refine k 1 hfn hv ?_
        refine Or.inl ⟨rfl, Or.inl ?_⟩
        rcases hm with z | z
        · exact absurd z h3
        · exact z
      · refine xB.go 3 (209, [(0, .ref 32), (1, .int m), (2, .int tt), (3, .int (nI i)), (4, .int (nI h)), (5, .int w), (6, .int (nI f))], [.int (nI f), .ref 37], XM L a ml) rfl ?_
        refine xB.ck (xin (nI f) 64) (210, [(0, .ref 32), (1, .int m), (2, .int tt), (3, .int (nI i)), (4, .int (nI h)), (5, .int w), (6, .int (nI f))], [.int (a 37 (nI f).toNatClampNeg)], XM L a ml) rfl (xin_of (Nat.lt_of_lt_of_le ((nI_ltI hf31 (by have := hP.2.1; omega)).mp (i_nle.mp h1)) hP.2.1) (by decide) rfl) ?_
        refine xB.bp (0 ≤ (a 37 (nI f).toNatClampNeg)) (217, [(0, .ref 32), (1, .int m), (2, .int tt), (3, .int (nI i)), (4, .int (nI h)), (5, .int w), (6, .int (nI f))], [], XM L a ml) (213, [(0, .ref 32), (1, .int m), (2, .int tt), (3, .int (nI i)), (4, .int (nI h)), (5, .int w), (6, .int (nI f))], [], XM L a ml) rfl (fun h4 => ?_) (fun h4 => ?_)
        · refine xB.go 6 (227, [(0, .ref 32), (1, .int 0), (2, .int tt), (3, .int (nI i)), (4, .int (nI h)), (5, .int w), (6, .int (nI f))], [.int (nI h), .int (nI f), .ref 37], XM L a ml) rfl ?_
          refine xB.ck (xin (nI f) 64) (228, [(0, .ref 32), (1, .int 0), (2, .int tt), (3, .int (nI i)), (4, .int (nI h)), (5, .int w), (6, .int (nI f))], [], XM L (xU a 37 (nI f).toNatClampNeg (nI h)) ml) rfl (xin_of (Nat.lt_of_lt_of_le ((nI_ltI hf31 (by have := hP.2.1; omega)).mp (i_nle.mp h1)) hP.2.1) (by decide) rfl) ?_
          have hfn : f < n := (nI_ltI hf31 (by omega)).mp (i_nle.mp h1)
          rw [nI_clamp hf31] at h2 ⊢
          have hv : a 37 f = -1 ∨ a 37 f = nI h := by
            rcases hJ.2.1 f (by omega) with z | ⟨z1, hx2, z2, z3, z4⟩
            · exact Or.inl z
            · rw [z3] at h2; exact absurd h2 (nI_pos (by omega))
          refine k 0 hfn hv ?_
          refine Or.inr ⟨rfl, Classical.not_not.mp h3, ?_⟩
          rw [nI_clamp hf31] at h4
          rcases hv with z | z
          · rw [z] at h4; exact absurd neg1_lt (i_nlt.mpr h4)
          · exact z
        · refine xB.go 7 (227, [(0, .ref 32), (1, .int 1), (2, .int tt), (3, .int (nI i)), (4, .int (nI h)), (5, .int w), (6, .int (nI f))], [.int (nI h), .int (nI f), .ref 37], XM L a ml) rfl ?_
          refine xB.ck (xin (nI f) 64) (228, [(0, .ref 32), (1, .int 1), (2, .int tt), (3, .int (nI i)), (4, .int (nI h)), (5, .int w), (6, .int (nI f))], [], XM L (xU a 37 (nI f).toNatClampNeg (nI h)) ml) rfl (xin_of (Nat.lt_of_lt_of_le ((nI_ltI hf31 (by have := hP.2.1; omega)).mp (i_nle.mp h1)) hP.2.1) (by decide) rfl) ?_
          have hfn : f < n := (nI_ltI hf31 (by omega)).mp (i_nle.mp h1)
          rw [nI_clamp hf31] at h2 ⊢
          have hv : a 37 f = -1 ∨ a 37 f = nI h := by
            rcases hJ.2.1 f (by omega) with z | ⟨z1, hx2, z2, z3, z4⟩
            · exact Or.inl z
            · rw [z3] at h2; exact absurd h2 (nI_pos (by omega))
          refine k 1 hfn hv ?_
          refine Or.inl ⟨rfl, Or.inr ?_⟩
          rw [nI_clamp hf31] at h4
          rcases hv with z | z
          · exact z
          · rw [z] at h4; exact absurd (nI_pos' (show h < 2 ^ 31 by omega)) h4
    · refine xB.go 3 (191, [(0, .ref 32), (1, .int m), (2, .int tt), (3, .int (nI i)), (4, .int (nI h)), (5, .int w), (6, .int (nI f))], [.int (nI f), .ref 37], XM L a ml) rfl ?_
      refine xB.ck (xin (nI f) 64) (192, [(0, .ref 32), (1, .int m), (2, .int tt), (3, .int (nI i)), (4, .int (nI h)), (5, .int w), (6, .int (nI f))], [.int (a 37 (nI f).toNatClampNeg)], XM L a ml) rfl (xin_of (Nat.lt_of_lt_of_le ((nI_ltI hf31 (by have := hP.2.1; omega)).mp (i_nle.mp h1)) hP.2.1) (by decide) rfl) ?_
      refine xB.go 1 (194, [(0, .ref 32), (1, .int m), (2, .int tt), (3, .int (nI i)), (4, .int (nI h)), (5, .int w), (6, .int (nI f))], [.int (nI h), .int (a 37 (nI f).toNatClampNeg)], XM L a ml) rfl ?_
      refine xB.bp ((a 37 (nI f).toNatClampNeg) = (nI h)) (199, [(0, .ref 32), (1, .int m), (2, .int tt), (3, .int (nI i)), (4, .int (nI h)), (5, .int w), (6, .int (nI f))], [], XM L a ml) (197, [(0, .ref 32), (1, .int m), (2, .int tt), (3, .int (nI i)), (4, .int (nI h)), (5, .int w), (6, .int (nI f))], [], XM L a ml) rfl (fun h5 => ?_) (fun h5 => ?_)
      · refine xB.go 1 (200, [(0, .ref 32), (1, .int m), (2, .int tt), (3, .int (nI i)), (4, .int (nI h)), (5, .int w), (6, .int (nI f))], [.int m], XM L a ml) rfl ?_
        refine xB.bp (¬ m = 0) (213, [(0, .ref 32), (1, .int m), (2, .int tt), (3, .int (nI i)), (4, .int (nI h)), (5, .int w), (6, .int (nI f))], [], XM L a ml) (203, [(0, .ref 32), (1, .int m), (2, .int tt), (3, .int (nI i)), (4, .int (nI h)), (5, .int w), (6, .int (nI f))], [], XM L a ml) rfl (fun h6 => ?_) (fun h6 => ?_)
        · refine xB.go 7 (227, [(0, .ref 32), (1, .int 1), (2, .int tt), (3, .int (nI i)), (4, .int (nI h)), (5, .int w), (6, .int (nI f))], [.int (nI h), .int (nI f), .ref 37], XM L a ml) rfl ?_
          refine xB.ck (xin (nI f) 64) (228, [(0, .ref 32), (1, .int 1), (2, .int tt), (3, .int (nI i)), (4, .int (nI h)), (5, .int w), (6, .int (nI f))], [], XM L (xU a 37 (nI f).toNatClampNeg (nI h)) ml) rfl (xin_of (Nat.lt_of_lt_of_le ((nI_ltI hf31 (by have := hP.2.1; omega)).mp (i_nle.mp h1)) hP.2.1) (by decide) rfl) ?_
          have hfn : f < n := (nI_ltI hf31 (by omega)).mp (i_nle.mp h1)
          rw [nI_clamp hf31] at h2 ⊢
          have hv : a 37 f = -1 ∨ a 37 f = nI h := by
            rw [nI_clamp hf31] at h5; exact Or.inr h5
          refine k 1 hfn hv ?_
          refine Or.inl ⟨rfl, Or.inl ?_⟩
          rcases hm with z | z
          · exact absurd z h6
          · exact z
        · refine xB.go 3 (209, [(0, .ref 32), (1, .int m), (2, .int tt), (3, .int (nI i)), (4, .int (nI h)), (5, .int w), (6, .int (nI f))], [.int (nI f), .ref 37], XM L a ml) rfl ?_
          refine xB.ck (xin (nI f) 64) (210, [(0, .ref 32), (1, .int m), (2, .int tt), (3, .int (nI i)), (4, .int (nI h)), (5, .int w), (6, .int (nI f))], [.int (a 37 (nI f).toNatClampNeg)], XM L a ml) rfl (xin_of (Nat.lt_of_lt_of_le ((nI_ltI hf31 (by have := hP.2.1; omega)).mp (i_nle.mp h1)) hP.2.1) (by decide) rfl) ?_
          refine xB.bp (0 ≤ (a 37 (nI f).toNatClampNeg)) (217, [(0, .ref 32), (1, .int m), (2, .int tt), (3, .int (nI i)), (4, .int (nI h)), (5, .int w), (6, .int (nI f))], [], XM L a ml) (213, [(0, .ref 32), (1, .int m), (2, .int tt), (3, .int (nI i)), (4, .int (nI h)), (5, .int w), (6, .int (nI f))], [], XM L a ml) rfl (fun h7 => ?_) (fun h7 => ?_)
          · refine xB.go 6 (227, [(0, .ref 32), (1, .int 0), (2, .int tt), (3, .int (nI i)), (4, .int (nI h)), (5, .int w), (6, .int (nI f))], [.int (nI h), .int (nI f), .ref 37], XM L a ml) rfl ?_
            refine xB.ck (xin (nI f) 64) (228, [(0, .ref 32), (1, .int 0), (2, .int tt), (3, .int (nI i)), (4, .int (nI h)), (5, .int w), (6, .int (nI f))], [], XM L (xU a 37 (nI f).toNatClampNeg (nI h)) ml) rfl (xin_of (Nat.lt_of_lt_of_le ((nI_ltI hf31 (by have := hP.2.1; omega)).mp (i_nle.mp h1)) hP.2.1) (by decide) rfl) ?_
            have hfn : f < n := (nI_ltI hf31 (by omega)).mp (i_nle.mp h1)
            rw [nI_clamp hf31] at h2 ⊢
            have hv : a 37 f = -1 ∨ a 37 f = nI h := by
              rw [nI_clamp hf31] at h5; exact Or.inr h5
            refine k 0 hfn hv ?_
            refine Or.inr ⟨rfl, Classical.not_not.mp h6, ?_⟩
            rw [nI_clamp hf31] at h7
            rcases hv with z | z
            · rw [z] at h7; exact absurd neg1_lt (i_nlt.mpr h7)
            · exact z
          · refine xB.go 7 (227, [(0, .ref 32), (1, .int 1), (2, .int tt), (3, .int (nI i)), (4, .int (nI h)), (5, .int w), (6, .int (nI f))], [.int (nI h), .int (nI f), .ref 37], XM L a ml) rfl ?_
            refine xB.ck (xin (nI f) 64) (228, [(0, .ref 32), (1, .int 1), (2, .int tt), (3, .int (nI i)), (4, .int (nI h)), (5, .int w), (6, .int (nI f))], [], XM L (xU a 37 (nI f).toNatClampNeg (nI h)) ml) rfl (xin_of (Nat.lt_of_lt_of_le ((nI_ltI hf31 (by have := hP.2.1; omega)).mp (i_nle.mp h1)) hP.2.1) (by decide) rfl) ?_
            have hfn : f < n := (nI_ltI hf31 (by omega)).mp (i_nle.mp h1)
            rw [nI_clamp hf31] at h2 ⊢
            have hv : a 37 f = -1 ∨ a 37 f = nI h := by
              rw [nI_clamp hf31] at h5; exact Or.inr h5
            refine k 1 hfn hv ?_
            refine Or.inl ⟨rfl, Or.inr ?_⟩
            rw [nI_clamp hf31] at h7
            rcases hv with z | z
            · exact z
            · rw [z] at h7; exact absurd (nI_pos' (show h < 2 ^ 31 by omega)) h7
      · refine xB.go 1 (198, [(0, .ref 32), (1, .int m), (2, .int tt), (3, .int (nI i)), (4, .int (nI h)), (5, .int w), (6, .int (nI f))], [.int 0], XM L a ml) rfl ?_
        refine xB.rt (some (.int 0)) a ml rfl ?_
        have hfn : f < n := (nI_ltI hf31 (by omega)).mp (i_nle.mp h1)
        refine ⟨0, rfl, rfl, hJ.1, Or.inr ⟨rfl, fun w => ?_⟩⟩
        rcases hJ.2.1 f (by omega) with z | ⟨z1, hx2, z2, z3, z4⟩
        · rw [nI_clamp hf31, z] at h2; exact absurd neg1_lt h2
        · rw [nI_clamp hf31, z3, w.2 f hx2 h z4 hr] at h5; exact absurd rfl h5
set_option maxRecDepth 100000 in
set_option maxHeartbeats 1000000 in
theorem walk_123 (d L : Nat) (mi : xmi) (ml : xml) {n : Nat} {K T : Nat → Nat} (hP : PRM mi n K T) {a : xmi} (hJ : wJ n K T mi a) {i h : Nat} (hi : i < n) (h16 : h ≤ 16) (hrr : ∀ j, Fo K T i j → Rh n K T j h) {m tt : Int32} (hm : m = 0 ∨ m = 1) (k : (∀ m', m' = 0 ∨ m' = 1 → ∀ a' : xmi, wJ n K T mi a' → (m' = 0 → m = 0 ∧ a' 37 = a 37 ∧ ∀ j, Fo K T i j → j < n ∧ a 37 j = nI h) → cnt (wMet a) 64 ≤ cnt (wMet a') 64 → (m' = 1 → m = 1 ∨ cnt (wMet a) 64 + 1 ≤ cnt (wMet a') 64) →  xB (d + 2) mX9_walk L (wQ n K T mi ml) (55, [(0, .ref 32), (1, .int m'), (2, .int tt), (3, .int (nI (i + 1)))], [], XM L a' ml))) : xB (d + 2) mX9_walk L (wQ n K T mi ml) (123, [(0, .ref 32), (1, .int m), (2, .int tt), (3, .int (nI i)), (4, .int (nI h))], [], XM L a ml) := by
  have hPa := hJ.prm hP
  have hn64 := hP.2.1
  have hk := (hP.2.2.1 i hi).2
  have hi31 : i < 2 ^ 31 := by omega
  refine xB.go 3 (128, [(0, .ref 32), (1, .int m), (2, .int tt), (3, .int (nI i)), (4, .int (nI h))], [.int (nI i), .ref 33], XM L a ml) rfl ?_
  refine xB.ck (xin (nI i) 64) (129, [(0, .ref 32), (1, .int m), (2, .int tt), (3, .int (nI i)), (4, .int (nI h))], [.int (a 33 (nI i).toNatClampNeg)], XM L a ml) rfl (xin_of (show i < 64 from Nat.lt_of_lt_of_le hi hP.2.1) (by decide) rfl) ?_
  refine xB.cg (129, [(0, .ref 32), (1, .int m), (2, .int tt), (3, .int (nI i)), (4, .int (nI h))], [.int (nI (K i))], XM L a ml) (by rw [nI_clamp hi31, (hPa.2.2.1 i hi).1]) ?_
  refine xB.go 1 (131, [(0, .ref 32), (1, .int m), (2, .int tt), (3, .int (nI i)), (4, .int (nI h))], [.int 9, .int (nI (K i))], XM L a ml) rfl ?_
  refine xB.bp (¬ (nI (K i)) = 9) (137, [(0, .ref 32), (1, .int m), (2, .int tt), (3, .int (nI i)), (4, .int (nI h))], [], XM L a ml) (134, [(0, .ref 32), (1, .int m), (2, .int tt), (3, .int (nI i)), (4, .int (nI h))], [], XM L a ml) rfl (fun h1 => ?_) (fun h1 => ?_)
  · refine xB.go 9 (153, [(0, .ref 32), (1, .int m), (2, .int tt), (3, .int (nI i)), (4, .int (nI h)), (5, .int 0)], [.int (nI i), .ref 32], XM L a ml) rfl ?_
    refine xB.c1 99 [.ref 32, .int (nI i)] [] (c_mnext _ L _ _ hPa hi) rfl ?_
    refine xB.go 2 (166, [(0, .ref 32), (1, .int m), (2, .int tt), (3, .int (nI i)), (4, .int (nI h)), (5, .int 0), (6, .int (nI (nxm n K T i)))], [], XM L a ml) rfl ?_
    have g9 := k_ne (c := 9) h1
    have hF1 := nxm_Fo (n := n) (T := T) g9
    have hF2 := otm_Fo (n := n) (T := T) g9
    refine walk_f d L mi ml hP hJ hi (hrr _ hF1) h16 (hP.nx_le hi).1 hm (fun m1 hf1 hv1 hm1 => ?_)
    obtain ⟨p1, p2, p3, p4, p5, p6⟩ := hJ.put hn64 hf1 (hrr _ hF1) h16 hv1
    generalize hbe : xU a 37 (nxm n K T i) (nI h) = b1 at p1 p2 p3 p4 p5 p6 ⊢
    have hPb := p1.prm hP
    refine xB.go 9 (161, [(0, .ref 32), (1, .int m1), (2, .int tt), (3, .int (nI i)), (4, .int (nI h)), (5, .int 1), (6, .int (nI (nxm n K T i)))], [.int (nI i), .ref 32], XM L b1 ml) rfl ?_
    refine xB.c1 100 [.ref 32, .int (nI i)] [] (c_mother _ L _ _ hPb hi) rfl ?_
    refine xB.go 1 (166, [(0, .ref 32), (1, .int m1), (2, .int tt), (3, .int (nI i)), (4, .int (nI h)), (5, .int 1), (6, .int (nI (otm n K T i)))], [], XM L b1 ml) rfl ?_
    have hm1b : m1 = 0 ∨ m1 = 1 := by rcases hm1 with z | z; exact Or.inr z.1; exact Or.inl z.1
    refine walk_f d L mi ml hP p1 hi (hrr _ hF2) h16 (hP.nx_le hi).2 hm1b (fun m2 hf2 hv2 hm2 => ?_)
    obtain ⟨q1, q2, q3, q4, q5, q6⟩ := p1.put hn64 hf2 (hrr _ hF2) h16 hv2
    generalize hce : xU b1 37 (otm n K T i) (nI h) = c1 at q1 q2 q3 q4 q5 q6 ⊢
    refine xB.go 7 (55, [(0, .ref 32), (1, .int m2), (2, .int tt), (3, .int ((nI i) + 1)), (4, .int (nI h)), (5, .int 2), (6, .int (nI (otm n K T i)))], [], XM L c1 ml) rfl ?_
    refine xB.fo [(0, .ref 32), (1, .int m2), (2, .int tt), (3, .int (nI i + 1))] (by simp) ?_
    rw [nI_1]
    have hm2b : m2 = 0 ∨ m2 = 1 := by rcases hm2 with z | z; exact Or.inr z.1; exact Or.inl z.1
    refine k m2 hm2b c1 q1 (fun z => ?_) (Nat.le_trans p4 q4) (fun z => ?_)
    · rcases hm2 with w | ⟨-, w1, w2⟩
      · rw [w.1] at z; cases z
      · rcases hm1 with y | ⟨-, y1, y2⟩
        · rw [y.1] at w1; cases w1
        · have e1 : b1 37 = a 37 := p6 y2
          refine ⟨y1, (q6 w2).trans e1, fun j hj => ?_⟩
          rcases Fo_nxm (n := n) hj with rfl | rfl
          · exact ⟨hf1, y2⟩
          · rw [e1] at w2; exact ⟨hf2, w2⟩
    · rcases hm2 with ⟨-, w | w⟩ | ⟨w, -⟩
      · rcases hm1 with ⟨-, y | y⟩ | ⟨y, -⟩
        · exact Or.inl y
        · exact Or.inr (Nat.le_trans (p5 y) q4)
        · rw [y] at w; cases w
      · exact Or.inr (Nat.le_trans (Nat.succ_le_succ p4) (q5 w))
      · rw [w] at z; cases z
  · refine xB.go 3 (55, [(0, .ref 32), (1, .int m), (2, .int tt), (3, .int ((nI i) + 1)), (4, .int (nI h))], [], XM L a ml) rfl ?_
    refine xB.fo [(0, .ref 32), (1, .int m), (2, .int tt), (3, .int (nI i + 1))] (by simp) ?_
    rw [nI_1]
    have g9 := k_eq hk (c := 9) (by decide) (Classical.not_not.mp h1)
    exact k m hm a hJ (fun z => ⟨z, rfl, fun j hj => absurd g9 hj.1⟩) (Nat.le_refl _) (fun z => Or.inl z)
theorem pt_1 {k : Nat} (hk : k < 10) (h : ¬ nI (pt k) = 0) : pt k = 1 := by
  have := (pt_le k hk).1
  rcases (show pt k = 0 ∨ pt k = 1 by omega) with z | z
  · rw [z] at h; exact absurd rfl h
  · exact z
theorem pt_0 {k : Nat} (hk : k < 10) (h : nI (pt k) = 0) : pt k = 0 := by
  have := (pt_le k hk).1
  exact (nI_eq (by omega) (by decide)).mp h
theorem nI_a0 (x : Int32) : x + 0 = x := by simp
set_option maxRecDepth 100000 in
set_option maxHeartbeats 1000000 in
theorem walk_55 (d L : Nat) (mi : xmi) (ml : xml) {n : Nat} {K T : Nat → Nat} (hP : PRM mi n K T) {t : Nat} (k : ∀ (m : Int32), m = 0 ∨ m = 1 → ∀ a : xmi, wJ n K T mi a → (m = 0 → wCl n K T a n) → t + 1 ≤ cnt (wMet a) 64 → (m = 1 → t + 2 ≤ cnt (wMet a) 64) →  xB (d + 2) mX9_walk L (wQ n K T mi ml) (240, [(0, .ref 32), (1, .int m), (2, .int (nI t))], [], XM L a ml)) : ∀ (f i : Nat), i ≤ n → n - i < f → ∀ (m : Int32), m = 0 ∨ m = 1 → ∀ a : xmi, wJ n K T mi a → (m = 0 → wCl n K T a i) → t + 1 ≤ cnt (wMet a) 64 → (m = 1 → t + 2 ≤ cnt (wMet a) 64) →  xB (d + 2) mX9_walk L (wQ n K T mi ml) (55, [(0, .ref 32), (1, .int m), (2, .int (nI t)), (3, .int (nI i))], [], XM L a ml) := by
  have hn64 := hP.2.1
  intro f
  induction f with
  | zero => intro i h1 h2; omega
  | succ f ih =>
    intro i hle hlt m hm a hJ hcl hc1 hc2
    have hPa := hJ.prm hP
    refine xB.go 3 (60, [(0, .ref 32), (1, .int m), (2, .int (nI t)), (3, .int (nI i))], [.int (a 32 2), .int (nI i)], XM L a ml) rfl ?_
    refine xB.cg (60, [(0, .ref 32), (1, .int m), (2, .int (nI t)), (3, .int (nI i))], [.int (nI n), .int (nI i)], XM L a ml) (by rw [hPa.1]) ?_
    refine xB.bp ((nI n) ≤ (nI i)) (240, [(0, .ref 32), (1, .int m), (2, .int (nI t)), (3, .int (nI i))], [], XM L a ml) (63, [(0, .ref 32), (1, .int m), (2, .int (nI t)), (3, .int (nI i))], [], XM L a ml) rfl (fun h1 => ?_) (fun h1 => ?_)
    · have hin : ¬ i < n := fun z => absurd ((nI_ltI (by omega) (by omega)).mpr z) (i_nlt.mpr h1)
      obtain rfl : i = n := by omega
      refine xB.fo [(0, .ref 32), (1, .int m), (2, .int (nI t))] (by simp) ?_
      exact k m hm a hJ hcl hc1 hc2
    · have hin : i < n := (nI_ltI (by omega) (by omega)).mp (i_nle.mp h1)
      have hk := (hP.2.2.1 i hin).2
      have hi64 : i < 64 := by omega
      have hi31 : i < 2 ^ 31 := by omega
      refine xB.go 3 (68, [(0, .ref 32), (1, .int m), (2, .int (nI t)), (3, .int (nI i))], [.int (nI i), .ref 37], XM L a ml) rfl ?_
      refine xB.ck (xin (nI i) 64) (69, [(0, .ref 32), (1, .int m), (2, .int (nI t)), (3, .int (nI i))], [.int (a 37 (nI i).toNatClampNeg)], XM L a ml) rfl (xin_of hi64 (by decide) rfl) ?_
      refine xB.bp (0 ≤ (a 37 (nI i).toNatClampNeg)) (75, [(0, .ref 32), (1, .int m), (2, .int (nI t)), (3, .int (nI i))], [], XM L a ml) (72, [(0, .ref 32), (1, .int m), (2, .int (nI t)), (3, .int (nI i))], [], XM L a ml) rfl (fun h2 => ?_) (fun h2 => ?_)
      · obtain ⟨hx, hx16, hxe, hrx⟩ : ∃ h, h ≤ 16 ∧ a 37 i = nI h ∧ Rh n K T i h := by
          rcases hJ.2.1 i hi64 with z | ⟨-, z⟩
          · rw [nI_clamp hi31, z] at h2; exact absurd neg1_lt (i_nlt.mpr h2)
          · exact z
        refine xB.go 3 (80, [(0, .ref 32), (1, .int m), (2, .int (nI t)), (3, .int (nI i))], [.int (nI i), .ref 37], XM L a ml) rfl ?_
        refine xB.ck (xin (nI i) 64) (81, [(0, .ref 32), (1, .int m), (2, .int (nI t)), (3, .int (nI i))], [.int (a 37 (nI i).toNatClampNeg)], XM L a ml) rfl (xin_of hi64 (by decide) rfl) ?_
        refine xB.cg (81, [(0, .ref 32), (1, .int m), (2, .int (nI t)), (3, .int (nI i))], [.int (nI hx)], XM L a ml) (by rw [nI_clamp hi31, hxe]) ?_
        refine xB.go 2 (83, [(0, .ref 32), (1, .int m), (2, .int (nI t)), (3, .int (nI i))], [.int (nI i), .ref 32, .int (nI hx)], XM L a ml) rfl ?_
        refine xB.c1 97 [.ref 32, .int (nI i)] [.int (nI hx)] (c_mtakes _ L _ _ hPa hin) rfl ?_
        refine xB.go 3 (91, [(0, .ref 32), (1, .int m), (2, .int (nI t)), (3, .int (nI i)), (4, .int ((nI hx) - (nI (tk (K i)))))], [.int ((nI hx) - (nI (tk (K i))))], XM L a ml) rfl ?_
        refine xB.bp (0 ≤ ((nI hx) - (nI (tk (K i))))) (96, [(0, .ref 32), (1, .int m), (2, .int (nI t)), (3, .int (nI i)), (4, .int ((nI hx) - (nI (tk (K i)))))], [], XM L a ml) (94, [(0, .ref 32), (1, .int m), (2, .int (nI t)), (3, .int (nI i)), (4, .int ((nI hx) - (nI (tk (K i)))))], [], XM L a ml) rfl (fun h3 => ?_) (fun h3 => ?_)
        · refine xB.cg (96, [(0, .ref 32), (1, .int m), (2, .int (nI t)), (3, .int (nI i)), (4, .int (nI (hx - tk (K i))))], [], XM L a ml) (by rw [nI_subeq (go_le hx16 hk (i_nlt.mpr h3))]) ?_
          refine xB.go 3 (100, [(0, .ref 32), (1, .int m), (2, .int (nI t)), (3, .int (nI i)), (4, .int (nI (hx - tk (K i))))], [.int (nI i), .ref 32, .int (nI (hx - tk (K i)))], XM L a ml) rfl ?_
          refine xB.c1 98 [.ref 32, .int (nI i)] [.int (nI (hx - tk (K i)))] (c_mgives _ L _ _ hPa hin) rfl ?_
          refine xB.bp ((nI (pt (K i))) = 0) (110, [(0, .ref 32), (1, .int m), (2, .int (nI t)), (3, .int (nI i)), (4, .int (nI (hx - tk (K i))))], [.int (nI (hx - tk (K i)))], XM L a ml) (106, [(0, .ref 32), (1, .int m), (2, .int (nI t)), (3, .int (nI i)), (4, .int (nI (hx - tk (K i))))], [.int (nI (hx - tk (K i)))], XM L a ml) rfl (fun h4 => ?_) (fun h4 => ?_)
          · refine xB.go 2 (112, [(0, .ref 32), (1, .int m), (2, .int (nI t)), (3, .int (nI i)), (4, .int (nI (hx - tk (K i))))], [.int ((nI (hx - tk (K i))) + 0)], XM L a ml) rfl ?_
            refine xB.cg (112, [(0, .ref 32), (1, .int m), (2, .int (nI t)), (3, .int (nI i)), (4, .int (nI (hx - tk (K i))))], [.int (nI (hx - tk (K i) + pt (K i)))], XM L a ml) (by rw [pt_0 hk h4]; simp) ?_
            refine xB.go 3 (118, [(0, .ref 32), (1, .int m), (2, .int (nI t)), (3, .int (nI i)), (4, .int (nI (hx - tk (K i) + pt (K i))))], [.int 16, .int (nI (hx - tk (K i) + pt (K i)))], XM L a ml) rfl ?_
            refine xB.bp ((nI (hx - tk (K i) + pt (K i))) ≤ 16) (123, [(0, .ref 32), (1, .int m), (2, .int (nI t)), (3, .int (nI i)), (4, .int (nI (hx - tk (K i) + pt (K i))))], [], XM L a ml) (121, [(0, .ref 32), (1, .int m), (2, .int (nI t)), (3, .int (nI i)), (4, .int (nI (hx - tk (K i) + pt (K i))))], [], XM L a ml) rfl (fun h5 => ?_) (fun h5 => ?_)
            · have hgt := go_le hx16 hk (i_nlt.mpr h3)
              have hg16 : hx - tk (K i) + pt (K i) ≤ 16 := (nI_leI (by have := (pt_le _ hk).1; omega) (by decide)).mp h5
              refine walk_123 d L mi ml hP hJ hin hg16 (fun j hj => hrx.next hin hgt hg16 hj) hm (fun m1 hm1 a1 hJ1 r1 r2 r3 => ?_)
              refine ih (i + 1) (by omega) (by omega) m1 hm1 a1 hJ1 (fun z j hh q1 q2 q3 => ?_) (Nat.le_trans hc1 r2) (fun z => ?_)
              · obtain ⟨s1, s2, s3⟩ := r1 z
                rw [s2] at q3 ⊢
                by_cases w : j = i
                · subst w; obtain rfl := nI_inj q2 hx16 (q3.symm.trans hxe); exact ⟨hgt, hg16, s3⟩
                · exact hcl s1 j hh (by omega) q2 q3
              · rcases r3 z with w | w
                · exact Nat.le_trans (hc2 w) r2
                · omega
            · refine xB.go 1 (122, [(0, .ref 32), (1, .int m), (2, .int (nI t)), (3, .int (nI i)), (4, .int (nI (hx - tk (K i) + pt (K i))))], [.int 0], XM L a ml) rfl ?_
              refine xB.rt (some (.int 0)) a ml rfl ?_
              refine ⟨0, rfl, rfl, hJ.1, Or.inr ⟨rfl, fun w => ?_⟩⟩
              have g := (w.1 i hx hrx).2.2
              exact absurd (nI_le g (by decide)) h5
          · refine xB.go 3 (112, [(0, .ref 32), (1, .int m), (2, .int (nI t)), (3, .int (nI i)), (4, .int (nI (hx - tk (K i))))], [.int ((nI (hx - tk (K i))) + 1)], XM L a ml) rfl ?_
            refine xB.cg (112, [(0, .ref 32), (1, .int m), (2, .int (nI t)), (3, .int (nI i)), (4, .int (nI (hx - tk (K i))))], [.int (nI (hx - tk (K i) + pt (K i)))], XM L a ml) (by rw [nI_1, pt_1 hk h4]) ?_
            refine xB.go 3 (118, [(0, .ref 32), (1, .int m), (2, .int (nI t)), (3, .int (nI i)), (4, .int (nI (hx - tk (K i) + pt (K i))))], [.int 16, .int (nI (hx - tk (K i) + pt (K i)))], XM L a ml) rfl ?_
            refine xB.bp ((nI (hx - tk (K i) + pt (K i))) ≤ 16) (123, [(0, .ref 32), (1, .int m), (2, .int (nI t)), (3, .int (nI i)), (4, .int (nI (hx - tk (K i) + pt (K i))))], [], XM L a ml) (121, [(0, .ref 32), (1, .int m), (2, .int (nI t)), (3, .int (nI i)), (4, .int (nI (hx - tk (K i) + pt (K i))))], [], XM L a ml) rfl (fun h6 => ?_) (fun h6 => ?_)
            · have hgt := go_le hx16 hk (i_nlt.mpr h3)
              have hg16 : hx - tk (K i) + pt (K i) ≤ 16 := (nI_leI (by have := (pt_le _ hk).1; omega) (by decide)).mp h6
              refine walk_123 d L mi ml hP hJ hin hg16 (fun j hj => hrx.next hin hgt hg16 hj) hm (fun m1 hm1 a1 hJ1 r1 r2 r3 => ?_)
              refine ih (i + 1) (by omega) (by omega) m1 hm1 a1 hJ1 (fun z j hh q1 q2 q3 => ?_) (Nat.le_trans hc1 r2) (fun z => ?_)
              · obtain ⟨s1, s2, s3⟩ := r1 z
                rw [s2] at q3 ⊢
                by_cases w : j = i
                · subst w; obtain rfl := nI_inj q2 hx16 (q3.symm.trans hxe); exact ⟨hgt, hg16, s3⟩
                · exact hcl s1 j hh (by omega) q2 q3
              · rcases r3 z with w | w
                · exact Nat.le_trans (hc2 w) r2
                · omega
            · refine xB.go 1 (122, [(0, .ref 32), (1, .int m), (2, .int (nI t)), (3, .int (nI i)), (4, .int (nI (hx - tk (K i) + pt (K i))))], [.int 0], XM L a ml) rfl ?_
              refine xB.rt (some (.int 0)) a ml rfl ?_
              refine ⟨0, rfl, rfl, hJ.1, Or.inr ⟨rfl, fun w => ?_⟩⟩
              have g := (w.1 i hx hrx).2.2
              exact absurd (nI_le g (by decide)) h6
        · refine xB.go 1 (95, [(0, .ref 32), (1, .int m), (2, .int (nI t)), (3, .int (nI i)), (4, .int ((nI hx) - (nI (tk (K i)))))], [.int 0], XM L a ml) rfl ?_
          refine xB.rt (some (.int 0)) a ml rfl ?_
          refine ⟨0, rfl, rfl, hJ.1, Or.inr ⟨rfl, fun w => ?_⟩⟩
          have := (tk_le _ hk).1
          have g := (w.1 i hx hrx).2.1
          rw [i_nle, nI_subneg (by omega) (by omega)] at h3
          omega
      · refine xB.go 3 (55, [(0, .ref 32), (1, .int m), (2, .int (nI t)), (3, .int ((nI i) + 1))], [], XM L a ml) rfl ?_
        refine xB.fo [(0, .ref 32), (1, .int m), (2, .int (nI t)), (3, .int (nI i + 1))] (by simp) ?_
        rw [nI_1]
        refine ih (i + 1) (by omega) (by omega) m hm a hJ (fun z j hh q1 q2 q3 => ?_) hc1 hc2
        by_cases w : j = i
        · subst w; rw [nI_clamp hi31, q3] at h2; exact absurd (nI_pos' (by omega)) h2
        · exact hcl z j hh (by omega) q2 q3
set_option maxRecDepth 100000 in
set_option maxHeartbeats 1000000 in
theorem walk_41 (d L : Nat) (mi : xmi) (ml : xml) {n : Nat} {K T : Nat → Nat} (hP : PRM mi n K T) : ∀ (f t : Nat), t ≤ 65 → 65 - t < f → ∀ (m : Int32) (a : xmi), wJ n K T mi a → (m = 1 ∧ t + 1 ≤ cnt (wMet a) 64) ∨ (m = 0 ∧ wCl n K T a n) → xB (d + 2) mX9_walk L (wQ n K T mi ml) (41, [(0, .ref 32), (1, .int m), (2, .int (nI t))], [], XM L a ml) := by
  have hn64 := hP.2.1
  intro f
  induction f with
  | zero => intro t h1 h2; omega
  | succ f ih =>
    intro t hle hlt m a hJ hI
    refine xB.go 2 (44, [(0, .ref 32), (1, .int m), (2, .int (nI t))], [.int 64, .int (nI t)], XM L a ml) rfl ?_
    refine xB.bp (64 < (nI t)) (246, [(0, .ref 32), (1, .int m), (2, .int (nI t))], [], XM L a ml) (47, [(0, .ref 32), (1, .int m), (2, .int (nI t))], [], XM L a ml) rfl (fun h1 => ?_) (fun h1 => ?_)
    · refine xB.go 1 (247, [(0, .ref 32), (1, .int m), (2, .int (nI t))], [.int 1], XM L a ml) rfl ?_
      refine xB.rt (some (.int 1)) a ml rfl ?_
      have ht : 64 < t := (nI_ltI (by decide) (by omega)).mp h1
      rcases hI with ⟨-, z⟩ | ⟨-, z⟩
      · have := cnt_le (wMet a) 64; omega
      · exact ⟨1, rfl, rfl, hJ.1, hJ.cl hP.2.1 z⟩
    · refine xB.go 1 (48, [(0, .ref 32), (1, .int m), (2, .int (nI t))], [.int m], XM L a ml) rfl ?_
      refine xB.bp (m = 0) (246, [(0, .ref 32), (1, .int m), (2, .int (nI t))], [], XM L a ml) (51, [(0, .ref 32), (1, .int m), (2, .int (nI t))], [], XM L a ml) rfl (fun h2 => ?_) (fun h2 => ?_)
      · refine xB.go 1 (247, [(0, .ref 32), (1, .int m), (2, .int (nI t))], [.int 1], XM L a ml) rfl ?_
        refine xB.rt (some (.int 1)) a ml rfl ?_
        rcases hI with ⟨z, -⟩ | ⟨-, z⟩
        · rw [z] at h2; cases h2
        · exact ⟨1, rfl, rfl, hJ.1, hJ.cl hP.2.1 z⟩
      · refine xB.go 4 (55, [(0, .ref 32), (1, .int 0), (2, .int (nI t)), (3, .int 0)], [], XM L a ml) rfl ?_
        have ht : t ≤ 64 := by
          rcases Nat.lt_or_ge 64 t with z | z
          · exact absurd (nI_lt z (by omega)) h1
          · exact z
        have hcn : t + 1 ≤ cnt (wMet a) 64 := by
          rcases hI with ⟨-, z⟩ | ⟨z, -⟩
          · exact z
          · exact absurd z h2
        refine walk_55 d L mi ml hP (t := t) (fun m1 hm1 a1 hJ1 r1 r2 r3 => ?_) (n + 1) 0 (Nat.zero_le _) (by omega) 0 (Or.inl rfl) a hJ (fun _ j hh q1 => by omega) hcn (fun z => absurd z (by decide))
        refine xB.go 2 (41, [(0, .ref 32), (1, .int m1), (2, .int ((nI t) + 1))], [], XM L a1 ml) rfl ?_
        rw [nI_1]
        refine ih (t + 1) (by omega) (by omega) m1 a1 hJ1 ?_
        rcases hm1 with z | z
        · exact Or.inr ⟨z, r1 z⟩
        · exact Or.inl ⟨z, r3 z⟩
def sl_fill {α : Type} (f : Nat → α) (v : α) (k : Nat) : Nat → α := fun i => if i < k then v else f i
theorem sl_fill_0 {α : Type} (f : Nat → Nat → α) (a : Nat) (v : α) : va_up f a (sl_fill (f a) v 0) = f := by
  funext x
  by_cases h : x = a
  · subst h; rw [va_up_self]; funext i; simp [sl_fill]
  · rw [va_up_ne _ _ h]
theorem sl_fill_s {α : Type} (f : Nat → Nat → α) (a : Nat) (v : α) (k : Nat) : xU (va_up f a (sl_fill (f a) v k)) a k v = va_up f a (sl_fill (f a) v (k + 1)) := by
  unfold xU
  funext x
  by_cases h : x = a
  · subst h
    rw [va_up_self, va_up_self, va_up_self]
    funext i
    by_cases hi : i = k
    · subst hi; rw [va_up_self]; simp [sl_fill]
    · rw [va_up_ne _ _ hi]; unfold sl_fill
      by_cases h2 : i < k
      · rw [if_pos h2, if_pos (by omega)]
      · rw [if_neg h2, if_neg (by omega)]
  · rw [va_up_ne _ _ h, va_up_ne _ _ h, va_up_ne _ _ h]
set_option maxRecDepth 100000 in
set_option maxHeartbeats 1000000 in
theorem walk_2 (d L : Nat) (mi : xmi) (ml : xml) (Q : Option Value → xmi → xml → Prop) (k : xB d mX9_walk L Q (21, [(0, .ref 32)], [], XM L (va_up mi 37 (sl_fill (mi 37) (-1) 64)) ml)) : ∀ (f i : Nat), i ≤ 64 → 64 - i < f → xB d mX9_walk L Q (2, [(0, .ref 32), (1, .int (nI i))], [], XM L (va_up mi 37 (sl_fill (mi 37) (-1) i)) ml) := by
  intro f
  induction f with
  | zero => intro i h1 h2; omega
  | succ f ih =>
    intro i hle hlt
    refine xB.go 2 (5, [(0, .ref 32), (1, .int (nI i))], [.int 64, .int (nI i)], XM L (va_up mi 37 (sl_fill (mi 37) (-1) i)) ml) rfl ?_
    refine xB.bp (64 ≤ (nI i)) (21, [(0, .ref 32), (1, .int (nI i))], [], XM L (va_up mi 37 (sl_fill (mi 37) (-1) i)) ml) (8, [(0, .ref 32), (1, .int (nI i))], [], XM L (va_up mi 37 (sl_fill (mi 37) (-1) i)) ml) rfl (fun h1 => ?_) (fun h1 => ?_)
    · have hge : 64 ≤ i := (nI_leI (by decide) (by omega)).mp h1
      obtain rfl : i = 64 := by omega
      exact xB.fo [(0, .ref 32)] (by simp) k
    · refine xB.go 4 (14, [(0, .ref 32), (1, .int (nI i))], [.int (-1), .int (nI i), .ref 37], XM L (va_up mi 37 (sl_fill (mi 37) (-1) i)) ml) rfl ?_
      refine xB.ck (xin (nI i) 64) (15, [(0, .ref 32), (1, .int (nI i))], [], XM L (xU (va_up mi 37 (sl_fill (mi 37) (-1) i)) 37 (nI i).toNatClampNeg (-1)) ml) rfl (xin_of (show i < 64 from Nat.lt_of_not_le (fun z => h1 (nI_le z (by omega)))) (by decide) rfl) ?_
      refine xB.go 2 (2, [(0, .ref 32), (1, .int ((nI i) + 1))], [], XM L (xU (va_up mi 37 (sl_fill (mi 37) (-1) i)) 37 (nI i).toNatClampNeg (-1)) ml) rfl ?_
      have hlt2 : i < 64 := Nat.lt_of_not_le (fun z => h1 (nI_le z (by omega)))
      rw [nI_1, nI_clamp (by omega), sl_fill_s]
      exact ih (i + 1) (by omega) (by omega)
set_option maxRecDepth 100000 in
set_option maxHeartbeats 1000000 in
theorem c_walk (d L : Nat) (mi : xmi) (ml : xml) {n : Nat} {K T : Nat → Nat} (hP : PRM mi n K T) : xF (d + 3) 101 [.ref 32] L mi ml (wQ n K T mi ml) := by
  refine xF.mk mX9_walk rfl rfl ?_
  refine xB.go 2 (2, [(0, .ref 32), (1, .int 0)], [], XM L mi ml) rfl ?_
  refine xB.cg (2, [(0, .ref 32), (1, .int (nI 0))], [], XM L (va_up mi 37 (sl_fill (mi 37) (-1) 0)) ml) (by rw [sl_fill_0]; rfl) ?_
  refine walk_2 (d + 2) L mi ml _ ?_ 65 0 (by omega) (by omega)
  refine xB.go 2 (25, [(0, .ref 32)], [.int ((va_up mi 37 (sl_fill (mi 37) (-1) 64)) 32 2)], XM L (va_up mi 37 (sl_fill (mi 37) (-1) 64)) ml) rfl ?_
  refine xB.cg (25, [(0, .ref 32)], [.int (nI n)], XM L (va_up mi 37 (sl_fill (mi 37) (-1) 64)) ml) (by rw [show (va_up mi 37 (sl_fill (mi 37) (-1) 64)) 32 2 = mi 32 2 from rfl, hP.1]) ?_
  refine xB.bp (¬ (nI n) = 0) (30, [(0, .ref 32)], [], XM L (va_up mi 37 (sl_fill (mi 37) (-1) 64)) ml) (28, [(0, .ref 32)], [], XM L (va_up mi 37 (sl_fill (mi 37) (-1) 64)) ml) rfl (fun h1 => ?_) (fun h1 => ?_)
  · refine xB.go 9 (41, [(0, .ref 32), (1, .int 1), (2, .int 0)], [], XM L (xU (va_up mi 37 (sl_fill (mi 37) (-1) 64)) 37 0 0) ml) rfl ?_
    have hn0 : 0 < n := by
      rcases Nat.eq_zero_or_pos n with z | z
      · subst z; exact absurd rfl h1
      · exact z
    have hJ : wJ n K T mi (xU (va_up mi 37 (sl_fill (mi 37) (-1) 64)) 37 0 0) := by
      refine ⟨fun x hx => by rw [xU_ne hx, va_up_ne _ _ hx], fun i hi => ?_, by rw [xU_at, va_up_self]; rfl, hn0⟩
      rw [xU_at]
      by_cases z : i = 0
      · subst z; rw [va_up_self]; exact Or.inr ⟨hn0, 0, by omega, rfl, Rh.zero⟩
      · rw [va_up_ne _ _ z, va_up_self]; left; unfold sl_fill; rw [if_pos hi]
    refine walk_41 d L mi ml hP 66 0 (by omega) (by omega) 1 _ hJ (Or.inl ⟨rfl, ?_⟩)
    refine Nat.lt_of_le_of_lt (Nat.zero_le _) (Nat.lt_of_le_of_lt (Nat.le_of_eq (cnt_zero (f := fun _ => false) (m := 64) (fun _ _ => rfl)).symm) (cnt_lt (j := 0) (fun _ _ z => by cases z) (by decide) rfl ?_))
    unfold wMet
    rw [xU_at, va_up_self]
    decide +kernel
  · refine xB.go 1 (29, [(0, .ref 32)], [.int 0], XM L (va_up mi 37 (sl_fill (mi 37) (-1) 64)) ml) rfl ?_
    refine xB.rt (some (.int 0)) (va_up mi 37 (sl_fill (mi 37) (-1) 64)) ml rfl ?_
    have h0 : n = 0 := (nI_eq (by have := hP.2.1; omega) (by decide)).mp (Classical.not_not.mp h1)
    subst h0
    exact ⟨0, rfl, rfl, fun q hq => va_up_ne _ _ hq, Or.inr ⟨rfl, fun w => absurd (w.1 0 0 Rh.zero).1 (by omega)⟩⟩
end
section
/-! what can be come to: the class's reach over sets of places -/
def RE (st : Nat → Bool) (ed : Nat → Nat → Bool) (al : Nat → Bool) (j : Nat) : Prop := ∀ X : Nat → Prop, (∀ i, i < 64 → st i = true → al i = true → X i) → (∀ i j, X i → i < 64 → j < 64 → ed i j = true → al j = true → X j) → X j
theorem RE.zero {st : Nat → Bool} {ed : Nat → Nat → Bool} {al : Nat → Bool} {i : Nat} (h : i < 64) (h1 : st i = true) (h2 : al i = true) : RE st ed al i := fun _ a _ => a i h h1 h2
theorem RE.next {st : Nat → Bool} {ed : Nat → Nat → Bool} {al : Nat → Bool} {i j : Nat} (h : RE st ed al i) (h1 : i < 64) (h2 : j < 64) (h3 : ed i j = true) (h4 : al j = true) : RE st ed al j := fun X a b => b i j (h X a b) h1 h2 h3 h4
def rI (st : Nat → Bool) (ed : Nat → Nat → Bool) (al : Nat → Bool) (r : Nat) (R O : Int64) : Prop :=
  (∀ j, j < 64 → hb R j = true ∨ hb O j = true → RE st ed al j) ∧ (∀ j, j < 64 → hb O j = true → hb R j = false ∧ al j = true) ∧ (∀ j, j < 64 → st j = true → al j = true → hb R j = true ∨ hb O j = true) ∧
  (∀ i, i < 64 → hb R i = true → ∀ j, j < 64 → ed i j = true → al j = true → hb R j = true ∨ hb O j = true) ∧ r ≤ cnt (hb R) 64
theorem rI.done {st : Nat → Bool} {ed : Nat → Nat → Bool} {al : Nat → Bool} {r : Nat} {R O : Int64} (h : rI st ed al r R O) (ho : ∀ j, j < 64 → hb O j = false) : ∀ j, j < 64 → (hb R j = true ↔ RE st ed al j) := by
  obtain ⟨h1, h2, h3, h4, h5⟩ := h
  have hor : ∀ j, j < 64 → hb R j = true ∨ hb O j = true → hb R j = true := fun j hj z => z.elim id (fun w => by rw [ho j hj] at w; cases w)
  refine fun j hj => ⟨fun g => h1 j hj (Or.inl g), fun g => ?_⟩
  exact (g (fun j => j < 64 → hb R j = true) (fun i hi g1 g2 _ => hor i hi (h3 i hi g1 g2)) (fun i j g1 g2 g3 g4 g5 _ => hor j g3 (h4 i g2 (g1 g2) j g3 g4 g5))) hj
theorem rI.next {st : Nat → Bool} {al E : Int64} {ed : Nat → Nat → Bool} {r p : Nat} {R O : Int64} (h : rI st ed (hb al) r R O) (hp : p < 64) (ho : hb O p = true) (hE : ∀ j, j < 64 → hb E j = ed p j) : rI st ed (hb al) (r + 1) (R ||| xbit (nI p)) (((O ||| E) &&& al) &&& ((R ||| xbit (nI p)) ^^^ (-1))) := by
  obtain ⟨h1, h2, h3, h4, h5⟩ := h
  have eR : ∀ j, hb (R ||| xbit (nI p)) j = (hb R j || decide (j = p)) := fun j => by rw [hb_or, hb_bit hp]
  have eO : ∀ j, j < 64 → hb (((O ||| E) &&& al) &&& ((R ||| xbit (nI p)) ^^^ (-1))) j = (((hb O j || ed p j) && hb al j) && !(hb R j || decide (j = p))) := fun j hj => by rw [hb_and, hb_and, hb_or, hb_not _ hj, eR, hE j hj]
  have hRp := (h2 p hp ho).1
  have hREp : RE st ed (hb al) p := h1 p hp (Or.inr ho)
  have hcase : ∀ j, j < 64 → hb R j = true ∨ hb O j = true ∨ (ed p j = true ∧ hb al j = true) → hb (R ||| xbit (nI p)) j = true ∨ hb (((O ||| E) &&& al) &&& ((R ||| xbit (nI p)) ^^^ (-1))) j = true := fun j hj g => by
    rw [eR, eO j hj]
    by_cases z : j = p
    · left; simp [z]
    · cases hr : hb R j with
      | true => left; rfl
      | false =>
        right
        rcases g with g | g | ⟨g1, g2⟩
        · rw [hr] at g; cases g
        · simp [g, (h2 j hj g).2, z]
        · simp [g1, g2, z]
  refine ⟨fun j hj g => ?_, fun j hj g => ?_, fun j hj g1 g2 => ?_, fun i hi g j hj g1 g2 => ?_, ?_⟩
  · rw [eR, eO j hj] at g
    rcases g with g | g
    · rcases Bool.or_eq_true_iff.mp g with g | g
      · exact h1 j hj (Or.inl g)
      · have : j = p := by simpa using g
        subst this; exact hREp
    · simp only [Bool.and_eq_true, Bool.or_eq_true] at g
      obtain ⟨⟨g1 | g1, g2⟩, -⟩ := g
      · exact h1 j hj (Or.inr g1)
      · exact hREp.next hp hj g1 g2
  · rw [eO j hj] at g
    rw [eR]
    simp only [Bool.and_eq_true, Bool.not_eq_true'] at g
    exact ⟨g.2, g.1.2⟩
  · exact hcase j hj ((h3 j hj g1 g2).elim Or.inl (fun z => Or.inr (Or.inl z)))
  · rw [eR] at g
    by_cases z : i = p
    · subst z; exact hcase j hj (Or.inr (Or.inr ⟨g1, g2⟩))
    · have g : hb R i = true := by simpa [z] using g
      exact hcase j hj ((h4 i hi g j hj g1 g2).elim Or.inl (fun z => Or.inr (Or.inl z)))
  · refine Nat.lt_of_le_of_lt h5 (cnt_lt (j := p) (fun j _ g => ?_) hp hRp ?_)
    · rw [eR, g]; rfl
    · rw [eR]; simp
set_option maxRecDepth 100000 in
set_option maxHeartbeats 1000000 in
theorem reach_11_11 (d L : Nat) (mi : xmi) (ml : xml) (s al : Int64) : ∀ (f r : Nat), r ≤ 64 → 64 - r < f → ∀ (Rr O : Int64), rI (hb s) (fun i => hb (ml 11 i)) (hb al) r Rr O → xB (d + 2) mX0_reach L (fun rr a b => a = mi ∧ b = ml ∧ ∃ R, rr = some (.long R) ∧ ∀ j, j < 64 → (hb R j = true ↔ RE (hb s) (fun i => hb (ml 11 i)) (hb al) j)) (11, [(0, .long s), (2, .ref 11), (3, .long al), (5, .long Rr), (7, .long O), (9, .int (nI r))], [], XM L mi ml) := by
  intro f
  induction f with
  | zero => intro r h1 h2; omega
  | succ f ih =>
    intro r hle hlt Rr O hI
    refine xB.go 2 (15, [(0, .long s), (2, .ref 11), (3, .long al), (5, .long Rr), (7, .long O), (9, .int (nI r))], [.int 64, .int (nI r)], XM L mi ml) rfl ?_
    refine xB.bp (64 ≤ (nI r)) (66, [(0, .long s), (2, .ref 11), (3, .long al), (5, .long Rr), (7, .long O), (9, .int (nI r))], [], XM L mi ml) (18, [(0, .long s), (2, .ref 11), (3, .long al), (5, .long Rr), (7, .long O), (9, .int (nI r))], [], XM L mi ml) rfl (fun h1 => ?_) (fun h1 => ?_)
    · refine xB.go 1 (68, [(0, .long s), (2, .ref 11), (3, .long al), (5, .long Rr), (7, .long O), (9, .int (nI r))], [.long Rr], XM L mi ml) rfl ?_
      refine xB.rt (some (.long Rr)) mi ml rfl ?_
      refine ⟨rfl, rfl, Rr, rfl, hI.done (fun j hj => ?_)⟩
      have hr64 : 64 ≤ r := (nI_leI (by decide) (by omega)).mp h1
      have := cnt_full (Nat.le_trans hr64 hI.2.2.2.2) j hj
      cases hz : hb O j with
      | false => rfl
      | true => rw [(hI.2.1 j hj hz).1] at this; cases this
    · refine xB.go 3 (22, [(0, .long s), (2, .ref 11), (3, .long al), (5, .long Rr), (7, .long O), (9, .int (nI r))], [.int (lg_cmp O 0)], XM L mi ml) rfl ?_
      refine xB.lz O 0 (66, [(0, .long s), (2, .ref 11), (3, .long al), (5, .long Rr), (7, .long O), (9, .int (nI r))], [], XM L mi ml) (25, [(0, .long s), (2, .ref 11), (3, .long al), (5, .long Rr), (7, .long O), (9, .int (nI r))], [], XM L mi ml) rfl (fun h2 => ?_) (fun h2 => ?_)
      · refine xB.go 1 (68, [(0, .long s), (2, .ref 11), (3, .long al), (5, .long Rr), (7, .long O), (9, .int (nI r))], [.long Rr], XM L mi ml) rfl ?_
        refine xB.rt (some (.long Rr)) mi ml rfl ?_
        exact ⟨rfl, rfl, Rr, rfl, hI.done (fun j hj => by rw [h2, hb_0])⟩
      · have hlo := xlow_spec h2
        have hr64 : r < 64 := Nat.lt_of_not_le (fun z => h1 (nI_le z (by omega)))
        refine xB.go 1 (27, [(0, .long s), (2, .ref 11), (3, .long al), (5, .long Rr), (7, .long O), (9, .int (nI r))], [.long O], XM L mi ml) rfl ?_
        refine xB.c1 90 [.long O] [] (c_lowest _ L mi ml O ) rfl ?_
        refine xB.cg (30, [(0, .long s), (2, .ref 11), (3, .long al), (5, .long Rr), (7, .long O), (9, .int (nI r))], [.int (nI (xlow O))], XM L mi ml) (by rw [xbc_of h2]) ?_
        refine xB.go 3 (36, [(0, .long s), (2, .ref 11), (3, .long al), (5, .long Rr), (7, .long O), (9, .int (nI r)), (10, .int (nI (xlow O)))], [.int (nI (xlow O)), .long Rr], XM L mi ml) rfl ?_
        refine xB.c1 88 [.int (nI (xlow O))] [.long Rr] (c_bit _ L mi ml (nI (xlow O)) ) rfl ?_
        refine xB.go 5 (47, [(0, .long s), (2, .ref 11), (3, .long al), (5, .long (Rr ||| (xbit (nI (xlow O))))), (7, .long O), (9, .int (nI r)), (10, .int (nI (xlow O)))], [.int (nI (xlow O)), .ref 11, .long O], XM L mi ml) rfl ?_
        refine xB.ck (xin (nI (xlow O)) 64) (48, [(0, .long s), (2, .ref 11), (3, .long al), (5, .long (Rr ||| (xbit (nI (xlow O))))), (7, .long O), (9, .int (nI r)), (10, .int (nI (xlow O)))], [.long (ml 11 (nI (xlow O)).toNatClampNeg), .long O], XM L mi ml) rfl (xin_of hlo.1 (by decide) rfl) ?_
        refine xB.go 10 (11, [(0, .long s), (2, .ref 11), (3, .long al), (5, .long (Rr ||| (xbit (nI (xlow O))))), (7, .long (((O ||| (ml 11 (nI (xlow O)).toNatClampNeg)) &&& al) &&& ((Rr ||| (xbit (nI (xlow O)))) ^^^ (-1)))), (9, .int ((nI r) + 1)), (10, .int (nI (xlow O)))], [], XM L mi ml) rfl ?_
        refine xB.fo [(0, .long s), (2, .ref 11), (3, .long al), (5, .long (Rr ||| (xbit (nI (xlow O))))), (7, .long (((O ||| (ml 11 (nI (xlow O)).toNatClampNeg)) &&& al) &&& ((Rr ||| (xbit (nI (xlow O)))) ^^^ (-1)))), (9, .int (nI r + 1))] (by simp) ?_
        rw [nI_1, nI_clamp (by omega)]
        exact ih (r + 1) (by omega) (by omega) _ _ (hI.next hlo.1 hlo.2.1 (fun j _ => rfl))
set_option maxRecDepth 100000 in
set_option maxHeartbeats 1000000 in
theorem c_reach11 (d L : Nat) (mi : xmi) (ml : xml) (s al : Int64) : xF (d + 3) 8 [.long s, .ref 11, .long al] L mi ml (fun rr a b => a = mi ∧ b = ml ∧ ∃ R, rr = some (.long R) ∧ ∀ j, j < 64 → (hb R j = true ↔ RE (hb s) (fun i => hb (ml 11 i)) (hb al) j)) := by
  refine xF.mk mX0_reach rfl rfl ?_
  refine xB.go 8 (11, [(0, .long s), (2, .ref 11), (3, .long al), (5, .long 0), (7, .long (s &&& al)), (9, .int 0)], [], XM L mi ml) rfl ?_
  refine reach_11_11 d L mi ml s al 65 0 (by omega) (by omega) 0 _ ⟨fun j hj g => ?_, fun j hj g => ?_, fun j hj g1 g2 => Or.inr (by rw [hb_and, g1, g2]; rfl), (fun i _ g => by rw [hb_0] at g; cases g), Nat.zero_le _⟩
  · rw [hb_0, hb_and] at g
    rcases g with g | g
    · cases g
    · rw [Bool.and_eq_true] at g; exact RE.zero hj g.1 g.2
  · rw [hb_and, Bool.and_eq_true] at g; exact ⟨hb_0 j, g.2⟩
set_option maxRecDepth 100000 in
set_option maxHeartbeats 1000000 in
theorem reach_12_11 (d L : Nat) (mi : xmi) (ml : xml) (s al : Int64) : ∀ (f r : Nat), r ≤ 64 → 64 - r < f → ∀ (Rr O : Int64), rI (hb s) (fun i => hb (ml 12 i)) (hb al) r Rr O → xB (d + 2) mX0_reach L (fun rr a b => a = mi ∧ b = ml ∧ ∃ R, rr = some (.long R) ∧ ∀ j, j < 64 → (hb R j = true ↔ RE (hb s) (fun i => hb (ml 12 i)) (hb al) j)) (11, [(0, .long s), (2, .ref 12), (3, .long al), (5, .long Rr), (7, .long O), (9, .int (nI r))], [], XM L mi ml) := by
  intro f
  induction f with
  | zero => intro r h1 h2; omega
  | succ f ih =>
    intro r hle hlt Rr O hI
    refine xB.go 2 (15, [(0, .long s), (2, .ref 12), (3, .long al), (5, .long Rr), (7, .long O), (9, .int (nI r))], [.int 64, .int (nI r)], XM L mi ml) rfl ?_
    refine xB.bp (64 ≤ (nI r)) (66, [(0, .long s), (2, .ref 12), (3, .long al), (5, .long Rr), (7, .long O), (9, .int (nI r))], [], XM L mi ml) (18, [(0, .long s), (2, .ref 12), (3, .long al), (5, .long Rr), (7, .long O), (9, .int (nI r))], [], XM L mi ml) rfl (fun h1 => ?_) (fun h1 => ?_)
    · refine xB.go 1 (68, [(0, .long s), (2, .ref 12), (3, .long al), (5, .long Rr), (7, .long O), (9, .int (nI r))], [.long Rr], XM L mi ml) rfl ?_
      refine xB.rt (some (.long Rr)) mi ml rfl ?_
      refine ⟨rfl, rfl, Rr, rfl, hI.done (fun j hj => ?_)⟩
      have hr64 : 64 ≤ r := (nI_leI (by decide) (by omega)).mp h1
      have := cnt_full (Nat.le_trans hr64 hI.2.2.2.2) j hj
      cases hz : hb O j with
      | false => rfl
      | true => rw [(hI.2.1 j hj hz).1] at this; cases this
    · refine xB.go 3 (22, [(0, .long s), (2, .ref 12), (3, .long al), (5, .long Rr), (7, .long O), (9, .int (nI r))], [.int (lg_cmp O 0)], XM L mi ml) rfl ?_
      refine xB.lz O 0 (66, [(0, .long s), (2, .ref 12), (3, .long al), (5, .long Rr), (7, .long O), (9, .int (nI r))], [], XM L mi ml) (25, [(0, .long s), (2, .ref 12), (3, .long al), (5, .long Rr), (7, .long O), (9, .int (nI r))], [], XM L mi ml) rfl (fun h2 => ?_) (fun h2 => ?_)
      · refine xB.go 1 (68, [(0, .long s), (2, .ref 12), (3, .long al), (5, .long Rr), (7, .long O), (9, .int (nI r))], [.long Rr], XM L mi ml) rfl ?_
        refine xB.rt (some (.long Rr)) mi ml rfl ?_
        exact ⟨rfl, rfl, Rr, rfl, hI.done (fun j hj => by rw [h2, hb_0])⟩
      · have hlo := xlow_spec h2
        have hr64 : r < 64 := Nat.lt_of_not_le (fun z => h1 (nI_le z (by omega)))
        refine xB.go 1 (27, [(0, .long s), (2, .ref 12), (3, .long al), (5, .long Rr), (7, .long O), (9, .int (nI r))], [.long O], XM L mi ml) rfl ?_
        refine xB.c1 90 [.long O] [] (c_lowest _ L mi ml O ) rfl ?_
        refine xB.cg (30, [(0, .long s), (2, .ref 12), (3, .long al), (5, .long Rr), (7, .long O), (9, .int (nI r))], [.int (nI (xlow O))], XM L mi ml) (by rw [xbc_of h2]) ?_
        refine xB.go 3 (36, [(0, .long s), (2, .ref 12), (3, .long al), (5, .long Rr), (7, .long O), (9, .int (nI r)), (10, .int (nI (xlow O)))], [.int (nI (xlow O)), .long Rr], XM L mi ml) rfl ?_
        refine xB.c1 88 [.int (nI (xlow O))] [.long Rr] (c_bit _ L mi ml (nI (xlow O)) ) rfl ?_
        refine xB.go 5 (47, [(0, .long s), (2, .ref 12), (3, .long al), (5, .long (Rr ||| (xbit (nI (xlow O))))), (7, .long O), (9, .int (nI r)), (10, .int (nI (xlow O)))], [.int (nI (xlow O)), .ref 12, .long O], XM L mi ml) rfl ?_
        refine xB.ck (xin (nI (xlow O)) 64) (48, [(0, .long s), (2, .ref 12), (3, .long al), (5, .long (Rr ||| (xbit (nI (xlow O))))), (7, .long O), (9, .int (nI r)), (10, .int (nI (xlow O)))], [.long (ml 12 (nI (xlow O)).toNatClampNeg), .long O], XM L mi ml) rfl (xin_of hlo.1 (by decide) rfl) ?_
        refine xB.go 10 (11, [(0, .long s), (2, .ref 12), (3, .long al), (5, .long (Rr ||| (xbit (nI (xlow O))))), (7, .long (((O ||| (ml 12 (nI (xlow O)).toNatClampNeg)) &&& al) &&& ((Rr ||| (xbit (nI (xlow O)))) ^^^ (-1)))), (9, .int ((nI r) + 1)), (10, .int (nI (xlow O)))], [], XM L mi ml) rfl ?_
        refine xB.fo [(0, .long s), (2, .ref 12), (3, .long al), (5, .long (Rr ||| (xbit (nI (xlow O))))), (7, .long (((O ||| (ml 12 (nI (xlow O)).toNatClampNeg)) &&& al) &&& ((Rr ||| (xbit (nI (xlow O)))) ^^^ (-1)))), (9, .int (nI r + 1))] (by simp) ?_
        rw [nI_1, nI_clamp (by omega)]
        exact ih (r + 1) (by omega) (by omega) _ _ (hI.next hlo.1 hlo.2.1 (fun j _ => rfl))
set_option maxRecDepth 100000 in
set_option maxHeartbeats 1000000 in
theorem c_reach12 (d L : Nat) (mi : xmi) (ml : xml) (s al : Int64) : xF (d + 3) 8 [.long s, .ref 12, .long al] L mi ml (fun rr a b => a = mi ∧ b = ml ∧ ∃ R, rr = some (.long R) ∧ ∀ j, j < 64 → (hb R j = true ↔ RE (hb s) (fun i => hb (ml 12 i)) (hb al) j)) := by
  refine xF.mk mX0_reach rfl rfl ?_
  refine xB.go 8 (11, [(0, .long s), (2, .ref 12), (3, .long al), (5, .long 0), (7, .long (s &&& al)), (9, .int 0)], [], XM L mi ml) rfl ?_
  refine reach_12_11 d L mi ml s al 65 0 (by omega) (by omega) 0 _ ⟨fun j hj g => ?_, fun j hj g => ?_, fun j hj g1 g2 => Or.inr (by rw [hb_and, g1, g2]; rfl), (fun i _ g => by rw [hb_0] at g; cases g), Nat.zero_le _⟩
  · rw [hb_0, hb_and] at g
    rcases g with g | g
    · cases g
    · rw [Bool.and_eq_true] at g; exact RE.zero hj g.1 g.2
  · rw [hb_and, Bool.and_eq_true] at g; exact ⟨hb_0 j, g.2⟩
set_option maxRecDepth 100000 in
set_option maxHeartbeats 1000000 in
theorem fill11_6 (d L : Nat) (mi : xmi) (ml : xml) (v : Int64) : ∀ (f i : Nat), i ≤ 64 → 64 - i < f → xB d mJ7_fill_d0a16 L (fun rr a b => rr = none ∧ a = mi ∧ b = va_up ml 11 (sl_fill (ml 11) v 64)) (6, [(0, .ref 11), (1, .long v), (3, .int (nI i)), (4, .int 64)], [], XM L mi (va_up ml 11 (sl_fill (ml 11) v i))) := by
  intro f
  induction f with
  | zero => intro i h1 h2; omega
  | succ f ih =>
    intro i hle hlt
    refine xB.go 2 (9, [(0, .ref 11), (1, .long v), (3, .int (nI i)), (4, .int 64)], [.int 64, .int (nI i)], XM L mi (va_up ml 11 (sl_fill (ml 11) v i))) rfl ?_
    refine xB.bp (64 ≤ (nI i)) (22, [(0, .ref 11), (1, .long v), (3, .int (nI i)), (4, .int 64)], [], XM L mi (va_up ml 11 (sl_fill (ml 11) v i))) (12, [(0, .ref 11), (1, .long v), (3, .int (nI i)), (4, .int 64)], [], XM L mi (va_up ml 11 (sl_fill (ml 11) v i))) rfl (fun h1 => ?_) (fun h1 => ?_)
    · refine xB.rt none mi (va_up ml 11 (sl_fill (ml 11) v i)) rfl ?_
      have hge : 64 ≤ i := (nI_leI (by decide) (by omega)).mp h1
      obtain rfl : i = 64 := by omega
      exact ⟨rfl, rfl, rfl⟩
    · refine xB.go 3 (15, [(0, .ref 11), (1, .long v), (3, .int (nI i)), (4, .int 64)], [.long v, .int (nI i), .ref 11], XM L mi (va_up ml 11 (sl_fill (ml 11) v i))) rfl ?_
      refine xB.ck (xin (nI i) 64) (16, [(0, .ref 11), (1, .long v), (3, .int (nI i)), (4, .int 64)], [], XM L mi (xU (va_up ml 11 (sl_fill (ml 11) v i)) 11 (nI i).toNatClampNeg v)) rfl (xin_of (show i < 64 from Nat.lt_of_not_le (fun z => h1 (nI_le z (by omega)))) (by decide) rfl) ?_
      refine xB.go 2 (6, [(0, .ref 11), (1, .long v), (3, .int ((nI i) + 1)), (4, .int 64)], [], XM L mi (xU (va_up ml 11 (sl_fill (ml 11) v i)) 11 (nI i).toNatClampNeg v)) rfl ?_
      have hlt2 : i < 64 := Nat.lt_of_not_le (fun z => h1 (nI_le z (by omega)))
      rw [nI_1, nI_clamp (by omega), sl_fill_s]
      exact ih (i + 1) (by omega) (by omega)
set_option maxRecDepth 100000 in
set_option maxHeartbeats 1000000 in
theorem c_fill11 (d L : Nat) (mi : xmi) (ml : xml) (v : Int64) : xFn (d + 1) 137 [.ref 11, .long v] L mi ml mi (va_up ml 11 (sl_fill (ml 11) v 64)) := by
  refine xF.mk mJ7_fill_d0a16 rfl rfl ?_
  refine xB.go 5 (6, [(0, .ref 11), (1, .long v), (3, .int 0), (4, .int 64)], [], XM L mi ml) rfl ?_
  refine xB.cg (6, [(0, .ref 11), (1, .long v), (3, .int (nI 0)), (4, .int 64)], [], XM L mi (va_up ml 11 (sl_fill (ml 11) v 0))) (by rw [sl_fill_0]; rfl) ?_
  exact fill11_6 _ L mi ml v 65 0 (by omega) (by omega)
set_option maxRecDepth 100000 in
set_option maxHeartbeats 1000000 in
theorem fill12_6 (d L : Nat) (mi : xmi) (ml : xml) (v : Int64) : ∀ (f i : Nat), i ≤ 64 → 64 - i < f → xB d mJ7_fill_d0a16 L (fun rr a b => rr = none ∧ a = mi ∧ b = va_up ml 12 (sl_fill (ml 12) v 64)) (6, [(0, .ref 12), (1, .long v), (3, .int (nI i)), (4, .int 64)], [], XM L mi (va_up ml 12 (sl_fill (ml 12) v i))) := by
  intro f
  induction f with
  | zero => intro i h1 h2; omega
  | succ f ih =>
    intro i hle hlt
    refine xB.go 2 (9, [(0, .ref 12), (1, .long v), (3, .int (nI i)), (4, .int 64)], [.int 64, .int (nI i)], XM L mi (va_up ml 12 (sl_fill (ml 12) v i))) rfl ?_
    refine xB.bp (64 ≤ (nI i)) (22, [(0, .ref 12), (1, .long v), (3, .int (nI i)), (4, .int 64)], [], XM L mi (va_up ml 12 (sl_fill (ml 12) v i))) (12, [(0, .ref 12), (1, .long v), (3, .int (nI i)), (4, .int 64)], [], XM L mi (va_up ml 12 (sl_fill (ml 12) v i))) rfl (fun h1 => ?_) (fun h1 => ?_)
    · refine xB.rt none mi (va_up ml 12 (sl_fill (ml 12) v i)) rfl ?_
      have hge : 64 ≤ i := (nI_leI (by decide) (by omega)).mp h1
      obtain rfl : i = 64 := by omega
      exact ⟨rfl, rfl, rfl⟩
    · refine xB.go 3 (15, [(0, .ref 12), (1, .long v), (3, .int (nI i)), (4, .int 64)], [.long v, .int (nI i), .ref 12], XM L mi (va_up ml 12 (sl_fill (ml 12) v i))) rfl ?_
      refine xB.ck (xin (nI i) 64) (16, [(0, .ref 12), (1, .long v), (3, .int (nI i)), (4, .int 64)], [], XM L mi (xU (va_up ml 12 (sl_fill (ml 12) v i)) 12 (nI i).toNatClampNeg v)) rfl (xin_of (show i < 64 from Nat.lt_of_not_le (fun z => h1 (nI_le z (by omega)))) (by decide) rfl) ?_
      refine xB.go 2 (6, [(0, .ref 12), (1, .long v), (3, .int ((nI i) + 1)), (4, .int 64)], [], XM L mi (xU (va_up ml 12 (sl_fill (ml 12) v i)) 12 (nI i).toNatClampNeg v)) rfl ?_
      have hlt2 : i < 64 := Nat.lt_of_not_le (fun z => h1 (nI_le z (by omega)))
      rw [nI_1, nI_clamp (by omega), sl_fill_s]
      exact ih (i + 1) (by omega) (by omega)
set_option maxRecDepth 100000 in
set_option maxHeartbeats 1000000 in
theorem c_fill12 (d L : Nat) (mi : xmi) (ml : xml) (v : Int64) : xFn (d + 1) 137 [.ref 12, .long v] L mi ml mi (va_up ml 12 (sl_fill (ml 12) v 64)) := by
  refine xF.mk mJ7_fill_d0a16 rfl rfl ?_
  refine xB.go 5 (6, [(0, .ref 12), (1, .long v), (3, .int 0), (4, .int 64)], [], XM L mi ml) rfl ?_
  refine xB.cg (6, [(0, .ref 12), (1, .long v), (3, .int (nI 0)), (4, .int 64)], [], XM L mi (va_up ml 12 (sl_fill (ml 12) v 0))) (by rw [sl_fill_0]; rfl) ?_
  exact fill12_6 _ L mi ml v 65 0 (by omega) (by omega)
set_option maxRecDepth 100000 in
set_option maxHeartbeats 1000000 in
theorem fill17_6 (d L : Nat) (mi : xmi) (ml : xml) (v : Int64) : ∀ (f i : Nat), i ≤ 64 → 64 - i < f → xB d mJ7_fill_d0a16 L (fun rr a b => rr = none ∧ a = mi ∧ b = va_up ml 17 (sl_fill (ml 17) v 64)) (6, [(0, .ref 17), (1, .long v), (3, .int (nI i)), (4, .int 64)], [], XM L mi (va_up ml 17 (sl_fill (ml 17) v i))) := by
  intro f
  induction f with
  | zero => intro i h1 h2; omega
  | succ f ih =>
    intro i hle hlt
    refine xB.go 2 (9, [(0, .ref 17), (1, .long v), (3, .int (nI i)), (4, .int 64)], [.int 64, .int (nI i)], XM L mi (va_up ml 17 (sl_fill (ml 17) v i))) rfl ?_
    refine xB.bp (64 ≤ (nI i)) (22, [(0, .ref 17), (1, .long v), (3, .int (nI i)), (4, .int 64)], [], XM L mi (va_up ml 17 (sl_fill (ml 17) v i))) (12, [(0, .ref 17), (1, .long v), (3, .int (nI i)), (4, .int 64)], [], XM L mi (va_up ml 17 (sl_fill (ml 17) v i))) rfl (fun h1 => ?_) (fun h1 => ?_)
    · refine xB.rt none mi (va_up ml 17 (sl_fill (ml 17) v i)) rfl ?_
      have hge : 64 ≤ i := (nI_leI (by decide) (by omega)).mp h1
      obtain rfl : i = 64 := by omega
      exact ⟨rfl, rfl, rfl⟩
    · refine xB.go 3 (15, [(0, .ref 17), (1, .long v), (3, .int (nI i)), (4, .int 64)], [.long v, .int (nI i), .ref 17], XM L mi (va_up ml 17 (sl_fill (ml 17) v i))) rfl ?_
      refine xB.ck (xin (nI i) 64) (16, [(0, .ref 17), (1, .long v), (3, .int (nI i)), (4, .int 64)], [], XM L mi (xU (va_up ml 17 (sl_fill (ml 17) v i)) 17 (nI i).toNatClampNeg v)) rfl (xin_of (show i < 64 from Nat.lt_of_not_le (fun z => h1 (nI_le z (by omega)))) (by decide) rfl) ?_
      refine xB.go 2 (6, [(0, .ref 17), (1, .long v), (3, .int ((nI i) + 1)), (4, .int 64)], [], XM L mi (xU (va_up ml 17 (sl_fill (ml 17) v i)) 17 (nI i).toNatClampNeg v)) rfl ?_
      have hlt2 : i < 64 := Nat.lt_of_not_le (fun z => h1 (nI_le z (by omega)))
      rw [nI_1, nI_clamp (by omega), sl_fill_s]
      exact ih (i + 1) (by omega) (by omega)
set_option maxRecDepth 100000 in
set_option maxHeartbeats 1000000 in
theorem c_fill17 (d L : Nat) (mi : xmi) (ml : xml) (v : Int64) : xFn (d + 1) 137 [.ref 17, .long v] L mi ml mi (va_up ml 17 (sl_fill (ml 17) v 64)) := by
  refine xF.mk mJ7_fill_d0a16 rfl rfl ?_
  refine xB.go 5 (6, [(0, .ref 17), (1, .long v), (3, .int 0), (4, .int 64)], [], XM L mi ml) rfl ?_
  refine xB.cg (6, [(0, .ref 17), (1, .long v), (3, .int (nI 0)), (4, .int 64)], [], XM L mi (va_up ml 17 (sl_fill (ml 17) v 0))) (by rw [sl_fill_0]; rfl) ?_
  exact fill17_6 _ L mi ml v 65 0 (by omega) (by omega)
end
section
/-! Junctions: edges -/
def edg (ml : xml) (i : Nat) (o : Option Nat) : xml := match o with
  | some q => xU (xU ml 11 i (ml 11 i ||| xbit (nI q))) 12 q (ml 12 q ||| xbit (nI i))
  | none => ml
def eOk (mi : xmi) (n : Nat) (x : Int32) (o : Option Nat) : Prop := match o with
  | some q => q < n ∧ x = nI q
  | none => ¬ (0 ≤ x ∧ x < mi 1 2)
set_option maxRecDepth 100000 in
theorem c_isMet (d L : Nat) (mi : xmi) (ml : xml) (x : Int32)  : xFv (d + 2) 51 [.ref 8, .int x] L mi ml (.int (xb (0 ≤ x ∧ x < 64 ∧ hb (ml 8 2) x.toNatClampNeg = true))) mi ml := by
  refine xF.mk mX6_isMet rfl rfl ?_
  refine xB.go 3 (5, [(0, .ref 8), (1, .int x)], [.int x, .long (ml 8 2)], XM L mi ml) rfl ?_
  refine xB.c1 89 [.long (ml 8 2), .int x] [] (c_holds _ L mi ml (ml 8 2) x ) rfl ?_
  refine xB.rz (xb (0 ≤ x ∧ x < 64 ∧ hb (ml 8 2) x.toNatClampNeg = true)) mi ml rfl xz_xb ?_
  exact ⟨rfl, rfl, rfl⟩
set_option maxRecDepth 100000 in
theorem c_heightAt (d L : Nat) (mi : xmi) (ml : xml) (x : Int32)  : xFv (d + 2) 52 [.ref 8, .int x] L mi ml (.int (if 0 ≤ x ∧ x < 64 ∧ hb (ml 8 2) x.toNatClampNeg = true then mi 9 x.toNatClampNeg else 0)) mi ml := by
  refine xF.mk mX6_heightAt rfl rfl ?_
  refine xB.go 3 (5, [(0, .ref 8), (1, .int x)], [.int x, .long (ml 8 2)], XM L mi ml) rfl ?_
  refine xB.c1 89 [.long (ml 8 2), .int x] [] (c_holds _ L mi ml (ml 8 2) x ) rfl ?_
  refine xB.bz (0 ≤ x ∧ x < 64 ∧ hb (ml 8 2) x.toNatClampNeg = true) (20, [(0, .ref 8), (1, .int x)], [], XM L mi ml) (11, [(0, .ref 8), (1, .int x)], [], XM L mi ml) rfl (fun h1 => ?_) (fun h1 => ?_)
  · refine xB.go 1 (21, [(0, .ref 8), (1, .int x)], [.int 0], XM L mi ml) rfl ?_
    refine xB.rt (some (.int 0)) mi ml rfl ?_
    exact ⟨by rw [if_neg h1], rfl, rfl⟩
  · refine xB.go 3 (16, [(0, .ref 8), (1, .int x)], [.int x, .ref 9], XM L mi ml) rfl ?_
    refine xB.ck (xin x 64) (17, [(0, .ref 8), (1, .int x)], [.int (mi 9 x.toNatClampNeg)], XM L mi ml) rfl (xin_iff (by decide) (i_nlt.mpr h1.1) h1.2.1) ?_
    refine xB.go 1 (21, [(0, .ref 8), (1, .int x)], [.int (mi 9 x.toNatClampNeg)], XM L mi ml) rfl ?_
    refine xB.rt (some (.int (mi 9 x.toNatClampNeg))) mi ml rfl ?_
    exact ⟨by rw [if_pos h1], rfl, rfl⟩
theorem c_isMetN (d L : Nat) (mi : xmi) (ml : xml) {i : Nat} (hi : i < 64) : xFv (d + 2) 51 [.ref 8, .int (nI i)] L mi ml (.int (xb (hb (ml 8 2) i = true))) mi ml := by
  have h := c_isMet d L mi ml (nI i)
  have e : xb (0 ≤ (nI i) ∧ (nI i) < 64 ∧ hb (ml 8 2) (nI i).toNatClampNeg = true) = xb (hb (ml 8 2) i = true) := by
    unfold xb
    by_cases z : hb (ml 8 2) i = true
    · rw [if_pos z, if_pos ((hb_P hi).mpr z)]
    · rw [if_neg z, if_neg (fun w => z ((hb_P hi).mp w))]
  rwa [e] at h
set_option maxRecDepth 100000 in
set_option maxHeartbeats 1000000 in
theorem c_addEdge (d L : Nat) (mi : xmi) (ml : xml) {n : Nat} {K T : Nat → Nat} (hP : PRG mi n K T) {i : Nat} (hi : i < 64) (x : Int32) (o : Option Nat) (ho : eOk mi n x o) : xFn (d + 2) 5 [.ref 10, .int (nI i), .int x] L mi ml mi (edg ml i o) := by
  refine xF.mk mX0_addEdge rfl rfl ?_
  refine xB.go 3 (5, [(0, .ref 10), (1, .int (nI i)), (2, .int x)], [.int x, .ref 1], XM L mi ml) rfl ?_
  refine xB.c1 41 [.ref 1, .int x] [] (c_has _ L mi ml x ) rfl ?_
  refine xB.bz (0 ≤ x ∧ x < mi 1 2) (37, [(0, .ref 10), (1, .int (nI i)), (2, .int x)], [], XM L mi ml) (11, [(0, .ref 10), (1, .int (nI i)), (2, .int x)], [], XM L mi ml) rfl (fun h1 => ?_) (fun h1 => ?_)
  · refine xB.rt none mi ml rfl ?_
    refine ⟨rfl, rfl, ?_⟩
    cases o with
    | none => rfl
    | some q =>
      obtain ⟨o1, o2⟩ := ho
      subst o2
      exact absurd ((hP.has (by have := hP.2.1; omega)).mpr o1) h1
  · refine xB.go 4 (17, [(0, .ref 10), (1, .int (nI i)), (2, .int x)], [.int (nI i), .ref 11, .int (nI i), .ref 11], XM L mi ml) rfl ?_
    refine xB.ck (xin (nI i) 64) (18, [(0, .ref 10), (1, .int (nI i)), (2, .int x)], [.long (ml 11 (nI i).toNatClampNeg), .int (nI i), .ref 11], XM L mi ml) rfl (xin_of hi (by decide) rfl) ?_
    refine xB.go 1 (19, [(0, .ref 10), (1, .int (nI i)), (2, .int x)], [.int x, .long (ml 11 (nI i).toNatClampNeg), .int (nI i), .ref 11], XM L mi ml) rfl ?_
    refine xB.c1 88 [.int x] [.long (ml 11 (nI i).toNatClampNeg), .int (nI i), .ref 11] (c_bit _ L mi ml x ) rfl ?_
    refine xB.go 1 (23, [(0, .ref 10), (1, .int (nI i)), (2, .int x)], [.long ((ml 11 (nI i).toNatClampNeg) ||| (xbit x)), .int (nI i), .ref 11], XM L mi ml) rfl ?_
    refine xB.ck (xin (nI i) 64) (24, [(0, .ref 10), (1, .int (nI i)), (2, .int x)], [], XM L mi (xU ml 11 (nI i).toNatClampNeg ((ml 11 (nI i).toNatClampNeg) ||| (xbit x)))) rfl (xin_of hi (by decide) rfl) ?_
    refine xB.go 4 (30, [(0, .ref 10), (1, .int (nI i)), (2, .int x)], [.int x, .ref 12, .int x, .ref 12], XM L mi (xU ml 11 (nI i).toNatClampNeg ((ml 11 (nI i).toNatClampNeg) ||| (xbit x)))) rfl ?_
    refine xB.ck (xin x 64) (31, [(0, .ref 10), (1, .int (nI i)), (2, .int x)], [.long (ml 12 x.toNatClampNeg), .int x, .ref 12], XM L mi (xU ml 11 (nI i).toNatClampNeg ((ml 11 (nI i).toNatClampNeg) ||| (xbit x)))) rfl (xck hP.1 hP.2.1 h1) ?_
    refine xB.go 1 (32, [(0, .ref 10), (1, .int (nI i)), (2, .int x)], [.int (nI i), .long (ml 12 x.toNatClampNeg), .int x, .ref 12], XM L mi (xU ml 11 (nI i).toNatClampNeg ((ml 11 (nI i).toNatClampNeg) ||| (xbit x)))) rfl ?_
    refine xB.c1 88 [.int (nI i)] [.long (ml 12 x.toNatClampNeg), .int x, .ref 12] (c_bit _ L mi (xU ml 11 (nI i).toNatClampNeg ((ml 11 (nI i).toNatClampNeg) ||| (xbit x))) (nI i) ) rfl ?_
    refine xB.go 1 (36, [(0, .ref 10), (1, .int (nI i)), (2, .int x)], [.long ((ml 12 x.toNatClampNeg) ||| (xbit (nI i))), .int x, .ref 12], XM L mi (xU ml 11 (nI i).toNatClampNeg ((ml 11 (nI i).toNatClampNeg) ||| (xbit x)))) rfl ?_
    refine xB.ck (xin x 64) (37, [(0, .ref 10), (1, .int (nI i)), (2, .int x)], [], XM L mi (xU (xU ml 11 (nI i).toNatClampNeg ((ml 11 (nI i).toNatClampNeg) ||| (xbit x))) 12 x.toNatClampNeg ((ml 12 x.toNatClampNeg) ||| (xbit (nI i))))) rfl (xck hP.1 hP.2.1 h1) ?_
    refine xB.rt none mi (xU (xU ml 11 (nI i).toNatClampNeg ((ml 11 (nI i).toNatClampNeg) ||| (xbit x))) 12 x.toNatClampNeg ((ml 12 x.toNatClampNeg) ||| (xbit (nI i)))) rfl ?_
    refine ⟨rfl, rfl, ?_⟩
    cases o with
    | none => exact absurd h1 ho
    | some q =>
      obtain ⟨o1, o2⟩ := ho
      subst o2
      rw [nI_clamp (by omega), nI_clamp (by have := hP.2.1; omega)]
      rfl
/-- the edges of the first i places -/
def fE (K T : Nat → Nat) (met : Nat → Prop) (ml b : xml) (i : Nat) : Prop := (∀ x, x ≠ 10 → x ≠ 11 → x ≠ 12 → b x = ml x) ∧ (∀ a c, a < 64 → c < 64 → (hb (b 11 a) c = true ↔ a < i ∧ met a ∧ Fo K T a c)) ∧ (∀ a c, a < 64 → c < 64 → (hb (b 12 c) a = true ↔ a < i ∧ met a ∧ Fo K T a c)) ∧ (∀ a, a < 64 → (hb (b 10 7) a = true ↔ a < i ∧ met a ∧ K a = 9))
theorem edg_frame (b : xml) (i : Nat) (o : Option Nat) : (∀ x, x ≠ 11 → x ≠ 12 → edg b i o x = b x) := by
  intro x h1 h2
  cases o with
  | none => rfl
  | some q =>
    show xU (xU b 11 i (b 11 i ||| xbit (nI q))) 12 q (b 12 q ||| xbit (nI i)) x = b x
    rw [xU_ne h2, xU_ne h1]
theorem edg_f {b : xml} {i : Nat} {o : Option Nat} (ho : ∀ q, o = some q → q < 64) {a c : Nat} (hc : c < 64) : hb (edg b i o 11 a) c = true ↔ hb (b 11 a) c = true ∨ (a = i ∧ o = some c) := by
  cases o with
  | none => unfold edg; simp
  | some q =>
    have hq := ho q rfl
    unfold edg
    show hb (xU (xU b 11 i (b 11 i ||| xbit (nI q))) 12 q (b 12 q ||| xbit (nI i)) 11 a) c = true ↔ _
    rw [xU_ne (by decide), xU_at]
    by_cases z : a = i
    · subst z
      rw [va_up_self, hb_or, hb_bit hq]
      by_cases w : c = q
      · subst w; simp
      · have : ¬ q = c := fun e => w e.symm
        simp [w, this]
    · rw [va_up_ne _ _ z]; simp [z]
theorem edg_l {b : xml} {i : Nat} {o : Option Nat} (hi : i < 64) {a c : Nat} (ha : a < 64) : hb (edg b i o 12 c) a = true ↔ hb (b 12 c) a = true ∨ (a = i ∧ o = some c) := by
  cases o with
  | none => unfold edg; simp
  | some q =>
    unfold edg
    show hb (xU (xU b 11 i (b 11 i ||| xbit (nI q))) 12 q (b 12 q ||| xbit (nI i)) 12 c) a = true ↔ _
    rw [xU_at]
    by_cases z : c = q
    · subst z
      rw [va_up_self, hb_or, hb_bit hi]; simp
    · have : ¬ q = c := fun e => z e.symm
      rw [va_up_ne _ _ z, xU_ne (by decide)]; simp [this]
theorem fE.skip {K T : Nat → Nat} {met : Nat → Prop} {ml b : xml} {i : Nat} (h : fE K T met ml b i) (hm : ¬ met i) : fE K T met ml b (i + 1) := by
  obtain ⟨h1, h2, h3, h4⟩ := h
  have key : ∀ a, met a → (a < i + 1 ↔ a < i) := fun a g => ⟨fun z => by
    rcases Nat.lt_or_ge a i with w | w
    · exact w
    · have : a = i := by omega
      subst this; exact absurd g hm, fun z => by omega⟩
  refine ⟨h1, fun a c ha hc => ?_, fun a c ha hc => ?_, fun a ha => ?_⟩
  · rw [h2 a c ha hc]; exact ⟨fun g => ⟨(key a g.2.1).mpr g.1, g.2⟩, fun g => ⟨(key a g.2.1).mp g.1, g.2⟩⟩
  · rw [h3 a c ha hc]; exact ⟨fun g => ⟨(key a g.2.1).mpr g.1, g.2⟩, fun g => ⟨(key a g.2.1).mp g.1, g.2⟩⟩
  · rw [h4 a ha]; exact ⟨fun g => ⟨(key a g.2.1).mpr g.1, g.2⟩, fun g => ⟨(key a g.2.1).mp g.1, g.2⟩⟩
theorem fE.next {K T : Nat → Nat} {met : Nat → Prop} {ml b b1 : xml} {i : Nat} {o1 o2 : Option Nat} (h : fE K T met ml b i) (hm : met i) (hi : i < 64) (hb1 : (∀ x, x ≠ 10 → b1 x = b x) ∧ ∀ a, a < 64 → (hb (b1 10 7) a = true ↔ hb (b 10 7) a = true ∨ (a = i ∧ K i = 9))) (h64 : (∀ q, o1 = some q → q < 64) ∧ ∀ q, o2 = some q → q < 64) (hF : ∀ c, Fo K T i c ↔ o1 = some c ∨ o2 = some c) : fE K T met ml (edg (edg b1 i o1) i o2) (i + 1) := by
  obtain ⟨h1, h2, h3, h4⟩ := h
  refine ⟨fun x x1 x2 x3 => by rw [edg_frame _ _ _ x x2 x3, edg_frame _ _ _ x x2 x3, hb1.1 x x1]; exact h1 x x1 x2 x3, fun a c ha hc => ?_, fun a c ha hc => ?_, fun a ha => ?_⟩
  · rw [edg_f h64.2 hc, edg_f h64.1 hc, hb1.1 11 (by decide), h2 a c ha hc]
    constructor
    · rintro ((g | ⟨rfl, g⟩) | ⟨rfl, g⟩)
      · exact ⟨by omega, g.2⟩
      · exact ⟨by omega, hm, (hF c).mpr (Or.inl g)⟩
      · exact ⟨by omega, hm, (hF c).mpr (Or.inr g)⟩
    · rintro ⟨g1, g2, g3⟩
      by_cases z : a = i
      · subst z; rcases (hF c).mp g3 with w | w
        · exact Or.inl (Or.inr ⟨rfl, w⟩)
        · exact Or.inr ⟨rfl, w⟩
      · exact Or.inl (Or.inl ⟨by omega, g2, g3⟩)
  · rw [edg_l hi ha, edg_l hi ha, hb1.1 12 (by decide), h3 a c ha hc]
    constructor
    · rintro ((g | ⟨rfl, g⟩) | ⟨rfl, g⟩)
      · exact ⟨by omega, g.2⟩
      · exact ⟨by omega, hm, (hF c).mpr (Or.inl g)⟩
      · exact ⟨by omega, hm, (hF c).mpr (Or.inr g)⟩
    · rintro ⟨g1, g2, g3⟩
      by_cases z : a = i
      · subst z; rcases (hF c).mp g3 with w | w
        · exact Or.inl (Or.inr ⟨rfl, w⟩)
        · exact Or.inr ⟨rfl, w⟩
      · exact Or.inl (Or.inl ⟨by omega, g2, g3⟩)
  · rw [edg_frame _ _ _ 10 (by decide) (by decide), edg_frame _ _ _ 10 (by decide) (by decide), hb1.2 a ha, h4 a ha]
    constructor
    · rintro (g | ⟨rfl, g⟩)
      · exact ⟨by omega, g.2⟩
      · exact ⟨by omega, hm, g⟩
    · rintro ⟨g1, g2, g3⟩
      by_cases z : a = i
      · subst z; exact Or.inr ⟨rfl, g3⟩
      · exact Or.inl ⟨by omega, g2, g3⟩
/-- the two followers of a place, for addEdge -/
def fo1 (K T : Nat → Nat) (i : Nat) : Option Nat := if K i = 9 then none else some (if K i = 4 then T i else i + 1)
def fo2 (K T : Nat → Nat) (i : Nat) : Option Nat := if K i = 5 then some (T i) else none
theorem Fo_iff {K T : Nat → Nat} {i c : Nat} : Fo K T i c ↔ fo1 K T i = some c ∨ fo2 K T i = some c := by
  unfold Fo fo1 fo2
  by_cases h9 : K i = 9
  · have h5 : ¬ K i = 5 := by rw [h9]; decide
    simp [h9]
  · rw [if_neg h9]
    by_cases h5 : K i = 5
    · rw [if_pos h5]
      exact ⟨fun h => h.2.elim (fun z => Or.inl (by rw [z])) (fun z => Or.inr (by rw [z.2])), fun h => ⟨h9, h.elim (fun z => Or.inl (Option.some.inj z).symm) (fun z => Or.inr ⟨h5, (Option.some.inj z).symm⟩)⟩⟩
    · rw [if_neg h5]
      exact ⟨fun h => h.2.elim (fun z => Or.inl (by rw [z])) (fun z => absurd z.1 h5), fun h => ⟨h9, h.elim (fun z => Or.inl (Option.some.inj z).symm) (fun z => by cases z)⟩⟩
theorem eOk1 {mi : xmi} {n i : Nat} {K T : Nat → Nat} (hP : PRG mi n K T) (hi : i < n) (hw : ∀ c, Fo K T i c → c < n) : eOk mi n (sl_pf mi (nI i)) (fo1 K T i) := by
  have hk := (hP.2.2.1 i hi).2
  unfold fo1
  by_cases h9 : K i = 9
  · rw [if_pos h9]
    show ¬ _
    have e : sl_pf mi (nI i) = -1 := by unfold sl_pf; rw [hP.kind hi, if_pos (by rw [h9]; rfl)]
    rw [e]
    exact fun z => absurd z.1 (by decide)
  · rw [if_neg h9]
    exact ⟨hw _ ⟨h9, Or.inl rfl⟩, hP.pf hi h9⟩
theorem eOk2 {mi : xmi} {n i : Nat} {K T : Nat → Nat} (hP : PRG mi n K T) (hi : i < n) (hw : ∀ c, Fo K T i c → c < n) : eOk mi n (sl_of mi (nI i)) (fo2 K T i) := by
  have hk := (hP.2.2.1 i hi).2
  unfold fo2
  by_cases h5 : K i = 5
  · rw [if_pos h5]
    exact ⟨hw _ ⟨by rw [h5]; decide, Or.inr ⟨h5, rfl⟩⟩, hP.ofr hi h5⟩
  · rw [if_neg h5]
    show ¬ _
    have e : sl_of mi (nI i) = -1 := by unfold sl_of; rw [hP.kind hi, if_neg (show ¬ nI (K i) = 5 from fun z => h5 (k_eq hk (c := 5) (by decide) z))]
    rw [e]
    exact fun z => absurd z.1 (by decide)
theorem WF.fo {n i c : Nat} {K T : Nat → Nat} (hw : WF n K T) (hm : ∃ h, Rh n K T i h) (hf : Fo K T i c) : c < n ∧ ∃ h, Rh n K T c h := by
  obtain ⟨h, hr⟩ := hm
  obtain ⟨g1, g2, g3⟩ := hw.1 i h hr
  have := hr.next g1 g2 g3 hf
  exact ⟨(hw.1 _ _ this).1, _, this⟩
theorem WF.lt {n i : Nat} {K T : Nat → Nat} (hw : WF n K T) (hm : ∃ h, Rh n K T i h) : i < n := by
  obtain ⟨h, hr⟩ := hm; exact (hw.1 i h hr).1
set_option maxRecDepth 100000 in
set_option maxHeartbeats 1000000 in
theorem findEdges_23 (d L : Nat) (mi : xmi) (ml : xml) {n : Nat} {K T : Nat → Nat} (hP : PRG mi n K T) (hw : WF n K T) (hm : ∀ i, i < 64 → (hb (ml 8 2) i = true ↔ ∃ h, Rh n K T i h)) : ∀ (f i : Nat), i ≤ n → n - i < f → ∀ b : xml, fE K T (fun i => ∃ h, Rh n K T i h) ml b i → xB (d + 3) mX0_findEdges L (fun rr a b => rr = none ∧ a = mi ∧ fE K T (fun i => ∃ h, Rh n K T i h) ml b n) (23, [(0, .ref 10), (1, .int (nI i))], [], XM L mi b) := by
  have hn64 := hP.2.1
  intro f
  induction f with
  | zero => intro i h1 h2; omega
  | succ f ih =>
    intro i hle hlt b hE
    refine xB.go 3 (28, [(0, .ref 10), (1, .int (nI i))], [.ref 1, .int (nI i)], XM L mi b) rfl ?_
    refine xB.c1 40 [.ref 1] [.int (nI i)] (c_size _ L _ _) rfl ?_
    refine xB.cg (31, [(0, .ref 10), (1, .int (nI i))], [.int (nI n), .int (nI i)], XM L mi b) (by rw [hP.1]) ?_
    refine xB.bp ((nI n) ≤ (nI i)) (106, [(0, .ref 10), (1, .int (nI i))], [], XM L mi b) (34, [(0, .ref 10), (1, .int (nI i))], [], XM L mi b) rfl (fun h1 => ?_) (fun h1 => ?_)
    · refine xB.rt none mi b rfl ?_
      have hge : n ≤ i := (nI_leI (by omega) (by omega)).mp h1
      obtain rfl : i = n := by omega
      exact ⟨rfl, rfl, hE⟩
    · have hin : i < n := (nI_ltI (by omega) (by omega)).mp (i_nle.mp h1)
      have hk := (hP.2.2.1 i hin).2
      have hi64 : i < 64 := by omega
      have hmb : hb (b 8 2) i = true ↔ ∃ h, Rh n K T i h := by rw [hE.1 8 (by decide) (by decide) (by decide)]; exact hm i hi64
      refine xB.go 3 (39, [(0, .ref 10), (1, .int (nI i))], [.int (nI i), .ref 8], XM L mi b) rfl ?_
      refine xB.c1 51 [.ref 8, .int (nI i)] [] (c_isMetN _ L mi b hi64) rfl ?_
      refine xB.bn (hb (b 8 2) i = true) (48, [(0, .ref 10), (1, .int (nI i))], [], XM L mi b) (45, [(0, .ref 10), (1, .int (nI i))], [], XM L mi b) rfl (fun h2 => ?_) (fun h2 => ?_)
      · have hmm := hmb.mp h2
        have hwf : ∀ c, Fo K T i c → c < n := fun c hc => (hw.fo hmm hc).1
        refine xB.go 3 (53, [(0, .ref 10), (1, .int (nI i))], [.int (nI i), .ref 1], XM L mi b) rfl ?_
        refine xB.c1 42 [.ref 1, .int (nI i)] [] (c_kindN _ L _ _ hP hin) rfl ?_
        refine xB.go 1 (58, [(0, .ref 10), (1, .int (nI i))], [.int 9, .int (nI (K i))], XM L mi b) rfl ?_
        refine xB.bp (¬ (nI (K i)) = 9) (74, [(0, .ref 10), (1, .int (nI i))], [], XM L mi b) (61, [(0, .ref 10), (1, .int (nI i))], [], XM L mi b) rfl (fun h3 => ?_) (fun h3 => ?_)
        · refine xB.go 5 (81, [(0, .ref 10), (1, .int (nI i))], [.int (nI i), .ref 1, .int (nI i), .ref 10], XM L mi b) rfl ?_
          refine xB.c1 46 [.ref 1, .int (nI i)] [.int (nI i), .ref 10] (c_plainFollower _ L _ _ (nI i) hP.1 hP.2.1) rfl ?_
          refine xB.c0 5 [.ref 10, .int (nI i), .int (sl_pf mi (nI i))] [] (c_addEdge _ L _ _ hP hi64 _ (fo1 K T i) (eOk1 hP hin hwf)) rfl ?_
          refine xB.go 5 (94, [(0, .ref 10), (1, .int (nI i))], [.int (nI i), .ref 1, .int (nI i), .ref 10], XM L mi (edg b i (fo1 K T i))) rfl ?_
          refine xB.c1 47 [.ref 1, .int (nI i)] [.int (nI i), .ref 10] (c_otherFollower _ L _ _ (nI i) hP.1 hP.2.1) rfl ?_
          refine xB.c0 5 [.ref 10, .int (nI i), .int (sl_of mi (nI i))] [] (c_addEdge _ L _ _ hP hi64 _ (fo2 K T i) (eOk2 hP hin hwf)) rfl ?_
          refine xB.go 2 (23, [(0, .ref 10), (1, .int ((nI i) + 1))], [], XM L mi (edg (edg b i (fo1 K T i)) i (fo2 K T i))) rfl ?_
          rw [nI_1]
          refine ih (i + 1) (by omega) (by omega) _ (hE.next hmm hi64 ⟨?_, ?_⟩ ⟨fun q hq => Nat.lt_of_lt_of_le (hwf q (Fo_iff.mpr (Or.inl hq))) hn64, fun q hq => Nat.lt_of_lt_of_le (hwf q (Fo_iff.mpr (Or.inr hq))) hn64⟩ (fun c => Fo_iff))
          · intro x _; rfl
          · intro a ha
            have g9 := k_ne (c := 9) h3
            simp [g9]
        · refine xB.go 4 (67, [(0, .ref 10), (1, .int (nI i))], [.int (nI i), .long (b 10 7), .ref 10], XM L mi b) rfl ?_
          refine xB.c1 88 [.int (nI i)] [.long (b 10 7), .ref 10] (c_bit _ L mi b (nI i) ) rfl ?_
          refine xB.go 7 (81, [(0, .ref 10), (1, .int (nI i))], [.int (nI i), .ref 1, .int (nI i), .ref 10], XM L mi (xU b 10 7 ((b 10 7) ||| (xbit (nI i))))) rfl ?_
          refine xB.c1 46 [.ref 1, .int (nI i)] [.int (nI i), .ref 10] (c_plainFollower _ L _ _ (nI i) hP.1 hP.2.1) rfl ?_
          refine xB.c0 5 [.ref 10, .int (nI i), .int (sl_pf mi (nI i))] [] (c_addEdge _ L _ _ hP hi64 _ (fo1 K T i) (eOk1 hP hin hwf)) rfl ?_
          refine xB.go 5 (94, [(0, .ref 10), (1, .int (nI i))], [.int (nI i), .ref 1, .int (nI i), .ref 10], XM L mi (edg (xU b 10 7 ((b 10 7) ||| (xbit (nI i)))) i (fo1 K T i))) rfl ?_
          refine xB.c1 47 [.ref 1, .int (nI i)] [.int (nI i), .ref 10] (c_otherFollower _ L _ _ (nI i) hP.1 hP.2.1) rfl ?_
          refine xB.c0 5 [.ref 10, .int (nI i), .int (sl_of mi (nI i))] [] (c_addEdge _ L _ _ hP hi64 _ (fo2 K T i) (eOk2 hP hin hwf)) rfl ?_
          refine xB.go 2 (23, [(0, .ref 10), (1, .int ((nI i) + 1))], [], XM L mi (edg (edg (xU b 10 7 ((b 10 7) ||| (xbit (nI i)))) i (fo1 K T i)) i (fo2 K T i))) rfl ?_
          rw [nI_1]
          refine ih (i + 1) (by omega) (by omega) _ (hE.next hmm hi64 ⟨?_, ?_⟩ ⟨fun q hq => Nat.lt_of_lt_of_le (hwf q (Fo_iff.mpr (Or.inl hq))) hn64, fun q hq => Nat.lt_of_lt_of_le (hwf q (Fo_iff.mpr (Or.inr hq))) hn64⟩ (fun c => Fo_iff))
          · intro x hx; rw [xU_ne hx]
          · intro a ha
            have g9 := k_eq hk (c := 9) (by decide) (Classical.not_not.mp h3)
            show hb (b 10 7 ||| xbit (nI i)) a = true ↔ _
            rw [hb_or, hb_bit hi64]
            simp [g9]
      · refine xB.go 3 (23, [(0, .ref 10), (1, .int ((nI i) + 1))], [], XM L mi b) rfl ?_
        rw [nI_1]
        exact ih (i + 1) (by omega) (by omega) b (hE.skip (fun z => h2 (hmb.mpr z)))
set_option maxRecDepth 100000 in
set_option maxHeartbeats 1000000 in
theorem c_findEdges (d L : Nat) (mi : xmi) (ml : xml) {n : Nat} {K T : Nat → Nat} (hP : PRG mi n K T) (hw : WF n K T) (hm : ∀ i, i < 64 → (hb (ml 8 2) i = true ↔ ∃ h, Rh n K T i h)) : xF (d + 4) 4 [.ref 10] L mi ml (fun rr a b => rr = none ∧ a = mi ∧ fE K T (fun i => ∃ h, Rh n K T i h) ml b n) := by
  refine xF.mk mX0_findEdges rfl rfl ?_
  refine xB.go 3 (5, [(0, .ref 10)], [.long 0, .ref 11], XM L mi ml) rfl ?_
  refine xB.c0 137 [.ref 11, .long 0] [] (c_fill11 _ L _ _ 0) rfl ?_
  refine xB.go 3 (13, [(0, .ref 10)], [.long 0, .ref 12], XM L mi (va_up ml 11 (sl_fill (ml 11) 0 64))) rfl ?_
  refine xB.c0 137 [.ref 12, .long 0] [] (c_fill12 _ L _ _ 0) rfl ?_
  refine xB.go 5 (23, [(0, .ref 10), (1, .int 0)], [], XM L mi (xU (va_up (va_up ml 11 (sl_fill (ml 11) 0 64)) 12 (sl_fill ((va_up ml 11 (sl_fill (ml 11) 0 64)) 12) 0 64)) 10 7 0)) rfl ?_
  refine findEdges_23 d L mi ml hP hw hm (n + 1) 0 (Nat.zero_le _) (by omega) _ ⟨fun x x1 x2 x3 => ?_, fun a c ha hc => ?_, fun a c ha hc => ?_, fun a ha => ?_⟩
  · rw [xU_ne x1, va_up_ne _ _ x3, va_up_ne _ _ x2]
  · rw [xU_ne (by decide), va_up_ne _ _ (by decide), va_up_self]
    unfold sl_fill
    rw [if_pos ha, hb_0]
    exact ⟨(fun z => by cases z), fun z => absurd z.1 (Nat.not_lt_zero _)⟩
  · rw [xU_ne (by decide), va_up_self]
    unfold sl_fill
    rw [if_pos hc, hb_0]
    exact ⟨(fun z => by cases z), fun z => absurd z.1 (Nat.not_lt_zero _)⟩
  · show hb 0 a = true ↔ _
    rw [hb_0]
    exact ⟨(fun z => by cases z), fun z => absurd z.1 (Nat.not_lt_zero _)⟩
end
section
/-! Junctions: passing, nearest, all -/
theorem c_holdsN (d L : Nat) (mi : xmi) (ml : xml) (s : Int64) {i : Nat} (hi : i < 64) : xFv (d + 1) 89 [.long s, .int (nI i)] L mi ml (.int (xb (hb s i = true))) mi ml := by
  have h := c_holds d L mi ml s (nI i)
  have e : xb (0 ≤ nI i ∧ nI i < 64 ∧ hb s (nI i).toNatClampNeg = true) = xb (hb s i = true) := by
    unfold xb
    by_cases z : hb s i = true
    · rw [if_pos z, if_pos ((hb_P hi).mpr z)]
    · rw [if_neg z, if_neg (fun w => z ((hb_P hi).mp w))]
  rwa [e] at h
/-- who can come to a HALT, within a set -/
def hRE (ml : xml) (al : Nat → Bool) (j : Nat) : Prop := RE (hb (ml 10 7)) (fun i => hb (ml 12 i)) al j
/-- the places but q -/
def oth (q : Nat) : Int64 := xbit (nI q) ^^^ (-1)
theorem hb_oth {q j : Nat} (hq : q < 64) (hj : j < 64) : hb (oth q) j = !decide (j = q) := by unfold oth; rw [hb_not _ hj, hb_bit hq]
def fP (ml b : xml) (i : Nat) : Prop := (∀ x, x ≠ 13 → x ≠ 10 → b x = ml x) ∧ b 10 7 = ml 10 7 ∧ (∀ j, j < 64 → (hb (b 10 8) j = true ↔ hRE ml (hb (-1)) j)) ∧ ∀ q, q < i → ∀ j, j < 64 → (hb (b 13 q) j = true ↔ hb (b 10 8) j = true ∧ j ≠ q ∧ ¬ hRE ml (hb (oth q)) j)
theorem fP.next {ml b : xml} {i : Nat} {R : Int64} (h : fP ml b i) (hi : i < 64) (hR : ∀ j, j < 64 → (hb R j = true ↔ hRE ml (hb (oth i)) j)) : fP ml (xU b 13 i ((b 10 8 &&& oth i) &&& (R ^^^ (-1)))) (i + 1) := by
  obtain ⟨h1, h2, h3, h4⟩ := h
  refine ⟨fun x x1 x2 => by rw [xU_ne x1]; exact h1 x x1 x2, by rw [xU_ne (by decide)]; exact h2, fun j hj => by rw [xU_ne (by decide)]; exact h3 j hj, fun q hq j hj => ?_⟩
  rw [xU_ne (show (10 : Nat) ≠ 13 by decide), xU_at]
  by_cases z : q = i
  · subst z
    rw [va_up_self, hb_and, hb_and, hb_oth hi hj, hb_not _ hj]
    have := hR j hj
    cases hr : hb R j with
    | true => rw [hr] at this; simp [this.mp rfl]
    | false =>
      rw [hr] at this
      have hn : ¬ hRE ml (hb (oth q)) j := fun w => by have := this.mpr w; cases this
      simp [hn]
  · rw [va_up_ne _ _ z]; exact h4 q (by omega) j hj
set_option maxRecDepth 100000 in
set_option maxHeartbeats 1000000 in
theorem findPassing_20 (d L : Nat) (mi : xmi) (ml : xml) {n : Nat} {K T : Nat → Nat} (hP : PRG mi n K T) : ∀ (f i : Nat), i ≤ n → n - i < f → ∀ b : xml, fP ml b i → xB (d + 3) mX0_findPassing L (fun rr a b => rr = none ∧ a = mi ∧ fP ml b n) (20, [(0, .ref 10), (1, .int (nI i))], [], XM L mi b) := by
  have hn64 := hP.2.1
  intro f
  induction f with
  | zero => intro i h1 h2; omega
  | succ f ih =>
    intro i hle hlt b hE
    refine xB.go 3 (25, [(0, .ref 10), (1, .int (nI i))], [.ref 1, .int (nI i)], XM L mi b) rfl ?_
    refine xB.c1 40 [.ref 1] [.int (nI i)] (c_size _ L _ _) rfl ?_
    refine xB.cg (28, [(0, .ref 10), (1, .int (nI i))], [.int (nI n), .int (nI i)], XM L mi b) (by rw [hP.1]) ?_
    refine xB.bp ((nI n) ≤ (nI i)) (75, [(0, .ref 10), (1, .int (nI i))], [], XM L mi b) (31, [(0, .ref 10), (1, .int (nI i))], [], XM L mi b) rfl (fun h1 => ?_) (fun h1 => ?_)
    · refine xB.rt none mi b rfl ?_
      have hge : n ≤ i := (nI_leI (by omega) (by omega)).mp h1
      obtain rfl : i = n := by omega
      exact ⟨rfl, rfl, hE⟩
    · have hin : i < n := (nI_ltI (by omega) (by omega)).mp (i_nle.mp h1)
      have hi64 : i < 64 := by omega
      refine xB.go 1 (32, [(0, .ref 10), (1, .int (nI i))], [.int (nI i)], XM L mi b) rfl ?_
      refine xB.c1 88 [.int (nI i)] [] (c_bit _ L mi b (nI i) ) rfl ?_
      refine xB.go 15 (60, [(0, .ref 10), (1, .int (nI i)), (2, .long ((xbit (nI i)) ^^^ (-1)))], [.long ((xbit (nI i)) ^^^ (-1)), .ref 12, .long (b 10 7), .long ((b 10 8) &&& ((xbit (nI i)) ^^^ (-1))), .int (nI i), .ref 13], XM L mi b) rfl ?_
      refine xB.ca 8 [.long (b 10 7), .ref 12, .long ((xbit (nI i)) ^^^ (-1))] [.long ((b 10 8) &&& ((xbit (nI i)) ^^^ (-1))), .int (nI i), .ref 13] (c_reach12 _ L _ _ _ _) rfl ?_
      intro rr a0 b0 hq0
      obtain ⟨ha0, hb0, Rr, rfl, hR⟩ := hq0
      rw [ha0, hb0]
      show xB _ _ L _ (63, [(0, .ref 10), (1, .int (nI i)), (2, .long ((xbit (nI i)) ^^^ (-1)))], [.long Rr, .long ((b 10 8) &&& ((xbit (nI i)) ^^^ (-1))), .int (nI i), .ref 13], XM L mi b)
      refine xB.go 3 (68, [(0, .ref 10), (1, .int (nI i)), (2, .long ((xbit (nI i)) ^^^ (-1)))], [.long (((b 10 8) &&& ((xbit (nI i)) ^^^ (-1))) &&& (Rr ^^^ (-1))), .int (nI i), .ref 13], XM L mi b) rfl ?_
      refine xB.ck (xin (nI i) 64) (69, [(0, .ref 10), (1, .int (nI i)), (2, .long ((xbit (nI i)) ^^^ (-1)))], [], XM L mi (xU b 13 (nI i).toNatClampNeg (((b 10 8) &&& ((xbit (nI i)) ^^^ (-1))) &&& (Rr ^^^ (-1))))) rfl (xin_of hi64 (by decide) rfl) ?_
      refine xB.go 2 (20, [(0, .ref 10), (1, .int ((nI i) + 1)), (2, .long ((xbit (nI i)) ^^^ (-1)))], [], XM L mi (xU b 13 (nI i).toNatClampNeg (((b 10 8) &&& ((xbit (nI i)) ^^^ (-1))) &&& (Rr ^^^ (-1))))) rfl ?_
      refine xB.fo [(0, .ref 10), (1, .int (nI i + 1))] (by simp) ?_
      rw [nI_1, nI_clamp (by omega)]
      refine ih (i + 1) (by omega) (by omega) _ (hE.next hi64 (fun j hj => ?_))
      rw [hR j hj, hE.2.1, hE.1 12 (by decide) (by decide)]
      exact Iff.rfl
set_option maxRecDepth 100000 in
set_option maxHeartbeats 1000000 in
theorem c_findPassing (d L : Nat) (mi : xmi) (ml : xml) {n : Nat} {K T : Nat → Nat} (hP : PRG mi n K T) : xF (d + 4) 6 [.ref 10] L mi ml (fun rr a b => rr = none ∧ a = mi ∧ fP ml b n) := by
  refine xF.mk mX0_findPassing rfl rfl ?_
  refine xB.go 6 (12, [(0, .ref 10)], [.long (-1), .ref 12, .long (ml 10 7), .ref 10], XM L mi ml) rfl ?_
  refine xB.ca 8 [.long (ml 10 7), .ref 12, .long (-1)] [.ref 10] (c_reach12 _ L _ _ _ _) rfl ?_
  intro rr a0 b0 hq0
  obtain ⟨ha0, hb0, Rr, rfl, hR⟩ := hq0
  rw [ha0, hb0]
  show xB _ _ L _ (15, [(0, .ref 10)], [.long Rr, .ref 10], XM L mi ml)
  refine xB.go 3 (20, [(0, .ref 10), (1, .int 0)], [], XM L mi (xU ml 10 8 Rr)) rfl ?_
  exact findPassing_20 d L _ _ hP (n + 1) 0 (Nat.zero_le _) (by omega) _ ⟨fun x x1 x2 => xU_ne x2, rfl, fun j hj => hR j hj, fun q hq => absurd hq (Nat.not_lt_zero _)⟩
/-- what nearestFor answers at p -/
def NF (n : Nat) (ml : xml) (p : Nat) (v : Int32) : Prop := (hb (ml 10 8) p = false ∧ v = -1) ∨ (hb (ml 10 8) p = true ∧ ∃ N : Int64, (∀ x, x < 64 → (hb N x = true ↔ (x < n ∧ hb (ml 13 x) p = true) ∧ ∀ q, q < n → hb (ml 13 q) p = true → hb (ml 13 q) x = true ∨ x = q)) ∧ ((N = 0 ∧ v = nI n) ∨ (N ≠ 0 ∧ v = nI (xlow N))))
def nI_ (ml : xml) (p i : Nat) (D B : Int64) : Prop := (∀ x, x < 64 → (hb D x = true ↔ x < i ∧ hb (ml 13 x) p = true)) ∧ (∀ x, x < 64 → (hb B x = true ↔ ∀ q, q < i → hb (ml 13 q) p = true → hb (ml 13 q) x = true ∨ x = q))
theorem nI_.skip {ml : xml} {p i : Nat} {D B : Int64} (h : nI_ ml p i D B) (hn : ¬ hb (ml 13 i) p = true) : nI_ ml p (i + 1) D B := by
  refine ⟨fun x hx => ?_, fun x hx => ?_⟩
  · rw [h.1 x hx]
    exact ⟨fun g => ⟨by omega, g.2⟩, fun g => ⟨by
      rcases Nat.lt_or_ge x i with z | z
      · exact z
      · have : x = i := by omega
        subst this; exact absurd g.2 hn, g.2⟩⟩
  · rw [h.2 x hx]
    exact ⟨fun g q hq hh => by
      by_cases z : q = i
      · subst z; exact absurd hh hn
      · exact g q (by omega) hh, fun g q hq => g q (by omega)⟩
theorem nI_.next {ml : xml} {p i : Nat} {D B : Int64} (h : nI_ ml p i D B) (hi : i < 64) (hy : hb (ml 13 i) p = true) : nI_ ml p (i + 1) (D ||| xbit (nI i)) (B &&& (ml 13 i ||| xbit (nI i))) := by
  refine ⟨fun x hx => ?_, fun x hx => ?_⟩
  · rw [hb_or, hb_bit hi, Bool.or_eq_true, h.1 x hx]
    constructor
    · rintro (g | g)
      · exact ⟨by omega, g.2⟩
      · have : x = i := by simpa using g
        subst this; exact ⟨by omega, hy⟩
    · rintro ⟨g1, g2⟩
      by_cases z : x = i
      · right; simpa using z
      · left; exact ⟨by omega, g2⟩
  · rw [hb_and, hb_or, hb_bit hi, Bool.and_eq_true, Bool.or_eq_true, h.2 x hx]
    constructor
    · rintro ⟨g1, g2⟩ q hq hh
      by_cases z : q = i
      · subst z; simpa using g2
      · exact g1 q (by omega) hh
    · intro g
      exact ⟨fun q hq => g q (by omega), by have := g i (by omega) hy; simpa using this⟩
set_option maxRecDepth 100000 in
set_option maxHeartbeats 1000000 in
theorem nearestFor_23 (d L : Nat) (mi : xmi) (ml : xml) {n : Nat} {K T : Nat → Nat} (hP : PRG mi n K T) {p : Nat} (hp64 : p < 64) (hhal : hb (ml 10 8) p = true) : ∀ (f i : Nat), i ≤ n → n - i < f → ∀ D B : Int64, nI_ ml p i D B → xB (d + 2) mX0_nearestFor L (fun rr a b => a = mi ∧ b = ml ∧ ∃ v, rr = some (.int v) ∧ NF n ml p v) (23, [(0, .ref 10), (1, .int (nI p)), (2, .long D), (4, .long B), (6, .int (nI i))], [], XM L mi ml) := by
  have hn64 := hP.2.1
  intro f
  induction f with
  | zero => intro i h1 h2; omega
  | succ f ih =>
    intro i hle hlt D B hI
    refine xB.go 3 (29, [(0, .ref 10), (1, .int (nI p)), (2, .long D), (4, .long B), (6, .int (nI i))], [.ref 1, .int (nI i)], XM L mi ml) rfl ?_
    refine xB.c1 40 [.ref 1] [.int (nI i)] (c_size _ L _ _) rfl ?_
    refine xB.cg (32, [(0, .ref 10), (1, .int (nI p)), (2, .long D), (4, .long B), (6, .int (nI i))], [.int (nI n), .int (nI i)], XM L mi ml) (by rw [hP.1]) ?_
    refine xB.bp ((nI n) ≤ (nI i)) (81, [(0, .ref 10), (1, .int (nI p)), (2, .long D), (4, .long B), (6, .int (nI i))], [], XM L mi ml) (35, [(0, .ref 10), (1, .int (nI p)), (2, .long D), (4, .long B), (6, .int (nI i))], [], XM L mi ml) rfl (fun h1 => ?_) (fun h1 => ?_)
    · refine xB.go 7 (91, [(0, .ref 10), (1, .int (nI p)), (2, .long D), (4, .long B), (6, .long (D &&& B))], [.int (lg_cmp (D &&& B) 0)], XM L mi ml) rfl ?_
      refine xB.ln (D &&& B) 0 (104, [(0, .ref 10), (1, .int (nI p)), (2, .long D), (4, .long B), (6, .long (D &&& B))], [], XM L mi ml) (94, [(0, .ref 10), (1, .int (nI p)), (2, .long D), (4, .long B), (6, .long (D &&& B))], [], XM L mi ml) rfl (fun h2 => ?_) (fun h2 => ?_)
      · refine xB.go 1 (106, [(0, .ref 10), (1, .int (nI p)), (2, .long D), (4, .long B), (6, .long (D &&& B))], [.long (D &&& B)], XM L mi ml) rfl ?_
        refine xB.c1 90 [.long (D &&& B)] [] (c_lowest _ L mi ml (D &&& B) ) rfl ?_
        refine xB.rt (some (.int (xbc (((D &&& B) &&& -(D &&& B)) - 1)))) mi ml rfl ?_
        have hge : n ≤ i := (nI_leI (by omega) (by omega)).mp h1
        obtain rfl : i = n := by omega
        have hN : ∀ x, x < 64 → (hb (D &&& B) x = true ↔ (x < i ∧ hb (ml 13 x) p = true) ∧ ∀ q, q < i → hb (ml 13 q) p = true → hb (ml 13 q) x = true ∨ x = q) := fun x hx => by rw [hb_and, Bool.and_eq_true, hI.1 x hx, hI.2 x hx]
        exact ⟨rfl, rfl, _, rfl, Or.inr ⟨hhal, D &&& B, hN, Or.inr ⟨h2, xbc_of h2⟩⟩⟩
      · refine xB.go 2 (98, [(0, .ref 10), (1, .int (nI p)), (2, .long D), (4, .long B), (6, .long (D &&& B))], [.ref 1], XM L mi ml) rfl ?_
        refine xB.c1 40 [.ref 1] [] (c_size _ L _ _) rfl ?_
        refine xB.go 1 (109, [(0, .ref 10), (1, .int (nI p)), (2, .long D), (4, .long B), (6, .long (D &&& B))], [.int (mi 1 2)], XM L mi ml) rfl ?_
        refine xB.rt (some (.int (mi 1 2))) mi ml rfl ?_
        have hge : n ≤ i := (nI_leI (by omega) (by omega)).mp h1
        obtain rfl : i = n := by omega
        have hN : ∀ x, x < 64 → (hb (D &&& B) x = true ↔ (x < i ∧ hb (ml 13 x) p = true) ∧ ∀ q, q < i → hb (ml 13 q) p = true → hb (ml 13 q) x = true ∨ x = q) := fun x hx => by rw [hb_and, Bool.and_eq_true, hI.1 x hx, hI.2 x hx]
        exact ⟨rfl, rfl, _, rfl, Or.inr ⟨hhal, D &&& B, hN, Or.inl ⟨h2, hP.1⟩⟩⟩
    · have hin : i < n := (nI_ltI (by omega) (by omega)).mp (i_nle.mp h1)
      have hi64 : i < 64 := by omega
      refine xB.go 3 (41, [(0, .ref 10), (1, .int (nI p)), (2, .long D), (4, .long B), (6, .int (nI i))], [.int (nI i), .ref 13], XM L mi ml) rfl ?_
      refine xB.ck (xin (nI i) 64) (42, [(0, .ref 10), (1, .int (nI p)), (2, .long D), (4, .long B), (6, .int (nI i))], [.long (ml 13 (nI i).toNatClampNeg)], XM L mi ml) rfl (xin_of hi64 (by decide) rfl) ?_
      refine xB.go 1 (43, [(0, .ref 10), (1, .int (nI p)), (2, .long D), (4, .long B), (6, .int (nI i))], [.int (nI p), .long (ml 13 (nI i).toNatClampNeg)], XM L mi ml) rfl ?_
      refine xB.c1 89 [.long (ml 13 (nI i).toNatClampNeg), .int (nI p)] [] (c_holdsN _ L _ _ (ml 13 (nI i).toNatClampNeg) hp64) rfl ?_
      refine xB.bz (hb (ml 13 (nI i).toNatClampNeg) p = true) (75, [(0, .ref 10), (1, .int (nI p)), (2, .long D), (4, .long B), (6, .int (nI i))], [], XM L mi ml) (49, [(0, .ref 10), (1, .int (nI p)), (2, .long D), (4, .long B), (6, .int (nI i))], [], XM L mi ml) rfl (fun h3 => ?_) (fun h3 => ?_)
      · refine xB.go 2 (23, [(0, .ref 10), (1, .int (nI p)), (2, .long D), (4, .long B), (6, .int ((nI i) + 1))], [], XM L mi ml) rfl ?_
        refine xB.fo [(0, .ref 10), (1, .int (nI p)), (2, .long D), (4, .long B), (6, .int (nI i + 1))] (by simp) ?_
        rw [nI_1]
        rw [nI_clamp (by omega)] at h3
        exact ih (i + 1) (by omega) (by omega) D B (hI.skip h3)
      · refine xB.go 2 (52, [(0, .ref 10), (1, .int (nI p)), (2, .long D), (4, .long B), (6, .int (nI i))], [.int (nI i), .long D], XM L mi ml) rfl ?_
        refine xB.c1 88 [.int (nI i)] [.long D] (c_bit _ L mi ml (nI i) ) rfl ?_
        refine xB.go 6 (65, [(0, .ref 10), (1, .int (nI p)), (2, .long (D ||| (xbit (nI i)))), (4, .long B), (6, .int (nI i))], [.int (nI i), .ref 13, .long B], XM L mi ml) rfl ?_
        refine xB.ck (xin (nI i) 64) (66, [(0, .ref 10), (1, .int (nI p)), (2, .long (D ||| (xbit (nI i)))), (4, .long B), (6, .int (nI i))], [.long (ml 13 (nI i).toNatClampNeg), .long B], XM L mi ml) rfl (xin_of hi64 (by decide) rfl) ?_
        refine xB.go 1 (68, [(0, .ref 10), (1, .int (nI p)), (2, .long (D ||| (xbit (nI i)))), (4, .long B), (6, .int (nI i))], [.int (nI i), .long (ml 13 (nI i).toNatClampNeg), .long B], XM L mi ml) rfl ?_
        refine xB.c1 88 [.int (nI i)] [.long (ml 13 (nI i).toNatClampNeg), .long B] (c_bit _ L mi ml (nI i) ) rfl ?_
        refine xB.go 5 (23, [(0, .ref 10), (1, .int (nI p)), (2, .long (D ||| (xbit (nI i)))), (4, .long (B &&& ((ml 13 (nI i).toNatClampNeg) ||| (xbit (nI i))))), (6, .int ((nI i) + 1))], [], XM L mi ml) rfl ?_
        refine xB.fo [(0, .ref 10), (1, .int (nI p)), (2, .long (D ||| (xbit (nI i)))), (4, .long (B &&& ((ml 13 (nI i).toNatClampNeg) ||| (xbit (nI i))))), (6, .int (nI i + 1))] (by simp) ?_
        rw [nI_1]
        rw [nI_clamp (by omega)] at h3 ⊢
        exact ih (i + 1) (by omega) (by omega) _ _ (hI.next hi64 h3)
set_option maxRecDepth 100000 in
set_option maxHeartbeats 1000000 in
theorem c_nearestFor (d L : Nat) (mi : xmi) (ml : xml) {n : Nat} {K T : Nat → Nat} (hP : PRG mi n K T) {p : Nat} (hp64 : p < 64) : xF (d + 3) 7 [.ref 10, .int (nI p)] L mi ml (fun rr a b => a = mi ∧ b = ml ∧ ∃ v, rr = some (.int v) ∧ NF n ml p v) := by
  refine xF.mk mX0_nearestFor rfl rfl ?_
  refine xB.go 3 (5, [(0, .ref 10), (1, .int (nI p))], [.int (nI p), .long (ml 10 8)], XM L mi ml) rfl ?_
  refine xB.c1 89 [.long (ml 10 8), .int (nI p)] [] (c_holdsN _ L _ _ (ml 10 8) hp64) rfl ?_
  refine xB.bn (hb (ml 10 8) p = true) (13, [(0, .ref 10), (1, .int (nI p))], [], XM L mi ml) (11, [(0, .ref 10), (1, .int (nI p))], [], XM L mi ml) rfl (fun h1 => ?_) (fun h1 => ?_)
  · refine xB.go 6 (23, [(0, .ref 10), (1, .int (nI p)), (2, .long 0), (4, .long (-1)), (6, .int 0)], [], XM L mi ml) rfl ?_
    exact nearestFor_23 d L mi ml hP hp64 h1 (n + 1) 0 (Nat.zero_le _) (by omega) 0 (-1) ⟨fun x hx => by rw [hb_0]; exact ⟨(fun z => by cases z), fun z => absurd z.1 (Nat.not_lt_zero _)⟩, fun x hx => by rw [hb_m1 hx]; exact ⟨fun _ q hq => absurd hq (Nat.not_lt_zero _), fun _ => rfl⟩⟩
  · refine xB.go 1 (12, [(0, .ref 10), (1, .int (nI p))], [.int (-1)], XM L mi ml) rfl ?_
    refine xB.rt (some (.int (-1))) mi ml rfl ?_
    refine ⟨rfl, rfl, -1, rfl, Or.inl ⟨?_, rfl⟩⟩
    cases z : hb (ml 10 8) p with
    | false => rfl
    | true => exact absurd z h1
end
section
/-! Junctions.find -/
theorem NF.congr {n p : Nat} {ml b : xml} {v : Int32} (h10 : b 10 = ml 10) (h13 : b 13 = ml 13) (h : NF n b p v) : NF n ml p v := by
  unfold NF at h ⊢; rw [h10, h13] at h; exact h
def jAt (n : Nat) (K : Nat → Nat) (met : Nat → Prop) (ml : xml) (p : Nat) (v : Int32) (R : Int64) : Prop := (met p ∧ K p = 5 → NF n ml p v ∧ ∀ j, j < 64 → (hb R j = true ↔ RE (hb (ml 11 p)) (fun i => hb (ml 11 i)) (hb (xbit v ^^^ (-1))) j)) ∧ (¬ (met p ∧ K p = 5) → v = -1 ∧ R = 0)
def fJ (n : Nat) (K : Nat → Nat) (met : Nat → Prop) (mi : xmi) (ml : xml) (i : Nat) (a : xmi) (b : xml) : Prop := (∀ x, x ≠ 14 → a x = mi x) ∧ (∀ x, x ≠ 15 → b x = ml x) ∧ ∀ p, p < i → jAt n K met ml p (a 14 p) (b 15 p)
theorem fJ.next {n i : Nat} {K : Nat → Nat} {met : Nat → Prop} {mi a : xmi} {ml b : xml} {v : Int32} {R : Int64} (h : fJ n K met mi ml i a b) (hj : jAt n K met ml i v R) : fJ n K met mi ml (i + 1) (xU a 14 i v) (xU b 15 i R) := by
  obtain ⟨h1, h2, h3⟩ := h
  refine ⟨fun x hx => by rw [xU_ne hx]; exact h1 x hx, fun x hx => by rw [xU_ne hx]; exact h2 x hx, fun p hp => ?_⟩
  rw [xU_at, xU_at]
  by_cases z : p = i
  · subst z; rw [va_up_self, va_up_self]; exact hj
  · rw [va_up_ne _ _ z, va_up_ne _ _ z]; exact h3 p (by omega)
theorem xU_self {α : Type} {f : Nat → Nat → α} {a k : Nat} {v : α} : xU f a k v a k = v := by rw [xU_at, va_up_self]
theorem xU_uu {α : Type} {f : Nat → Nat → α} {a k : Nat} {v w : α} : xU (xU f a k v) a k w = xU f a k w := by
  unfold xU
  funext x
  by_cases h : x = a
  · subst h; rw [va_up_self, va_up_self, va_up_self]
    funext y
    by_cases h2 : y = k
    · subst h2; rw [va_up_self, va_up_self]
    · rw [va_up_ne _ _ h2, va_up_ne _ _ h2, va_up_ne _ _ h2]
  · rw [va_up_ne _ _ h, va_up_ne _ _ h, va_up_ne _ _ h]
set_option maxRecDepth 100000 in
set_option maxHeartbeats 1000000 in
theorem jfind_10 (d L : Nat) (mi : xmi) (ml : xml) {n : Nat} {K T : Nat → Nat} (hP : PRG mi n K T) (hw : WF n K T) (hm : ∀ i, i < 64 → (hb (ml 8 2) i = true ↔ ∃ h, Rh n K T i h)) : ∀ (f i : Nat), i ≤ n → n - i < f → ∀ (a : xmi) (b : xml), fJ n K (fun i => ∃ h, Rh n K T i h) mi ml i a b → xB (d + 4) mX0_find L (fun rr a b => rr = none ∧ fJ n K (fun i => ∃ h, Rh n K T i h) mi ml n a b) (10, [(0, .ref 10), (1, .int (nI i))], [], XM L a b) := by
  have hn64 := hP.2.1
  intro f
  induction f with
  | zero => intro i h1 h2; omega
  | succ f ih =>
    intro i hle hlt a b hJ
    have hPa : PRG a n K T := hP.frame (hJ.1 1 (by decide)) (hJ.1 2 (by decide)) (hJ.1 3 (by decide)) (hJ.1 1002 (by decide)) (hJ.1 1003 (by decide))
    refine xB.go 3 (15, [(0, .ref 10), (1, .int (nI i))], [.ref 1, .int (nI i)], XM L a b) rfl ?_
    refine xB.c1 40 [.ref 1] [.int (nI i)] (c_size _ L _ _) rfl ?_
    refine xB.cg (18, [(0, .ref 10), (1, .int (nI i))], [.int (nI n), .int (nI i)], XM L a b) (by rw [hPa.1]) ?_
    refine xB.bp ((nI n) ≤ (nI i)) (107, [(0, .ref 10), (1, .int (nI i))], [], XM L a b) (21, [(0, .ref 10), (1, .int (nI i))], [], XM L a b) rfl (fun h1 => ?_) (fun h1 => ?_)
    · refine xB.rt none a b rfl ?_
      have hge : n ≤ i := (nI_leI (by omega) (by omega)).mp h1
      obtain rfl : i = n := by omega
      exact ⟨rfl, hJ⟩
    · have hin : i < n := (nI_ltI (by omega) (by omega)).mp (i_nle.mp h1)
      have hk := (hP.2.2.1 i hin).2
      have hi64 : i < 64 := by omega
      have hmb : hb (b 8 2) i = true ↔ ∃ h, Rh n K T i h := by rw [hJ.2.1 8 (by decide)]; exact hm i hi64
      have hPa1 : ∀ {y : Int32} {z : Nat}, PRG (xU a 14 z y) n K T := fun {y z} => hPa.frame (xU_ne (by decide)) (xU_ne (by decide)) (xU_ne (by decide)) (xU_ne (by decide)) (xU_ne (by decide))
      refine xB.go 4 (27, [(0, .ref 10), (1, .int (nI i))], [.int (-1), .int (nI i), .ref 14], XM L a b) rfl ?_
      refine xB.ck (xin (nI i) 64) (28, [(0, .ref 10), (1, .int (nI i))], [], XM L (xU a 14 (nI i).toNatClampNeg (-1)) b) rfl (xin_of hi64 (by decide) rfl) ?_
      refine xB.go 4 (34, [(0, .ref 10), (1, .int (nI i))], [.long 0, .int (nI i), .ref 15], XM L (xU a 14 (nI i).toNatClampNeg (-1)) b) rfl ?_
      refine xB.ck (xin (nI i) 64) (35, [(0, .ref 10), (1, .int (nI i))], [], XM L (xU a 14 (nI i).toNatClampNeg (-1)) (xU b 15 (nI i).toNatClampNeg 0)) rfl (xin_of hi64 (by decide) rfl) ?_
      refine xB.go 3 (40, [(0, .ref 10), (1, .int (nI i))], [.int (nI i), .ref 8], XM L (xU a 14 (nI i).toNatClampNeg (-1)) (xU b 15 (nI i).toNatClampNeg 0)) rfl ?_
      refine xB.c1 51 [.ref 8, .int (nI i)] [] (c_isMetN _ L _ _ hi64) rfl ?_
      refine xB.bz (hb (b 8 2) i = true) (101, [(0, .ref 10), (1, .int (nI i))], [], XM L (xU a 14 (nI i).toNatClampNeg (-1)) (xU b 15 (nI i).toNatClampNeg 0)) (46, [(0, .ref 10), (1, .int (nI i))], [], XM L (xU a 14 (nI i).toNatClampNeg (-1)) (xU b 15 (nI i).toNatClampNeg 0)) rfl (fun h2 => ?_) (fun h2 => ?_)
      · refine xB.go 2 (10, [(0, .ref 10), (1, .int ((nI i) + 1))], [], XM L (xU a 14 (nI i).toNatClampNeg (-1)) (xU b 15 (nI i).toNatClampNeg 0)) rfl ?_
        rw [nI_1, nI_clamp (by omega)]
        exact ih (i + 1) (by omega) (by omega) _ _ (hJ.next ⟨fun z => absurd (hmb.mpr z.1) h2, fun _ => ⟨rfl, rfl⟩⟩)
      · refine xB.go 3 (51, [(0, .ref 10), (1, .int (nI i))], [.int (nI i), .ref 1], XM L (xU a 14 (nI i).toNatClampNeg (-1)) (xU b 15 (nI i).toNatClampNeg 0)) rfl ?_
        refine xB.c1 42 [.ref 1, .int (nI i)] [] (c_kindN _ L _ _ hPa1 hin) rfl ?_
        refine xB.go 1 (55, [(0, .ref 10), (1, .int (nI i))], [.int 5, .int (nI (K i))], XM L (xU a 14 (nI i).toNatClampNeg (-1)) (xU b 15 (nI i).toNatClampNeg 0)) rfl ?_
        refine xB.bp (¬ (nI (K i)) = 5) (101, [(0, .ref 10), (1, .int (nI i))], [], XM L (xU a 14 (nI i).toNatClampNeg (-1)) (xU b 15 (nI i).toNatClampNeg 0)) (58, [(0, .ref 10), (1, .int (nI i))], [], XM L (xU a 14 (nI i).toNatClampNeg (-1)) (xU b 15 (nI i).toNatClampNeg 0)) rfl (fun h3 => ?_) (fun h3 => ?_)
        · refine xB.go 2 (10, [(0, .ref 10), (1, .int ((nI i) + 1))], [], XM L (xU a 14 (nI i).toNatClampNeg (-1)) (xU b 15 (nI i).toNatClampNeg 0)) rfl ?_
          rw [nI_1, nI_clamp (by omega)]
          exact ih (i + 1) (by omega) (by omega) _ _ (hJ.next ⟨fun z => absurd z.2 (k_ne (c := 5) h3), fun _ => ⟨rfl, rfl⟩⟩)
        · refine xB.go 5 (65, [(0, .ref 10), (1, .int (nI i))], [.int (nI i), .ref 10, .int (nI i), .ref 14], XM L (xU a 14 (nI i).toNatClampNeg (-1)) (xU b 15 (nI i).toNatClampNeg 0)) rfl ?_
          refine xB.ca 7 [.ref 10, .int (nI i)] [.int (nI i), .ref 14] (c_nearestFor _ L _ _ hPa1 hi64) rfl ?_
          intro rr a0 b0 hq0
          obtain ⟨ha0, hb0, v, rfl, hNF⟩ := hq0
          rw [ha0, hb0]
          show xB _ _ L _ (68, [(0, .ref 10), (1, .int (nI i))], [.int v, .int (nI i), .ref 14], XM L (xU a 14 (nI i).toNatClampNeg (-1)) (xU b 15 (nI i).toNatClampNeg 0))
          refine xB.ck (xin (nI i) 64) (69, [(0, .ref 10), (1, .int (nI i))], [], XM L (xU (xU a 14 (nI i).toNatClampNeg (-1)) 14 (nI i).toNatClampNeg v) (xU b 15 (nI i).toNatClampNeg 0)) rfl (xin_of hi64 (by decide) rfl) ?_
          refine xB.go 6 (79, [(0, .ref 10), (1, .int (nI i))], [.int (nI i), .ref 11, .int (nI i), .ref 15], XM L (xU (xU a 14 (nI i).toNatClampNeg (-1)) 14 (nI i).toNatClampNeg v) (xU b 15 (nI i).toNatClampNeg 0)) rfl ?_
          refine xB.ck (xin (nI i) 64) (80, [(0, .ref 10), (1, .int (nI i))], [.long (b 11 (nI i).toNatClampNeg), .int (nI i), .ref 15], XM L (xU (xU a 14 (nI i).toNatClampNeg (-1)) 14 (nI i).toNatClampNeg v) (xU b 15 (nI i).toNatClampNeg 0)) rfl (xin_of hi64 (by decide) rfl) ?_
          refine xB.go 5 (89, [(0, .ref 10), (1, .int (nI i))], [.int (nI i), .ref 14, .ref 11, .long (b 11 (nI i).toNatClampNeg), .int (nI i), .ref 15], XM L (xU (xU a 14 (nI i).toNatClampNeg (-1)) 14 (nI i).toNatClampNeg v) (xU b 15 (nI i).toNatClampNeg 0)) rfl ?_
          refine xB.ck (xin (nI i) 64) (90, [(0, .ref 10), (1, .int (nI i))], [.int ((xU (xU a 14 (nI i).toNatClampNeg (-1)) 14 (nI i).toNatClampNeg v) 14 (nI i).toNatClampNeg), .ref 11, .long (b 11 (nI i).toNatClampNeg), .int (nI i), .ref 15], XM L (xU (xU a 14 (nI i).toNatClampNeg (-1)) 14 (nI i).toNatClampNeg v) (xU b 15 (nI i).toNatClampNeg 0)) rfl (xin_of hi64 (by decide) rfl) ?_
          refine xB.cg (90, [(0, .ref 10), (1, .int (nI i))], [.int v, .ref 11, .long (b 11 (nI i).toNatClampNeg), .int (nI i), .ref 15], XM L (xU (xU a 14 (nI i).toNatClampNeg (-1)) 14 (nI i).toNatClampNeg v) (xU b 15 (nI i).toNatClampNeg 0)) (by rw [xU_self]) ?_
          refine xB.c1 88 [.int v] [.ref 11, .long (b 11 (nI i).toNatClampNeg), .int (nI i), .ref 15] (c_bit _ L (xU (xU a 14 (nI i).toNatClampNeg (-1)) 14 (nI i).toNatClampNeg v) (xU b 15 (nI i).toNatClampNeg 0) v ) rfl ?_
          refine xB.go 2 (97, [(0, .ref 10), (1, .int (nI i))], [.long ((xbit v) ^^^ (-1)), .ref 11, .long (b 11 (nI i).toNatClampNeg), .int (nI i), .ref 15], XM L (xU (xU a 14 (nI i).toNatClampNeg (-1)) 14 (nI i).toNatClampNeg v) (xU b 15 (nI i).toNatClampNeg 0)) rfl ?_
          refine xB.ca 8 [.long (b 11 (nI i).toNatClampNeg), .ref 11, .long ((xbit v) ^^^ (-1))] [.int (nI i), .ref 15] (c_reach11 _ L _ _ _ _) rfl ?_
          intro rr a9 b9 hq9
          obtain ⟨ha9, hb9, Rr, rfl, hR⟩ := hq9
          rw [ha9, hb9]
          show xB _ _ L _ (100, [(0, .ref 10), (1, .int (nI i))], [.long Rr, .int (nI i), .ref 15], XM L (xU (xU a 14 (nI i).toNatClampNeg (-1)) 14 (nI i).toNatClampNeg v) (xU b 15 (nI i).toNatClampNeg 0))
          refine xB.ck (xin (nI i) 64) (101, [(0, .ref 10), (1, .int (nI i))], [], XM L (xU (xU a 14 (nI i).toNatClampNeg (-1)) 14 (nI i).toNatClampNeg v) (xU (xU b 15 (nI i).toNatClampNeg 0) 15 (nI i).toNatClampNeg Rr)) rfl (xin_of hi64 (by decide) rfl) ?_
          refine xB.go 2 (10, [(0, .ref 10), (1, .int ((nI i) + 1))], [], XM L (xU (xU a 14 (nI i).toNatClampNeg (-1)) 14 (nI i).toNatClampNeg v) (xU (xU b 15 (nI i).toNatClampNeg 0) 15 (nI i).toNatClampNeg Rr)) rfl ?_
          rw [nI_1, nI_clamp (by omega)]
          rw [xU_uu, xU_uu]
          refine ih (i + 1) (by omega) (by omega) _ _ (hJ.next ⟨fun _ => ⟨?_, fun j hj => ?_⟩, fun z => absurd ⟨hmb.mp h2, k_eq hk (c := 5) (by decide) (Classical.not_not.mp h3)⟩ z⟩)
          · exact NF.congr (b := xU b 15 i 0) (by rw [xU_ne (by decide), hJ.2.1 10 (by decide)]) (by rw [xU_ne (by decide), hJ.2.1 13 (by decide)]) (by rw [nI_clamp (by omega)] at hNF; exact hNF)
          · rw [hR j hj, nI_clamp (by omega)]
            rw [← hJ.2.1 11 (by decide)]
            exact Iff.rfl
/-- what is known behind Junctions.find -/
def JCT (n : Nat) (K T : Nat → Nat) (a : xmi) (b : xml) : Prop := (∀ i j, i < 64 → j < 64 → (hb (b 11 i) j = true ↔ (∃ h, Rh n K T i h) ∧ Fo K T i j)) ∧ (∀ i j, i < 64 → j < 64 → (hb (b 12 j) i = true ↔ (∃ h, Rh n K T i h) ∧ Fo K T i j)) ∧ (∀ i, i < 64 → (hb (b 10 7) i = true ↔ (∃ h, Rh n K T i h) ∧ K i = 9)) ∧
  (∀ j, j < 64 → (hb (b 10 8) j = true ↔ hRE b (hb (-1)) j)) ∧ (∀ q, q < n → ∀ j, j < 64 → (hb (b 13 q) j = true ↔ hb (b 10 8) j = true ∧ j ≠ q ∧ ¬ hRE b (hb (oth q)) j)) ∧ ∀ p, p < n → jAt n K (fun i => ∃ h, Rh n K T i h) b p (a 14 p) (b 15 p)
theorem hRE.congr {b ml : xml} {al : Nat → Bool} {j : Nat} (h10 : b 10 7 = ml 10 7) (h12 : b 12 = ml 12) : hRE b al j = hRE ml al j := by unfold hRE; rw [h10, h12]
theorem jAt.congr {n p : Nat} {K : Nat → Nat} {met : Nat → Prop} {ml b : xml} {v : Int32} {R : Int64} (h : jAt n K met ml p v R) (h10 : b 10 = ml 10) (h13 : b 13 = ml 13) (h11 : b 11 = ml 11) : jAt n K met b p v R := by
  unfold jAt at h ⊢
  refine ⟨fun z => ⟨NF.congr h10.symm h13.symm (h.1 z).1, ?_⟩, h.2⟩
  rw [h11]; exact (h.1 z).2
theorem JCT_of {n : Nat} {K T : Nat → Nat} {mi a : xmi} {ml ml1 ml2 b : xml} (hw : WF n K T) (hE : fE K T (fun i => ∃ h, Rh n K T i h) ml ml1 n) (hF : fP ml1 ml2 n) (hJ : fJ n K (fun i => ∃ h, Rh n K T i h) mi ml2 n a b) : JCT n K T a b ∧ (∀ x, x ≠ 10 → x ≠ 11 → x ≠ 12 → x ≠ 13 → x ≠ 15 → b x = ml x) := by
  obtain ⟨e1, e2, e3, e4⟩ := hE
  obtain ⟨p1, p2, p3, p4⟩ := hF
  obtain ⟨j1, j2, j3⟩ := hJ
  have b11 : b 11 = ml1 11 := by rw [j2 11 (by decide), p1 11 (by decide) (by decide)]
  have b12 : b 12 = ml1 12 := by rw [j2 12 (by decide), p1 12 (by decide) (by decide)]
  have b10 : b 10 = ml2 10 := j2 10 (by decide)
  have b107 : b 10 7 = ml1 10 7 := by rw [b10, p2]
  refine ⟨⟨fun i j hi hj => ?_, fun i j hi hj => ?_, fun i hi => ?_, fun j hj => ?_, fun q hq j hj => ?_, fun p hp => ?_⟩, fun x x1 x2 x3 x4 x5 => by rw [j2 x x5, p1 x x4 x1, e1 x x1 x2 x3]⟩
  · rw [b11, e2 i j hi hj]; exact ⟨fun g => g.2, fun g => ⟨hw.lt g.1, g⟩⟩
  · rw [b12, e3 i j hi hj]; exact ⟨fun g => g.2, fun g => ⟨hw.lt g.1, g⟩⟩
  · rw [b107, e4 i hi]; exact ⟨fun g => g.2, fun g => ⟨hw.lt g.1, g⟩⟩
  · rw [hRE.congr b107 b12, b10]; exact p3 j hj
  · rw [hRE.congr b107 b12, b10, j2 13 (by decide)]; exact p4 q hq j hj
  · exact (j3 p hp).congr b10 (j2 13 (by decide)) (j2 11 (by decide))
set_option maxRecDepth 100000 in
set_option maxHeartbeats 1000000 in
theorem c_jfind (d L : Nat) (mi : xmi) (ml : xml) {n : Nat} {K T : Nat → Nat} (hP : PRG mi n K T) (hw : WF n K T) (hm : ∀ i, i < 64 → (hb (ml 8 2) i = true ↔ ∃ h, Rh n K T i h)) : xF (d + 5) 3 [.ref 10] L mi ml (fun rr a b => rr = none ∧ (∀ x, x ≠ 14 → a x = mi x) ∧ (∀ x, x ≠ 10 → x ≠ 11 → x ≠ 12 → x ≠ 13 → x ≠ 15 → b x = ml x) ∧ JCT n K T a b) := by
  refine xF.mk mX0_find rfl rfl ?_
  refine xB.go 1 (1, [(0, .ref 10)], [.ref 10], XM L mi ml) rfl ?_
  refine xB.ca 4 [.ref 10] [] (c_findEdges _ L _ _ hP hw hm) rfl ?_
  intro r1 a1 ml1 hq1
  obtain ⟨rfl, ha1, hE⟩ := hq1
  rw [ha1]
  show xB _ _ L _ (4, [(0, .ref 10)], [], XM L mi ml1)
  refine xB.go 1 (5, [(0, .ref 10)], [.ref 10], XM L mi ml1) rfl ?_
  refine xB.ca 6 [.ref 10] [] (c_findPassing _ L _ _ hP) rfl ?_
  intro r2 a2 ml2 hq2
  obtain ⟨rfl, ha2, hF⟩ := hq2
  rw [ha2]
  show xB _ _ L _ (8, [(0, .ref 10)], [], XM L mi ml2)
  refine xB.go 2 (10, [(0, .ref 10), (1, .int 0)], [], XM L mi ml2) rfl ?_
  have e8 : ml2 8 = ml 8 := by rw [hF.1 8 (by decide) (by decide), hE.1 8 (by decide) (by decide) (by decide)]
  have hx := jfind_10 d L mi ml2 hP hw (fun i hi => by rw [e8]; exact hm i hi) (n + 1) 0 (Nat.zero_le _) (by omega) mi ml2 ⟨fun _ _ => rfl, fun _ _ => rfl, fun p hp => absurd hp (Nat.not_lt_zero _)⟩
  refine xR.po hx (fun r M hq => ?_)
  obtain ⟨a, b, e, h1, hJ⟩ := hq
  have hZ := JCT_of hw hE hF hJ
  exact ⟨a, b, e, h1, hJ.1, hZ.2, hZ.1⟩
end
section
/-! Types: levels as two bits -/
def lv2 (p q : Bool) : Int32 := bif p then (bif q then 3 else 1) else (bif q then 2 else 0)
theorem lv2_or (p q p' q' : Bool) : lv2 p q ||| lv2 p' q' = lv2 (p || p') (q || q') := by cases p <;> cases q <;> cases p' <;> cases q' <;> decide +kernel
theorem lv2_bit : ∀ (p q : Bool) (i : Nat), i < 32 → (lv2 p q).toBitVec.getLsbD i = ((decide (i = 0) && p) || (decide (i = 1) && q)) := by decide +kernel
theorem lv2_inj {p q p' q' : Bool} (h : lv2 p q = lv2 p' q') : p = p' ∧ q = q' := by revert h; cases p <;> cases q <;> cases p' <;> cases q' <;> decide +kernel
theorem three_bit : ∀ i, i < 32 → (3 : Int32).toBitVec.getLsbD i = decide (i < 2) := by decide +kernel
theorem sh2 : ∀ k, k < 16 → ((2 * nI k).toInt64.toUInt64 &&& Int64.toUInt64 63).toNat = 2 * k := by decide +kernel
theorem lv_shift (x : Int64) {k : Nat} (hk : k < 16) : (Int64.toInt32 (x.toUInt64 >>> ((Int32.toInt64 (2 * nI k)).toUInt64 &&& Int64.toUInt64 63)).toInt64) &&& 3 = lv2 (hb x (2 * k)) (hb x (2 * k + 1)) := by
  have e : (x.toUInt64 >>> ((Int32.toInt64 (2 * nI k)).toUInt64 &&& Int64.toUInt64 63)).toInt64.toBitVec = x.toBitVec >>> (2 * k) := by
    apply BitVec.eq_of_toNat_eq
    show (x.toUInt64 >>> ((Int32.toInt64 (2 * nI k)).toUInt64 &&& Int64.toUInt64 63)).toNat = _
    rw [UInt64.toNat_shiftRight, sh2 k hk, Nat.mod_eq_of_lt (by omega), BitVec.toNat_ushiftRight]
    rfl
  refine Int32.toBitVec_inj.mp (BitVec.eq_of_getLsbD_eq fun i hi => ?_)
  rw [Int32.toBitVec_and, BitVec.getLsbD_and, lv2_bit _ _ i hi, three_bit i hi, Int64.toBitVec_toInt32, e, BitVec.getLsbD_signExtend, if_pos (show i < 64 by omega), BitVec.getLsbD_ushiftRight]
  unfold hb
  rcases (show i = 0 ∨ i = 1 ∨ 2 ≤ i by omega) with rfl | rfl | z
  · simp
  · simp
  · have h0 : ¬ i = 0 := by omega
    have h1 : ¬ i = 1 := by omega
    have h2 : ¬ i < 2 := by omega
    simp [h0, h1, h2]
def anyr (f : Nat → Bool) (lo : Nat) : Nat → Bool
  | 0 => false
  | c + 1 => anyr f lo c || f (lo + c)
theorem anyr_iff {f : Nat → Bool} {lo c : Nat} : anyr f lo c = true ↔ ∃ k, lo ≤ k ∧ k < lo + c ∧ f k = true := by
  induction c with
  | zero => exact ⟨(fun h => by cases h), fun ⟨k, h1, h2, _⟩ => by omega⟩
  | succ c ih =>
    unfold anyr
    rw [Bool.or_eq_true, ih]
    constructor
    · rintro (⟨k, h1, h2, h3⟩ | h)
      · exact ⟨k, h1, by omega, h3⟩
      · exact ⟨lo + c, by omega, by omega, h⟩
    · rintro ⟨k, h1, h2, h3⟩
      by_cases z : k = lo + c
      · subst z; exact Or.inr h3
      · exact Or.inl ⟨k, h1, by omega, h3⟩
/-- a bit of a pile's level; the surrounding's at place 16 -/
def tb (ml : xml) (b i k : Nat) : Bool := bif Nat.beq k 16 then hb (ml 16 (5 + b)) i else hb (ml 17 i) (2 * k + b)
def tkn (K : Nat → Nat) (ml : xml) (b i h : Nat) : Bool := anyr (fun k => hb (ml 17 i) (2 * k + b)) (h - tk (K i)) (tk (K i))
theorem c_heightN (d L : Nat) (mi : xmi) (ml : xml) {i h : Nat} (hi : i < 64) (hm : hb (ml 8 2) i = true) (hh : mi 9 i = nI h) : xFv (d + 2) 52 [.ref 8, .int (nI i)] L mi ml (.int (nI h)) mi ml := by
  have g := c_heightAt d L mi ml (nI i)
  rwa [if_pos ((hb_P hi).mpr hm), nI_clamp (by omega), hh] at g
set_option maxRecDepth 100000 in
set_option maxHeartbeats 1000000 in
theorem c_surroundingAt (d L : Nat) (mi : xmi) (ml : xml) {i : Nat} (hi64 : i < 64) : xFv (d + 2) 57 [.ref 16, .int (nI i)] L mi ml (.int (lv2 (hb (ml 16 5) i) (hb (ml 16 6) i))) mi ml := by
  refine xF.mk mX7_surroundingAt rfl rfl ?_
  refine xB.go 3 (5, [(0, .ref 16), (1, .int (nI i))], [.int (nI i), .long (ml 16 5)], XM L mi ml) rfl ?_
  refine xB.c1 89 [.long (ml 16 5), .int (nI i)] [] (c_holdsN _ L _ _ (ml 16 5) hi64) rfl ?_
  refine xB.bz (hb (ml 16 5) i = true) (15, [(0, .ref 16), (1, .int (nI i))], [], XM L mi ml) (11, [(0, .ref 16), (1, .int (nI i))], [], XM L mi ml) rfl (fun h1 => ?_) (fun h1 => ?_)
  · refine xB.go 4 (21, [(0, .ref 16), (1, .int (nI i))], [.int (nI i), .long (ml 16 6), .int 0], XM L mi ml) rfl ?_
    refine xB.c1 89 [.long (ml 16 6), .int (nI i)] [.int 0] (c_holdsN _ L _ _ (ml 16 6) hi64) rfl ?_
    refine xB.bz (hb (ml 16 6) i = true) (31, [(0, .ref 16), (1, .int (nI i))], [.int 0], XM L mi ml) (27, [(0, .ref 16), (1, .int (nI i))], [.int 0], XM L mi ml) rfl (fun h2 => ?_) (fun h2 => ?_)
    · refine xB.go 2 (33, [(0, .ref 16), (1, .int (nI i))], [.int 0], XM L mi ml) rfl ?_
      refine xB.rt (some (.int 0)) mi ml rfl ?_
      have e0 : hb (ml 16 5) i = false := by simpa using h1
      have e1 : hb (ml 16 6) i = false := by simpa using h2
      exact ⟨by rw [e0, e1]; rfl, rfl, rfl⟩
    · refine xB.go 3 (33, [(0, .ref 16), (1, .int (nI i))], [.int 2], XM L mi ml) rfl ?_
      refine xB.rt (some (.int 2)) mi ml rfl ?_
      have e0 : hb (ml 16 5) i = false := by simpa using h1
      have e1 : hb (ml 16 6) i = true := by simpa using h2
      exact ⟨by rw [e0, e1]; rfl, rfl, rfl⟩
  · refine xB.go 5 (21, [(0, .ref 16), (1, .int (nI i))], [.int (nI i), .long (ml 16 6), .int 1], XM L mi ml) rfl ?_
    refine xB.c1 89 [.long (ml 16 6), .int (nI i)] [.int 1] (c_holdsN _ L _ _ (ml 16 6) hi64) rfl ?_
    refine xB.bz (hb (ml 16 6) i = true) (31, [(0, .ref 16), (1, .int (nI i))], [.int 1], XM L mi ml) (27, [(0, .ref 16), (1, .int (nI i))], [.int 1], XM L mi ml) rfl (fun h3 => ?_) (fun h3 => ?_)
    · refine xB.go 2 (33, [(0, .ref 16), (1, .int (nI i))], [.int 1], XM L mi ml) rfl ?_
      refine xB.rt (some (.int 1)) mi ml rfl ?_
      have e0 : hb (ml 16 5) i = true := by simpa using h1
      have e1 : hb (ml 16 6) i = false := by simpa using h3
      exact ⟨by rw [e0, e1]; rfl, rfl, rfl⟩
    · refine xB.go 3 (33, [(0, .ref 16), (1, .int (nI i))], [.int 3], XM L mi ml) rfl ?_
      refine xB.rt (some (.int 3)) mi ml rfl ?_
      have e0 : hb (ml 16 5) i = true := by simpa using h1
      have e1 : hb (ml 16 6) i = true := by simpa using h3
      exact ⟨by rw [e0, e1]; rfl, rfl, rfl⟩
set_option maxRecDepth 100000 in
set_option maxHeartbeats 1000000 in
theorem c_levelOnPile (d L : Nat) (mi : xmi) (ml : xml) {n : Nat} {K T : Nat → Nat} (hP : PRG mi n K T) {i k : Nat} (hin : i < n) (hk : k < 16) : xFv (d + 2) 58 [.ref 16, .int (nI i), .int (nI k)] L mi ml (.int (lv2 (hb (ml 17 i) (2 * k)) (hb (ml 17 i) (2 * k + 1)))) mi ml := by
  refine xF.mk mX7_levelOnPile rfl rfl ?_
  refine xB.go 3 (5, [(0, .ref 16), (1, .int (nI i)), (2, .int (nI k))], [.int (nI i), .ref 1], XM L mi ml) rfl ?_
  refine xB.c1 41 [.ref 1, .int (nI i)] [] (c_has _ L mi ml (nI i) ) rfl ?_
  refine xB.bz (0 ≤ (nI i) ∧ (nI i) < mi 1 2) (20, [(0, .ref 16), (1, .int (nI i)), (2, .int (nI k))], [], XM L mi ml) (11, [(0, .ref 16), (1, .int (nI i)), (2, .int (nI k))], [], XM L mi ml) rfl (fun h1 => ?_) (fun h1 => ?_)
  · refine xB.go 1 (21, [(0, .ref 16), (1, .int (nI i)), (2, .int (nI k))], [.int 0], XM L mi ml) rfl ?_
    refine xB.rt (some (.int 0)) mi ml rfl ?_
    exact absurd ((hP.has (by have := hP.2.1; omega)).mpr hin) h1
  · refine xB.go 2 (14, [(0, .ref 16), (1, .int (nI i)), (2, .int (nI k))], [.int 16, .int (nI k)], XM L mi ml) rfl ?_
    refine xB.c1 86 [.int (nI k), .int 16] [] (c_isBetween _ L mi ml (nI k) 16 ) rfl ?_
    refine xB.bn (0 ≤ (nI k) ∧ (nI k) < 16) (22, [(0, .ref 16), (1, .int (nI i)), (2, .int (nI k))], [], XM L mi ml) (20, [(0, .ref 16), (1, .int (nI i)), (2, .int (nI k))], [], XM L mi ml) rfl (fun h2 => ?_) (fun h2 => ?_)
    · refine xB.go 3 (27, [(0, .ref 16), (1, .int (nI i)), (2, .int (nI k))], [.int (nI i), .ref 17], XM L mi ml) rfl ?_
      refine xB.ck (xin (nI i) 64) (28, [(0, .ref 16), (1, .int (nI i)), (2, .int (nI k))], [.long (ml 17 (nI i).toNatClampNeg)], XM L mi ml) rfl (xin_of (Nat.lt_of_lt_of_le hin hP.2.1) (by decide) rfl) ?_
      refine xB.go 7 (35, [(0, .ref 16), (1, .int (nI i)), (2, .int (nI k))], [.int ((Int64.toInt32 (Int64.toUInt64 (ml 17 (nI i).toNatClampNeg) >>> ((Int32.toInt64 (2 * (nI k))).toUInt64 &&& Int64.toUInt64 63)).toInt64) &&& 3)], XM L mi ml) rfl ?_
      refine xB.rt (some (.int ((Int64.toInt32 (Int64.toUInt64 (ml 17 (nI i).toNatClampNeg) >>> ((Int32.toInt64 (2 * (nI k))).toUInt64 &&& Int64.toUInt64 63)).toInt64) &&& 3))) mi ml rfl ?_
      exact ⟨by rw [nI_clamp (by have := hP.2.1; omega)]; exact congrArg (fun z => some (Value.int z)) (lv_shift _ hk), rfl, rfl⟩
    · refine xB.go 1 (21, [(0, .ref 16), (1, .int (nI i)), (2, .int (nI k))], [.int 0], XM L mi ml) rfl ?_
      refine xB.rt (some (.int 0)) mi ml rfl ?_
      exact absurd (show 0 ≤ nI k ∧ nI k < 16 from ⟨nI_pos' (by omega), nI_lt hk (by decide)⟩) h2
set_option maxRecDepth 100000 in
set_option maxHeartbeats 1000000 in
theorem takenAt_27 (d L : Nat) (mi : xmi) (ml : xml) {n : Nat} {K T : Nat → Nat} (hP : PRG mi n K T) {i h : Nat} (hin : i < n) (hmt : hb (ml 8 2) i = true) (hh : mi 9 i = nI h) (h16 : h ≤ 16) (htk : tk (K i) ≤ h) {lo : Nat} (hlo : lo = h - tk (K i)) : ∀ (f c : Nat), c ≤ tk (K i) → tk (K i) - c < f → xB (d + 2) mX7_takenAt L (fun rr x y => rr = some (.int (lv2 (tkn K ml 0 i h) (tkn K ml 1 i h))) ∧ x = mi ∧ y = ml) (27, [(0, .ref 16), (1, .int (nI i)), (2, .int (nI h)), (3, .int (lv2 (anyr (fun k => hb (ml 17 i) (2 * k + 0)) lo c) (anyr (fun k => hb (ml 17 i) (2 * k + 1)) lo c))), (4, .int (nI (lo + c)))], [], XM L mi ml) := by
  intro f
  induction f with
  | zero => intro c h1 h2; omega
  | succ f ih =>
    intro c hle hlt
    refine xB.go 2 (30, [(0, .ref 16), (1, .int (nI i)), (2, .int (nI h)), (3, .int (lv2 (anyr (fun k => hb (ml 17 i) (2 * k + 0)) lo c) (anyr (fun k => hb (ml 17 i) (2 * k + 1)) lo c))), (4, .int (nI (lo + c)))], [.int (nI h), .int (nI (lo + c))], XM L mi ml) rfl ?_
    refine xB.bp ((nI h) ≤ (nI (lo + c))) (49, [(0, .ref 16), (1, .int (nI i)), (2, .int (nI h)), (3, .int (lv2 (anyr (fun k => hb (ml 17 i) (2 * k + 0)) lo c) (anyr (fun k => hb (ml 17 i) (2 * k + 1)) lo c))), (4, .int (nI (lo + c)))], [], XM L mi ml) (33, [(0, .ref 16), (1, .int (nI i)), (2, .int (nI h)), (3, .int (lv2 (anyr (fun k => hb (ml 17 i) (2 * k + 0)) lo c) (anyr (fun k => hb (ml 17 i) (2 * k + 1)) lo c))), (4, .int (nI (lo + c)))], [], XM L mi ml) rfl (fun h1 => ?_) (fun h1 => ?_)
    · refine xB.go 1 (50, [(0, .ref 16), (1, .int (nI i)), (2, .int (nI h)), (3, .int (lv2 (anyr (fun k => hb (ml 17 i) (2 * k + 0)) lo c) (anyr (fun k => hb (ml 17 i) (2 * k + 1)) lo c))), (4, .int (nI (lo + c)))], [.int (lv2 (anyr (fun k => hb (ml 17 i) (2 * k + 0)) lo c) (anyr (fun k => hb (ml 17 i) (2 * k + 1)) lo c))], XM L mi ml) rfl ?_
      refine xB.rt (some (.int (lv2 (anyr (fun k => hb (ml 17 i) (2 * k + 0)) lo c) (anyr (fun k => hb (ml 17 i) (2 * k + 1)) lo c)))) mi ml rfl ?_
      have hge : h ≤ lo + c := (nI_leI (by omega) (by omega)).mp h1
      obtain rfl : c = tk (K i) := by omega
      subst hlo
      exact ⟨rfl, rfl, rfl⟩
    · have hlt2 : lo + c < h := Nat.lt_of_not_le (fun z => h1 (nI_le z (by omega)))
      have hk16 : lo + c < 16 := by omega
      refine xB.go 4 (38, [(0, .ref 16), (1, .int (nI i)), (2, .int (nI h)), (3, .int (lv2 (anyr (fun k => hb (ml 17 i) (2 * k + 0)) lo c) (anyr (fun k => hb (ml 17 i) (2 * k + 1)) lo c))), (4, .int (nI (lo + c)))], [.int (nI (lo + c)), .int (nI i), .ref 16, .int (lv2 (anyr (fun k => hb (ml 17 i) (2 * k + 0)) lo c) (anyr (fun k => hb (ml 17 i) (2 * k + 1)) lo c))], XM L mi ml) rfl ?_
      refine xB.c1 58 [.ref 16, .int (nI i), .int (nI (lo + c))] [.int (lv2 (anyr (fun k => hb (ml 17 i) (2 * k + 0)) lo c) (anyr (fun k => hb (ml 17 i) (2 * k + 1)) lo c))] (c_levelOnPile _ L _ _ hP hin hk16) rfl ?_
      refine xB.go 4 (27, [(0, .ref 16), (1, .int (nI i)), (2, .int (nI h)), (3, .int ((lv2 (anyr (fun k => hb (ml 17 i) (2 * k + 0)) lo c) (anyr (fun k => hb (ml 17 i) (2 * k + 1)) lo c)) ||| (lv2 (hb (ml 17 i) (2 * (lo + c))) (hb (ml 17 i) (2 * (lo + c) + 1))))), (4, .int ((nI (lo + c)) + 1))], [], XM L mi ml) rfl ?_
      have e1 := lv2_or (anyr (fun k => hb (ml 17 i) (2 * k + 0)) lo c) (anyr (fun k => hb (ml 17 i) (2 * k + 1)) lo c) (hb (ml 17 i) (2 * (lo + c))) (hb (ml 17 i) (2 * (lo + c) + 1))
      rw [nI_1, e1]
      exact ih (c + 1) (by omega) (by omega)
set_option maxRecDepth 100000 in
set_option maxHeartbeats 1000000 in
theorem c_takenAt (d L : Nat) (mi : xmi) (ml : xml) {n : Nat} {K T : Nat → Nat} (hP : PRG mi n K T) {i h : Nat} (hin : i < n) (hmt : hb (ml 8 2) i = true) (hh : mi 9 i = nI h) (h16 : h ≤ 16) (htk : tk (K i) ≤ h) : xFv (d + 3) 63 [.ref 16, .int (nI i)] L mi ml (.int (lv2 (tkn K ml 0 i h) (tkn K ml 1 i h))) mi ml := by
  have hk := (hP.2.2.1 i hin).2
  have hi64 : i < 64 := Nat.lt_of_lt_of_le hin hP.2.1
  refine xF.mk mX7_takenAt rfl rfl ?_
  refine xB.go 3 (5, [(0, .ref 16), (1, .int (nI i))], [.int (nI i), .ref 8], XM L mi ml) rfl ?_
  refine xB.c1 52 [.ref 8, .int (nI i)] [] (c_heightN _ L _ _ hi64 hmt hh) rfl ?_
  refine xB.go 8 (20, [(0, .ref 16), (1, .int (nI i)), (2, .int (nI h)), (3, .int 0)], [.int (nI i), .ref 1, .ref 1002, .int (nI h)], XM L mi ml) rfl ?_
  refine xB.c1 42 [.ref 1, .int (nI i)] [.ref 1002, .int (nI h)] (c_kindN _ L _ _ hP hin) rfl ?_
  refine xB.ck (xin (nI (K i)) 10) (24, [(0, .ref 16), (1, .int (nI i)), (2, .int (nI h)), (3, .int 0)], [.int (mi 1002 (nI (K i)).toNatClampNeg), .int (nI h)], XM L mi ml) rfl (xin_of hk (by decide) rfl) ?_
  refine xB.cg (24, [(0, .ref 16), (1, .int (nI i)), (2, .int (nI h)), (3, .int 0)], [.int (nI (tk (K i))), .int (nI h)], XM L mi ml) (by rw [nI_clamp (by omega), hP.2.2.2.2.1, (tk_le _ hk).2]) ?_
  refine xB.go 2 (27, [(0, .ref 16), (1, .int (nI i)), (2, .int (nI h)), (3, .int 0), (4, .int ((nI h) - (nI (tk (K i)))))], [], XM L mi ml) rfl ?_
  rw [nI_subeq htk]
  exact takenAt_27 d L mi ml hP hin hmt hh h16 htk (lo := h - tk (K i)) rfl (tk (K i) + 1) 0 (Nat.zero_le _) (by omega)
end
section
/-! Types: one place spreads -/
def NUM (mi : xmi) (n : Nat) (K T : Nat → Nat) : Prop := ∀ i, i < n → (K i = 1 ∨ K i = 2 → mi 3 i = nI (T i) ∧ T i < 8) ∧ (K i = 6 ∨ K i = 7 → mi 3 i = nI (T i) ∧ T i < 2) ∧ (K i = 8 → mi 3 i = nI (T i) ∧ T i < 4) ∧ (K i = 3 → mi 3 i = nI (T i) ∧ T i < 7)
def LEV (mi : xmi) (vL aL cL : Nat → Nat → Bool) : Prop := (∀ x, x < 8 → mi 5 x = lv2 (vL 0 x) (vL 1 x)) ∧ (∀ x, x < 2 → mi 6 x = lv2 (aL 0 x) (aL 1 x)) ∧ (∀ x, x < 4 → mi 7 x = lv2 (cL 0 x) (cL 1 x))
def rd (K T : Nat → Nat) (vL aL : Nat → Nat → Bool) (b i : Nat) : Bool := (decide (K i = 1) && vL b (T i)) || (decide (K i = 6) && aL b (T i))
theorem sl_lvN {mi : xmi} {a m t : Nat} (hm : m < 2 ^ 31) (ht : t < m) : sl_lv mi a (nI m) (nI t) = mi a t := by
  unfold sl_lv; rw [if_pos ((nI_rng hm (by omega)).mpr ht), nI_clamp (by omega)]
theorem c_numberN (d L : Nat) (mi : xmi) (ml : xml) {n : Nat} {K T : Nat → Nat} (hP : PRG mi n K T) {i : Nat} (hi : i < n) : xFv (d + 2) 43 [.ref 1, .int (nI i)] L mi ml (.int (mi 3 i)) mi ml := by
  have h := c_numberAt d L mi ml (nI i) hP.1 hP.2.1
  rwa [hP.num hi] at h
set_option maxRecDepth 100000 in
set_option maxHeartbeats 1000000 in
theorem c_readBy (d L : Nat) (mi : xmi) (ml : xml) {n : Nat} {K T : Nat → Nat} {vL aL cL : Nat → Nat → Bool} (hP : PRG mi n K T) (hN : NUM mi n K T) (hV : LEV mi vL aL cL) {i : Nat} (hin : i < n) : xFv (d + 3) 64 [.ref 16, .int (nI i)] L mi ml (.int (lv2 (rd K T vL aL 0 i) (rd K T vL aL 1 i))) mi ml := by
  have hk := (hP.2.2.1 i hin).2
  refine xF.mk mX7_readBy rfl rfl ?_
  refine xB.go 3 (5, [(0, .ref 16), (1, .int (nI i))], [.int (nI i), .ref 1], XM L mi ml) rfl ?_
  refine xB.c1 43 [.ref 1, .int (nI i)] [] (c_numberN _ L _ _ hP hin) rfl ?_
  refine xB.go 4 (14, [(0, .ref 16), (1, .int (nI i)), (2, .int (mi 3 i))], [.int (nI i), .ref 1], XM L mi ml) rfl ?_
  refine xB.c1 42 [.ref 1, .int (nI i)] [] (c_kindN _ L _ _ hP hin) rfl ?_
  by_cases h1 : (nI (K i)) = 1
  · refine xB.tp h1 ?_
    refine xB.go 1 (44, [(0, .ref 16), (1, .int (nI i)), (2, .int (mi 3 i))], [], XM L mi ml) rfl ?_
    refine xB.go 3 (49, [(0, .ref 16), (1, .int (nI i)), (2, .int (mi 3 i))], [.int (mi 3 i), .ref 4], XM L mi ml) rfl ?_
    refine xB.c1 11 [.ref 4, .int (mi 3 i)] [] (c_ofVariable _ L mi ml (mi 3 i) ) rfl ?_
    refine xB.rt (some (.int (sl_lv mi 5 8 (mi 3 i)))) mi ml rfl ?_
    have g := k_eq hk (c := 1) (by decide) h1
    have g2 := (hN i hin).1 (Or.inl g)
    exact ⟨by rw [g2.1, show (8 : Int32) = nI 8 from rfl, sl_lvN (by decide) g2.2, hV.1 _ g2.2]; simp [rd, g], rfl, rfl⟩
  by_cases h2 : (nI (K i)) = 6
  · refine xB.tp h2 ?_
    refine xB.go 1 (53, [(0, .ref 16), (1, .int (nI i)), (2, .int (mi 3 i))], [], XM L mi ml) rfl ?_
    refine xB.go 3 (58, [(0, .ref 16), (1, .int (nI i)), (2, .int (mi 3 i))], [.int (mi 3 i), .ref 4], XM L mi ml) rfl ?_
    refine xB.c1 12 [.ref 4, .int (mi 3 i)] [] (c_ofArray _ L mi ml (mi 3 i) ) rfl ?_
    refine xB.rt (some (.int (sl_lv mi 6 2 (mi 3 i)))) mi ml rfl ?_
    have g := k_eq hk (c := 6) (by decide) h2
    have g2 := (hN i hin).2.1 (Or.inl g)
    exact ⟨by rw [g2.1, show (2 : Int32) = nI 2 from rfl, sl_lvN (by decide) g2.2, hV.2.1 _ g2.2]; simp [rd, g], rfl, rfl⟩
  refine xB.st (62, [(0, .ref 16), (1, .int (nI i)), (2, .int (mi 3 i))], [], XM L mi ml) (xls_d (mt := mX7_readBy) rfl rfl (xlk_2 (xne_toInt (k := 1) (by decide) h1) (xne_toInt (k := 6) (by decide) h2)) rfl) ?_
  refine xB.go 1 (63, [(0, .ref 16), (1, .int (nI i)), (2, .int (mi 3 i))], [.int 0], XM L mi ml) rfl ?_
  refine xB.rt (some (.int 0)) mi ml rfl ?_
  have g1 := k_ne (c := 1) h1
  have g6 := k_ne (c := 6) h2
  exact ⟨by simp [rd, g1, g6, lv2], rfl, rfl⟩
theorem xU_id {α : Type} (f : Nat → Nat → α) (a k : Nat) : xU f a k (f a k) = f := by
  unfold xU; funext x
  by_cases h : x = a
  · subst h; rw [va_up_self]; funext y
    by_cases h2 : y = k
    · subst h2; rw [va_up_self]
    · rw [va_up_ne _ _ h2]
  · rw [va_up_ne _ _ h]
theorem or_sub {x y : Int64} (h : y &&& (x ^^^ (-1)) = 0) : x ||| y = x := by
  refine hb_ext fun i hi => ?_
  have := (hb_eq0.mp h) i hi
  rw [hb_and, hb_not _ hi] at this
  rw [hb_or]
  cases hx : hb x i <;> cases hy : hb y i <;> simp_all
/-- a pile grows: what holds behind it, whether there was growth -/
def gpl (ml : xml) (o : Option Nat) (left : Int64) : xml := match o with
  | some q => xU ml 17 q (ml 17 q ||| left)
  | none => ml
def gpm (mi : xmi) (ml : xml) (o : Option Nat) (left : Int64) : xmi := match o with
  | some q => if left &&& (ml 17 q ^^^ (-1)) = 0 then mi else xU mi 16 7 1
  | none => mi
set_option maxRecDepth 100000 in
set_option maxHeartbeats 1000000 in
theorem c_growPile (d L : Nat) (mi : xmi) (ml : xml) {n : Nat} {K T : Nat → Nat} (hP : PRG mi n K T) (x : Int32) (left : Int64) (o : Option Nat) (ho : eOk mi n x o) : xFn (d + 2) 65 [.ref 16, .int x, .long left] L mi ml (gpm mi ml o left) (gpl ml o left) := by
  refine xF.mk mX7_growPile rfl rfl ?_
  refine xB.go 3 (5, [(0, .ref 16), (1, .int x), (2, .long left)], [.int x, .ref 1], XM L mi ml) rfl ?_
  refine xB.c1 41 [.ref 1, .int x] [] (c_has _ L mi ml x ) rfl ?_
  refine xB.bz (0 ≤ x ∧ x < mi 1 2) (43, [(0, .ref 16), (1, .int x), (2, .long left)], [], XM L mi ml) (11, [(0, .ref 16), (1, .int x), (2, .long left)], [], XM L mi ml) rfl (fun h1 => ?_) (fun h1 => ?_)
  · refine xB.rt none mi ml rfl ?_
    cases o with
    | none => exact ⟨rfl, rfl, rfl⟩
    | some q =>
      obtain ⟨o1, o2⟩ := ho
      subst o2
      exact absurd ((hP.has (by have := hP.2.1; omega)).mpr o1) h1
  · refine xB.go 4 (17, [(0, .ref 16), (1, .int x), (2, .long left)], [.int x, .ref 17, .long left], XM L mi ml) rfl ?_
    refine xB.ck (xin x 64) (18, [(0, .ref 16), (1, .int x), (2, .long left)], [.long (ml 17 x.toNatClampNeg), .long left], XM L mi ml) rfl (xck hP.1 hP.2.1 h1) ?_
    refine xB.go 5 (25, [(0, .ref 16), (1, .int x), (2, .long left)], [.int (lg_cmp (left &&& ((ml 17 x.toNatClampNeg) ^^^ (-1))) 0)], XM L mi ml) rfl ?_
    refine xB.lz (left &&& ((ml 17 x.toNatClampNeg) ^^^ (-1))) 0 (43, [(0, .ref 16), (1, .int x), (2, .long left)], [], XM L mi ml) (28, [(0, .ref 16), (1, .int x), (2, .long left)], [], XM L mi ml) rfl (fun h2 => ?_) (fun h2 => ?_)
    · refine xB.rt none mi ml rfl ?_
      cases o with
      | none => exact absurd h1 ho
      | some q =>
        obtain ⟨o1, o2⟩ := ho
        subst o2
        rw [nI_clamp (by have := hP.2.1; omega)] at h2
        refine ⟨rfl, ?_, ?_⟩
        · show mi = if left &&& (ml 17 q ^^^ (-1)) = 0 then mi else xU mi 16 7 1
          rw [if_pos h2]
        · show ml = xU ml 17 q (ml 17 q ||| left)
          rw [or_sub h2, xU_id]
    · refine xB.go 4 (34, [(0, .ref 16), (1, .int x), (2, .long left)], [.int x, .ref 17, .int x, .ref 17], XM L mi ml) rfl ?_
      refine xB.ck (xin x 64) (35, [(0, .ref 16), (1, .int x), (2, .long left)], [.long (ml 17 x.toNatClampNeg), .int x, .ref 17], XM L mi ml) rfl (xck hP.1 hP.2.1 h1) ?_
      refine xB.go 2 (37, [(0, .ref 16), (1, .int x), (2, .long left)], [.long ((ml 17 x.toNatClampNeg) ||| left), .int x, .ref 17], XM L mi ml) rfl ?_
      refine xB.ck (xin x 64) (38, [(0, .ref 16), (1, .int x), (2, .long left)], [], XM L mi (xU ml 17 x.toNatClampNeg ((ml 17 x.toNatClampNeg) ||| left))) rfl (xck hP.1 hP.2.1 h1) ?_
      refine xB.go 3 (43, [(0, .ref 16), (1, .int x), (2, .long left)], [], XM L (xU mi 16 7 1) (xU ml 17 x.toNatClampNeg ((ml 17 x.toNatClampNeg) ||| left))) rfl ?_
      refine xB.rt none (xU mi 16 7 1) (xU ml 17 x.toNatClampNeg ((ml 17 x.toNatClampNeg) ||| left)) rfl ?_
      cases o with
      | none => exact absurd h1 ho
      | some q =>
        obtain ⟨o1, o2⟩ := ho
        subst o2
        rw [nI_clamp (by have := hP.2.1; omega)] at h2
        refine ⟨rfl, ?_, ?_⟩
        · show xU mi 16 7 1 = if left &&& (ml 17 q ^^^ (-1)) = 0 then mi else xU mi 16 7 1
          rw [if_neg h2]
        · rw [nI_clamp (by have := hP.2.1; omega)]; rfl
/-- the surroundings of a region grow by a level -/
def gsA (x R : Int64) (p : Bool) : Int64 := bif p then R &&& (x ^^^ (-1)) else 0
def gsl (ml : xml) (R : Int64) (p q : Bool) : xml := xU (xU ml 16 5 (ml 16 5 ||| gsA (ml 16 5) R p)) 16 6 (ml 16 6 ||| gsA (ml 16 6) R q)
def gsm (mi : xmi) (ml : xml) (R : Int64) (p q : Bool) : xmi := if gsA (ml 16 5) R p ||| gsA (ml 16 6) R q = 0 then mi else xU mi 16 7 1
theorem below1 : ∀ p q : Bool, (1 : Int32) &&& (lv2 p q ^^^ (-1)) = 0 ↔ p = true := by decide +kernel
theorem below2 : ∀ p q : Bool, (2 : Int32) &&& (lv2 p q ^^^ (-1)) = 0 ↔ q = true := by decide +kernel
theorem or_0 {x y : Int64} (h : x ||| y = 0) : x = 0 ∧ y = 0 := by
  have h := hb_eq0.mp h
  refine ⟨hb_eq0.mpr fun i hi => ?_, hb_eq0.mpr fun i hi => ?_⟩
  · have := h i hi; rw [hb_or, Bool.or_eq_false_iff] at this; exact this.1
  · have := h i hi; rw [hb_or, Bool.or_eq_false_iff] at this; exact this.2
theorem or_z (x : Int64) : x ||| 0 = x := hb_ext fun i _ => by rw [hb_or, hb_0, Bool.or_false]
set_option maxRecDepth 100000 in
set_option maxHeartbeats 1000000 in
theorem c_growSurroundings (d L : Nat) (mi : xmi) (ml : xml) (Rg : Int64) (p q : Bool) : xFn (d + 2) 66 [.ref 16, .long Rg, .int (lv2 p q)] L mi ml (gsm mi ml Rg p q) (gsl ml Rg p q) := by
  refine xF.mk mX7_growSurroundings rfl rfl ?_
  refine xB.go 2 (2, [(0, .ref 16), (1, .long Rg), (3, .int (lv2 p q))], [.int (lv2 p q), .int 1], XM L mi ml) rfl ?_
  refine xB.c1 87 [.int 1, .int (lv2 p q)] [] (c_isBelow _ L mi ml 1 (lv2 p q) ) rfl ?_
  refine xB.bz (1 &&& ((lv2 p q) ^^^ (-1)) = 0) (21, [(0, .ref 16), (1, .long Rg), (3, .int (lv2 p q))], [], XM L mi ml) (8, [(0, .ref 16), (1, .long Rg), (3, .int (lv2 p q))], [], XM L mi ml) rfl (fun h1 => ?_) (fun h1 => ?_)
  · refine xB.go 4 (26, [(0, .ref 16), (1, .long Rg), (3, .int (lv2 p q)), (4, .long 0)], [.int (lv2 p q), .int 2], XM L mi ml) rfl ?_
    refine xB.c1 87 [.int 2, .int (lv2 p q)] [] (c_isBelow _ L mi ml 2 (lv2 p q) ) rfl ?_
    refine xB.bz (2 &&& ((lv2 p q) ^^^ (-1)) = 0) (45, [(0, .ref 16), (1, .long Rg), (3, .int (lv2 p q)), (4, .long 0)], [], XM L mi ml) (32, [(0, .ref 16), (1, .long Rg), (3, .int (lv2 p q)), (4, .long 0)], [], XM L mi ml) rfl (fun h2 => ?_) (fun h2 => ?_)
    · refine xB.go 7 (55, [(0, .ref 16), (1, .long Rg), (3, .int (lv2 p q)), (4, .long 0), (6, .long 0)], [.int (lg_cmp (0 ||| 0) 0)], XM L mi ml) rfl ?_
      refine xB.lz (0 ||| 0) 0 (85, [(0, .ref 16), (1, .long Rg), (3, .int (lv2 p q)), (4, .long 0), (6, .long 0)], [], XM L mi ml) (58, [(0, .ref 16), (1, .long Rg), (3, .int (lv2 p q)), (4, .long 0), (6, .long 0)], [], XM L mi ml) rfl (fun h3 => ?_) (fun h3 => ?_)
      · refine xB.rt none mi ml rfl ?_
        have ep : p = false := by cases p with | false => rfl | true => exact absurd ((below1 true q).mpr rfl) h1
        have eq : q = false := by cases q with | false => rfl | true => exact absurd ((below2 p true).mpr rfl) h2
        subst ep; subst eq
        obtain ⟨z1, z2⟩ := or_0 h3
        refine ⟨rfl, ?_, ?_⟩
        · unfold gsm gsA; simp only [cond_true, cond_false]; rw [if_pos h3]
        · unfold gsl gsA; simp only [cond_true, cond_false]; simp only [ or_z]; rw [xU_id ml 16 5, xU_id]
      · refine xB.go 15 (85, [(0, .ref 16), (1, .long Rg), (3, .int (lv2 p q)), (4, .long 0), (6, .long 0)], [], XM L (xU mi 16 7 1) (xU (xU ml 16 5 ((ml 16 5) ||| 0)) 16 6 ((ml 16 6) ||| 0))) rfl ?_
        refine xB.rt none (xU mi 16 7 1) (xU (xU ml 16 5 ((ml 16 5) ||| 0)) 16 6 ((ml 16 6) ||| 0)) rfl ?_
        have ep : p = false := by cases p with | false => rfl | true => exact absurd ((below1 true q).mpr rfl) h1
        have eq : q = false := by cases q with | false => rfl | true => exact absurd ((below2 p true).mpr rfl) h2
        subst ep; subst eq
        refine ⟨rfl, ?_, ?_⟩
        · unfold gsm gsA; simp only [cond_true, cond_false]; rw [if_neg h3]
        · rfl
    · refine xB.go 13 (55, [(0, .ref 16), (1, .long Rg), (3, .int (lv2 p q)), (4, .long 0), (6, .long (Rg &&& ((ml 16 6) ^^^ (-1))))], [.int (lg_cmp (0 ||| (Rg &&& ((ml 16 6) ^^^ (-1)))) 0)], XM L mi ml) rfl ?_
      refine xB.lz (0 ||| (Rg &&& ((ml 16 6) ^^^ (-1)))) 0 (85, [(0, .ref 16), (1, .long Rg), (3, .int (lv2 p q)), (4, .long 0), (6, .long (Rg &&& ((ml 16 6) ^^^ (-1))))], [], XM L mi ml) (58, [(0, .ref 16), (1, .long Rg), (3, .int (lv2 p q)), (4, .long 0), (6, .long (Rg &&& ((ml 16 6) ^^^ (-1))))], [], XM L mi ml) rfl (fun h4 => ?_) (fun h4 => ?_)
      · refine xB.rt none mi ml rfl ?_
        have ep : p = false := by cases p with | false => rfl | true => exact absurd ((below1 true q).mpr rfl) h1
        have eq : q = true := by exact (below2 p q).mp h2
        subst ep; subst eq
        obtain ⟨z1, z2⟩ := or_0 h4
        refine ⟨rfl, ?_, ?_⟩
        · unfold gsm gsA; simp only [cond_true, cond_false]; rw [if_pos h4]
        · unfold gsl gsA; simp only [cond_true, cond_false]; simp only [z2,  or_z]; rw [xU_id ml 16 5, xU_id]
      · refine xB.go 15 (85, [(0, .ref 16), (1, .long Rg), (3, .int (lv2 p q)), (4, .long 0), (6, .long (Rg &&& ((ml 16 6) ^^^ (-1))))], [], XM L (xU mi 16 7 1) (xU (xU ml 16 5 ((ml 16 5) ||| 0)) 16 6 ((ml 16 6) ||| (Rg &&& ((ml 16 6) ^^^ (-1)))))) rfl ?_
        refine xB.rt none (xU mi 16 7 1) (xU (xU ml 16 5 ((ml 16 5) ||| 0)) 16 6 ((ml 16 6) ||| (Rg &&& ((ml 16 6) ^^^ (-1))))) rfl ?_
        have ep : p = false := by cases p with | false => rfl | true => exact absurd ((below1 true q).mpr rfl) h1
        have eq : q = true := by exact (below2 p q).mp h2
        subst ep; subst eq
        refine ⟨rfl, ?_, ?_⟩
        · unfold gsm gsA; simp only [cond_true, cond_false]; rw [if_neg h4]
        · rfl
  · refine xB.go 10 (26, [(0, .ref 16), (1, .long Rg), (3, .int (lv2 p q)), (4, .long (Rg &&& ((ml 16 5) ^^^ (-1))))], [.int (lv2 p q), .int 2], XM L mi ml) rfl ?_
    refine xB.c1 87 [.int 2, .int (lv2 p q)] [] (c_isBelow _ L mi ml 2 (lv2 p q) ) rfl ?_
    refine xB.bz (2 &&& ((lv2 p q) ^^^ (-1)) = 0) (45, [(0, .ref 16), (1, .long Rg), (3, .int (lv2 p q)), (4, .long (Rg &&& ((ml 16 5) ^^^ (-1))))], [], XM L mi ml) (32, [(0, .ref 16), (1, .long Rg), (3, .int (lv2 p q)), (4, .long (Rg &&& ((ml 16 5) ^^^ (-1))))], [], XM L mi ml) rfl (fun h5 => ?_) (fun h5 => ?_)
    · refine xB.go 7 (55, [(0, .ref 16), (1, .long Rg), (3, .int (lv2 p q)), (4, .long (Rg &&& ((ml 16 5) ^^^ (-1)))), (6, .long 0)], [.int (lg_cmp ((Rg &&& ((ml 16 5) ^^^ (-1))) ||| 0) 0)], XM L mi ml) rfl ?_
      refine xB.lz ((Rg &&& ((ml 16 5) ^^^ (-1))) ||| 0) 0 (85, [(0, .ref 16), (1, .long Rg), (3, .int (lv2 p q)), (4, .long (Rg &&& ((ml 16 5) ^^^ (-1)))), (6, .long 0)], [], XM L mi ml) (58, [(0, .ref 16), (1, .long Rg), (3, .int (lv2 p q)), (4, .long (Rg &&& ((ml 16 5) ^^^ (-1)))), (6, .long 0)], [], XM L mi ml) rfl (fun h6 => ?_) (fun h6 => ?_)
      · refine xB.rt none mi ml rfl ?_
        have ep : p = true := by exact (below1 p q).mp h1
        have eq : q = false := by cases q with | false => rfl | true => exact absurd ((below2 p true).mpr rfl) h5
        subst ep; subst eq
        obtain ⟨z1, z2⟩ := or_0 h6
        refine ⟨rfl, ?_, ?_⟩
        · unfold gsm gsA; simp only [cond_true, cond_false]; rw [if_pos h6]
        · unfold gsl gsA; simp only [cond_true, cond_false]; simp only [z1,  or_z]; rw [xU_id ml 16 5, xU_id]
      · refine xB.go 15 (85, [(0, .ref 16), (1, .long Rg), (3, .int (lv2 p q)), (4, .long (Rg &&& ((ml 16 5) ^^^ (-1)))), (6, .long 0)], [], XM L (xU mi 16 7 1) (xU (xU ml 16 5 ((ml 16 5) ||| (Rg &&& ((ml 16 5) ^^^ (-1))))) 16 6 ((ml 16 6) ||| 0))) rfl ?_
        refine xB.rt none (xU mi 16 7 1) (xU (xU ml 16 5 ((ml 16 5) ||| (Rg &&& ((ml 16 5) ^^^ (-1))))) 16 6 ((ml 16 6) ||| 0)) rfl ?_
        have ep : p = true := by exact (below1 p q).mp h1
        have eq : q = false := by cases q with | false => rfl | true => exact absurd ((below2 p true).mpr rfl) h5
        subst ep; subst eq
        refine ⟨rfl, ?_, ?_⟩
        · unfold gsm gsA; simp only [cond_true, cond_false]; rw [if_neg h6]
        · rfl
    · refine xB.go 13 (55, [(0, .ref 16), (1, .long Rg), (3, .int (lv2 p q)), (4, .long (Rg &&& ((ml 16 5) ^^^ (-1)))), (6, .long (Rg &&& ((ml 16 6) ^^^ (-1))))], [.int (lg_cmp ((Rg &&& ((ml 16 5) ^^^ (-1))) ||| (Rg &&& ((ml 16 6) ^^^ (-1)))) 0)], XM L mi ml) rfl ?_
      refine xB.lz ((Rg &&& ((ml 16 5) ^^^ (-1))) ||| (Rg &&& ((ml 16 6) ^^^ (-1)))) 0 (85, [(0, .ref 16), (1, .long Rg), (3, .int (lv2 p q)), (4, .long (Rg &&& ((ml 16 5) ^^^ (-1)))), (6, .long (Rg &&& ((ml 16 6) ^^^ (-1))))], [], XM L mi ml) (58, [(0, .ref 16), (1, .long Rg), (3, .int (lv2 p q)), (4, .long (Rg &&& ((ml 16 5) ^^^ (-1)))), (6, .long (Rg &&& ((ml 16 6) ^^^ (-1))))], [], XM L mi ml) rfl (fun h7 => ?_) (fun h7 => ?_)
      · refine xB.rt none mi ml rfl ?_
        have ep : p = true := by exact (below1 p q).mp h1
        have eq : q = true := by exact (below2 p q).mp h5
        subst ep; subst eq
        obtain ⟨z1, z2⟩ := or_0 h7
        refine ⟨rfl, ?_, ?_⟩
        · unfold gsm gsA; simp only [cond_true, cond_false]; rw [if_pos h7]
        · unfold gsl gsA; simp only [cond_true, cond_false]; simp only [z1, z2,  or_z]; rw [xU_id ml 16 5, xU_id]
      · refine xB.go 15 (85, [(0, .ref 16), (1, .long Rg), (3, .int (lv2 p q)), (4, .long (Rg &&& ((ml 16 5) ^^^ (-1)))), (6, .long (Rg &&& ((ml 16 6) ^^^ (-1))))], [], XM L (xU mi 16 7 1) (xU (xU ml 16 5 ((ml 16 5) ||| (Rg &&& ((ml 16 5) ^^^ (-1))))) 16 6 ((ml 16 6) ||| (Rg &&& ((ml 16 6) ^^^ (-1)))))) rfl ?_
        refine xB.rt none (xU mi 16 7 1) (xU (xU ml 16 5 ((ml 16 5) ||| (Rg &&& ((ml 16 5) ^^^ (-1))))) 16 6 ((ml 16 6) ||| (Rg &&& ((ml 16 6) ^^^ (-1))))) rfl ?_
        have ep : p = true := by exact (below1 p q).mp h1
        have eq : q = true := by exact (below2 p q).mp h5
        subst ep; subst eq
        refine ⟨rfl, ?_, ?_⟩
        · unfold gsm gsA; simp only [cond_true, cond_false]; rw [if_neg h7]
        · rfl
set_option maxRecDepth 100000 in
set_option maxHeartbeats 1000000 in
theorem c_regionOf (d L : Nat) (mi : xmi) (ml : xml) {n : Nat} {K T : Nat → Nat} (hP : PRG mi n K T) {i : Nat} (hin : i < n) : xFv (d + 2) 2 [.ref 10, .int (nI i)] L mi ml (.long (ml 15 i)) mi ml := by
  refine xF.mk mX0_regionOf rfl rfl ?_
  refine xB.go 3 (5, [(0, .ref 10), (1, .int (nI i))], [.int (nI i), .ref 1], XM L mi ml) rfl ?_
  refine xB.c1 41 [.ref 1, .int (nI i)] [] (c_has _ L mi ml (nI i) ) rfl ?_
  refine xB.bz (0 ≤ (nI i) ∧ (nI i) < mi 1 2) (20, [(0, .ref 10), (1, .int (nI i))], [], XM L mi ml) (11, [(0, .ref 10), (1, .int (nI i))], [], XM L mi ml) rfl (fun h1 => ?_) (fun h1 => ?_)
  · refine xB.go 1 (21, [(0, .ref 10), (1, .int (nI i))], [.long 0], XM L mi ml) rfl ?_
    refine xB.rt (some (.long 0)) mi ml rfl ?_
    exact absurd ((hP.has (by have := hP.2.1; omega)).mpr hin) h1
  · refine xB.go 3 (16, [(0, .ref 10), (1, .int (nI i))], [.int (nI i), .ref 15], XM L mi ml) rfl ?_
    refine xB.ck (xin (nI i) 64) (17, [(0, .ref 10), (1, .int (nI i))], [.long (ml 15 (nI i).toNatClampNeg)], XM L mi ml) rfl (xck hP.1 hP.2.1 h1) ?_
    refine xB.go 1 (21, [(0, .ref 10), (1, .int (nI i))], [.long (ml 15 (nI i).toNatClampNeg)], XM L mi ml) rfl ?_
    refine xB.rt (some (.long (ml 15 (nI i).toNatClampNeg))) mi ml rfl ?_
    exact ⟨by rw [nI_clamp (by have := hP.2.1; omega)], rfl, rfl⟩
theorem ofst : ∀ s, s < 17 → ∀ x, x < 64 → hb (((1 : Int64) <<< (Int32.toInt64 (2 * nI s) &&& 63)) - 1) x = decide (x < 2 * s) := by decide +kernel
theorem each : ∀ p q : Bool, ∀ x, x < 64 → hb (Int32.toInt64 (lv2 p q) * 1431655765) x = (decide (x < 32) && (bif Nat.beq (x % 2) 0 then p else q)) := by decide +kernel
theorem putb : ∀ p q : Bool, ∀ s, s < 16 → ∀ x, x < 64 → hb (Int32.toInt64 (lv2 p q) <<< (Int32.toInt64 (2 * nI s) &&& 63)) x = ((decide (x = 2 * s) && p) || (decide (x = 2 * s + 1) && q)) := by decide +kernel
/-- what a place leaves on its followers' piles -/
def lfx (K : Nat → Nat) (ml : xml) (rd0 rd1 : Bool) (i h x : Nat) : Bool := (decide (x < 2 * (h - tk (K i))) && (hb (ml 17 i) x || (decide (K i = 5) && (bif Nat.beq (x % 2) 0 then tkn K ml 0 i h else tkn K ml 1 i h)))) ||
  (decide (pt (K i) = 1) && ((decide (x = 2 * (h - tk (K i))) && (tkn K ml 0 i h || hb (ml 16 5) i || rd0)) || (decide (x = 2 * (h - tk (K i)) + 1) && (tkn K ml 1 i h || hb (ml 16 6) i || rd1))))
end
section
/-! Types.spreadFrom -/
theorem gsm_row {mi : xmi} {ml : xml} {R : Int64} {p q : Bool} {x : Nat} (h : x ≠ 16) : gsm mi ml R p q x = mi x := by
  unfold gsm; split
  · rfl
  · exact xU_ne h
theorem gpm_row {mi : xmi} {ml : xml} {o : Option Nat} {left : Int64} {x : Nat} (h : x ≠ 16) : gpm mi ml o left x = mi x := by
  cases o with
  | none => rfl
  | some q =>
    show (if left &&& (ml 17 q ^^^ (-1)) = 0 then mi else xU mi 16 7 1) x = mi x
    split
    · rfl
    · exact xU_ne h
theorem PRG.gs {mi : xmi} {n : Nat} {K T : Nat → Nat} (hP : PRG mi n K T) {ml : xml} {R : Int64} {p q : Bool} : PRG (gsm mi ml R p q) n K T := hP.frame (gsm_row (by decide)) (gsm_row (by decide)) (gsm_row (by decide)) (gsm_row (by decide)) (gsm_row (by decide))
theorem PRG.gp {mi : xmi} {n : Nat} {K T : Nat → Nat} (hP : PRG mi n K T) {ml : xml} {o : Option Nat} {left : Int64} : PRG (gpm mi ml o left) n K T := hP.frame (gpm_row (by decide)) (gpm_row (by decide)) (gpm_row (by decide)) (gpm_row (by decide)) (gpm_row (by decide))
def sp1l (K : Nat → Nat) (ml : xml) (i h : Nat) : xml := if K i = 5 then gsl ml (ml 15 i) (tkn K ml 0 i h) (tkn K ml 1 i h) else ml
def sp1m (K : Nat → Nat) (mi : xmi) (ml : xml) (i h : Nat) : xmi := if K i = 5 then gsm mi ml (ml 15 i) (tkn K ml 0 i h) (tkn K ml 1 i h) else mi
def SPR (K T : Nat → Nat) (rd0 rd1 : Bool) (mi : xmi) (ml : xml) (i h : Nat) (a : xmi) (b : xml) : Prop := ∃ left : Int64, (∀ x, x < 64 → hb left x = lfx K ml rd0 rd1 i h x) ∧ a = gpm (gpm (sp1m K mi ml i h) (sp1l K ml i h) (fo1 K T i) left) (gpl (sp1l K ml i h) (fo1 K T i) left) (fo2 K T i) left ∧ b = gpl (gpl (sp1l K ml i h) (fo1 K T i) left) (fo2 K T i) left
theorem pt5 {k : Nat} (h : k = 5) : pt k = 0 := by subst h; rfl
theorem sl_pf_congr {mi a : xmi} {x : Int32} (h1 : a 1 = mi 1) (h2 : a 2 = mi 2) (h3 : a 3 = mi 3) : sl_pf a x = sl_pf mi x := by unfold sl_pf sl_kind sl_num; rw [h1, h2, h3]
theorem sl_of_congr {mi a : xmi} {x : Int32} (h1 : a 1 = mi 1) (h2 : a 2 = mi 2) (h3 : a 3 = mi 3) : sl_of a x = sl_of mi x := by unfold sl_of sl_kind sl_num; rw [h1, h2, h3]
set_option maxRecDepth 100000 in
set_option maxHeartbeats 1000000 in
theorem c_spreadFrom (d L : Nat) (mi : xmi) (ml : xml) {n : Nat} {K T : Nat → Nat} {vL aL cL : Nat → Nat → Bool} (hP : PRG mi n K T) (hN : NUM mi n K T) (hV : LEV mi vL aL cL) {i h : Nat} (hin : i < n) (hmt : hb (ml 8 2) i = true) (hh : mi 9 i = nI h) (h16 : h ≤ 16) (htk : tk (K i) ≤ h) (hg : h - tk (K i) + pt (K i) ≤ 16) (hwf : ∀ c, Fo K T i c → c < n) : xF (d + 4) 62 [.ref 16, .int (nI i)] L mi ml (fun rr a b => rr = none ∧ SPR K T (rd K T vL aL 0 i) (rd K T vL aL 1 i) mi ml i h a b) := by
  have hk := (hP.2.2.1 i hin).2
  have hi64 : i < 64 := Nat.lt_of_lt_of_le hin hP.2.1
  have hr17 : h - tk (K i) < 17 := by omega
  refine xF.mk mX7_spreadFrom rfl rfl ?_
  refine xB.go 3 (5, [(0, .ref 16), (1, .int (nI i))], [.int (nI i), .ref 1], XM L mi ml) rfl ?_
  refine xB.c1 42 [.ref 1, .int (nI i)] [] (c_kindN _ L _ _ hP hin) rfl ?_
  refine xB.go 3 (11, [(0, .ref 16), (1, .int (nI i)), (2, .int (nI (K i)))], [.int (nI i), .ref 16], XM L mi ml) rfl ?_
  refine xB.c1 63 [.ref 16, .int (nI i)] [] (c_takenAt _ L _ _ hP hin hmt hh h16 htk) rfl ?_
  refine xB.go 4 (20, [(0, .ref 16), (1, .int (nI i)), (2, .int (nI (K i))), (3, .int (lv2 (tkn K ml 0 i h) (tkn K ml 1 i h)))], [.int (nI i), .ref 8], XM L mi ml) rfl ?_
  refine xB.c1 52 [.ref 8, .int (nI i)] [] (c_heightN _ L _ _ hi64 hmt hh) rfl ?_
  refine xB.go 2 (27, [(0, .ref 16), (1, .int (nI i)), (2, .int (nI (K i))), (3, .int (lv2 (tkn K ml 0 i h) (tkn K ml 1 i h)))], [.int (nI (K i)), .ref 1002, .int (nI h)], XM L mi ml) rfl ?_
  refine xB.ck (xin (nI (K i)) 10) (28, [(0, .ref 16), (1, .int (nI i)), (2, .int (nI (K i))), (3, .int (lv2 (tkn K ml 0 i h) (tkn K ml 1 i h)))], [.int (mi 1002 (nI (K i)).toNatClampNeg), .int (nI h)], XM L mi ml) rfl (xin_of hk (by decide) rfl) ?_
  refine xB.cg (28, [(0, .ref 16), (1, .int (nI i)), (2, .int (nI (K i))), (3, .int (lv2 (tkn K ml 0 i h) (tkn K ml 1 i h)))], [.int (nI (tk (K i))), .int (nI h)], XM L mi ml) (by rw [nI_clamp (n := K i) (by omega), hP.2.2.2.2.1, (tk_le _ hk).2]) ?_
  refine xB.go 1 (29, [(0, .ref 16), (1, .int (nI i)), (2, .int (nI (K i))), (3, .int (lv2 (tkn K ml 0 i h) (tkn K ml 1 i h)))], [.int ((nI h) - (nI (tk (K i))))], XM L mi ml) rfl ?_
  refine xB.cg (29, [(0, .ref 16), (1, .int (nI i)), (2, .int (nI (K i))), (3, .int (lv2 (tkn K ml 0 i h) (tkn K ml 1 i h)))], [.int (nI (h - tk (K i)))], XM L mi ml) (by rw [nI_subeq htk]) ?_
  refine xB.go 12 (46, [(0, .ref 16), (1, .int (nI i)), (2, .int (nI (K i))), (3, .int (lv2 (tkn K ml 0 i h) (tkn K ml 1 i h))), (4, .int (nI (h - tk (K i)))), (5, .long (((1 : Int64) <<< (Int32.toInt64 (2 * (nI (h - tk (K i)))) &&& 63)) - 1))], [.int (nI i), .ref 17], XM L mi ml) rfl ?_
  refine xB.ck (xin (nI i) 64) (47, [(0, .ref 16), (1, .int (nI i)), (2, .int (nI (K i))), (3, .int (lv2 (tkn K ml 0 i h) (tkn K ml 1 i h))), (4, .int (nI (h - tk (K i)))), (5, .long (((1 : Int64) <<< (Int32.toInt64 (2 * (nI (h - tk (K i)))) &&& 63)) - 1))], [.long (ml 17 (nI i).toNatClampNeg)], XM L mi ml) rfl (xin_of hi64 (by decide) rfl) ?_
  refine xB.go 5 (54, [(0, .ref 16), (1, .int (nI i)), (2, .int (nI (K i))), (3, .int (lv2 (tkn K ml 0 i h) (tkn K ml 1 i h))), (4, .int (nI (h - tk (K i)))), (5, .long (((1 : Int64) <<< (Int32.toInt64 (2 * (nI (h - tk (K i)))) &&& 63)) - 1)), (7, .long ((ml 17 (nI i).toNatClampNeg) &&& (((1 : Int64) <<< (Int32.toInt64 (2 * (nI (h - tk (K i)))) &&& 63)) - 1)))], [.int 5, .int (nI (K i))], XM L mi ml) rfl ?_
  refine xB.bp (¬ (nI (K i)) = 5) (84, [(0, .ref 16), (1, .int (nI i)), (2, .int (nI (K i))), (3, .int (lv2 (tkn K ml 0 i h) (tkn K ml 1 i h))), (4, .int (nI (h - tk (K i)))), (5, .long (((1 : Int64) <<< (Int32.toInt64 (2 * (nI (h - tk (K i)))) &&& 63)) - 1)), (7, .long ((ml 17 (nI i).toNatClampNeg) &&& (((1 : Int64) <<< (Int32.toInt64 (2 * (nI (h - tk (K i)))) &&& 63)) - 1)))], [], XM L mi ml) (57, [(0, .ref 16), (1, .int (nI i)), (2, .int (nI (K i))), (3, .int (lv2 (tkn K ml 0 i h) (tkn K ml 1 i h))), (4, .int (nI (h - tk (K i)))), (5, .long (((1 : Int64) <<< (Int32.toInt64 (2 * (nI (h - tk (K i)))) &&& 63)) - 1)), (7, .long ((ml 17 (nI i).toNatClampNeg) &&& (((1 : Int64) <<< (Int32.toInt64 (2 * (nI (h - tk (K i)))) &&& 63)) - 1)))], [], XM L mi ml) rfl (fun h1 => ?_) (fun h1 => ?_)
  · refine xB.go 2 (88, [(0, .ref 16), (1, .int (nI i)), (2, .int (nI (K i))), (3, .int (lv2 (tkn K ml 0 i h) (tkn K ml 1 i h))), (4, .int (nI (h - tk (K i)))), (5, .long (((1 : Int64) <<< (Int32.toInt64 (2 * (nI (h - tk (K i)))) &&& 63)) - 1)), (7, .long ((ml 17 (nI i).toNatClampNeg) &&& (((1 : Int64) <<< (Int32.toInt64 (2 * (nI (h - tk (K i)))) &&& 63)) - 1)))], [.int (nI (K i)), .ref 1003], XM L mi ml) rfl ?_
    refine xB.ck (xin (nI (K i)) 10) (89, [(0, .ref 16), (1, .int (nI i)), (2, .int (nI (K i))), (3, .int (lv2 (tkn K ml 0 i h) (tkn K ml 1 i h))), (4, .int (nI (h - tk (K i)))), (5, .long (((1 : Int64) <<< (Int32.toInt64 (2 * (nI (h - tk (K i)))) &&& 63)) - 1)), (7, .long ((ml 17 (nI i).toNatClampNeg) &&& (((1 : Int64) <<< (Int32.toInt64 (2 * (nI (h - tk (K i)))) &&& 63)) - 1)))], [.int (mi 1003 (nI (K i)).toNatClampNeg)], XM L mi ml) rfl (xin_of hk (by decide) rfl) ?_
    refine xB.cg (89, [(0, .ref 16), (1, .int (nI i)), (2, .int (nI (K i))), (3, .int (lv2 (tkn K ml 0 i h) (tkn K ml 1 i h))), (4, .int (nI (h - tk (K i)))), (5, .long (((1 : Int64) <<< (Int32.toInt64 (2 * (nI (h - tk (K i)))) &&& 63)) - 1)), (7, .long ((ml 17 (nI i).toNatClampNeg) &&& (((1 : Int64) <<< (Int32.toInt64 (2 * (nI (h - tk (K i)))) &&& 63)) - 1)))], [.int (nI (pt (K i)))], XM L mi ml) (by rw [nI_clamp (n := K i) (by omega), hP.2.2.2.2.2, (pt_le _ hk).2]) ?_
    refine xB.bp ((nI (pt (K i))) = 0) (120, [(0, .ref 16), (1, .int (nI i)), (2, .int (nI (K i))), (3, .int (lv2 (tkn K ml 0 i h) (tkn K ml 1 i h))), (4, .int (nI (h - tk (K i)))), (5, .long (((1 : Int64) <<< (Int32.toInt64 (2 * (nI (h - tk (K i)))) &&& 63)) - 1)), (7, .long ((ml 17 (nI i).toNatClampNeg) &&& (((1 : Int64) <<< (Int32.toInt64 (2 * (nI (h - tk (K i)))) &&& 63)) - 1)))], [], XM L mi ml) (92, [(0, .ref 16), (1, .int (nI i)), (2, .int (nI (K i))), (3, .int (lv2 (tkn K ml 0 i h) (tkn K ml 1 i h))), (4, .int (nI (h - tk (K i)))), (5, .long (((1 : Int64) <<< (Int32.toInt64 (2 * (nI (h - tk (K i)))) &&& 63)) - 1)), (7, .long ((ml 17 (nI i).toNatClampNeg) &&& (((1 : Int64) <<< (Int32.toInt64 (2 * (nI (h - tk (K i)))) &&& 63)) - 1)))], [], XM L mi ml) rfl (fun h2 => ?_) (fun h2 => ?_)
    · refine xB.go 4 (126, [(0, .ref 16), (1, .int (nI i)), (2, .int (nI (K i))), (3, .int (lv2 (tkn K ml 0 i h) (tkn K ml 1 i h))), (4, .int (nI (h - tk (K i)))), (5, .long (((1 : Int64) <<< (Int32.toInt64 (2 * (nI (h - tk (K i)))) &&& 63)) - 1)), (7, .long ((ml 17 (nI i).toNatClampNeg) &&& (((1 : Int64) <<< (Int32.toInt64 (2 * (nI (h - tk (K i)))) &&& 63)) - 1)))], [.int (nI i), .ref 1, .ref 16], XM L mi ml) rfl ?_
      refine xB.c1 46 [.ref 1, .int (nI i)] [.ref 16] (c_plainFollower _ L _ _ (nI i) hP.1 hP.2.1) rfl ?_
      refine xB.go 1 (131, [(0, .ref 16), (1, .int (nI i)), (2, .int (nI (K i))), (3, .int (lv2 (tkn K ml 0 i h) (tkn K ml 1 i h))), (4, .int (nI (h - tk (K i)))), (5, .long (((1 : Int64) <<< (Int32.toInt64 (2 * (nI (h - tk (K i)))) &&& 63)) - 1)), (7, .long ((ml 17 (nI i).toNatClampNeg) &&& (((1 : Int64) <<< (Int32.toInt64 (2 * (nI (h - tk (K i)))) &&& 63)) - 1)))], [.long ((ml 17 (nI i).toNatClampNeg) &&& (((1 : Int64) <<< (Int32.toInt64 (2 * (nI (h - tk (K i)))) &&& 63)) - 1)), .int (sl_pf mi (nI i)), .ref 16], XM L mi ml) rfl ?_
      refine xB.c0 65 [.ref 16, .int (sl_pf mi (nI i)), .long ((ml 17 (nI i).toNatClampNeg) &&& (((1 : Int64) <<< (Int32.toInt64 (2 * (nI (h - tk (K i)))) &&& 63)) - 1))] [] (c_growPile _ L _ _ hP _ _ (fo1 K T i) (eOk1 hP hin hwf)) rfl ?_
      refine xB.go 4 (140, [(0, .ref 16), (1, .int (nI i)), (2, .int (nI (K i))), (3, .int (lv2 (tkn K ml 0 i h) (tkn K ml 1 i h))), (4, .int (nI (h - tk (K i)))), (5, .long (((1 : Int64) <<< (Int32.toInt64 (2 * (nI (h - tk (K i)))) &&& 63)) - 1)), (7, .long ((ml 17 (nI i).toNatClampNeg) &&& (((1 : Int64) <<< (Int32.toInt64 (2 * (nI (h - tk (K i)))) &&& 63)) - 1)))], [.int (nI i), .ref 1, .ref 16], XM L (gpm mi ml (fo1 K T i) ((ml 17 (nI i).toNatClampNeg) &&& (((1 : Int64) <<< (Int32.toInt64 (2 * (nI (h - tk (K i)))) &&& 63)) - 1))) (gpl ml (fo1 K T i) ((ml 17 (nI i).toNatClampNeg) &&& (((1 : Int64) <<< (Int32.toInt64 (2 * (nI (h - tk (K i)))) &&& 63)) - 1)))) rfl ?_
      refine xB.c1 47 [.ref 1, .int (nI i)] [.ref 16] (c_otherFollower _ L _ _ (nI i) hP.gp.1 hP.2.1) rfl ?_
      refine xB.go 1 (145, [(0, .ref 16), (1, .int (nI i)), (2, .int (nI (K i))), (3, .int (lv2 (tkn K ml 0 i h) (tkn K ml 1 i h))), (4, .int (nI (h - tk (K i)))), (5, .long (((1 : Int64) <<< (Int32.toInt64 (2 * (nI (h - tk (K i)))) &&& 63)) - 1)), (7, .long ((ml 17 (nI i).toNatClampNeg) &&& (((1 : Int64) <<< (Int32.toInt64 (2 * (nI (h - tk (K i)))) &&& 63)) - 1)))], [.long ((ml 17 (nI i).toNatClampNeg) &&& (((1 : Int64) <<< (Int32.toInt64 (2 * (nI (h - tk (K i)))) &&& 63)) - 1)), .int (sl_of (gpm mi ml (fo1 K T i) ((ml 17 (nI i).toNatClampNeg) &&& (((1 : Int64) <<< (Int32.toInt64 (2 * (nI (h - tk (K i)))) &&& 63)) - 1))) (nI i)), .ref 16], XM L (gpm mi ml (fo1 K T i) ((ml 17 (nI i).toNatClampNeg) &&& (((1 : Int64) <<< (Int32.toInt64 (2 * (nI (h - tk (K i)))) &&& 63)) - 1))) (gpl ml (fo1 K T i) ((ml 17 (nI i).toNatClampNeg) &&& (((1 : Int64) <<< (Int32.toInt64 (2 * (nI (h - tk (K i)))) &&& 63)) - 1)))) rfl ?_
      refine xB.c0 65 [.ref 16, .int (sl_of (gpm mi ml (fo1 K T i) ((ml 17 (nI i).toNatClampNeg) &&& (((1 : Int64) <<< (Int32.toInt64 (2 * (nI (h - tk (K i)))) &&& 63)) - 1))) (nI i)), .long ((ml 17 (nI i).toNatClampNeg) &&& (((1 : Int64) <<< (Int32.toInt64 (2 * (nI (h - tk (K i)))) &&& 63)) - 1))] [] (c_growPile _ L _ _ hP.gp _ _ (fo2 K T i) (eOk2 hP.gp hin hwf)) rfl ?_
      refine xB.rt none (gpm (gpm mi ml (fo1 K T i) ((ml 17 (nI i).toNatClampNeg) &&& (((1 : Int64) <<< (Int32.toInt64 (2 * (nI (h - tk (K i)))) &&& 63)) - 1))) (gpl ml (fo1 K T i) ((ml 17 (nI i).toNatClampNeg) &&& (((1 : Int64) <<< (Int32.toInt64 (2 * (nI (h - tk (K i)))) &&& 63)) - 1))) (fo2 K T i) ((ml 17 (nI i).toNatClampNeg) &&& (((1 : Int64) <<< (Int32.toInt64 (2 * (nI (h - tk (K i)))) &&& 63)) - 1))) (gpl (gpl ml (fo1 K T i) ((ml 17 (nI i).toNatClampNeg) &&& (((1 : Int64) <<< (Int32.toInt64 (2 * (nI (h - tk (K i)))) &&& 63)) - 1))) (fo2 K T i) ((ml 17 (nI i).toNatClampNeg) &&& (((1 : Int64) <<< (Int32.toInt64 (2 * (nI (h - tk (K i)))) &&& 63)) - 1))) rfl ?_
      have g5 := k_ne (c := 5) h1
      have e1 : sp1m K mi ml i h = mi := if_neg g5
      have e2 : sp1l K ml i h = ml := if_neg g5
      refine ⟨rfl, _, fun x hx => ?_, by rw [e1, e2], by rw [e2]⟩
      have hp0 : ¬ pt (K i) = 1 := by rw [pt_0 hk h2]; decide
      rw [hb_and, ofst _ hr17 x hx, lfx, nI_clamp (by omega)]
      simp only [g5, hp0, decide_true, decide_false, Bool.true_and, Bool.false_and, Bool.or_false]
      rw [Bool.and_comm]
    · refine xB.go 3 (95, [(0, .ref 16), (1, .int (nI i)), (2, .int (nI (K i))), (3, .int (lv2 (tkn K ml 0 i h) (tkn K ml 1 i h))), (4, .int (nI (h - tk (K i)))), (5, .long (((1 : Int64) <<< (Int32.toInt64 (2 * (nI (h - tk (K i)))) &&& 63)) - 1)), (7, .long ((ml 17 (nI i).toNatClampNeg) &&& (((1 : Int64) <<< (Int32.toInt64 (2 * (nI (h - tk (K i)))) &&& 63)) - 1)))], [.int (nI i), .ref 16, .int (lv2 (tkn K ml 0 i h) (tkn K ml 1 i h))], XM L mi ml) rfl ?_
      refine xB.c1 57 [.ref 16, .int (nI i)] [.int (lv2 (tkn K ml 0 i h) (tkn K ml 1 i h))] (c_surroundingAt _ L _ _ hi64) rfl ?_
      refine xB.go 3 (101, [(0, .ref 16), (1, .int (nI i)), (2, .int (nI (K i))), (3, .int (lv2 (tkn K ml 0 i h) (tkn K ml 1 i h))), (4, .int (nI (h - tk (K i)))), (5, .long (((1 : Int64) <<< (Int32.toInt64 (2 * (nI (h - tk (K i)))) &&& 63)) - 1)), (7, .long ((ml 17 (nI i).toNatClampNeg) &&& (((1 : Int64) <<< (Int32.toInt64 (2 * (nI (h - tk (K i)))) &&& 63)) - 1)))], [.int (nI i), .ref 16, .int ((lv2 (tkn K ml 0 i h) (tkn K ml 1 i h)) ||| (lv2 (hb (ml 16 5) i) (hb (ml 16 6) i)))], XM L mi ml) rfl ?_
      refine xB.c1 64 [.ref 16, .int (nI i)] [.int ((lv2 (tkn K ml 0 i h) (tkn K ml 1 i h)) ||| (lv2 (hb (ml 16 5) i) (hb (ml 16 6) i)))] (c_readBy _ L _ _ hP hN hV hin) rfl ?_
      refine xB.go 1 (105, [(0, .ref 16), (1, .int (nI i)), (2, .int (nI (K i))), (3, .int (lv2 (tkn K ml 0 i h) (tkn K ml 1 i h))), (4, .int (nI (h - tk (K i)))), (5, .long (((1 : Int64) <<< (Int32.toInt64 (2 * (nI (h - tk (K i)))) &&& 63)) - 1)), (7, .long ((ml 17 (nI i).toNatClampNeg) &&& (((1 : Int64) <<< (Int32.toInt64 (2 * (nI (h - tk (K i)))) &&& 63)) - 1)))], [.int (((lv2 (tkn K ml 0 i h) (tkn K ml 1 i h)) ||| (lv2 (hb (ml 16 5) i) (hb (ml 16 6) i))) ||| (lv2 (rd K T vL aL 0 i) (rd K T vL aL 1 i)))], XM L mi ml) rfl ?_
      refine xB.cg (105, [(0, .ref 16), (1, .int (nI i)), (2, .int (nI (K i))), (3, .int (lv2 (tkn K ml 0 i h) (tkn K ml 1 i h))), (4, .int (nI (h - tk (K i)))), (5, .long (((1 : Int64) <<< (Int32.toInt64 (2 * (nI (h - tk (K i)))) &&& 63)) - 1)), (7, .long ((ml 17 (nI i).toNatClampNeg) &&& (((1 : Int64) <<< (Int32.toInt64 (2 * (nI (h - tk (K i)))) &&& 63)) - 1)))], [.int (lv2 (tkn K ml 0 i h || hb (ml 16 5) i || rd K T vL aL 0 i) (tkn K ml 1 i h || hb (ml 16 6) i || rd K T vL aL 1 i))], XM L mi ml) (by rw [lv2_or, lv2_or]) ?_
      refine xB.go 14 (126, [(0, .ref 16), (1, .int (nI i)), (2, .int (nI (K i))), (3, .int (lv2 (tkn K ml 0 i h) (tkn K ml 1 i h))), (4, .int (nI (h - tk (K i)))), (5, .long (((1 : Int64) <<< (Int32.toInt64 (2 * (nI (h - tk (K i)))) &&& 63)) - 1)), (7, .long (((ml 17 (nI i).toNatClampNeg) &&& (((1 : Int64) <<< (Int32.toInt64 (2 * (nI (h - tk (K i)))) &&& 63)) - 1)) ||| ((Int32.toInt64 (lv2 (tkn K ml 0 i h || hb (ml 16 5) i || rd K T vL aL 0 i) (tkn K ml 1 i h || hb (ml 16 6) i || rd K T vL aL 1 i))) <<< (Int32.toInt64 (2 * (nI (h - tk (K i)))) &&& 63)))), (9, .long (Int32.toInt64 (lv2 (tkn K ml 0 i h || hb (ml 16 5) i || rd K T vL aL 0 i) (tkn K ml 1 i h || hb (ml 16 6) i || rd K T vL aL 1 i))))], [.int (nI i), .ref 1, .ref 16], XM L mi ml) rfl ?_
      refine xB.c1 46 [.ref 1, .int (nI i)] [.ref 16] (c_plainFollower _ L _ _ (nI i) hP.1 hP.2.1) rfl ?_
      refine xB.go 1 (131, [(0, .ref 16), (1, .int (nI i)), (2, .int (nI (K i))), (3, .int (lv2 (tkn K ml 0 i h) (tkn K ml 1 i h))), (4, .int (nI (h - tk (K i)))), (5, .long (((1 : Int64) <<< (Int32.toInt64 (2 * (nI (h - tk (K i)))) &&& 63)) - 1)), (7, .long (((ml 17 (nI i).toNatClampNeg) &&& (((1 : Int64) <<< (Int32.toInt64 (2 * (nI (h - tk (K i)))) &&& 63)) - 1)) ||| ((Int32.toInt64 (lv2 (tkn K ml 0 i h || hb (ml 16 5) i || rd K T vL aL 0 i) (tkn K ml 1 i h || hb (ml 16 6) i || rd K T vL aL 1 i))) <<< (Int32.toInt64 (2 * (nI (h - tk (K i)))) &&& 63)))), (9, .long (Int32.toInt64 (lv2 (tkn K ml 0 i h || hb (ml 16 5) i || rd K T vL aL 0 i) (tkn K ml 1 i h || hb (ml 16 6) i || rd K T vL aL 1 i))))], [.long (((ml 17 (nI i).toNatClampNeg) &&& (((1 : Int64) <<< (Int32.toInt64 (2 * (nI (h - tk (K i)))) &&& 63)) - 1)) ||| ((Int32.toInt64 (lv2 (tkn K ml 0 i h || hb (ml 16 5) i || rd K T vL aL 0 i) (tkn K ml 1 i h || hb (ml 16 6) i || rd K T vL aL 1 i))) <<< (Int32.toInt64 (2 * (nI (h - tk (K i)))) &&& 63))), .int (sl_pf mi (nI i)), .ref 16], XM L mi ml) rfl ?_
      refine xB.c0 65 [.ref 16, .int (sl_pf mi (nI i)), .long (((ml 17 (nI i).toNatClampNeg) &&& (((1 : Int64) <<< (Int32.toInt64 (2 * (nI (h - tk (K i)))) &&& 63)) - 1)) ||| ((Int32.toInt64 (lv2 (tkn K ml 0 i h || hb (ml 16 5) i || rd K T vL aL 0 i) (tkn K ml 1 i h || hb (ml 16 6) i || rd K T vL aL 1 i))) <<< (Int32.toInt64 (2 * (nI (h - tk (K i)))) &&& 63)))] [] (c_growPile _ L _ _ hP _ _ (fo1 K T i) (eOk1 hP hin hwf)) rfl ?_
      refine xB.go 4 (140, [(0, .ref 16), (1, .int (nI i)), (2, .int (nI (K i))), (3, .int (lv2 (tkn K ml 0 i h) (tkn K ml 1 i h))), (4, .int (nI (h - tk (K i)))), (5, .long (((1 : Int64) <<< (Int32.toInt64 (2 * (nI (h - tk (K i)))) &&& 63)) - 1)), (7, .long (((ml 17 (nI i).toNatClampNeg) &&& (((1 : Int64) <<< (Int32.toInt64 (2 * (nI (h - tk (K i)))) &&& 63)) - 1)) ||| ((Int32.toInt64 (lv2 (tkn K ml 0 i h || hb (ml 16 5) i || rd K T vL aL 0 i) (tkn K ml 1 i h || hb (ml 16 6) i || rd K T vL aL 1 i))) <<< (Int32.toInt64 (2 * (nI (h - tk (K i)))) &&& 63)))), (9, .long (Int32.toInt64 (lv2 (tkn K ml 0 i h || hb (ml 16 5) i || rd K T vL aL 0 i) (tkn K ml 1 i h || hb (ml 16 6) i || rd K T vL aL 1 i))))], [.int (nI i), .ref 1, .ref 16], XM L (gpm mi ml (fo1 K T i) (((ml 17 (nI i).toNatClampNeg) &&& (((1 : Int64) <<< (Int32.toInt64 (2 * (nI (h - tk (K i)))) &&& 63)) - 1)) ||| ((Int32.toInt64 (lv2 (tkn K ml 0 i h || hb (ml 16 5) i || rd K T vL aL 0 i) (tkn K ml 1 i h || hb (ml 16 6) i || rd K T vL aL 1 i))) <<< (Int32.toInt64 (2 * (nI (h - tk (K i)))) &&& 63)))) (gpl ml (fo1 K T i) (((ml 17 (nI i).toNatClampNeg) &&& (((1 : Int64) <<< (Int32.toInt64 (2 * (nI (h - tk (K i)))) &&& 63)) - 1)) ||| ((Int32.toInt64 (lv2 (tkn K ml 0 i h || hb (ml 16 5) i || rd K T vL aL 0 i) (tkn K ml 1 i h || hb (ml 16 6) i || rd K T vL aL 1 i))) <<< (Int32.toInt64 (2 * (nI (h - tk (K i)))) &&& 63))))) rfl ?_
      refine xB.c1 47 [.ref 1, .int (nI i)] [.ref 16] (c_otherFollower _ L _ _ (nI i) hP.gp.1 hP.2.1) rfl ?_
      refine xB.go 1 (145, [(0, .ref 16), (1, .int (nI i)), (2, .int (nI (K i))), (3, .int (lv2 (tkn K ml 0 i h) (tkn K ml 1 i h))), (4, .int (nI (h - tk (K i)))), (5, .long (((1 : Int64) <<< (Int32.toInt64 (2 * (nI (h - tk (K i)))) &&& 63)) - 1)), (7, .long (((ml 17 (nI i).toNatClampNeg) &&& (((1 : Int64) <<< (Int32.toInt64 (2 * (nI (h - tk (K i)))) &&& 63)) - 1)) ||| ((Int32.toInt64 (lv2 (tkn K ml 0 i h || hb (ml 16 5) i || rd K T vL aL 0 i) (tkn K ml 1 i h || hb (ml 16 6) i || rd K T vL aL 1 i))) <<< (Int32.toInt64 (2 * (nI (h - tk (K i)))) &&& 63)))), (9, .long (Int32.toInt64 (lv2 (tkn K ml 0 i h || hb (ml 16 5) i || rd K T vL aL 0 i) (tkn K ml 1 i h || hb (ml 16 6) i || rd K T vL aL 1 i))))], [.long (((ml 17 (nI i).toNatClampNeg) &&& (((1 : Int64) <<< (Int32.toInt64 (2 * (nI (h - tk (K i)))) &&& 63)) - 1)) ||| ((Int32.toInt64 (lv2 (tkn K ml 0 i h || hb (ml 16 5) i || rd K T vL aL 0 i) (tkn K ml 1 i h || hb (ml 16 6) i || rd K T vL aL 1 i))) <<< (Int32.toInt64 (2 * (nI (h - tk (K i)))) &&& 63))), .int (sl_of (gpm mi ml (fo1 K T i) (((ml 17 (nI i).toNatClampNeg) &&& (((1 : Int64) <<< (Int32.toInt64 (2 * (nI (h - tk (K i)))) &&& 63)) - 1)) ||| ((Int32.toInt64 (lv2 (tkn K ml 0 i h || hb (ml 16 5) i || rd K T vL aL 0 i) (tkn K ml 1 i h || hb (ml 16 6) i || rd K T vL aL 1 i))) <<< (Int32.toInt64 (2 * (nI (h - tk (K i)))) &&& 63)))) (nI i)), .ref 16], XM L (gpm mi ml (fo1 K T i) (((ml 17 (nI i).toNatClampNeg) &&& (((1 : Int64) <<< (Int32.toInt64 (2 * (nI (h - tk (K i)))) &&& 63)) - 1)) ||| ((Int32.toInt64 (lv2 (tkn K ml 0 i h || hb (ml 16 5) i || rd K T vL aL 0 i) (tkn K ml 1 i h || hb (ml 16 6) i || rd K T vL aL 1 i))) <<< (Int32.toInt64 (2 * (nI (h - tk (K i)))) &&& 63)))) (gpl ml (fo1 K T i) (((ml 17 (nI i).toNatClampNeg) &&& (((1 : Int64) <<< (Int32.toInt64 (2 * (nI (h - tk (K i)))) &&& 63)) - 1)) ||| ((Int32.toInt64 (lv2 (tkn K ml 0 i h || hb (ml 16 5) i || rd K T vL aL 0 i) (tkn K ml 1 i h || hb (ml 16 6) i || rd K T vL aL 1 i))) <<< (Int32.toInt64 (2 * (nI (h - tk (K i)))) &&& 63))))) rfl ?_
      refine xB.c0 65 [.ref 16, .int (sl_of (gpm mi ml (fo1 K T i) (((ml 17 (nI i).toNatClampNeg) &&& (((1 : Int64) <<< (Int32.toInt64 (2 * (nI (h - tk (K i)))) &&& 63)) - 1)) ||| ((Int32.toInt64 (lv2 (tkn K ml 0 i h || hb (ml 16 5) i || rd K T vL aL 0 i) (tkn K ml 1 i h || hb (ml 16 6) i || rd K T vL aL 1 i))) <<< (Int32.toInt64 (2 * (nI (h - tk (K i)))) &&& 63)))) (nI i)), .long (((ml 17 (nI i).toNatClampNeg) &&& (((1 : Int64) <<< (Int32.toInt64 (2 * (nI (h - tk (K i)))) &&& 63)) - 1)) ||| ((Int32.toInt64 (lv2 (tkn K ml 0 i h || hb (ml 16 5) i || rd K T vL aL 0 i) (tkn K ml 1 i h || hb (ml 16 6) i || rd K T vL aL 1 i))) <<< (Int32.toInt64 (2 * (nI (h - tk (K i)))) &&& 63)))] [] (c_growPile _ L _ _ hP.gp _ _ (fo2 K T i) (eOk2 hP.gp hin hwf)) rfl ?_
      refine xB.rt none (gpm (gpm mi ml (fo1 K T i) (((ml 17 (nI i).toNatClampNeg) &&& (((1 : Int64) <<< (Int32.toInt64 (2 * (nI (h - tk (K i)))) &&& 63)) - 1)) ||| ((Int32.toInt64 (lv2 (tkn K ml 0 i h || hb (ml 16 5) i || rd K T vL aL 0 i) (tkn K ml 1 i h || hb (ml 16 6) i || rd K T vL aL 1 i))) <<< (Int32.toInt64 (2 * (nI (h - tk (K i)))) &&& 63)))) (gpl ml (fo1 K T i) (((ml 17 (nI i).toNatClampNeg) &&& (((1 : Int64) <<< (Int32.toInt64 (2 * (nI (h - tk (K i)))) &&& 63)) - 1)) ||| ((Int32.toInt64 (lv2 (tkn K ml 0 i h || hb (ml 16 5) i || rd K T vL aL 0 i) (tkn K ml 1 i h || hb (ml 16 6) i || rd K T vL aL 1 i))) <<< (Int32.toInt64 (2 * (nI (h - tk (K i)))) &&& 63)))) (fo2 K T i) (((ml 17 (nI i).toNatClampNeg) &&& (((1 : Int64) <<< (Int32.toInt64 (2 * (nI (h - tk (K i)))) &&& 63)) - 1)) ||| ((Int32.toInt64 (lv2 (tkn K ml 0 i h || hb (ml 16 5) i || rd K T vL aL 0 i) (tkn K ml 1 i h || hb (ml 16 6) i || rd K T vL aL 1 i))) <<< (Int32.toInt64 (2 * (nI (h - tk (K i)))) &&& 63)))) (gpl (gpl ml (fo1 K T i) (((ml 17 (nI i).toNatClampNeg) &&& (((1 : Int64) <<< (Int32.toInt64 (2 * (nI (h - tk (K i)))) &&& 63)) - 1)) ||| ((Int32.toInt64 (lv2 (tkn K ml 0 i h || hb (ml 16 5) i || rd K T vL aL 0 i) (tkn K ml 1 i h || hb (ml 16 6) i || rd K T vL aL 1 i))) <<< (Int32.toInt64 (2 * (nI (h - tk (K i)))) &&& 63)))) (fo2 K T i) (((ml 17 (nI i).toNatClampNeg) &&& (((1 : Int64) <<< (Int32.toInt64 (2 * (nI (h - tk (K i)))) &&& 63)) - 1)) ||| ((Int32.toInt64 (lv2 (tkn K ml 0 i h || hb (ml 16 5) i || rd K T vL aL 0 i) (tkn K ml 1 i h || hb (ml 16 6) i || rd K T vL aL 1 i))) <<< (Int32.toInt64 (2 * (nI (h - tk (K i)))) &&& 63)))) rfl ?_
      have g5 := k_ne (c := 5) h1
      have e1 : sp1m K mi ml i h = mi := if_neg g5
      have e2 : sp1l K ml i h = ml := if_neg g5
      refine ⟨rfl, _, fun x hx => ?_, by rw [e1, e2], by rw [e2]⟩
      have hp1 := pt_1 hk h2
      have hr16 : h - tk (K i) < 16 := by omega
      rw [hb_or, hb_and, ofst _ hr17 x hx, putb _ _ _ hr16 x hx, lfx, nI_clamp (by omega)]
      simp only [g5, hp1, decide_true, decide_false, Bool.true_and, Bool.false_and, Bool.or_false]
      rw [Bool.and_comm (hb (ml 17 i) x)]
  · refine xB.go 13 (77, [(0, .ref 16), (1, .int (nI i)), (2, .int (nI (K i))), (3, .int (lv2 (tkn K ml 0 i h) (tkn K ml 1 i h))), (4, .int (nI (h - tk (K i)))), (5, .long (((1 : Int64) <<< (Int32.toInt64 (2 * (nI (h - tk (K i)))) &&& 63)) - 1)), (7, .long (((ml 17 (nI i).toNatClampNeg) &&& (((1 : Int64) <<< (Int32.toInt64 (2 * (nI (h - tk (K i)))) &&& 63)) - 1)) ||| (((Int32.toInt64 (lv2 (tkn K ml 0 i h) (tkn K ml 1 i h))) * 1431655765) &&& (((1 : Int64) <<< (Int32.toInt64 (2 * (nI (h - tk (K i)))) &&& 63)) - 1))))], [.int (nI i), .ref 10, .ref 16], XM L mi ml) rfl ?_
    refine xB.c1 2 [.ref 10, .int (nI i)] [.ref 16] (c_regionOf _ L _ _ hP hin) rfl ?_
    refine xB.go 1 (81, [(0, .ref 16), (1, .int (nI i)), (2, .int (nI (K i))), (3, .int (lv2 (tkn K ml 0 i h) (tkn K ml 1 i h))), (4, .int (nI (h - tk (K i)))), (5, .long (((1 : Int64) <<< (Int32.toInt64 (2 * (nI (h - tk (K i)))) &&& 63)) - 1)), (7, .long (((ml 17 (nI i).toNatClampNeg) &&& (((1 : Int64) <<< (Int32.toInt64 (2 * (nI (h - tk (K i)))) &&& 63)) - 1)) ||| (((Int32.toInt64 (lv2 (tkn K ml 0 i h) (tkn K ml 1 i h))) * 1431655765) &&& (((1 : Int64) <<< (Int32.toInt64 (2 * (nI (h - tk (K i)))) &&& 63)) - 1))))], [.int (lv2 (tkn K ml 0 i h) (tkn K ml 1 i h)), .long (ml 15 i), .ref 16], XM L mi ml) rfl ?_
    refine xB.c0 66 [.ref 16, .long (ml 15 i), .int (lv2 (tkn K ml 0 i h) (tkn K ml 1 i h))] [] (c_growSurroundings _ L _ _ _ _ _) rfl ?_
    refine xB.go 2 (88, [(0, .ref 16), (1, .int (nI i)), (2, .int (nI (K i))), (3, .int (lv2 (tkn K ml 0 i h) (tkn K ml 1 i h))), (4, .int (nI (h - tk (K i)))), (5, .long (((1 : Int64) <<< (Int32.toInt64 (2 * (nI (h - tk (K i)))) &&& 63)) - 1)), (7, .long (((ml 17 (nI i).toNatClampNeg) &&& (((1 : Int64) <<< (Int32.toInt64 (2 * (nI (h - tk (K i)))) &&& 63)) - 1)) ||| (((Int32.toInt64 (lv2 (tkn K ml 0 i h) (tkn K ml 1 i h))) * 1431655765) &&& (((1 : Int64) <<< (Int32.toInt64 (2 * (nI (h - tk (K i)))) &&& 63)) - 1))))], [.int (nI (K i)), .ref 1003], XM L (gsm mi ml (ml 15 i) (tkn K ml 0 i h) (tkn K ml 1 i h)) (gsl ml (ml 15 i) (tkn K ml 0 i h) (tkn K ml 1 i h))) rfl ?_
    refine xB.ck (xin (nI (K i)) 10) (89, [(0, .ref 16), (1, .int (nI i)), (2, .int (nI (K i))), (3, .int (lv2 (tkn K ml 0 i h) (tkn K ml 1 i h))), (4, .int (nI (h - tk (K i)))), (5, .long (((1 : Int64) <<< (Int32.toInt64 (2 * (nI (h - tk (K i)))) &&& 63)) - 1)), (7, .long (((ml 17 (nI i).toNatClampNeg) &&& (((1 : Int64) <<< (Int32.toInt64 (2 * (nI (h - tk (K i)))) &&& 63)) - 1)) ||| (((Int32.toInt64 (lv2 (tkn K ml 0 i h) (tkn K ml 1 i h))) * 1431655765) &&& (((1 : Int64) <<< (Int32.toInt64 (2 * (nI (h - tk (K i)))) &&& 63)) - 1))))], [.int ((gsm mi ml (ml 15 i) (tkn K ml 0 i h) (tkn K ml 1 i h)) 1003 (nI (K i)).toNatClampNeg)], XM L (gsm mi ml (ml 15 i) (tkn K ml 0 i h) (tkn K ml 1 i h)) (gsl ml (ml 15 i) (tkn K ml 0 i h) (tkn K ml 1 i h))) rfl (xin_of hk (by decide) rfl) ?_
    refine xB.cg (89, [(0, .ref 16), (1, .int (nI i)), (2, .int (nI (K i))), (3, .int (lv2 (tkn K ml 0 i h) (tkn K ml 1 i h))), (4, .int (nI (h - tk (K i)))), (5, .long (((1 : Int64) <<< (Int32.toInt64 (2 * (nI (h - tk (K i)))) &&& 63)) - 1)), (7, .long (((ml 17 (nI i).toNatClampNeg) &&& (((1 : Int64) <<< (Int32.toInt64 (2 * (nI (h - tk (K i)))) &&& 63)) - 1)) ||| (((Int32.toInt64 (lv2 (tkn K ml 0 i h) (tkn K ml 1 i h))) * 1431655765) &&& (((1 : Int64) <<< (Int32.toInt64 (2 * (nI (h - tk (K i)))) &&& 63)) - 1))))], [.int (nI (pt (K i)))], XM L (gsm mi ml (ml 15 i) (tkn K ml 0 i h) (tkn K ml 1 i h)) (gsl ml (ml 15 i) (tkn K ml 0 i h) (tkn K ml 1 i h))) (by rw [nI_clamp (n := K i) (by omega), gsm_row (by decide), hP.2.2.2.2.2, (pt_le _ hk).2]) ?_
    refine xB.bp ((nI (pt (K i))) = 0) (120, [(0, .ref 16), (1, .int (nI i)), (2, .int (nI (K i))), (3, .int (lv2 (tkn K ml 0 i h) (tkn K ml 1 i h))), (4, .int (nI (h - tk (K i)))), (5, .long (((1 : Int64) <<< (Int32.toInt64 (2 * (nI (h - tk (K i)))) &&& 63)) - 1)), (7, .long (((ml 17 (nI i).toNatClampNeg) &&& (((1 : Int64) <<< (Int32.toInt64 (2 * (nI (h - tk (K i)))) &&& 63)) - 1)) ||| (((Int32.toInt64 (lv2 (tkn K ml 0 i h) (tkn K ml 1 i h))) * 1431655765) &&& (((1 : Int64) <<< (Int32.toInt64 (2 * (nI (h - tk (K i)))) &&& 63)) - 1))))], [], XM L (gsm mi ml (ml 15 i) (tkn K ml 0 i h) (tkn K ml 1 i h)) (gsl ml (ml 15 i) (tkn K ml 0 i h) (tkn K ml 1 i h))) (92, [(0, .ref 16), (1, .int (nI i)), (2, .int (nI (K i))), (3, .int (lv2 (tkn K ml 0 i h) (tkn K ml 1 i h))), (4, .int (nI (h - tk (K i)))), (5, .long (((1 : Int64) <<< (Int32.toInt64 (2 * (nI (h - tk (K i)))) &&& 63)) - 1)), (7, .long (((ml 17 (nI i).toNatClampNeg) &&& (((1 : Int64) <<< (Int32.toInt64 (2 * (nI (h - tk (K i)))) &&& 63)) - 1)) ||| (((Int32.toInt64 (lv2 (tkn K ml 0 i h) (tkn K ml 1 i h))) * 1431655765) &&& (((1 : Int64) <<< (Int32.toInt64 (2 * (nI (h - tk (K i)))) &&& 63)) - 1))))], [], XM L (gsm mi ml (ml 15 i) (tkn K ml 0 i h) (tkn K ml 1 i h)) (gsl ml (ml 15 i) (tkn K ml 0 i h) (tkn K ml 1 i h))) rfl (fun h3 => ?_) (fun h3 => ?_)
    · refine xB.go 4 (126, [(0, .ref 16), (1, .int (nI i)), (2, .int (nI (K i))), (3, .int (lv2 (tkn K ml 0 i h) (tkn K ml 1 i h))), (4, .int (nI (h - tk (K i)))), (5, .long (((1 : Int64) <<< (Int32.toInt64 (2 * (nI (h - tk (K i)))) &&& 63)) - 1)), (7, .long (((ml 17 (nI i).toNatClampNeg) &&& (((1 : Int64) <<< (Int32.toInt64 (2 * (nI (h - tk (K i)))) &&& 63)) - 1)) ||| (((Int32.toInt64 (lv2 (tkn K ml 0 i h) (tkn K ml 1 i h))) * 1431655765) &&& (((1 : Int64) <<< (Int32.toInt64 (2 * (nI (h - tk (K i)))) &&& 63)) - 1))))], [.int (nI i), .ref 1, .ref 16], XM L (gsm mi ml (ml 15 i) (tkn K ml 0 i h) (tkn K ml 1 i h)) (gsl ml (ml 15 i) (tkn K ml 0 i h) (tkn K ml 1 i h))) rfl ?_
      refine xB.c1 46 [.ref 1, .int (nI i)] [.ref 16] (c_plainFollower _ L _ _ (nI i) hP.gs.1 hP.2.1) rfl ?_
      refine xB.go 1 (131, [(0, .ref 16), (1, .int (nI i)), (2, .int (nI (K i))), (3, .int (lv2 (tkn K ml 0 i h) (tkn K ml 1 i h))), (4, .int (nI (h - tk (K i)))), (5, .long (((1 : Int64) <<< (Int32.toInt64 (2 * (nI (h - tk (K i)))) &&& 63)) - 1)), (7, .long (((ml 17 (nI i).toNatClampNeg) &&& (((1 : Int64) <<< (Int32.toInt64 (2 * (nI (h - tk (K i)))) &&& 63)) - 1)) ||| (((Int32.toInt64 (lv2 (tkn K ml 0 i h) (tkn K ml 1 i h))) * 1431655765) &&& (((1 : Int64) <<< (Int32.toInt64 (2 * (nI (h - tk (K i)))) &&& 63)) - 1))))], [.long (((ml 17 (nI i).toNatClampNeg) &&& (((1 : Int64) <<< (Int32.toInt64 (2 * (nI (h - tk (K i)))) &&& 63)) - 1)) ||| (((Int32.toInt64 (lv2 (tkn K ml 0 i h) (tkn K ml 1 i h))) * 1431655765) &&& (((1 : Int64) <<< (Int32.toInt64 (2 * (nI (h - tk (K i)))) &&& 63)) - 1))), .int (sl_pf (gsm mi ml (ml 15 i) (tkn K ml 0 i h) (tkn K ml 1 i h)) (nI i)), .ref 16], XM L (gsm mi ml (ml 15 i) (tkn K ml 0 i h) (tkn K ml 1 i h)) (gsl ml (ml 15 i) (tkn K ml 0 i h) (tkn K ml 1 i h))) rfl ?_
      refine xB.c0 65 [.ref 16, .int (sl_pf (gsm mi ml (ml 15 i) (tkn K ml 0 i h) (tkn K ml 1 i h)) (nI i)), .long (((ml 17 (nI i).toNatClampNeg) &&& (((1 : Int64) <<< (Int32.toInt64 (2 * (nI (h - tk (K i)))) &&& 63)) - 1)) ||| (((Int32.toInt64 (lv2 (tkn K ml 0 i h) (tkn K ml 1 i h))) * 1431655765) &&& (((1 : Int64) <<< (Int32.toInt64 (2 * (nI (h - tk (K i)))) &&& 63)) - 1)))] [] (c_growPile _ L _ _ hP.gs _ _ (fo1 K T i) (eOk1 hP.gs hin hwf)) rfl ?_
      refine xB.go 4 (140, [(0, .ref 16), (1, .int (nI i)), (2, .int (nI (K i))), (3, .int (lv2 (tkn K ml 0 i h) (tkn K ml 1 i h))), (4, .int (nI (h - tk (K i)))), (5, .long (((1 : Int64) <<< (Int32.toInt64 (2 * (nI (h - tk (K i)))) &&& 63)) - 1)), (7, .long (((ml 17 (nI i).toNatClampNeg) &&& (((1 : Int64) <<< (Int32.toInt64 (2 * (nI (h - tk (K i)))) &&& 63)) - 1)) ||| (((Int32.toInt64 (lv2 (tkn K ml 0 i h) (tkn K ml 1 i h))) * 1431655765) &&& (((1 : Int64) <<< (Int32.toInt64 (2 * (nI (h - tk (K i)))) &&& 63)) - 1))))], [.int (nI i), .ref 1, .ref 16], XM L (gpm (gsm mi ml (ml 15 i) (tkn K ml 0 i h) (tkn K ml 1 i h)) (gsl ml (ml 15 i) (tkn K ml 0 i h) (tkn K ml 1 i h)) (fo1 K T i) (((ml 17 (nI i).toNatClampNeg) &&& (((1 : Int64) <<< (Int32.toInt64 (2 * (nI (h - tk (K i)))) &&& 63)) - 1)) ||| (((Int32.toInt64 (lv2 (tkn K ml 0 i h) (tkn K ml 1 i h))) * 1431655765) &&& (((1 : Int64) <<< (Int32.toInt64 (2 * (nI (h - tk (K i)))) &&& 63)) - 1)))) (gpl (gsl ml (ml 15 i) (tkn K ml 0 i h) (tkn K ml 1 i h)) (fo1 K T i) (((ml 17 (nI i).toNatClampNeg) &&& (((1 : Int64) <<< (Int32.toInt64 (2 * (nI (h - tk (K i)))) &&& 63)) - 1)) ||| (((Int32.toInt64 (lv2 (tkn K ml 0 i h) (tkn K ml 1 i h))) * 1431655765) &&& (((1 : Int64) <<< (Int32.toInt64 (2 * (nI (h - tk (K i)))) &&& 63)) - 1))))) rfl ?_
      refine xB.c1 47 [.ref 1, .int (nI i)] [.ref 16] (c_otherFollower _ L _ _ (nI i) hP.gs.gp.1 hP.2.1) rfl ?_
      refine xB.go 1 (145, [(0, .ref 16), (1, .int (nI i)), (2, .int (nI (K i))), (3, .int (lv2 (tkn K ml 0 i h) (tkn K ml 1 i h))), (4, .int (nI (h - tk (K i)))), (5, .long (((1 : Int64) <<< (Int32.toInt64 (2 * (nI (h - tk (K i)))) &&& 63)) - 1)), (7, .long (((ml 17 (nI i).toNatClampNeg) &&& (((1 : Int64) <<< (Int32.toInt64 (2 * (nI (h - tk (K i)))) &&& 63)) - 1)) ||| (((Int32.toInt64 (lv2 (tkn K ml 0 i h) (tkn K ml 1 i h))) * 1431655765) &&& (((1 : Int64) <<< (Int32.toInt64 (2 * (nI (h - tk (K i)))) &&& 63)) - 1))))], [.long (((ml 17 (nI i).toNatClampNeg) &&& (((1 : Int64) <<< (Int32.toInt64 (2 * (nI (h - tk (K i)))) &&& 63)) - 1)) ||| (((Int32.toInt64 (lv2 (tkn K ml 0 i h) (tkn K ml 1 i h))) * 1431655765) &&& (((1 : Int64) <<< (Int32.toInt64 (2 * (nI (h - tk (K i)))) &&& 63)) - 1))), .int (sl_of (gpm (gsm mi ml (ml 15 i) (tkn K ml 0 i h) (tkn K ml 1 i h)) (gsl ml (ml 15 i) (tkn K ml 0 i h) (tkn K ml 1 i h)) (fo1 K T i) (((ml 17 (nI i).toNatClampNeg) &&& (((1 : Int64) <<< (Int32.toInt64 (2 * (nI (h - tk (K i)))) &&& 63)) - 1)) ||| (((Int32.toInt64 (lv2 (tkn K ml 0 i h) (tkn K ml 1 i h))) * 1431655765) &&& (((1 : Int64) <<< (Int32.toInt64 (2 * (nI (h - tk (K i)))) &&& 63)) - 1)))) (nI i)), .ref 16], XM L (gpm (gsm mi ml (ml 15 i) (tkn K ml 0 i h) (tkn K ml 1 i h)) (gsl ml (ml 15 i) (tkn K ml 0 i h) (tkn K ml 1 i h)) (fo1 K T i) (((ml 17 (nI i).toNatClampNeg) &&& (((1 : Int64) <<< (Int32.toInt64 (2 * (nI (h - tk (K i)))) &&& 63)) - 1)) ||| (((Int32.toInt64 (lv2 (tkn K ml 0 i h) (tkn K ml 1 i h))) * 1431655765) &&& (((1 : Int64) <<< (Int32.toInt64 (2 * (nI (h - tk (K i)))) &&& 63)) - 1)))) (gpl (gsl ml (ml 15 i) (tkn K ml 0 i h) (tkn K ml 1 i h)) (fo1 K T i) (((ml 17 (nI i).toNatClampNeg) &&& (((1 : Int64) <<< (Int32.toInt64 (2 * (nI (h - tk (K i)))) &&& 63)) - 1)) ||| (((Int32.toInt64 (lv2 (tkn K ml 0 i h) (tkn K ml 1 i h))) * 1431655765) &&& (((1 : Int64) <<< (Int32.toInt64 (2 * (nI (h - tk (K i)))) &&& 63)) - 1))))) rfl ?_
      refine xB.c0 65 [.ref 16, .int (sl_of (gpm (gsm mi ml (ml 15 i) (tkn K ml 0 i h) (tkn K ml 1 i h)) (gsl ml (ml 15 i) (tkn K ml 0 i h) (tkn K ml 1 i h)) (fo1 K T i) (((ml 17 (nI i).toNatClampNeg) &&& (((1 : Int64) <<< (Int32.toInt64 (2 * (nI (h - tk (K i)))) &&& 63)) - 1)) ||| (((Int32.toInt64 (lv2 (tkn K ml 0 i h) (tkn K ml 1 i h))) * 1431655765) &&& (((1 : Int64) <<< (Int32.toInt64 (2 * (nI (h - tk (K i)))) &&& 63)) - 1)))) (nI i)), .long (((ml 17 (nI i).toNatClampNeg) &&& (((1 : Int64) <<< (Int32.toInt64 (2 * (nI (h - tk (K i)))) &&& 63)) - 1)) ||| (((Int32.toInt64 (lv2 (tkn K ml 0 i h) (tkn K ml 1 i h))) * 1431655765) &&& (((1 : Int64) <<< (Int32.toInt64 (2 * (nI (h - tk (K i)))) &&& 63)) - 1)))] [] (c_growPile _ L _ _ hP.gs.gp _ _ (fo2 K T i) (eOk2 hP.gs.gp hin hwf)) rfl ?_
      refine xB.rt none (gpm (gpm (gsm mi ml (ml 15 i) (tkn K ml 0 i h) (tkn K ml 1 i h)) (gsl ml (ml 15 i) (tkn K ml 0 i h) (tkn K ml 1 i h)) (fo1 K T i) (((ml 17 (nI i).toNatClampNeg) &&& (((1 : Int64) <<< (Int32.toInt64 (2 * (nI (h - tk (K i)))) &&& 63)) - 1)) ||| (((Int32.toInt64 (lv2 (tkn K ml 0 i h) (tkn K ml 1 i h))) * 1431655765) &&& (((1 : Int64) <<< (Int32.toInt64 (2 * (nI (h - tk (K i)))) &&& 63)) - 1)))) (gpl (gsl ml (ml 15 i) (tkn K ml 0 i h) (tkn K ml 1 i h)) (fo1 K T i) (((ml 17 (nI i).toNatClampNeg) &&& (((1 : Int64) <<< (Int32.toInt64 (2 * (nI (h - tk (K i)))) &&& 63)) - 1)) ||| (((Int32.toInt64 (lv2 (tkn K ml 0 i h) (tkn K ml 1 i h))) * 1431655765) &&& (((1 : Int64) <<< (Int32.toInt64 (2 * (nI (h - tk (K i)))) &&& 63)) - 1)))) (fo2 K T i) (((ml 17 (nI i).toNatClampNeg) &&& (((1 : Int64) <<< (Int32.toInt64 (2 * (nI (h - tk (K i)))) &&& 63)) - 1)) ||| (((Int32.toInt64 (lv2 (tkn K ml 0 i h) (tkn K ml 1 i h))) * 1431655765) &&& (((1 : Int64) <<< (Int32.toInt64 (2 * (nI (h - tk (K i)))) &&& 63)) - 1)))) (gpl (gpl (gsl ml (ml 15 i) (tkn K ml 0 i h) (tkn K ml 1 i h)) (fo1 K T i) (((ml 17 (nI i).toNatClampNeg) &&& (((1 : Int64) <<< (Int32.toInt64 (2 * (nI (h - tk (K i)))) &&& 63)) - 1)) ||| (((Int32.toInt64 (lv2 (tkn K ml 0 i h) (tkn K ml 1 i h))) * 1431655765) &&& (((1 : Int64) <<< (Int32.toInt64 (2 * (nI (h - tk (K i)))) &&& 63)) - 1)))) (fo2 K T i) (((ml 17 (nI i).toNatClampNeg) &&& (((1 : Int64) <<< (Int32.toInt64 (2 * (nI (h - tk (K i)))) &&& 63)) - 1)) ||| (((Int32.toInt64 (lv2 (tkn K ml 0 i h) (tkn K ml 1 i h))) * 1431655765) &&& (((1 : Int64) <<< (Int32.toInt64 (2 * (nI (h - tk (K i)))) &&& 63)) - 1)))) rfl ?_
      have g5 := k_eq hk (c := 5) (by decide) (Classical.not_not.mp h1)
      have e1 : sp1m K mi ml i h = gsm mi ml (ml 15 i) (tkn K ml 0 i h) (tkn K ml 1 i h) := if_pos g5
      have e2 : sp1l K ml i h = gsl ml (ml 15 i) (tkn K ml 0 i h) (tkn K ml 1 i h) := if_pos g5
      refine ⟨rfl, _, fun x hx => ?_, by rw [e1, e2], by rw [e2]⟩
      have hp0 : ¬ pt (K i) = 1 := by rw [pt5 g5]; decide
      rw [hb_or, hb_and, hb_and, ofst _ hr17 x hx, each _ _ x hx, lfx]
      rw [nI_clamp (by omega)]
      simp only [g5, hp0, decide_true, decide_false, Bool.true_and, Bool.false_and, Bool.or_false]
      by_cases hx2 : x < 2 * (h - tk 5)
      · have hx3 : x < 32 := by have := hr17; rw [g5] at this; omega
        simp [hx2, hx3, show ¬ pt 5 = 1 by decide]
      · simp [hx2, show ¬ pt 5 = 1 by decide]
    · have g5 := k_eq hk (c := 5) (by decide) (Classical.not_not.mp h1)
      rw [pt5 g5] at h3
      exact absurd rfl h3
end
section
/-! TYPES: the least levels, a bit at a time; place 16 is the surrounding -/
def TKN (K : Nat → Nat) (X : Nat → Nat → Prop) (i h : Nat) : Prop := ∃ k, h - tk (K i) ≤ k ∧ k < h ∧ X i k
/-- what the rules at instruction i, with h ints on the pile, ask for -/
def DVi (K T : Nat → Nat) (rdb : Nat → Bool) (Rg : Nat → Nat → Prop) (i h : Nat) (X : Nat → Nat → Prop) (j k : Nat) : Prop :=
  (Fo K T i j ∧ ((k < h - tk (K i) ∧ (X i k ∨ (K i = 5 ∧ TKN K X i h))) ∨ (pt (K i) = 1 ∧ k = h - tk (K i) ∧ (TKN K X i h ∨ X i 16 ∨ rdb i = true)))) ∨ (K i = 5 ∧ TKN K X i h ∧ Rg i j ∧ k = 16)
theorem DVi.mono {K T : Nat → Nat} {rdb : Nat → Bool} {Rg : Nat → Nat → Prop} {i h j k : Nat} {X Y : Nat → Nat → Prop} (hXY : ∀ j k, X j k → Y j k) (hd : DVi K T rdb Rg i h X j k) : DVi K T rdb Rg i h Y j k := by
  have ht : TKN K X i h → TKN K Y i h := fun ⟨k, a, b, c⟩ => ⟨k, a, b, hXY _ _ c⟩
  rcases hd with ⟨hf, ⟨h1, h2 | ⟨h2, h3⟩⟩ | ⟨h1, h2, h3 | h3 | h3⟩⟩ | ⟨h1, h2, h3, h4⟩
  · exact Or.inl ⟨hf, Or.inl ⟨h1, Or.inl (hXY _ _ h2)⟩⟩
  · exact Or.inl ⟨hf, Or.inl ⟨h1, Or.inr ⟨h2, ht h3⟩⟩⟩
  · exact Or.inl ⟨hf, Or.inr ⟨h1, h2, Or.inl (ht h3)⟩⟩
  · exact Or.inl ⟨hf, Or.inr ⟨h1, h2, Or.inr (Or.inl (hXY _ _ h3))⟩⟩
  · exact Or.inl ⟨hf, Or.inr ⟨h1, h2, Or.inr (Or.inr h3)⟩⟩
  · exact Or.inr ⟨h1, ht h2, h3, h4⟩
def TY (n : Nat) (K T : Nat → Nat) (rdb : Nat → Bool) (Rg : Nat → Nat → Prop) (j k : Nat) : Prop := ∀ X : Nat → Nat → Prop, (∀ i h, Rh n K T i h → ∀ j k, DVi K T rdb Rg i h X j k → X j k) → X j k
theorem TY.mk {n : Nat} {K T : Nat → Nat} {rdb : Nat → Bool} {Rg : Nat → Nat → Prop} {i h j k : Nat} (hr : Rh n K T i h) (hd : DVi K T rdb Rg i h (TY n K T rdb Rg) j k) : TY n K T rdb Rg j k := fun X hX => hX i h hr j k (hd.mono (fun j k g => g X hX))
/-! the class's cells -/
def tS (ml : xml) (b j k : Nat) : Prop := (k < 16 ∧ hb (ml 17 j) (2 * k + b) = true) ∨ (k = 16 ∧ hb (ml 16 (5 + b)) j = true)
theorem tkn_iff {K : Nat → Nat} {ml : xml} {b i h : Nat} (h16 : h ≤ 16) (htk : tk (K i) ≤ h) : tkn K ml b i h = true ↔ TKN K (tS ml b) i h := by
  unfold tkn
  rw [anyr_iff]
  constructor
  · rintro ⟨k, h1, h2, h3⟩; exact ⟨k, h1, by omega, Or.inl ⟨by omega, h3⟩⟩
  · rintro ⟨k, h1, h2, h3 | h3⟩
    · exact ⟨k, h1, by omega, h3.2⟩
    · omega
theorem gpl_17 {ml : xml} {o : Option Nat} {left : Int64} {j x : Nat} : hb (gpl ml o left 17 j) x = (hb (ml 17 j) x || (decide (o = some j) && hb left x)) := by
  cases o with
  | none => show hb (ml 17 j) x = _; simp
  | some q =>
    show hb (xU ml 17 q (ml 17 q ||| left) 17 j) x = _
    rw [xU_at]
    by_cases h : j = q
    · subst h; rw [va_up_self, hb_or]; simp
    · have : ¬ q = j := fun e => h e.symm
      rw [va_up_ne _ _ h]; simp [this]
theorem gpl_row {ml : xml} {o : Option Nat} {left : Int64} {x : Nat} (h : x ≠ 17) : gpl ml o left x = ml x := by
  cases o with
  | none => rfl
  | some q => exact xU_ne h
theorem gsl_row {ml : xml} {R : Int64} {p q : Bool} {x : Nat} (h : x ≠ 16) : gsl ml R p q x = ml x := by unfold gsl; rw [xU_ne h, xU_ne h]
theorem hb_gsA {x R : Int64} {p : Bool} {j : Nat} (hj : j < 64) : hb (x ||| gsA x R p) j = (hb x j || (p && hb R j)) := by
  unfold gsA
  cases p with
  | true => simp only [cond_true]; rw [hb_or, hb_and, hb_not _ hj]; cases hb x j <;> simp
  | false => simp only [cond_false]; rw [or_z]; simp
theorem gsl_16 {ml : xml} {R : Int64} {p q : Bool} {b j : Nat} (hb2 : b < 2) (hj : j < 64) : hb (gsl ml R p q 16 (5 + b)) j = (hb (ml 16 (5 + b)) j || ((bif Nat.beq b 0 then p else q) && hb R j)) := by
  rcases (show b = 0 ∨ b = 1 by omega) with rfl | rfl
  · exact hb_gsA hj
  · exact hb_gsA hj
/-- the bits behind spreadFrom: those before, and what the rules at i ask for -/
theorem SPR.bits {n : Nat} {K T : Nat → Nat} {rdb : Nat → Nat → Bool} {mi a : xmi} {ml b' : xml} {i h : Nat} (h16 : h ≤ 16) (htk : tk (K i) ≤ h) (hg : h - tk (K i) + pt (K i) ≤ 16) (hs : SPR K T (rdb 0 i) (rdb 1 i) mi ml i h a b') {b j k : Nat} (hb2 : b < 2) (hj : j < 64) (hk : k ≤ 16) :
    tS b' b j k ↔ tS ml b j k ∨ DVi K T (rdb b) (fun i j => hb (ml 15 i) j = true) i h (tS ml b) j k := by
  obtain ⟨left, hl, -, rfl⟩ := hs
  have hsp17 : sp1l K ml i h 17 = ml 17 := by unfold sp1l; split; exact gsl_row (by decide); rfl
  have hF : (decide (fo1 K T i = some j) || decide (fo2 K T i = some j)) = true ↔ Fo K T i j := by rw [Fo_iff]; simp
  rcases Nat.lt_or_ge k 16 with hk16 | hk16
  · have e1 : hb (gpl (gpl (sp1l K ml i h) (fo1 K T i) left) (fo2 K T i) left 17 j) (2 * k + b) = (hb (ml 17 j) (2 * k + b) || ((decide (fo1 K T i = some j) || decide (fo2 K T i = some j)) && hb left (2 * k + b))) := by
      rw [gpl_17, gpl_17, hsp17]
      cases hb (ml 17 j) (2 * k + b) <;> cases hb left (2 * k + b) <;> simp
    have e2 : hb left (2 * k + b) = true ↔ (k < h - tk (K i) ∧ (tS ml b i k ∨ (K i = 5 ∧ TKN K (tS ml b) i h))) ∨ (pt (K i) = 1 ∧ k = h - tk (K i) ∧ (TKN K (tS ml b) i h ∨ tS ml b i 16 ∨ rdb b i = true)) := by
      rw [hl _ (by omega)]
      have ht := tkn_iff (ml := ml) (b := b) h16 htk
      have hS : tS ml b i k ↔ hb (ml 17 i) (2 * k + b) = true := ⟨fun z => z.elim (fun w => w.2) (fun w => by omega), fun z => Or.inl ⟨hk16, z⟩⟩
      have hS16 : tS ml b i 16 ↔ hb (ml 16 (5 + b)) i = true := ⟨fun z => z.elim (fun w => by omega) (fun w => w.2), fun z => Or.inr ⟨rfl, z⟩⟩
      rw [hS, hS16, ← ht]
      rcases (show b = 0 ∨ b = 1 by omega) with rfl | rfl
      · show lfx K ml (rdb 0 i) (rdb 1 i) i h (2 * k) = true ↔ _
        have m2 : Nat.beq (2 * k % 2) 0 = true := by rw [show 2 * k % 2 = 0 by omega]; rfl
        have c1 : (2 * k < 2 * (h - tk (K i))) ↔ k < h - tk (K i) := by omega
        have c2 : (2 * k = 2 * (h - tk (K i))) ↔ k = h - tk (K i) := by omega
        have c3 : ¬ (2 * k = 2 * (h - tk (K i)) + 1) := by omega
        simp only [lfx, m2, cond_true, Bool.or_eq_true, Bool.and_eq_true, decide_eq_true_eq, c1, c2, c3, false_and, or_false, Nat.add_zero, or_assoc]
      · have m2 : Nat.beq ((2 * k + 1) % 2) 0 = false := by rw [show (2 * k + 1) % 2 = 1 by omega]; rfl
        have c1 : (2 * k + 1 < 2 * (h - tk (K i))) ↔ k < h - tk (K i) := by omega
        have c2 : ¬ (2 * k + 1 = 2 * (h - tk (K i))) := by omega
        have c3 : (2 * k + 1 = 2 * (h - tk (K i)) + 1) ↔ k = h - tk (K i) := by omega
        simp only [lfx, m2, cond_false, Bool.or_eq_true, Bool.and_eq_true, decide_eq_true_eq, c1, c2, c3, false_and, false_or, or_assoc]
    constructor
    · rintro (⟨-, g⟩ | ⟨g, -⟩)
      · rw [e1, Bool.or_eq_true, Bool.and_eq_true, hF, e2] at g
        rcases g with g | ⟨g1, g2⟩
        · exact Or.inl (Or.inl ⟨hk16, g⟩)
        · exact Or.inr (Or.inl ⟨g1, g2⟩)
      · omega
    · intro g
      refine Or.inl ⟨hk16, ?_⟩
      rw [e1, Bool.or_eq_true, Bool.and_eq_true, hF, e2]
      rcases g with (⟨-, g⟩ | ⟨g, -⟩) | (⟨g1, g2⟩ | ⟨-, -, -, g⟩)
      · exact Or.inl g
      · omega
      · exact Or.inr ⟨g1, g2⟩
      · omega
  · obtain rfl : k = 16 := by omega
    have e1 : gpl (gpl (sp1l K ml i h) (fo1 K T i) left) (fo2 K T i) left 16 = sp1l K ml i h 16 := by rw [gpl_row (by decide), gpl_row (by decide)]
    have hD : DVi K T (rdb b) (fun i j => hb (ml 15 i) j = true) i h (tS ml b) j 16 ↔ K i = 5 ∧ TKN K (tS ml b) i h ∧ hb (ml 15 i) j = true := by
      constructor
      · rintro (⟨-, ⟨g, -⟩ | ⟨g1, g2, -⟩⟩ | ⟨g1, g2, g3, -⟩)
        · omega
        · omega
        · exact ⟨g1, g2, g3⟩
      · rintro ⟨g1, g2, g3⟩; exact Or.inr ⟨g1, g2, g3, rfl⟩
    rw [hD]
    have hS : ∀ m : xml, tS m b j 16 ↔ hb (m 16 (5 + b)) j = true := fun m => ⟨fun z => z.elim (fun w => by omega) (fun w => w.2), fun z => Or.inr ⟨rfl, z⟩⟩
    rw [hS, hS, e1]
    unfold sp1l
    by_cases h5 : K i = 5
    · rw [if_pos h5, gsl_16 hb2 hj, Bool.or_eq_true, Bool.and_eq_true]
      have ht := tkn_iff (ml := ml) (b := b) h16 htk
      have : (bif Nat.beq b 0 then tkn K ml 0 i h else tkn K ml 1 i h) = tkn K ml b i h := by
        rcases (show b = 0 ∨ b = 1 by omega) with rfl | rfl <;> rfl
      rw [this, ht]
      simp [h5]
    · rw [if_neg h5]; simp [h5]
end
section
/-! the least levels found in rounds: for the class and for the reference -/
def gS (f : Nat → Nat → Nat → Bool) (b j k : Nat) : Prop := j < 64 ∧ k ≤ 16 ∧ f b j k = true
def cB (f : Nat → Nat → Nat → Bool) (x : Nat) : Bool := f (x / 1088) (x % 1088 / 17) (x % 17)
theorem cB_ix {b j k : Nat} (hj : j < 64) (hk : k ≤ 16) (f : Nat → Nat → Nat → Bool) : cB f (1088 * b + (17 * j + k)) = f b j k := by
  unfold cB
  have h1 : (1088 * b + (17 * j + k)) / 1088 = b := by omega
  have h2 : (1088 * b + (17 * j + k)) % 1088 = 17 * j + k := by omega
  have h3 : (1088 * b + (17 * j + k)) % 17 = k := by omega
  rw [h1, h2, h3, show (17 * j + k) / 17 = j by omega]
theorem cB_mono {f g : Nat → Nat → Nat → Bool} (h : ∀ b j k, b < 2 → j < 64 → k ≤ 16 → f b j k = true → g b j k = true) : ∀ x, x < 2176 → cB f x = true → cB g x = true := fun x hx => h _ _ _ (by omega) (by omega) (by omega)
theorem cB_le {f g : Nat → Nat → Nat → Bool} (h : ∀ b j k, b < 2 → j < 64 → k ≤ 16 → f b j k = true → g b j k = true) : cnt (cB f) 2176 ≤ cnt (cB g) 2176 := cnt_mono (cB_mono h)
theorem cB_lt {f g : Nat → Nat → Nat → Bool} (h : ∀ b j k, b < 2 → j < 64 → k ≤ 16 → f b j k = true → g b j k = true) (hn : ∃ b j k, b < 2 ∧ j < 64 ∧ k ≤ 16 ∧ f b j k = false ∧ g b j k = true) : cnt (cB f) 2176 < cnt (cB g) 2176 := by
  obtain ⟨b, j, k, hb2, hj, hk, h1, h2⟩ := hn
  exact cnt_lt (j := 1088 * b + (17 * j + k)) (cB_mono h) (by omega) (by rw [cB_ix hj hk, h1]) (by rw [cB_ix hj hk, h2])
section TI
variable (n : Nat) (K T : Nat → Nat) (rdb : Nat → Nat → Bool) (Rg : Nat → Nat → Prop)
def tSo (f : Nat → Nat → Nat → Bool) : Prop := ∀ b j k, b < 2 → gS f b j k → TY n K T (rdb b) Rg j k
def tCl (f : Nat → Nat → Nat → Bool) (p : Nat) : Prop := ∀ h, Rh n K T p h → ∀ b, b < 2 → ∀ j k, DVi K T (rdb b) Rg p h (gS f b) j k → gS f b j k
def tI (f : Nat → Nat → Nat → Bool) (g : Int32) (r i : Nat) : Prop := tSo n K T rdb Rg f ∧ ((g = 1 ∧ r + 1 ≤ cnt (cB f) 2176) ∨ (g = 0 ∧ r ≤ cnt (cB f) 2176 ∧ ∀ p, p < i → tCl n K T rdb Rg f p))
def tO (f : Nat → Nat → Nat → Bool) (g : Int32) (r : Nat) : Prop := tSo n K T rdb Rg f ∧ ((g = 1 ∧ r ≤ cnt (cB f) 2176) ∨ (g = 0 ∧ ∀ b j k, b < 2 → (TY n K T (rdb b) Rg j k ↔ gS f b j k)))
variable {n K T rdb Rg}
theorem tI.skip {f : Nat → Nat → Nat → Bool} {g : Int32} {r i : Nat} (h : tI n K T rdb Rg f g r i) (hm : ¬ ∃ h, Rh n K T i h) : tI n K T rdb Rg f g r (i + 1) := by
  refine ⟨h.1, h.2.imp id (fun ⟨a, b, c⟩ => ⟨a, b, fun p hp => ?_⟩)⟩
  by_cases e : p = i
  · subst e; exact fun h hr => absurd ⟨h, hr⟩ hm
  · exact c p (by omega)
theorem gS.congr {f f' : Nat → Nat → Nat → Bool} {b : Nat} (hb2 : b < 2) (h : ∀ b j k, b < 2 → j < 64 → k ≤ 16 → f' b j k = f b j k) : gS f' b = gS f b := by
  funext j k
  refine propext ⟨fun ⟨a, c, d⟩ => ⟨a, c, by rw [← h b j k hb2 a c]; exact d⟩, fun ⟨a, c, d⟩ => ⟨a, c, by rw [h b j k hb2 a c]; exact d⟩⟩
theorem tI.step {f f' : Nat → Nat → Nat → Bool} {g g' : Int32} {r i : Nat} (h : tI n K T rdb Rg f g r i) (hs : tSo n K T rdb Rg f') (hm : ∀ b j k, b < 2 → j < 64 → k ≤ 16 → f b j k = true → f' b j k = true)
    (hg : (g' = g ∧ (∀ b j k, b < 2 → j < 64 → k ≤ 16 → f' b j k = f b j k) ∧ tCl n K T rdb Rg f' i) ∨ (g' = 1 ∧ ∃ b j k, b < 2 ∧ j < 64 ∧ k ≤ 16 ∧ f b j k = false ∧ f' b j k = true)) : tI n K T rdb Rg f' g' r (i + 1) := by
  refine ⟨hs, ?_⟩
  rcases hg with ⟨rfl, he, hc⟩ | ⟨rfl, hx⟩
  · rcases h.2 with ⟨a, b⟩ | ⟨a, b, c⟩
    · exact Or.inl ⟨a, Nat.le_trans b (cB_le hm)⟩
    · refine Or.inr ⟨a, Nat.le_trans b (cB_le hm), fun p hp => ?_⟩
      by_cases e : p = i
      · subst e; exact hc
      · intro h hr b hb2
        rw [gS.congr hb2 he]
        exact c p (by omega) h hr b hb2
  · refine Or.inl ⟨rfl, ?_⟩
    have := cB_lt hm hx
    rcases h.2 with ⟨a, b⟩ | ⟨a, b, c⟩ <;> omega
theorem tI.begin {f : Nat → Nat → Nat → Bool} {r : Nat} (h : tO n K T rdb Rg f 1 r) : tI n K T rdb Rg f 0 r 0 ∧ r ≤ 2176 := by
  rcases h.2 with ⟨-, a⟩ | ⟨a, -⟩
  · exact ⟨⟨h.1, Or.inr ⟨rfl, a, fun p hp => absurd hp (Nat.not_lt_zero _)⟩⟩, Nat.le_trans a (cnt_le _ _)⟩
  · cases a
theorem tI.end {f : Nat → Nat → Nat → Bool} {g : Int32} {r : Nat} (hw : WF n K T) (h : tI n K T rdb Rg f g r n) : tO n K T rdb Rg f g (r + 1) := by
  refine ⟨h.1, ?_⟩
  rcases h.2 with ⟨a, b⟩ | ⟨a, b, c⟩
  · exact Or.inl ⟨a, b⟩
  · exact Or.inr ⟨a, fun b j k hb2 => ⟨fun ht => ht (gS f b) (fun i h hr => c i (hw.1 i h hr).1 h hr b hb2), h.1 b j k hb2⟩⟩
theorem tO.zero {f : Nat → Nat → Nat → Bool} (h : ∀ b j k, b < 2 → j < 64 → k ≤ 16 → f b j k = false) : tO n K T rdb Rg f 1 0 :=
  ⟨(fun b j k hb2 ⟨h1, h2, h3⟩ => by rw [h b j k hb2 h1 h2] at h3; cases h3), Or.inl ⟨rfl, Nat.zero_le _⟩⟩
theorem tO.end {f : Nat → Nat → Nat → Bool} {g : Int32} {r : Nat} (h : tO n K T rdb Rg f g r) (hx : g = 0 ∨ 2177 ≤ r) : ∀ b j k, b < 2 → (TY n K T (rdb b) Rg j k ↔ gS f b j k) := by
  rcases h.2 with ⟨a, b⟩ | ⟨-, c⟩
  · have := cnt_le (cB f) 2176
    rcases hx with x | x
    · rw [x] at a; cases a
    · omega
  · exact c
end TI
/-! the class's step -/
def tb2 (ml : xml) (b j k : Nat) : Bool := bif Nat.blt k 16 then hb (ml 17 j) (2 * k + b) else hb (ml 16 (5 + b)) j
theorem gS_tS {ml : xml} {b j k : Nat} (hj : j < 64) : gS (tb2 ml) b j k ↔ tS ml b j k := by
  unfold gS tS tb2
  rcases Nat.lt_or_ge k 16 with h | h
  · have e : Nat.blt k 16 = true := Nat.blt_eq.mpr h
    rw [e]; simp only [cond_true]
    exact ⟨fun z => Or.inl ⟨h, z.2.2⟩, fun z => z.elim (fun w => ⟨hj, by omega, w.2⟩) (fun w => by omega)⟩
  · have e : Nat.blt k 16 = false := by
      cases e : Nat.blt k 16 with
      | false => rfl
      | true => have := Nat.blt_eq.mp e; omega
    rw [e]; simp only [cond_false]
    exact ⟨fun z => Or.inr ⟨by omega, z.2.2⟩, fun z => z.elim (fun w => by omega) (fun w => ⟨hj, by omega, w.2⟩)⟩
theorem tb2_tS {ml : xml} {b j k : Nat} (hj : j < 64) (hk : k ≤ 16) : tb2 ml b j k = true ↔ tS ml b j k := by
  rw [← gS_tS hj]; exact ⟨fun h => ⟨hj, hk, h⟩, fun h => h.2.2⟩
theorem DVi.cg {K T : Nat → Nat} {rdb : Nat → Bool} {Rg : Nat → Nat → Prop} {i h j k : Nat} {X Y : Nat → Nat → Prop} (hXY : ∀ k, X i k ↔ Y i k) : DVi K T rdb Rg i h X j k ↔ DVi K T rdb Rg i h Y j k := by
  unfold DVi TKN
  simp only [hXY]
theorem gpm_flag {mi : xmi} {ml : xml} {o : Option Nat} {left : Int64} : (gpm mi ml o left = mi ∧ gpl ml o left = ml) ∨ (gpm mi ml o left = xU mi 16 7 1 ∧ ∃ q x, o = some q ∧ x < 64 ∧ hb left x = true ∧ hb (ml 17 q) x = false) := by
  cases o with
  | none => exact Or.inl ⟨rfl, rfl⟩
  | some q =>
    by_cases h : left &&& (ml 17 q ^^^ (-1)) = 0
    · refine Or.inl ⟨if_pos h, ?_⟩
      show xU ml 17 q (ml 17 q ||| left) = ml
      rw [or_sub h, xU_id]
    · refine Or.inr ⟨if_neg h, ?_⟩
      obtain ⟨x, hx, h2⟩ := hb_ne h
      rw [hb_and, hb_not _ hx, Bool.and_eq_true] at h2
      exact ⟨q, x, rfl, hx, h2.1, by simpa using h2.2⟩
theorem gsm_flag {mi : xmi} {ml : xml} {R : Int64} {p q : Bool} : (gsm mi ml R p q = mi ∧ gsl ml R p q = ml) ∨ (gsm mi ml R p q = xU mi 16 7 1 ∧ ∃ b j, b < 2 ∧ j < 64 ∧ hb (ml 16 (5 + b)) j = false ∧ hb (gsl ml R p q 16 (5 + b)) j = true) := by
  by_cases h : gsA (ml 16 5) R p ||| gsA (ml 16 6) R q = 0
  · refine Or.inl ⟨if_pos h, ?_⟩
    obtain ⟨h1, h2⟩ := or_0 h
    unfold gsl
    rw [h1, h2, or_z, or_z, xU_id ml 16 5, xU_id]
  · refine Or.inr ⟨if_neg h, ?_⟩
    obtain ⟨j, hj, h2⟩ := hb_ne h
    rw [hb_or, Bool.or_eq_true] at h2
    rcases h2 with h2 | h2
    · refine ⟨0, j, by decide, hj, ?_⟩
      rw [gsl_16 (by decide) hj]
      cases p with
      | false => unfold gsA at h2; simp only [cond_false] at h2; rw [hb_0] at h2; cases h2
      | true =>
        unfold gsA at h2; simp only [cond_true] at h2
        rw [hb_and, hb_not _ hj, Bool.and_eq_true] at h2
        exact ⟨by simpa using h2.2, by simp [h2.1]⟩
    · refine ⟨1, j, by decide, hj, ?_⟩
      rw [gsl_16 (by decide) hj]
      cases q with
      | false => unfold gsA at h2; simp only [cond_false] at h2; rw [hb_0] at h2; cases h2
      | true =>
        unfold gsA at h2; simp only [cond_true] at h2
        rw [hb_and, hb_not _ hj, Bool.and_eq_true] at h2
        exact ⟨by simpa using h2.2, by rw [h2.1, show Nat.beq 1 0 = false from rfl]; simp⟩
theorem SPR.flag {n : Nat} {K T : Nat → Nat} {rd0 rd1 : Bool} {mi a : xmi} {ml b' : xml} {i h : Nat} (h16 : h ≤ 16) (hg : h - tk (K i) + pt (K i) ≤ 16) (hfo : ∀ c, Fo K T i c → c < 64) (hs : SPR K T rd0 rd1 mi ml i h a b') :
    (a = mi ∧ b' = ml) ∨ ((a = xU mi 16 7 1) ∧ ∃ b j k, b < 2 ∧ j < 64 ∧ k ≤ 16 ∧ tb2 ml b j k = false ∧ tb2 b' b j k = true) := by
  obtain ⟨left, hl, rfl, rfl⟩ := hs
  have hsp17 : sp1l K ml i h 17 = ml 17 := by unfold sp1l; split; exact gsl_row (by decide); rfl
  have hlx : ∀ x, x < 64 → hb left x = true → x < 32 := fun x hx hb => by
    rw [hl x hx] at hb
    simp only [lfx, Bool.or_eq_true, Bool.and_eq_true, decide_eq_true_eq] at hb
    omega
  have new : ∀ (m1 m2 : xml) (q x : Nat) , q < 64 → x < 64 → hb left x = true → hb (m1 17 q) x = false → hb (m2 17 q) x = true → ∃ b j k, b < 2 ∧ j < 64 ∧ k ≤ 16 ∧ tb2 m1 b j k = false ∧ tb2 m2 b j k = true := fun m1 m2 q x hq hx h1 h2 h3 => by
    have h32 := hlx x hx h1
    refine ⟨x % 2, q, x / 2, by omega, hq, by omega, ?_⟩
    unfold tb2
    rw [Nat.blt_eq.mpr (show x / 2 < 16 by omega)]
    simp only [cond_true]
    rw [show 2 * (x / 2) + x % 2 = x by omega]
    exact ⟨h2, h3⟩
  have h1f : ∀ c, fo1 K T i = some c → c < 64 := fun c hc => hfo c (Fo_iff.mpr (Or.inl hc))
  have h2f : ∀ c, fo2 K T i = some c → c < 64 := fun c hc => hfo c (Fo_iff.mpr (Or.inr hc))
  have key : ∀ (m0 : xmi) (l0 : xml), l0 17 = ml 17 → (gpm (gpm m0 l0 (fo1 K T i) left) (gpl l0 (fo1 K T i) left) (fo2 K T i) left = m0 ∧ gpl (gpl l0 (fo1 K T i) left) (fo2 K T i) left = l0) ∨ (gpm (gpm m0 l0 (fo1 K T i) left) (gpl l0 (fo1 K T i) left) (fo2 K T i) left = xU m0 16 7 1 ∧ ∃ q x, q < 64 ∧ x < 64 ∧ hb left x = true ∧ hb (ml 17 q) x = false ∧ hb (gpl (gpl l0 (fo1 K T i) left) (fo2 K T i) left 17 q) x = true) := fun m0 l0 e => by
    rcases gpm_flag (mi := m0) (ml := l0) (o := fo1 K T i) (left := left) with ⟨a1, a2⟩ | ⟨a1, q, x, a2, a3, a4, a5⟩
    · rw [a1, a2]
      rcases gpm_flag (mi := m0) (ml := l0) (o := fo2 K T i) (left := left) with ⟨b1, b2⟩ | ⟨b1, q, x, b2, b3, b4, b5⟩
      · exact Or.inl ⟨b1, b2⟩
      · refine Or.inr ⟨b1, q, x, h2f q b2, b3, b4, by rw [← e]; exact b5, ?_⟩
        rw [gpl_17, b2, b4]; simp
    · have : gpm (gpm m0 l0 (fo1 K T i) left) (gpl l0 (fo1 K T i) left) (fo2 K T i) left = xU m0 16 7 1 := by
        rw [a1]
        rcases gpm_flag (mi := xU m0 16 7 1) (ml := gpl l0 (fo1 K T i) left) (o := fo2 K T i) (left := left) with ⟨b1, b2⟩ | ⟨b1, -⟩
        · exact b1
        · rw [b1, xU_uu]
      refine Or.inr ⟨this, q, x, h1f q a2, a3, a4, by rw [← e]; exact a5, ?_⟩
      rw [gpl_17, gpl_17, a2, a4]; simp
  rcases key (sp1m K mi ml i h) (sp1l K ml i h) hsp17 with ⟨k1, k2⟩ | ⟨k1, q, x, k2, k3, k4, k5, k6⟩
  · rw [k1, k2]
    unfold sp1m sp1l
    by_cases h5 : K i = 5
    · rw [if_pos h5, if_pos h5]
      rcases gsm_flag (mi := mi) (ml := ml) (R := ml 15 i) (p := tkn K ml 0 i h) (q := tkn K ml 1 i h) with g | ⟨g1, b, j, g2, g3, g4, g5⟩
      · exact Or.inl g
      · exact Or.inr ⟨g1, b, j, 16, g2, g3, Nat.le_refl _, g4, g5⟩
    · rw [if_neg h5, if_neg h5]; exact Or.inl ⟨rfl, rfl⟩
  · refine Or.inr ⟨?_, new ml _ q x k2 k3 k4 k5 k6⟩
    rw [k1]
    unfold sp1m
    by_cases h5 : K i = 5
    · rw [if_pos h5]
      rcases gsm_flag (mi := mi) (ml := ml) (R := ml 15 i) (p := tkn K ml 0 i h) (q := tkn K ml 1 i h) with ⟨g, -⟩ | ⟨g, -⟩
      · rw [g]
      · rw [g, xU_uu]
    · rw [if_neg h5]
theorem SPR.step {n : Nat} {K T : Nat → Nat} {rdb : Nat → Nat → Bool} {mi a : xmi} {ml b' : xml} {i h r : Nat} {Rg : Nat → Nat → Prop} (hn : n ≤ 64) (hw : WF n K T) (hr : Rh n K T i h) (hRg : ∀ j, hb (ml 15 i) j = true ↔ Rg i j) (hs : SPR K T (rdb 0 i) (rdb 1 i) mi ml i h a b')
    (hI : tI n K T rdb Rg (tb2 ml) (mi 16 7) r i) : tI n K T rdb Rg (tb2 b') (a 16 7) r (i + 1) ∧ (∀ x, x ≠ 16 → a x = mi x) ∧ (∀ y, y ≠ 7 → a 16 y = mi 16 y) ∧ (∀ x, x ≠ 16 → x ≠ 17 → b' x = ml x) := by
  obtain ⟨w1, w2, w3⟩ := hw.1 i h hr
  have h16 : h ≤ 16 := by
    have : ∀ i h, Rh n K T i h → h ≤ 16 := fun i h hr => by
      have := hr (fun i h => h ≤ 16) (Nat.zero_le _) (fun i h j _ _ _ g _ => g)
      exact this
    exact this i h hr
  have hfo : ∀ c, Fo K T i c → c < 64 := fun c hc => Nat.lt_of_lt_of_le (hw.fo ⟨h, hr⟩ hc).1 hn
  have hbits := fun b j k (hb2 : b < 2) (hj : j < 64) (hk : k ≤ 16) => SPR.bits (n := n) h16 w2 w3 hs hb2 hj hk
  have hD : ∀ b j k, DVi K T (rdb b) (fun i j => hb (ml 15 i) j = true) i h (tS ml b) j k ↔ DVi K T (rdb b) Rg i h (gS (tb2 ml) b) j k := fun b j k => by
    rw [DVi.cg (Y := gS (tb2 ml) b) (fun k => (gS_tS (by omega)).symm)]
    unfold DVi
    simp only [hRg]
  have hD64 : ∀ b j k, DVi K T (rdb b) Rg i h (gS (tb2 ml) b) j k → j < 64 ∧ k ≤ 16 := fun b j k hd => by
    rcases hd with ⟨hf, ⟨h1, -⟩ | ⟨h1, h2, -⟩⟩ | ⟨-, -, h3, h4⟩
    · exact ⟨hfo j hf, by omega⟩
    · exact ⟨hfo j hf, by omega⟩
    · refine ⟨?_, by omega⟩
      rcases Nat.lt_or_ge j 64 with z | z
      · exact z
      · have := (hRg j).mpr h3; rw [hb_big z] at this; cases this
  have hmono : ∀ b j k, b < 2 → j < 64 → k ≤ 16 → tb2 ml b j k = true → tb2 b' b j k = true := fun b j k hb2 hj hk g => by
    rw [tb2_tS hj hk] at g ⊢
    exact (hbits b j k hb2 hj hk).mpr (Or.inl g)
  refine ⟨hI.step ?_ hmono ?_, ?_, ?_, ?_⟩
  · rintro b j k hb2 ⟨hj, hk, g⟩
    rw [tb2_tS hj hk, hbits b j k hb2 hj hk, hD] at g
    rcases g with g | g
    · exact hI.1 b j k hb2 ((gS_tS hj).mpr g)
    · exact TY.mk hr (g.mono (fun j k z => hI.1 b j k hb2 z))
  · rcases SPR.flag (n := n) h16 w3 hfo hs with ⟨e1, e2⟩ | ⟨e1, e2⟩
    · subst e2
      refine Or.inl ⟨by rw [e1], fun _ _ _ _ _ _ => rfl, fun h2 hr2 b hb2 j k hd => ?_⟩
      obtain rfl := hw.2 i h2 h hr2 hr
      obtain ⟨hj, hk⟩ := hD64 b j k hd
      rw [gS_tS hj]
      exact (hbits b j k hb2 hj hk).mpr (Or.inr ((hD b j k).mpr hd))
    · exact Or.inr ⟨by rw [e1, xU_self], e2⟩
  · rcases SPR.flag (n := n) h16 w3 hfo hs with ⟨e1, e2⟩ | ⟨e1, e2⟩
    · intro x hx; rw [e1]
    · intro x hx; rw [e1, xU_ne hx]
  · rcases SPR.flag (n := n) h16 w3 hfo hs with ⟨e1, e2⟩ | ⟨e1, e2⟩
    · intro x hx; rw [e1]
    · intro x hx; rw [e1, xU_at, va_up_ne _ _ hx]
  · intro x hx hx2
    obtain ⟨left, -, -, e⟩ := hs
    rw [e, gpl_row hx2, gpl_row hx2]
    unfold sp1l; split
    · exact gsl_row hx
    · rfl
end
section
/-! Types.find -/
def tF (mi : xmi) (ml : xml) (a : xmi) (b : xml) : Prop := (∀ x, x ≠ 16 → a x = mi x) ∧ (∀ y, y ≠ 7 → a 16 y = mi 16 y) ∧ (∀ x, x ≠ 16 → x ≠ 17 → b x = ml x)
theorem NUM.frame {mi a : xmi} {n : Nat} {K T : Nat → Nat} (h : NUM mi n K T) (e : a 3 = mi 3) : NUM a n K T := by unfold NUM at h ⊢; rw [e]; exact h
theorem LEV.frame {mi a : xmi} {vL aL cL : Nat → Nat → Bool} (h : LEV mi vL aL cL) (e5 : a 5 = mi 5) (e6 : a 6 = mi 6) (e7 : a 7 = mi 7) : LEV a vL aL cL := by unfold LEV at h ⊢; rw [e5, e6, e7]; exact h
set_option maxRecDepth 100000 in
set_option maxHeartbeats 1000000 in
theorem tfind_46 (d L : Nat) (mi : xmi) (ml : xml) {n : Nat} {K T : Nat → Nat} {vL aL cL : Nat → Nat → Bool} (hP : PRG mi n K T) (hN : NUM mi n K T) (hV : LEV mi vL aL cL) (hw : WF n K T) (hm : ∀ i, i < 64 → (hb (ml 8 2) i = true ↔ ∃ h, Rh n K T i h)) (hht : ∀ i h, Rh n K T i h → mi 9 i = nI h ∧ h ≤ 16) (x1 : Int32) (r : Nat) (k : ∀ (a : xmi) (b : xml), tF mi ml a b → tI n K T (rd K T vL aL) (fun i j => hb (ml 15 i) j = true) (tb2 b) (a 16 7) r n → xB (d + 4) mX7_find L (fun rr a b => rr = none ∧ tF mi ml a b ∧ ∀ b' j k, b' < 2 → (TY n K T (rd K T vL aL b') (fun i j => hb (ml 15 i) j = true) j k ↔ gS (tb2 b) b' j k)) (79, [(0, .ref 16), (1, .int x1)], [], XM L a b)) : ∀ (f i : Nat), i ≤ n → n - i < f → ∀ (a : xmi) (b : xml), tF mi ml a b → tI n K T (rd K T vL aL) (fun i j => hb (ml 15 i) j = true) (tb2 b) (a 16 7) r i → xB (d + 4) mX7_find L (fun rr a b => rr = none ∧ tF mi ml a b ∧ ∀ b' j k, b' < 2 → (TY n K T (rd K T vL aL b') (fun i j => hb (ml 15 i) j = true) j k ↔ gS (tb2 b) b' j k)) (46, [(0, .ref 16), (1, .int x1), (2, .int (nI i))], [], XM L a b) := by
  have hn64 := hP.2.1
  intro f
  induction f with
  | zero => intro i h1 h2; omega
  | succ f ih =>
    intro i hle hlt a b hf hI
    have hPa : PRG a n K T := hP.frame (hf.1 1 (by decide)) (hf.1 2 (by decide)) (hf.1 3 (by decide)) (hf.1 1002 (by decide)) (hf.1 1003 (by decide))
    refine xB.go 3 (51, [(0, .ref 16), (1, .int x1), (2, .int (nI i))], [.ref 1, .int (nI i)], XM L a b) rfl ?_
    refine xB.c1 40 [.ref 1] [.int (nI i)] (c_size _ L _ _) rfl ?_
    refine xB.cg (54, [(0, .ref 16), (1, .int x1), (2, .int (nI i))], [.int (nI n), .int (nI i)], XM L a b) (by rw [hPa.1]) ?_
    refine xB.bp ((nI n) ≤ (nI i)) (79, [(0, .ref 16), (1, .int x1), (2, .int (nI i))], [], XM L a b) (57, [(0, .ref 16), (1, .int x1), (2, .int (nI i))], [], XM L a b) rfl (fun h1 => ?_) (fun h1 => ?_)
    · have hge : n ≤ i := (nI_leI (by omega) (by omega)).mp h1
      obtain rfl : i = n := by omega
      refine xB.fo [(0, .ref 16), (1, .int x1)] (by simp) ?_
      exact k a b hf hI
    · have hin : i < n := (nI_ltI (by omega) (by omega)).mp (i_nle.mp h1)
      have hi64 : i < 64 := by omega
      have hmb : hb (b 8 2) i = true ↔ ∃ h, Rh n K T i h := by rw [hf.2.2 8 (by decide) (by decide)]; exact hm i hi64
      refine xB.go 3 (62, [(0, .ref 16), (1, .int x1), (2, .int (nI i))], [.int (nI i), .ref 8], XM L a b) rfl ?_
      refine xB.c1 51 [.ref 8, .int (nI i)] [] (c_isMetN _ L _ _ hi64) rfl ?_
      refine xB.bz (hb (b 8 2) i = true) (73, [(0, .ref 16), (1, .int x1), (2, .int (nI i))], [], XM L a b) (68, [(0, .ref 16), (1, .int x1), (2, .int (nI i))], [], XM L a b) rfl (fun h2 => ?_) (fun h2 => ?_)
      · refine xB.go 2 (46, [(0, .ref 16), (1, .int x1), (2, .int ((nI i) + 1))], [], XM L a b) rfl ?_
        rw [nI_1]
        exact ih (i + 1) (by omega) (by omega) a b hf (hI.skip (fun z => h2 (hmb.mpr z)))
      · obtain ⟨h, hrh⟩ := hmb.mp h2
        refine xB.go 2 (70, [(0, .ref 16), (1, .int x1), (2, .int (nI i))], [.int (nI i), .ref 16], XM L a b) rfl ?_
        refine xB.ca 62 [.ref 16, .int (nI i)] [] (c_spreadFrom _ L _ _ hPa (hN.frame (hf.1 3 (by decide))) (hV.frame (hf.1 5 (by decide)) (hf.1 6 (by decide)) (hf.1 7 (by decide))) hin h2 (by rw [hf.1 9 (by decide)]; exact (hht i h hrh).1) (hht i h hrh).2 (hw.1 i h hrh).2.1 (hw.1 i h hrh).2.2 (fun c hc => (hw.fo ⟨h, hrh⟩ hc).1)) rfl ?_
        intro rr a1 b1 hq
        obtain ⟨rfl, hS⟩ := hq
        show xB _ _ L _ (73, [(0, .ref 16), (1, .int x1), (2, .int (nI i))], [], XM L a1 b1)
        refine xB.go 2 (46, [(0, .ref 16), (1, .int x1), (2, .int ((nI i) + 1))], [], XM L a1 b1) rfl ?_
        rw [nI_1]
        obtain ⟨s1, s2, s3, s4⟩ := SPR.step (rdb := rd K T vL aL) hn64 hw hrh (fun j => by rw [hf.2.2 15 (by decide) (by decide)]) hS hI
        exact ih (i + 1) (by omega) (by omega) a1 b1 ⟨fun x hx => by rw [s2 x hx, hf.1 x hx], fun y hy => by rw [s3 y hy, hf.2.1 y hy], fun x h1 h2 => by rw [s4 x h1 h2, hf.2.2 x h1 h2]⟩ s1
set_option maxRecDepth 100000 in
set_option maxHeartbeats 1000000 in
theorem tfind_25 (d L : Nat) (mi : xmi) (ml : xml) {n : Nat} {K T : Nat → Nat} {vL aL cL : Nat → Nat → Bool} (hP : PRG mi n K T) (hN : NUM mi n K T) (hV : LEV mi vL aL cL) (hw : WF n K T) (hm : ∀ i, i < 64 → (hb (ml 8 2) i = true ↔ ∃ h, Rh n K T i h)) (hht : ∀ i h, Rh n K T i h → mi 9 i = nI h ∧ h ≤ 16) : ∀ (f r : Nat), r ≤ 2177 → 2177 - r < f → ∀ (a : xmi) (b : xml), tF mi ml a b → tO n K T (rd K T vL aL) (fun i j => hb (ml 15 i) j = true) (tb2 b) (a 16 7) r → xB (d + 4) mX7_find L (fun rr a b => rr = none ∧ tF mi ml a b ∧ ∀ b' j k, b' < 2 → (TY n K T (rd K T vL aL b') (fun i j => hb (ml 15 i) j = true) j k ↔ gS (tb2 b) b' j k)) (25, [(0, .ref 16), (1, .int (nI r))], [], XM L a b) := by
  intro f
  induction f with
  | zero => intro i h1 h2; omega
  | succ f ih =>
    intro r hle hlt a b hf hO
    refine xB.go 2 (29, [(0, .ref 16), (1, .int (nI r))], [.int 2177, .int (nI r)], XM L a b) rfl ?_
    refine xB.bp (2177 ≤ (nI r)) (85, [(0, .ref 16), (1, .int (nI r))], [], XM L a b) (32, [(0, .ref 16), (1, .int (nI r))], [], XM L a b) rfl (fun h1 => ?_) (fun h1 => ?_)
    · refine xB.rt none a b rfl ?_
      exact ⟨rfl, hf, hO.end (Or.inr ((nI_leI (by decide) (by omega)).mp h1))⟩
    · refine xB.go 2 (36, [(0, .ref 16), (1, .int (nI r))], [.int (a 16 7)], XM L a b) rfl ?_
      refine xB.bp ((a 16 7) = 0) (85, [(0, .ref 16), (1, .int (nI r))], [], XM L a b) (39, [(0, .ref 16), (1, .int (nI r))], [], XM L a b) rfl (fun h2 => ?_) (fun h2 => ?_)
      · refine xB.rt none a b rfl ?_
        exact ⟨rfl, hf, hO.end (Or.inl h2)⟩
      · refine xB.go 5 (46, [(0, .ref 16), (1, .int (nI r)), (2, .int 0)], [], XM L (xU a 16 7 0) b) rfl ?_
        have hO1 : tO n K T (rd K T vL aL) (fun i j => hb (ml 15 i) j = true) (tb2 b) (1) r := by
          rcases hO.2 with ⟨g, -⟩ | ⟨g, -⟩
          · rw [g] at hO; exact hO
          · exact absurd g h2
        obtain ⟨hI, hr2⟩ := tI.begin hO1
        refine tfind_46 d L mi ml hP hN hV hw hm hht (nI r) r (fun a1 b1 hf1 hI1 => ?_) (n + 1) 0 (Nat.zero_le _) (by omega) (xU a 16 7 0) b ⟨fun x hx => by rw [xU_ne hx, hf.1 x hx], fun y hy => by rw [xU_at, va_up_ne _ _ hy, hf.2.1 y hy], hf.2.2⟩ (by rw [xU_self]; exact hI)
        refine xB.go 2 (25, [(0, .ref 16), (1, .int ((nI r) + 1))], [], XM L a1 b1) rfl ?_
        rw [nI_1]
        exact ih (r + 1) (by omega) (by omega) a1 b1 hf1 (hI1.end hw)
set_option maxRecDepth 100000 in
set_option maxHeartbeats 1000000 in
theorem c_tfind (d L : Nat) (mi : xmi) (ml : xml) {n : Nat} {K T : Nat → Nat} {vL aL cL : Nat → Nat → Bool} (hP : PRG mi n K T) (hN : NUM mi n K T) (hV : LEV mi vL aL cL) (hw : WF n K T) (hm : ∀ i, i < 64 → (hb (ml 8 2) i = true ↔ ∃ h, Rh n K T i h)) (hht : ∀ i h, Rh n K T i h → mi 9 i = nI h ∧ h ≤ 16) : xF (d + 5) 59 [.ref 16] L mi ml (fun rr a b => rr = none ∧ tF mi ml a b ∧ ∀ b' j k, b' < 2 → (TY n K T (rd K T vL aL b') (fun i j => hb (ml 15 i) j = true) j k ↔ gS (tb2 b) b' j k)) := by
  refine xF.mk mX7_find rfl rfl ?_
  refine xB.go 3 (5, [(0, .ref 16)], [.long 0, .ref 17], XM L mi ml) rfl ?_
  refine xB.c0 137 [.ref 17, .long 0] [] (c_fill17 _ L _ _ _) rfl ?_
  refine xB.go 11 (25, [(0, .ref 16), (1, .int 0)], [], XM L (xU mi 16 7 1) (xU (xU (va_up ml 17 (sl_fill (ml 17) 0 64)) 16 5 0) 16 6 0)) rfl ?_
  refine tfind_25 d L mi ml hP hN hV hw hm hht 2178 0 (Nat.zero_le _) (by omega) _ _ ⟨fun x hx => by rw [xU_ne hx], fun y hy => by rw [xU_at, va_up_ne _ _ hy], fun x h1 h2 => by rw [xU_ne h1, xU_ne h1, va_up_ne _ _ h2]⟩ ?_
  rw [xU_self]
  refine tO.zero (fun b j k hb2 hj hk => ?_)
  unfold tb2
  cases Nat.blt k 16 with
  | true => simp only [cond_true]; rw [xU_ne (by decide), xU_ne (by decide), va_up_self]; unfold sl_fill; rw [if_pos hj, hb_0]
  | false =>
    simp only [cond_false]
    rcases (show b = 0 ∨ b = 1 by omega) with rfl | rfl
    · rw [xU_at, va_up_ne _ _ (by decide), xU_self, hb_0]
    · rw [xU_self, hb_0]
end
section
/-! junctions and regions in the document's terms; the class's, the reference's -/
/-- from i a HALT can be come to, over no place of q -/
def HW (K T : Nat → Nat) (q : Nat → Prop) (i : Nat) : Prop := ∀ X : Nat → Prop, (∀ i, ¬ q i → K i = 9 → X i) → (∀ i j, ¬ q i → Fo K T i j → X j → X i) → X i
def HA (K T : Nat → Nat) (i : Nat) : Prop := HW K T (fun _ => False) i
def HQ (K T : Nat → Nat) (q i : Nat) : Prop := HW K T (fun x => x = q) i
section HW
variable {n : Nat} {K T : Nat → Nat} {q : Nat → Prop} {i j : Nat}
theorem HW.halt (h : ¬ q i) (h9 : K i = 9) : HW K T q i := fun _ a _ => a i h h9
theorem HW.go (h : ¬ q i) (hf : Fo K T i j) (hj : HW K T q j) : HW K T q i := fun X a b => b i j h hf (hj X a b)
theorem HW.nin (h : HW K T q i) : ¬ q i := h (fun i => ¬ q i) (fun _ h _ => h) (fun _ _ h _ _ => h)
theorem HW.inv (h : HW K T q i) : K i = 9 ∨ ∃ j, Fo K T i j ∧ HW K T q j := by
  have := h (fun i => HW K T q i ∧ (K i = 9 ∨ ∃ j, Fo K T i j ∧ HW K T q j)) (fun i a b => ⟨HW.halt a b, Or.inl b⟩) (fun i j a f ⟨c, _⟩ => ⟨HW.go a f c, Or.inr ⟨j, f, c⟩⟩)
  exact this.2
theorem HW.all (h : HW K T q i) : HA K T i := h (fun i => HA K T i) (fun _ _ b => HW.halt (fun z => z) b) (fun _ _ _ f c => HW.go (fun z => z) f c)
end HW
def PD (K T : Nat → Nat) (p q : Nat) : Prop := HA K T p ∧ p ≠ q ∧ ¬ HQ K T q p
def NR (K T : Nat → Nat) (p q : Nat) : Prop := PD K T p q ∧ ∀ q', PD K T p q' → PD K T q q' ∨ q = q'
def JN (n : Nat) (K T : Nat → Nat) (p : Nat) (v : Int32) : Prop := (¬ HA K T p ∧ v = -1) ∨ (HA K T p ∧ ∃ q, q < n ∧ v = nI q ∧ NR K T p q) ∨ (HA K T p ∧ v = nI n ∧ ¬ ∃ q, NR K T p q)
def met (n : Nat) (K T : Nat → Nat) (i : Nat) : Prop := ∃ h, Rh n K T i h
theorem PD.mm {n : Nat} {K T : Nat → Nat} {p q : Nat} (hw : WF n K T) (hp : met n K T p) (h : PD K T p q) : met n K T q := by
  refine Classical.byContradiction fun hq => h.2.2 ?_
  have := h.1 (fun i => met n K T i → HQ K T q i) (fun i _ h9 hm => HW.halt (fun z => hq (z ▸ hm)) h9) (fun i j _ hf hx hm => HW.go (fun z => hq (z ▸ hm)) hf (hx (hw.fo hm hf).2))
  exact this hp
theorem PD.ha {K T : Nat → Nat} {p q : Nat} (h : PD K T p q) : HA K T q := by
  refine Classical.byContradiction fun hq => h.2.2 ?_
  have := h.1 (fun i => HQ K T q i ∨ HA K T q) (fun i _ h9 => by
    by_cases e : i = q
    · subst e; exact Or.inr (HW.halt (fun z => z) h9)
    · exact Or.inl (HW.halt e h9)) (fun i j _ hf hx => by
    rcases hx with hx | hx
    · by_cases e : i = q
      · subst e; exact Or.inr (HW.go (fun z => z) hf hx.all)
      · exact Or.inl (HW.go e hf hx)
    · exact Or.inr hx)
  exact this.resolve_right hq
theorem NR.uq {K T : Nat → Nat} {p a b : Nat} (ha : NR K T p a) (hb : NR K T p b) : a = b := by
  refine Classical.byContradiction fun hne => ?_
  have h1 : PD K T a b := (ha.2 b hb.1).resolve_right hne
  have h2 : PD K T b a := (hb.2 a ha.1).resolve_right (fun z => hne z.symm)
  have := h1.1 (fun i => HW K T (fun x => x = a ∨ x = b) i ∨ HQ K T b a ∨ HQ K T a b) (fun i _ h9 => by
      by_cases e : i = a
      · subst e; exact Or.inr (Or.inl (HW.halt hne h9))
      · by_cases e2 : i = b
        · subst e2; exact Or.inr (Or.inr (HW.halt e h9))
        · exact Or.inl (HW.halt (fun z => z.elim e e2) h9)) (fun i j _ hf hx => by
      rcases hx with hx | hx
      · have hxa : HQ K T a j := hx (fun i => HQ K T a i) (fun i g h9 => HW.halt (fun z => g (Or.inl z)) h9) (fun i j g f c => HW.go (fun z => g (Or.inl z)) f c)
        have hxb : HQ K T b j := hx (fun i => HQ K T b i) (fun i g h9 => HW.halt (fun z => g (Or.inr z)) h9) (fun i j g f c => HW.go (fun z => g (Or.inr z)) f c)
        by_cases e : i = a
        · subst e; exact Or.inr (Or.inl (HW.go hne hf hxb))
        · by_cases e2 : i = b
          · subst e2; exact Or.inr (Or.inr (HW.go e hf hxa))
          · exact Or.inl (HW.go (fun z => z.elim e e2) hf hx)
      · exact Or.inr hx)
  rcases this with z | z | z
  · exact z.nin (Or.inl rfl)
  · exact h1.2.2 z
  · exact h2.2.2 z
theorem JN.uq {n : Nat} {K T : Nat → Nat} {p : Nat} {v w : Int32} (h1 : JN n K T p v) (h2 : JN n K T p w) : v = w := by
  rcases h1 with ⟨a, b⟩ | ⟨a, q, c, d, e⟩ | ⟨a, b, c⟩ <;> rcases h2 with ⟨a', b'⟩ | ⟨a', q', c', d', e'⟩ | ⟨a', b', c'⟩
  · rw [b, b']
  · exact absurd a' a
  · exact absurd a' a
  · exact absurd a a'
  · rw [d, d', e.uq e']
  · exact absurd ⟨q, e⟩ c'
  · exact absurd a a'
  · exact absurd ⟨q', e'⟩ c
  · rw [b, b']
/-- the region: what can be come to behind p before the junction v -/
def RGv (K T : Nat → Nat) (p : Nat) (v : Int32) (j : Nat) : Prop := ∀ X : Nat → Prop, (∀ j, Fo K T p j → nI j ≠ v → X j) → (∀ i j, X i → Fo K T i j → nI j ≠ v → X j) → X j
theorem RGv.zero {K T : Nat → Nat} {p j : Nat} {v : Int32} (h : Fo K T p j) (hv : nI j ≠ v) : RGv K T p v j := fun _ a _ => a j h hv
theorem RGv.next {K T : Nat → Nat} {p i j : Nat} {v : Int32} (h : RGv K T p v i) (hf : Fo K T i j) (hv : nI j ≠ v) : RGv K T p v j := fun X a b => b i j (h X a b) hf hv
def RG (n : Nat) (K T : Nat → Nat) (p j : Nat) : Prop := ∃ v, JN n K T p v ∧ RGv K T p v j
theorem RG.iff {n : Nat} {K T : Nat → Nat} {p j : Nat} {v : Int32} (h : JN n K T p v) : RG n K T p j ↔ RGv K T p v j :=
  ⟨fun ⟨w, a, b⟩ => by rw [h.uq a]; exact b, fun g => ⟨v, h, g⟩⟩
theorem RGv.mm {n : Nat} {K T : Nat → Nat} {p j : Nat} {v : Int32} (hw : WF n K T) (hp : met n K T p) (h : RGv K T p v j) : met n K T j := h (fun j => met n K T j) (fun j hf _ => (hw.fo hp hf).2) (fun i j hm hf _ => (hw.fo hm hf).2)
/-! the class -/
theorem hRE_HW {n : Nat} {K T : Nat → Nat} {a : xmi} {b : xml} (hn : n ≤ 64) (hw : WF n K T) (hJ : JCT n K T a b) {al : Nat → Bool} {q : Nat → Prop} (hq : ∀ i, i < 64 → (al i = true ↔ ¬ q i)) {j : Nat} (hj : met n K T j) : hRE b al j ↔ HW K T q j := by
  obtain ⟨j1, j2, j3, -⟩ := hJ
  have h64 : ∀ i, met n K T i → i < 64 := fun i hi => Nat.lt_of_lt_of_le (hw.lt hi) hn
  constructor
  · intro h
    exact h (fun i => HW K T q i) (fun i hi h1 h2 => HW.halt ((hq i hi).mp h2) ((j3 i hi).mp h1).2) (fun i j hx hi hj h1 h2 => HW.go ((hq j hj).mp h2) ((j2 j i hj hi).mp h1).2 hx)
  · intro h
    refine h (fun j => met n K T j → hRE b al j) (fun i h1 h9 hm => ?_) (fun i j h1 hf hx hm => ?_) hj
    · exact RE.zero (h64 i hm) ((j3 i (h64 i hm)).mpr ⟨hm, h9⟩) ((hq i (h64 i hm)).mpr h1)
    · have hmj := (hw.fo hm hf).2
      exact RE.next (hx hmj) (h64 j hmj) (h64 i hm) ((j2 i j (h64 i hm) (h64 j hmj)).mpr ⟨hm, hf⟩) ((hq i (h64 i hm)).mpr h1)
theorem hRE_met {n : Nat} {K T : Nat → Nat} {a : xmi} {b : xml} (hJ : JCT n K T a b) {al : Nat → Bool} {j : Nat} (h : hRE b al j) : met n K T j := by
  obtain ⟨j1, j2, j3, -⟩ := hJ
  exact h (fun j => met n K T j) (fun i hi h1 _ => ((j3 i hi).mp h1).1) (fun i j _ hi hj h1 _ => ((j2 j i hj hi).mp h1).1)
theorem jct_ha {n : Nat} {K T : Nat → Nat} {a : xmi} {b : xml} (hn : n ≤ 64) (hw : WF n K T) (hJ : JCT n K T a b) {j : Nat} (hj : j < 64) : hb (b 10 8) j = true ↔ met n K T j ∧ HA K T j := by
  rw [hJ.2.2.2.1 j hj]
  have hq : ∀ i, i < 64 → (hb (-1) i = true ↔ ¬ (fun _ : Nat => False) i) := fun i hi => by rw [hb_m1 hi]; simp
  exact ⟨fun h => ⟨hRE_met hJ h, (hRE_HW hn hw hJ hq (hRE_met hJ h)).mp h⟩, fun h => (hRE_HW hn hw hJ hq h.1).mpr h.2⟩
theorem jct_pd {n : Nat} {K T : Nat → Nat} {a : xmi} {b : xml} (hn : n ≤ 64) (hw : WF n K T) (hJ : JCT n K T a b) {q j : Nat} (hq : q < n) (hj : j < 64) : hb (b 13 q) j = true ↔ met n K T j ∧ PD K T j q := by
  rw [hJ.2.2.2.2.1 q hq j hj, jct_ha hn hw hJ hj]
  have hq2 : ∀ i, i < 64 → (hb (oth q) i = true ↔ ¬ (fun x : Nat => x = q) i) := fun i hi => by rw [hb_oth (by omega) hi]; simp
  constructor
  · rintro ⟨⟨h1, h2⟩, h3, h4⟩
    exact ⟨h1, h2, h3, fun z => h4 ((hRE_HW hn hw hJ hq2 h1).mpr z)⟩
  · rintro ⟨h1, h2, h3, h4⟩
    exact ⟨⟨h1, h2⟩, h3, fun z => h4 ((hRE_HW hn hw hJ hq2 h1).mp z)⟩
theorem jct_jn {n : Nat} {K T : Nat → Nat} {a : xmi} {b : xml} (hn : n ≤ 64) (hw : WF n K T) (hJ : JCT n K T a b) {p : Nat} {v : Int32} (hp : met n K T p) (h : NF n b p v) : JN n K T p v := by
  have hp64 : p < 64 := Nat.lt_of_lt_of_le (hw.lt hp) hn
  rcases h with ⟨h1, h2⟩ | ⟨h1, N, hN, h2⟩
  · refine Or.inl ⟨fun z => ?_, h2⟩
    rw [(jct_ha hn hw hJ hp64).mpr ⟨hp, z⟩] at h1; cases h1
  · have hA := ((jct_ha hn hw hJ hp64).mp h1).2
    have key : ∀ x, x < 64 → (hb N x = true ↔ NR K T p x) := fun x hx => by
      rw [hN x hx]
      constructor
      · rintro ⟨⟨g1, g2⟩, g3⟩
        refine ⟨((jct_pd hn hw hJ g1 hp64).mp g2).2, fun q' hq' => ?_⟩
        have hq'n := hw.lt (hq'.mm hw hp)
        rcases g3 q' hq'n ((jct_pd hn hw hJ hq'n hp64).mpr ⟨hp, hq'⟩) with z | z
        · exact Or.inl ((jct_pd hn hw hJ hq'n hx).mp z).2
        · exact Or.inr z
      · rintro ⟨g1, g2⟩
        have hxm := g1.mm hw hp
        refine ⟨⟨hw.lt hxm, (jct_pd hn hw hJ (hw.lt hxm) hp64).mpr ⟨hp, g1⟩⟩, fun q hq g3 => ?_⟩
        exact (g2 q ((jct_pd hn hw hJ hq hp64).mp g3).2).imp (fun z => (jct_pd hn hw hJ hq hx).mpr ⟨hxm, z⟩) id
    rcases h2 with ⟨g1, g2⟩ | ⟨g1, g2⟩
    · refine Or.inr (Or.inr ⟨hA, g2, fun ⟨q, hq⟩ => ?_⟩)
      have hq64 : q < 64 := Nat.lt_of_lt_of_le (hw.lt (hq.1.mm hw hp)) hn
      have := (key q hq64).mpr hq
      rw [g1, hb_0] at this; cases this
    · obtain ⟨l1, l2, -⟩ := xlow_spec g1
      have hq := (key _ l1).mp l2
      exact Or.inr (Or.inl ⟨hA, _, hw.lt (hq.1.mm hw hp), g2, hq⟩)
theorem hb_xbit {v : Int32} {j : Nat} (hj : j < 64) : hb (xbit v) j = true ↔ nI j = v := by
  rcases pk_ix v (show (64 : Nat) < 2 ^ 31 by decide) with z | z | ⟨k, h1, h2⟩
  · rw [xbit_out (Or.inl z), hb_0]
    exact ⟨fun h => (by cases h), fun h => by rw [← h] at z; exact absurd z (nI_pos (by omega))⟩
  · rw [xbit_out (Or.inr z), hb_0]
    refine ⟨fun h => (by cases h), fun h => ?_⟩
    rw [← h] at z
    have := (nI_leI (by decide) (by omega)).mp z
    omega
  · subst h2
    rw [hb_bit h1, decide_eq_true_iff, nI_eq (by omega) (by omega)]
theorem jct_rg {n : Nat} {K T : Nat → Nat} {a : xmi} {b : xml} (hn : n ≤ 64) (hw : WF n K T) (hJ : JCT n K T a b) {p : Nat} {v : Int32} (hp : met n K T p) {j : Nat} (hj : j < 64) : RE (hb (b 11 p)) (fun i => hb (b 11 i)) (hb (xbit v ^^^ (-1))) j ↔ RGv K T p v j := by
  have hp64 : p < 64 := Nat.lt_of_lt_of_le (hw.lt hp) hn
  have hal : ∀ j, j < 64 → (hb (xbit v ^^^ (-1)) j = true ↔ nI j ≠ v) := fun j hj => by
    rw [hb_not _ hj, Bool.not_eq_true', Ne, ← hb_xbit hj]
    cases hb (xbit v) j <;> simp
  constructor
  · intro h
    exact h (fun j => RGv K T p v j) (fun i hi h1 h2 => RGv.zero ((hJ.1 p i hp64 hi).mp h1).2 ((hal i hi).mp h2)) (fun i j hx hi hj h1 h2 => hx.next ((hJ.1 i j hi hj).mp h1).2 ((hal j hj).mp h2))
  · intro h
    have := h (fun j => met n K T j ∧ RE (hb (b 11 p)) (fun i => hb (b 11 i)) (hb (xbit v ^^^ (-1))) j) (fun j hf hv => by
        have hm := (hw.fo hp hf).2
        have hj64 : j < 64 := Nat.lt_of_lt_of_le (hw.lt hm) hn
        exact ⟨hm, RE.zero hj64 ((hJ.1 p j hp64 hj64).mpr ⟨hp, hf⟩) ((hal j hj64).mpr hv)⟩)
      (fun i j ⟨hm, hx⟩ hf hv => by
        have hmj := (hw.fo hm hf).2
        have hi64 : i < 64 := Nat.lt_of_lt_of_le (hw.lt hm) hn
        have hj64 : j < 64 := Nat.lt_of_lt_of_le (hw.lt hmj) hn
        exact ⟨hmj, hx.next hi64 hj64 ((hJ.1 i j hi64 hj64).mpr ⟨hm, hf⟩) ((hal j hj64).mpr hv)⟩)
    exact this.2
/-- the junction of any place -/
def JX (n : Nat) (K T : Nat → Nat) (p : Nat) (v : Int32) : Prop := (met n K T p ∧ K p = 5 → JN n K T p v) ∧ (¬ (met n K T p ∧ K p = 5) → v = -1)
theorem JX.uq {n : Nat} {K T : Nat → Nat} {p : Nat} {v w : Int32} (h1 : JX n K T p v) (h2 : JX n K T p w) : v = w := by
  by_cases h : met n K T p ∧ K p = 5
  · exact (h1.1 h).uq (h2.1 h)
  · rw [h1.2 h, h2.2 h]
def JC (n : Nat) (K T : Nat → Nat) (a : xmi) (b : xml) : Prop := ∀ p, p < n → JX n K T p (a 14 p) ∧ (met n K T p → K p = 5 → ∀ j, j < 64 → (hb (b 15 p) j = true ↔ RG n K T p j))
theorem JCT.jc {n : Nat} {K T : Nat → Nat} {a : xmi} {b : xml} (hn : n ≤ 64) (hw : WF n K T) (hJ : JCT n K T a b) : JC n K T a b := fun p hp => by
  have h := hJ.2.2.2.2.2 p hp
  refine ⟨⟨fun z => jct_jn hn hw hJ z.1 (h.1 z).1, fun z => (h.2 z).1⟩, fun hm h5 j hj => ?_⟩
  have hz := h.1 ⟨hm, h5⟩
  rw [hz.2 j hj, jct_rg hn hw hJ hm hj, RG.iff (jct_jn hn hw hJ hm hz.1)]
theorem TY.cg {n : Nat} {K T : Nat → Nat} {rdb : Nat → Bool} {R1 R2 : Nat → Nat → Prop} (h : ∀ i, met n K T i → K i = 5 → ∀ j, R1 i j ↔ R2 i j) {j k : Nat} : TY n K T rdb R1 j k ↔ TY n K T rdb R2 j k := by
  have : ∀ i h2, Rh n K T i h2 → ∀ X j k, DVi K T rdb R1 i h2 X j k ↔ DVi K T rdb R2 i h2 X j k := fun i h2 hr X j k => by
    unfold DVi
    refine or_congr Iff.rfl ⟨fun ⟨a, b, c, d⟩ => ⟨a, b, (h i ⟨h2, hr⟩ a j).mp c, d⟩, fun ⟨a, b, c, d⟩ => ⟨a, b, (h i ⟨h2, hr⟩ a j).mpr c, d⟩⟩
  exact ⟨fun g X hX => g X (fun i h2 hr j k hd => hX i h2 hr j k ((this i h2 hr X j k).mp hd)), fun g X hX => g X (fun i h2 hr j k hd => hX i h2 hr j k ((this i h2 hr X j k).mpr hd))⟩
/-! the reference -/
def RW (n : Nat) (K T : Nat → Nat) (st wl : Nat → Prop) (j : Nat) : Prop := ∀ X : Nat → Prop, (∀ i, st i → X i) → (∀ i, X i → i < n → ¬ wl i → X (nxm n K T i) ∧ X (otm n K T i)) → X j
theorem RW.zero {n : Nat} {K T : Nat → Nat} {st wl : Nat → Prop} {i : Nat} (h : st i) : RW n K T st wl i := fun _ a _ => a i h
theorem RW.nx {n : Nat} {K T : Nat → Nat} {st wl : Nat → Prop} {i : Nat} (h : RW n K T st wl i) (hi : i < n) (hq : ¬ wl i) : RW n K T st wl (nxm n K T i) ∧ RW n K T st wl (otm n K T i) := ⟨fun X a b => (b i (h X a b) hi hq).1, fun X a b => (b i (h X a b) hi hq).2⟩
theorem RW.fo {n : Nat} {K T : Nat → Nat} {st wl : Nat → Prop} {i j : Nat} (h : RW n K T st wl i) (hi : i < n) (hq : ¬ wl i) (hf : Fo K T i j) : RW n K T st wl j := by
  rcases Fo_nxm (n := n) hf with rfl | rfl
  · exact (h.nx hi hq).1
  · exact (h.nx hi hq).2
/-- induction over marks of a well formed program: each is met, or is the end behind a HALT -/
theorem RW.ind {n : Nat} {K T : Nat → Nat} {st wl : Nat → Prop} (hw : WF n K T) (P : Nat → Prop) (h0 : ∀ i, st i → met n K T i ∧ P i) (h1 : ∀ i j, met n K T i → P i → ¬ wl i → Fo K T i j → P j) {j : Nat} (h : RW n K T st wl j) : (met n K T j ∧ P j) ∨ (j = n ∧ ∃ i, met n K T i ∧ P i ∧ ¬ wl i ∧ K i = 9) := by
  refine h (fun j => (met n K T j ∧ P j) ∨ (j = n ∧ ∃ i, met n K T i ∧ P i ∧ ¬ wl i ∧ K i = 9)) (fun i hi => Or.inl (h0 i hi)) (fun i hx hi hq => ?_)
  rcases hx with ⟨hm, hp⟩ | ⟨e, -⟩
  · by_cases h9 : K i = 9
    · have e1 : nxm n K T i = n := by unfold nxm; rw [if_neg (by omega), if_pos h9]
      have e2 : otm n K T i = n := by unfold otm; rw [if_neg (by omega), e1]
      exact ⟨Or.inr ⟨e1, i, hm, hp, hq, h9⟩, Or.inr ⟨e2, i, hm, hp, hq, h9⟩⟩
    · have f1 := nxm_Fo (n := n) (T := T) h9
      have f2 := otm_Fo (n := n) (T := T) h9
      exact ⟨Or.inl ⟨(hw.fo hm f1).2, h1 i _ hm hp hq f1⟩, Or.inl ⟨(hw.fo hm f2).2, h1 i _ hm hp hq f2⟩⟩
  · omega
theorem RW.lead {n : Nat} {K T : Nat → Nat} {wl : Nat → Prop} (hw : WF n K T) {p : Nat} (hp : met n K T p) : RW n K T (fun x => x = p) wl n ↔ HW K T wl p := by
  constructor
  · intro h
    rcases RW.ind (st := fun x => x = p) (wl := wl) hw (fun i => HW K T wl i → HW K T wl p) (fun i hi => ⟨by rw [hi]; exact hp, fun z => by rw [← hi]; exact z⟩) (fun i j _ g hq hf z => g (HW.go hq hf z)) h with ⟨hm, -⟩ | ⟨-, i, hm, g, hq, h9⟩
    · have := hw.lt hm; omega
    · exact g (HW.halt hq h9)
  · intro h
    refine h (fun i => met n K T i → RW n K T (fun x => x = p) wl i → RW n K T (fun x => x = p) wl n) (fun i hq h9 hm hr => ?_) (fun i j hq hf hx hm hr => hx (hw.fo hm hf).2 (hr.fo (hw.lt hm) hq hf)) hp (RW.zero rfl)
    have := (hr.nx (hw.lt hm) hq).1
    unfold nxm at this
    rwa [if_neg (by omega), if_pos h9] at this
theorem RW.near {n : Nat} {K T : Nat → Nat} {wl : Nat → Prop} (hw : WF n K T) {p q : Nat} (hp : met n K T p) (h5 : K p = 5) (hwl : ∀ i, i < n → (wl i ↔ PD K T p i)) (hq : q < n) (h : RW n K T (fun x => x = nxm n K T p ∨ x = otm n K T p) wl q) (hpd : PD K T p q) : NR K T p q := by
  refine ⟨hpd, fun q' hq' => ?_⟩
  by_cases e : q = q'
  · exact Or.inr e
  · refine Or.inl ⟨hpd.ha, e, fun z => hq'.2.2 ?_⟩
    have f1 := nxm_Fo (n := n) (T := T) (show K p ≠ 9 by omega)
    have f2 := otm_Fo (n := n) (T := T) (show K p ≠ 9 by omega)
    have hind := RW.ind (st := fun x => x = nxm n K T p ∨ x = otm n K T p) (wl := wl) hw (fun i => HQ K T q' i → HQ K T q' p)
      (fun i hi => by
        rcases hi with rfl | rfl
        · exact ⟨(hw.fo hp f1).2, fun z => HW.go hq'.2.1 f1 z⟩
        · exact ⟨(hw.fo hp f2).2, fun z => HW.go hq'.2.1 f2 z⟩)
      (fun i j hm g hq2 hf z => g (HW.go (fun e => hq2 ((hwl i (hw.lt hm)).mpr (by rw [show i = q' from e]; exact hq'))) hf z)) h
    rcases hind with ⟨-, g⟩ | ⟨g, -⟩
    · exact g z
    · omega
theorem RW.some {n : Nat} {K T : Nat → Nat} {wl : Nat → Prop} (hw : WF n K T) {p q : Nat} (hp : met n K T p) (h5 : K p = 5) (hwl : ∀ i, i < n → (wl i ↔ PD K T p i)) (hq : NR K T p q) : ∃ x, x < n ∧ RW n K T (fun x => x = nxm n K T p ∨ x = otm n K T p) wl x ∧ wl x := by
  refine Classical.byContradiction fun hno => hq.1.2.2 ?_
  have hno : ∀ x, x < n → RW n K T (fun x => x = nxm n K T p ∨ x = otm n K T p) wl x → ¬ wl x := fun x h1 h2 h3 => hno ⟨x, h1, h2, h3⟩
  have hA := hq.1.1
  rcases hA.inv with z | ⟨j, hf, hj⟩
  · omega
  have hst : RW n K T (fun x => x = nxm n K T p ∨ x = otm n K T p) wl j := RW.zero (Fo_nxm hf)
  have key : ∀ i, HA K T i → RW n K T (fun x => x = nxm n K T p ∨ x = otm n K T p) wl i → met n K T i → HQ K T q i := fun i hi => by
    refine hi (fun i => RW n K T (fun x => x = nxm n K T p ∨ x = otm n K T p) wl i → met n K T i → HQ K T q i) (fun i _ h9 hr hm => ?_) (fun i j _ hf hx hr hm => ?_)
    · refine HW.halt (fun e => hno i (hw.lt hm) hr ((hwl i (hw.lt hm)).mpr (e ▸ hq.1))) h9
    · refine HW.go (fun e => hno i (hw.lt hm) hr ((hwl i (hw.lt hm)).mpr (e ▸ hq.1))) hf (hx (hr.fo (hw.lt hm) (hno i (hw.lt hm) hr) hf) (hw.fo hm hf).2)
  exact HW.go hq.1.2.1 hf (key j hj hst (hw.fo hp hf).2)
theorem RW.region {n : Nat} {K T : Nat → Nat} {wl : Nat → Prop} {v : Int32} (hw : WF n K T) {p i : Nat} (hp : met n K T p) (h5 : K p = 5) (hwl : ∀ i, i < n → (wl i ↔ nI i = v)) (hi : i < n) : (RW n K T (fun x => x = nxm n K T p ∨ x = otm n K T p) wl i ∧ ¬ wl i) ↔ RGv K T p v i := by
  have f1 := nxm_Fo (n := n) (T := T) (show K p ≠ 9 by omega)
  have f2 := otm_Fo (n := n) (T := T) (show K p ≠ 9 by omega)
  constructor
  · rintro ⟨h, hq⟩
    have hind := RW.ind (st := fun x => x = nxm n K T p ∨ x = otm n K T p) (wl := wl) hw (fun i => nI i ≠ v → RGv K T p v i)
      (fun i hi => by
        rcases hi with rfl | rfl
        · exact ⟨(hw.fo hp f1).2, fun z => RGv.zero f1 z⟩
        · exact ⟨(hw.fo hp f2).2, fun z => RGv.zero f2 z⟩)
      (fun i j hm g hq2 hf z => (g (fun z => hq2 ((hwl i (hw.lt hm)).mpr z))).next hf z) h
    rcases hind with ⟨-, g⟩ | ⟨g, -⟩
    · exact g (fun z => hq ((hwl i hi).mpr z))
    · omega
  · intro h
    have := h (fun i => met n K T i ∧ RW n K T (fun x => x = nxm n K T p ∨ x = otm n K T p) wl i ∧ nI i ≠ v) (fun j hf hv => ⟨(hw.fo hp hf).2, RW.zero (Fo_nxm hf), hv⟩) (fun i j ⟨hm, hr, hv⟩ hf hv2 => ⟨(hw.fo hm hf).2, hr.fo (hw.lt hm) (fun z => hv ((hwl i (hw.lt hm)).mp z)) hf, hv2⟩)
    exact ⟨this.2.1, fun z => this.2.2 ((hwl i hi).mp z)⟩
end
section
/-! the class: is an instruction safe; what is known of the class; well formed, types now -/
def lvl (K T : Nat → Nat) (vL aL cL : Nat → Nat → Bool) (b i : Nat) : Bool := (decide (K i = 2) && vL b (T i)) || (decide (K i = 7) && aL b (T i)) || (decide (K i = 8) && cL b (T i)) || (!decide (K i = 2) && !decide (K i = 7) && !decide (K i = 8))
theorem belowL : ∀ p q p' q' : Bool, lv2 p q &&& (lv2 p' q' ^^^ (-1)) = 0 ↔ ((!p || p') && (!q || q')) = true := by decide +kernel
def sfB (K T : Nat → Nat) (vL aL cL : Nat → Nat → Bool) (ml : xml) (i h : Nat) : Bool := (!(tkn K ml 0 i h || hb (ml 16 5) i) || lvl K T vL aL cL 0 i) && (!(tkn K ml 1 i h || hb (ml 16 6) i) || lvl K T vL aL cL 1 i)
theorem xb_cg {p q : Prop} [Decidable p] [Decidable q] (h : p ↔ q) : xb p = xb q := by unfold xb; simp only [h]
theorem sf_cls {K T : Nat → Nat} {vL aL cL : Nat → Nat → Bool} {ml : xml} {i h : Nat} {y : Int32} (hy : y = lv2 (lvl K T vL aL cL 0 i) (lvl K T vL aL cL 1 i)) : xb ((lv2 (tkn K ml 0 i h) (tkn K ml 1 i h) ||| lv2 (hb (ml 16 5) i) (hb (ml 16 6) i)) &&& (y ^^^ (-1)) = 0) = xb (sfB K T vL aL cL ml i h = true) := by
  subst hy; rw [lv2_or]; exact xb_cg (belowL _ _ _ _)
set_option maxRecDepth 100000 in
set_option maxHeartbeats 1000000 in
theorem c_isSafe (d L : Nat) (mi : xmi) (ml : xml) {n : Nat} {K T : Nat → Nat} {vL aL cL : Nat → Nat → Bool} (hP : PRG mi n K T) (hN : NUM mi n K T) (hV : LEV mi vL aL cL) {i h : Nat} (hin : i < n) (hmt : hb (ml 8 2) i = true) (hh : mi 9 i = nI h) (h16 : h ≤ 16) (htk : tk (K i) ≤ h) : xFv (d + 4) 61 [.ref 16, .int (nI i)] L mi ml (.int (xb (sfB K T vL aL cL ml i h = true))) mi ml := by
  have hk := (hP.2.2.1 i hin).2
  have hi64 : i < 64 := Nat.lt_of_lt_of_le hin hP.2.1
  refine xF.mk mX7_isSafe rfl rfl ?_
  refine xB.go 3 (5, [(0, .ref 16), (1, .int (nI i))], [.int (nI i), .ref 1], XM L mi ml) rfl ?_
  refine xB.c1 43 [.ref 1, .int (nI i)] [] (c_numberN _ L _ _ hP hin) rfl ?_
  refine xB.go 3 (11, [(0, .ref 16), (1, .int (nI i)), (2, .int (mi 3 i))], [.int (nI i), .ref 16], XM L mi ml) rfl ?_
  refine xB.c1 63 [.ref 16, .int (nI i)] [] (c_takenAt _ L _ _ hP hin hmt hh h16 htk) rfl ?_
  refine xB.go 2 (16, [(0, .ref 16), (1, .int (nI i)), (2, .int (mi 3 i))], [.int (nI i), .ref 16, .int (lv2 (tkn K ml 0 i h) (tkn K ml 1 i h))], XM L mi ml) rfl ?_
  refine xB.c1 57 [.ref 16, .int (nI i)] [.int (lv2 (tkn K ml 0 i h) (tkn K ml 1 i h))] (c_surroundingAt _ L _ _ hi64) rfl ?_
  refine xB.go 5 (26, [(0, .ref 16), (1, .int (nI i)), (2, .int (mi 3 i)), (3, .int ((lv2 (tkn K ml 0 i h) (tkn K ml 1 i h)) ||| (lv2 (hb (ml 16 5) i) (hb (ml 16 6) i))))], [.int (nI i), .ref 1], XM L mi ml) rfl ?_
  refine xB.c1 42 [.ref 1, .int (nI i)] [] (c_kindN _ L _ _ hP hin) rfl ?_
  by_cases h1 : (nI (K i)) = 2
  · refine xB.tp h1 ?_
    refine xB.go 1 (64, [(0, .ref 16), (1, .int (nI i)), (2, .int (mi 3 i)), (3, .int ((lv2 (tkn K ml 0 i h) (tkn K ml 1 i h)) ||| (lv2 (hb (ml 16 5) i) (hb (ml 16 6) i))))], [], XM L mi ml) rfl ?_
    refine xB.go 4 (70, [(0, .ref 16), (1, .int (nI i)), (2, .int (mi 3 i)), (3, .int ((lv2 (tkn K ml 0 i h) (tkn K ml 1 i h)) ||| (lv2 (hb (ml 16 5) i) (hb (ml 16 6) i))))], [.int (mi 3 i), .ref 4, .int ((lv2 (tkn K ml 0 i h) (tkn K ml 1 i h)) ||| (lv2 (hb (ml 16 5) i) (hb (ml 16 6) i)))], XM L mi ml) rfl ?_
    refine xB.c1 11 [.ref 4, .int (mi 3 i)] [.int ((lv2 (tkn K ml 0 i h) (tkn K ml 1 i h)) ||| (lv2 (hb (ml 16 5) i) (hb (ml 16 6) i)))] (c_ofVariable _ L mi ml (mi 3 i) ) rfl ?_
    refine xB.c1 87 [.int ((lv2 (tkn K ml 0 i h) (tkn K ml 1 i h)) ||| (lv2 (hb (ml 16 5) i) (hb (ml 16 6) i))), .int (sl_lv mi 5 8 (mi 3 i))] [] (c_isBelow _ L mi ml ((lv2 (tkn K ml 0 i h) (tkn K ml 1 i h)) ||| (lv2 (hb (ml 16 5) i) (hb (ml 16 6) i))) (sl_lv mi 5 8 (mi 3 i)) ) rfl ?_
    refine xB.rz (xb (((lv2 (tkn K ml 0 i h) (tkn K ml 1 i h)) ||| (lv2 (hb (ml 16 5) i) (hb (ml 16 6) i))) &&& ((sl_lv mi 5 8 (mi 3 i)) ^^^ (-1)) = 0)) mi ml rfl xz_xb ?_
    have g := k_eq hk (c := 2) (by decide) h1
    have g2 := (hN i hin).1 (Or.inr g)
    refine ⟨?_, rfl, rfl⟩
    refine congrArg (fun z => some (Value.int z)) (sf_cls ?_)
    rw [g2.1, show (8 : Int32) = nI 8 from rfl, sl_lvN (by decide) g2.2, hV.1 _ g2.2]; simp [lvl, g]
  by_cases h2 : (nI (K i)) = 7
  · refine xB.tp h2 ?_
    refine xB.go 1 (77, [(0, .ref 16), (1, .int (nI i)), (2, .int (mi 3 i)), (3, .int ((lv2 (tkn K ml 0 i h) (tkn K ml 1 i h)) ||| (lv2 (hb (ml 16 5) i) (hb (ml 16 6) i))))], [], XM L mi ml) rfl ?_
    refine xB.go 4 (83, [(0, .ref 16), (1, .int (nI i)), (2, .int (mi 3 i)), (3, .int ((lv2 (tkn K ml 0 i h) (tkn K ml 1 i h)) ||| (lv2 (hb (ml 16 5) i) (hb (ml 16 6) i))))], [.int (mi 3 i), .ref 4, .int ((lv2 (tkn K ml 0 i h) (tkn K ml 1 i h)) ||| (lv2 (hb (ml 16 5) i) (hb (ml 16 6) i)))], XM L mi ml) rfl ?_
    refine xB.c1 12 [.ref 4, .int (mi 3 i)] [.int ((lv2 (tkn K ml 0 i h) (tkn K ml 1 i h)) ||| (lv2 (hb (ml 16 5) i) (hb (ml 16 6) i)))] (c_ofArray _ L mi ml (mi 3 i) ) rfl ?_
    refine xB.c1 87 [.int ((lv2 (tkn K ml 0 i h) (tkn K ml 1 i h)) ||| (lv2 (hb (ml 16 5) i) (hb (ml 16 6) i))), .int (sl_lv mi 6 2 (mi 3 i))] [] (c_isBelow _ L mi ml ((lv2 (tkn K ml 0 i h) (tkn K ml 1 i h)) ||| (lv2 (hb (ml 16 5) i) (hb (ml 16 6) i))) (sl_lv mi 6 2 (mi 3 i)) ) rfl ?_
    refine xB.rz (xb (((lv2 (tkn K ml 0 i h) (tkn K ml 1 i h)) ||| (lv2 (hb (ml 16 5) i) (hb (ml 16 6) i))) &&& ((sl_lv mi 6 2 (mi 3 i)) ^^^ (-1)) = 0)) mi ml rfl xz_xb ?_
    have g := k_eq hk (c := 7) (by decide) h2
    have g2 := (hN i hin).2.1 (Or.inr g)
    refine ⟨?_, rfl, rfl⟩
    refine congrArg (fun z => some (Value.int z)) (sf_cls ?_)
    rw [g2.1, show (2 : Int32) = nI 2 from rfl, sl_lvN (by decide) g2.2, hV.2.1 _ g2.2]; simp [lvl, g]
  by_cases h3 : (nI (K i)) = 8
  · refine xB.tp h3 ?_
    refine xB.go 1 (90, [(0, .ref 16), (1, .int (nI i)), (2, .int (mi 3 i)), (3, .int ((lv2 (tkn K ml 0 i h) (tkn K ml 1 i h)) ||| (lv2 (hb (ml 16 5) i) (hb (ml 16 6) i))))], [], XM L mi ml) rfl ?_
    refine xB.go 4 (96, [(0, .ref 16), (1, .int (nI i)), (2, .int (mi 3 i)), (3, .int ((lv2 (tkn K ml 0 i h) (tkn K ml 1 i h)) ||| (lv2 (hb (ml 16 5) i) (hb (ml 16 6) i))))], [.int (mi 3 i), .ref 4, .int ((lv2 (tkn K ml 0 i h) (tkn K ml 1 i h)) ||| (lv2 (hb (ml 16 5) i) (hb (ml 16 6) i)))], XM L mi ml) rfl ?_
    refine xB.c1 13 [.ref 4, .int (mi 3 i)] [.int ((lv2 (tkn K ml 0 i h) (tkn K ml 1 i h)) ||| (lv2 (hb (ml 16 5) i) (hb (ml 16 6) i)))] (c_ofChannel _ L mi ml (mi 3 i) ) rfl ?_
    refine xB.c1 87 [.int ((lv2 (tkn K ml 0 i h) (tkn K ml 1 i h)) ||| (lv2 (hb (ml 16 5) i) (hb (ml 16 6) i))), .int (sl_lv mi 7 4 (mi 3 i))] [] (c_isBelow _ L mi ml ((lv2 (tkn K ml 0 i h) (tkn K ml 1 i h)) ||| (lv2 (hb (ml 16 5) i) (hb (ml 16 6) i))) (sl_lv mi 7 4 (mi 3 i)) ) rfl ?_
    refine xB.rz (xb (((lv2 (tkn K ml 0 i h) (tkn K ml 1 i h)) ||| (lv2 (hb (ml 16 5) i) (hb (ml 16 6) i))) &&& ((sl_lv mi 7 4 (mi 3 i)) ^^^ (-1)) = 0)) mi ml rfl xz_xb ?_
    have g := k_eq hk (c := 8) (by decide) h3
    have g2 := (hN i hin).2.2.1 g
    refine ⟨?_, rfl, rfl⟩
    refine congrArg (fun z => some (Value.int z)) (sf_cls ?_)
    rw [g2.1, show (4 : Int32) = nI 4 from rfl, sl_lvN (by decide) g2.2, hV.2.2 _ g2.2]; simp [lvl, g]
  refine xB.st (103, [(0, .ref 16), (1, .int (nI i)), (2, .int (mi 3 i)), (3, .int ((lv2 (tkn K ml 0 i h) (tkn K ml 1 i h)) ||| (lv2 (hb (ml 16 5) i) (hb (ml 16 6) i))))], [], XM L mi ml) (xls_d (mt := mX7_isSafe) rfl rfl (xlk_3 (xne_toInt (k := 2) (by decide) h1) (xne_toInt (k := 7) (by decide) h2) (xne_toInt (k := 8) (by decide) h3)) rfl) ?_
  refine xB.go 1 (104, [(0, .ref 16), (1, .int (nI i)), (2, .int (mi 3 i)), (3, .int ((lv2 (tkn K ml 0 i h) (tkn K ml 1 i h)) ||| (lv2 (hb (ml 16 5) i) (hb (ml 16 6) i))))], [.int 1], XM L mi ml) rfl ?_
  refine xB.rt (some (.int 1)) mi ml rfl ?_
  have g2 := k_ne (c := 2) h1
  have g7 := k_ne (c := 7) h2
  have g8 := k_ne (c := 8) h3
  exact ⟨by rw [xb_t (by simp [sfB, lvl, g2, g7, g8])], rfl, rfl⟩
def usB (n : Nat) (K T : Nat → Nat) (vL aL cL : Nat → Nat → Bool) (ml : xml) (i : Nat) : Prop := ∃ h, Rh n K T i h ∧ sfB K T vL aL cL ml i h = false
def FU (n : Nat) (P : Nat → Prop) (v : Int32) : Prop := (∃ i, i < n ∧ P i ∧ (∀ j, j < i → ¬ P j) ∧ v = nI i) ∨ ((∀ j, j < n → ¬ P j) ∧ v = -1)
set_option maxRecDepth 100000 in
set_option maxHeartbeats 1000000 in
theorem fu_2 (d L : Nat) (mi : xmi) (ml : xml) {n : Nat} {K T : Nat → Nat} {vL aL cL : Nat → Nat → Bool} (hP : PRG mi n K T) (hN : NUM mi n K T) (hV : LEV mi vL aL cL) (hw : WF n K T) (hm : ∀ i, i < 64 → (hb (ml 8 2) i = true ↔ ∃ h, Rh n K T i h)) (hht : ∀ i h, Rh n K T i h → mi 9 i = nI h ∧ h ≤ 16) : ∀ (f i : Nat), i ≤ n → n - i < f → (∀ j, j < i → ¬ usB n K T vL aL cL ml j) → xB (d + 4) mX7_firstUnsafe L (fun rr a b => a = mi ∧ b = ml ∧ ∃ v, rr = some (.int v) ∧ FU n (usB n K T vL aL cL ml) v) (2, [(0, .ref 16), (1, .int (nI i))], [], XM L mi ml) := by
  have hn64 := hP.2.1
  intro f
  induction f with
  | zero => intro i h1 h2; omega
  | succ f ih =>
    intro i hle hlt hno
    refine xB.go 3 (7, [(0, .ref 16), (1, .int (nI i))], [.ref 1, .int (nI i)], XM L mi ml) rfl ?_
    refine xB.c1 40 [.ref 1] [.int (nI i)] (c_size _ L _ _) rfl ?_
    refine xB.cg (10, [(0, .ref 16), (1, .int (nI i))], [.int (nI n), .int (nI i)], XM L mi ml) (by rw [hP.1]) ?_
    refine xB.bp ((nI n) ≤ (nI i)) (40, [(0, .ref 16), (1, .int (nI i))], [], XM L mi ml) (13, [(0, .ref 16), (1, .int (nI i))], [], XM L mi ml) rfl (fun h1 => ?_) (fun h1 => ?_)
    · refine xB.go 1 (41, [(0, .ref 16), (1, .int (nI i))], [.int (-1)], XM L mi ml) rfl ?_
      refine xB.rt (some (.int (-1))) mi ml rfl ?_
      have hge : n ≤ i := (nI_leI (by omega) (by omega)).mp h1
      exact ⟨rfl, rfl, -1, rfl, Or.inr ⟨fun j hj => hno j (by omega), rfl⟩⟩
    · have hin : i < n := (nI_ltI (by omega) (by omega)).mp (i_nle.mp h1)
      have hi64 : i < 64 := by omega
      refine xB.go 3 (18, [(0, .ref 16), (1, .int (nI i))], [.int (nI i), .ref 8], XM L mi ml) rfl ?_
      refine xB.c1 51 [.ref 8, .int (nI i)] [] (c_isMetN _ L _ _ hi64) rfl ?_
      refine xB.bz (hb (ml 8 2) i = true) (34, [(0, .ref 16), (1, .int (nI i))], [], XM L mi ml) (24, [(0, .ref 16), (1, .int (nI i))], [], XM L mi ml) rfl (fun h2 => ?_) (fun h2 => ?_)
      · refine xB.go 2 (2, [(0, .ref 16), (1, .int ((nI i) + 1))], [], XM L mi ml) rfl ?_
        rw [nI_1]
        refine ih (i + 1) (by omega) (by omega) (fun j hj hz => ?_)
        by_cases e : j = i
        · subst e; obtain ⟨h, hr, -⟩ := hz; exact h2 ((hm j hi64).mpr ⟨h, hr⟩)
        · exact hno j (by omega) hz
      · obtain ⟨h, hrh⟩ := (hm i hi64).mp h2
        refine xB.go 2 (26, [(0, .ref 16), (1, .int (nI i))], [.int (nI i), .ref 16], XM L mi ml) rfl ?_
        refine xB.c1 61 [.ref 16, .int (nI i)] [] (c_isSafe _ L _ _ hP hN hV hin h2 (hht i h hrh).1 (hht i h hrh).2 (hw.1 i h hrh).2.1) rfl ?_
        refine xB.bn (sfB K T vL aL cL ml i h = true) (34, [(0, .ref 16), (1, .int (nI i))], [], XM L mi ml) (32, [(0, .ref 16), (1, .int (nI i))], [], XM L mi ml) rfl (fun h3 => ?_) (fun h3 => ?_)
        · refine xB.go 2 (2, [(0, .ref 16), (1, .int ((nI i) + 1))], [], XM L mi ml) rfl ?_
          rw [nI_1]
          refine ih (i + 1) (by omega) (by omega) (fun j hj hz => ?_)
          by_cases e : j = i
          · subst e; obtain ⟨h2, hr2, g⟩ := hz; obtain rfl := hw.2 j h2 h hr2 hrh; rw [h3] at g; cases g
          · exact hno j (by omega) hz
        · refine xB.go 1 (33, [(0, .ref 16), (1, .int (nI i))], [.int (nI i)], XM L mi ml) rfl ?_
          refine xB.rt (some (.int (nI i))) mi ml rfl ?_
          exact ⟨rfl, rfl, nI i, rfl, Or.inl ⟨i, hin, ⟨h, hrh, by simpa using h3⟩, hno, rfl⟩⟩
set_option maxRecDepth 100000 in
set_option maxHeartbeats 1000000 in
theorem c_firstUnsafe (d L : Nat) (mi : xmi) (ml : xml) {n : Nat} {K T : Nat → Nat} {vL aL cL : Nat → Nat → Bool} (hP : PRG mi n K T) (hN : NUM mi n K T) (hV : LEV mi vL aL cL) (hw : WF n K T) (hm : ∀ i, i < 64 → (hb (ml 8 2) i = true ↔ ∃ h, Rh n K T i h)) (hht : ∀ i h, Rh n K T i h → mi 9 i = nI h ∧ h ≤ 16) : xF (d + 5) 60 [.ref 16] L mi ml (fun rr a b => a = mi ∧ b = ml ∧ ∃ v, rr = some (.int v) ∧ FU n (usB n K T vL aL cL ml) v) := by
  refine xF.mk mX7_firstUnsafe rfl rfl ?_
  refine xB.go 2 (2, [(0, .ref 16), (1, .int 0)], [], XM L mi ml) rfl ?_
  exact fu_2 d L mi ml hP hN hV hw hm hht (n + 1) 0 (Nat.zero_le _) (by omega) (fun j hj => absurd hj (Nat.not_lt_zero _))
set_option maxRecDepth 100000 in
set_option maxHeartbeats 1000000 in
theorem c_jat (d L : Nat) (mi : xmi) (ml : xml) {n : Nat} {K T : Nat → Nat} (hP : PRG mi n K T) {i : Nat} (hin : i < n) : xFv (d + 2) 1 [.ref 10, .int (nI i)] L mi ml (.int (mi 14 i)) mi ml := by
  refine xF.mk mX0_at rfl rfl ?_
  refine xB.go 3 (5, [(0, .ref 10), (1, .int (nI i))], [.int (nI i), .ref 1], XM L mi ml) rfl ?_
  refine xB.c1 41 [.ref 1, .int (nI i)] [] (c_has _ L mi ml (nI i) ) rfl ?_
  refine xB.bz (0 ≤ (nI i) ∧ (nI i) < mi 1 2) (20, [(0, .ref 10), (1, .int (nI i))], [], XM L mi ml) (11, [(0, .ref 10), (1, .int (nI i))], [], XM L mi ml) rfl (fun h1 => ?_) (fun h1 => ?_)
  · refine xB.go 1 (21, [(0, .ref 10), (1, .int (nI i))], [.int (-1)], XM L mi ml) rfl ?_
    refine xB.rt (some (.int (-1))) mi ml rfl ?_
    exact absurd ((hP.has (by have := hP.2.1; omega)).mpr hin) h1
  · refine xB.go 3 (16, [(0, .ref 10), (1, .int (nI i))], [.int (nI i), .ref 14], XM L mi ml) rfl ?_
    refine xB.ck (xin (nI i) 64) (17, [(0, .ref 10), (1, .int (nI i))], [.int (mi 14 (nI i).toNatClampNeg)], XM L mi ml) rfl (xck hP.1 hP.2.1 h1) ?_
    refine xB.go 1 (21, [(0, .ref 10), (1, .int (nI i))], [.int (mi 14 (nI i).toNatClampNeg)], XM L mi ml) rfl ?_
    refine xB.rt (some (.int (mi 14 (nI i).toNatClampNeg))) mi ml rfl ?_
    exact ⟨by rw [nI_clamp (by have := hP.2.1; omega)], rfl, rfl⟩
set_option maxRecDepth 100000 in
set_option maxHeartbeats 1000000 in
theorem c_wfget (d L : Nat) (mi : xmi) (ml : xml) (hz : xz (mi 8 4) = true) : xFv (d + 1) 50 [.ref 8] L mi ml (.int (mi 8 4)) mi ml := by
  refine xF.mk mX6_isWellFormed rfl rfl ?_
  refine xB.go 2 (4, [(0, .ref 8)], [.int (mi 8 4)], XM L mi ml) rfl ?_
  refine xB.rz (mi 8 4) mi ml rfl hz ?_
  exact ⟨rfl, rfl, rfl⟩
/-- what is known of the class -/
def TYC (n : Nat) (K T : Nat → Nat) (vL aL : Nat → Nat → Bool) (ml : xml) : Prop := ∀ b j k, b < 2 → (TY n K T (rd K T vL aL b) (RG n K T) j k ↔ gS (tb2 ml) b j k)
def CI (n : Nat) (K T : Nat → Nat) (vL aL cL : Nat → Nat → Bool) (mi : xmi) (ml : xml) : Prop := PRG mi n K T ∧ NUM mi n K T ∧ LEV mi vL aL cL ∧ (mi 0 8 = 0 ∨ mi 0 8 = 1) ∧ (mi 0 9 = 0 ∨ mi 0 9 = 1) ∧ (mi 0 8 = 0 → SHP n K T mi ml ∧ (mi 8 4 = 1 → JC n K T mi ml)) ∧ (mi 0 8 = 0 → mi 0 9 = 0 → mi 8 4 = 1 → TYC n K T vL aL ml)
/-- the rows of others stay -/
def FR (mi : xmi) (ml : xml) (a : xmi) (b : xml) : Prop := ∀ x, 18 ≤ x ∨ x = 3 → a x = mi x ∧ b x = ml x
theorem FR.rfl' {mi : xmi} {ml : xml} : FR mi ml mi ml := fun _ _ => ⟨rfl, rfl⟩
theorem FR.trans {mi a a' : xmi} {ml b b' : xml} (h1 : FR mi ml a b) (h2 : FR a b a' b') : FR mi ml a' b' := fun x hx => ⟨(h2 x hx).1.trans (h1 x hx).1, (h2 x hx).2.trans (h1 x hx).2⟩
theorem SHP.bool {n : Nat} {K T : Nat → Nat} {a : xmi} {b : xml} (h : SHP n K T a b) : xz (a 8 4) = true := by
  rcases h with ⟨h, -⟩ | ⟨h, -⟩ <;> rw [h] <;> rfl
theorem SHP.frame {n : Nat} {K T : Nat → Nat} {a a' : xmi} {b b' : xml} (h : SHP n K T a b) (h8 : a' 8 = a 8) (h9 : a' 9 = a 9) (hb8 : b' 8 = b 8) : SHP n K T a' b' := by unfold SHP at h ⊢; rw [h8, h9, hb8]; exact h
theorem JC.frame {n : Nat} {K T : Nat → Nat} {a a' : xmi} {b b' : xml} (h : JC n K T a b) (h14 : a' 14 = a 14) (h15 : b' 15 = b 15) : JC n K T a' b' := by unfold JC at h ⊢; rw [h14, h15]; exact h
theorem TYC.frame {n : Nat} {K T : Nat → Nat} {vL aL : Nat → Nat → Bool} {b b' : xml} (h : TYC n K T vL aL b) (h16 : b' 16 = b 16) (h17 : b' 17 = b 17) : TYC n K T vL aL b' := by
  unfold TYC gS tb2 at h ⊢; rw [h16, h17]; exact h
theorem SHP.wf1 {n : Nat} {K T : Nat → Nat} {a : xmi} {b : xml} (h : SHP n K T a b) (h1 : a 8 4 = 1) : WF n K T ∧ (∀ i, i < 64 → (hb (b 8 2) i = true ↔ ∃ h, Rh n K T i h)) ∧ (∀ i h, Rh n K T i h → a 9 i = nI h ∧ h ≤ 16) := by
  rcases h with ⟨-, h⟩ | ⟨h, -⟩
  · exact h
  · rw [h1] at h; cases h
theorem SHP.wf0 {n : Nat} {K T : Nat → Nat} {a : xmi} {b : xml} (h : SHP n K T a b) (h1 : ¬ a 8 4 = 1) : ¬ WF n K T ∧ a 8 4 = 0 := by
  rcases h with ⟨h, -⟩ | ⟨h, g⟩
  · exact absurd h h1
  · exact ⟨g, h⟩
set_option maxRecDepth 100000 in
set_option maxHeartbeats 1000000 in
theorem c_iwf (d L : Nat) (mi : xmi) (ml : xml) {n : Nat} {K T : Nat → Nat} {vL aL cL : Nat → Nat → Bool} (hC : CI n K T vL aL cL mi ml) : xF (d + 6) 82 [.ref 0] L mi ml (fun rr a b => ∃ v, rr = some (.int v) ∧ CI n K T vL aL cL a b ∧ a 0 8 = 0 ∧ v = a 8 4 ∧ FR mi ml a b) := by
  refine xF.mk mX8_isWellFormed rfl rfl ?_
  refine xB.go 2 (4, [(0, .ref 0)], [.int (mi 0 8)], XM L mi ml) rfl ?_
  refine xB.bp ((mi 0 8) = 0) (41, [(0, .ref 0)], [], XM L mi ml) (7, [(0, .ref 0)], [], XM L mi ml) rfl (fun h1 => ?_) (fun h1 => ?_)
  · refine xB.go 2 (45, [(0, .ref 0)], [.ref 8], XM L mi ml) rfl ?_
    have hz45 := (hC.2.2.2.2.2.1 h1).1.bool
    refine xB.c1 50 [.ref 8] [] (c_wfget _ L _ _ hz45) rfl ?_
    refine xB.rz (mi 8 4) mi ml rfl (by first | exact hz45) ?_
    exact ⟨_, rfl, hC, h1, rfl, FR.rfl'⟩
  · refine xB.go 2 (11, [(0, .ref 0)], [.ref 8], XM L mi ml) rfl ?_
    refine xB.ca 53 [.ref 8] [] (c_find _ L _ _ hC.1) rfl ?_
    intro r1 a b hq
    obtain ⟨rfl, ha, hb, hS⟩ := hq
    have hPa : PRG a n K T := hC.1.frame (ha 1 (by decide) (by decide)) (ha 2 (by decide) (by decide)) (ha 3 (by decide) (by decide)) (ha 1002 (by decide) (by decide)) (ha 1003 (by decide) (by decide))
    show xB _ _ L _ (14, [(0, .ref 0)], [], XM L a b)
    refine xB.go 2 (18, [(0, .ref 0)], [.ref 8], XM L a b) rfl ?_
    have hz18 := hS.bool
    refine xB.c1 50 [.ref 8] [] (c_wfget _ L _ _ hz18) rfl ?_
    refine xB.bp ((a 8 4) = 0) (31, [(0, .ref 0)], [], XM L a b) (24, [(0, .ref 0)], [], XM L a b) rfl (fun h2 => ?_) (fun h2 => ?_)
    · refine xB.go 8 (45, [(0, .ref 0)], [.ref 8], XM L (xU (xU a 0 8 0) 0 9 1) b) rfl ?_
      have hz45 : xz (xU (xU a 0 8 0) 0 9 1 8 4) = true := by rw [xU_ne (by decide), xU_ne (by decide)]; exact hS.bool
      refine xB.c1 50 [.ref 8] [] (c_wfget _ L _ _ hz45) rfl ?_
      refine xB.rz (a 8 4) (xU (xU a 0 8 0) 0 9 1) b rfl (by first | exact hz45) ?_
      have hne : ¬ a 8 4 = 1 := by rw [h2]; decide
      refine ⟨_, rfl, ⟨hPa.frame (by rw [xU_ne (by decide), xU_ne (by decide)]) (by rw [xU_ne (by decide), xU_ne (by decide)]) (by rw [xU_ne (by decide), xU_ne (by decide)]) (by rw [xU_ne (by decide), xU_ne (by decide)]) (by rw [xU_ne (by decide), xU_ne (by decide)]), (hC.2.1.frame (ha 3 (by decide) (by decide))).frame (by rw [xU_ne (by decide), xU_ne (by decide)]), (hC.2.2.1.frame (ha 5 (by decide) (by decide)) (ha 6 (by decide) (by decide)) (ha 7 (by decide) (by decide))).frame (by rw [xU_ne (by decide), xU_ne (by decide)]) (by rw [xU_ne (by decide), xU_ne (by decide)]) (by rw [xU_ne (by decide), xU_ne (by decide)]), Or.inl (by rw [xU_at, va_up_ne _ _ (by decide), xU_self]), Or.inr (by rw [xU_self]), fun _ => ⟨hS.frame (by rw [xU_ne (by decide), xU_ne (by decide)]) (by rw [xU_ne (by decide), xU_ne (by decide)]) rfl, fun z => absurd (by rw [xU_ne (by decide), xU_ne (by decide)] at z; exact z) hne⟩, fun _ z => ?_⟩, by rw [xU_at, va_up_ne _ _ (by decide), xU_self], rfl, fun x hx => ⟨by rw [xU_ne (by omega), xU_ne (by omega)]; exact ha x (by omega) (by omega), hb x (by omega)⟩⟩
      rw [xU_self] at z; cases z
    · have hW := hS.wf1 (by rcases hS with z | z; exact z.1; exact absurd z.1 h2)
      refine xB.go 2 (28, [(0, .ref 0)], [.ref 10], XM L a b) rfl ?_
      refine xB.ca 3 [.ref 10] [] (c_jfind _ L _ _ hPa hW.1 hW.2.1) rfl ?_
      intro r2 a2 b2 hq2
      obtain ⟨rfl, ha2, hb2, hJ2⟩ := hq2
      show xB _ _ L _ (31, [(0, .ref 0)], [], XM L a2 b2)
      refine xB.go 8 (45, [(0, .ref 0)], [.ref 8], XM L (xU (xU a2 0 8 0) 0 9 1) b2) rfl ?_
      have hz45 : xz (xU (xU a2 0 8 0) 0 9 1 8 4) = true := by rw [xU_ne (by decide), xU_ne (by decide), ha2 8 (by decide)]; exact hS.bool
      refine xB.c1 50 [.ref 8] [] (c_wfget _ L _ _ hz45) rfl ?_
      refine xB.rz (a2 8 4) (xU (xU a2 0 8 0) 0 9 1) b2 rfl (by first | exact hz45) ?_
      refine ⟨_, rfl, ⟨(hPa.frame (ha2 1 (by decide)) (ha2 2 (by decide)) (ha2 3 (by decide)) (ha2 1002 (by decide)) (ha2 1003 (by decide))).frame (by rw [xU_ne (by decide), xU_ne (by decide)]) (by rw [xU_ne (by decide), xU_ne (by decide)]) (by rw [xU_ne (by decide), xU_ne (by decide)]) (by rw [xU_ne (by decide), xU_ne (by decide)]) (by rw [xU_ne (by decide), xU_ne (by decide)]), (hC.2.1.frame ((ha2 3 (by decide)).trans (ha 3 (by decide) (by decide)))).frame (by rw [xU_ne (by decide), xU_ne (by decide)]), (hC.2.2.1.frame ((ha2 5 (by decide)).trans (ha 5 (by decide) (by decide))) ((ha2 6 (by decide)).trans (ha 6 (by decide) (by decide))) ((ha2 7 (by decide)).trans (ha 7 (by decide) (by decide)))).frame (by rw [xU_ne (by decide), xU_ne (by decide)]) (by rw [xU_ne (by decide), xU_ne (by decide)]) (by rw [xU_ne (by decide), xU_ne (by decide)]), Or.inl (by rw [xU_at, va_up_ne _ _ (by decide), xU_self]), Or.inr (by rw [xU_self]), fun _ => ⟨(hS.frame (ha2 8 (by decide)) (ha2 9 (by decide)) (hb2 8 (by decide) (by decide) (by decide) (by decide) (by decide))).frame (by rw [xU_ne (by decide), xU_ne (by decide)]) (by rw [xU_ne (by decide), xU_ne (by decide)]) rfl, fun _ => (hJ2.jc hC.1.2.1 hW.1).frame (by rw [xU_ne (by decide), xU_ne (by decide)]) rfl⟩, fun _ z => ?_⟩, by rw [xU_at, va_up_ne _ _ (by decide), xU_self], rfl, fun x hx => ⟨by rw [xU_ne (by omega), xU_ne (by omega), ha2 x (by omega)]; exact ha x (by omega) (by omega), (hb2 x (by omega) (by omega) (by omega) (by omega) (by omega)).trans (hb x (by omega))⟩⟩
      rw [xU_self] at z; cases z
end
section
/-! the class: typesNow, check, surrounding, pile, junction -/
theorem JC.rg {n : Nat} {K T : Nat → Nat} {a : xmi} {b : xml} (h : JC n K T a b) (hw : WF n K T) (hn : n ≤ 64) {i : Nat} (hm : met n K T i) (h5 : K i = 5) (j : Nat) : hb (b 15 i) j = true ↔ RG n K T i j := by
  rcases Nat.lt_or_ge j 64 with z | z
  · exact (h i (hw.lt hm)).2 hm h5 j z
  · rw [hb_big z]
    refine ⟨fun g => (by cases g), fun ⟨v, g1, g2⟩ => ?_⟩
    have := hw.lt (g2.mm hw hm); omega
def TYb (n : Nat) (K T : Nat → Nat) (vL aL : Nat → Nat → Bool) (b j k : Nat) : Prop := TY n K T (rd K T vL aL b) (RG n K T) j k
def UNS (n : Nat) (K T : Nat → Nat) (vL aL cL : Nat → Nat → Bool) (i : Nat) : Prop := ∃ h, Rh n K T i h ∧ ∃ b, b < 2 ∧ (TKN K (TYb n K T vL aL b) i h ∨ TYb n K T vL aL b i 16) ∧ lvl K T vL aL cL b i = false
def CHK (n : Nat) (K T : Nat → Nat) (vL aL cL : Nat → Nat → Bool) (v : Int32) : Prop := (¬ WF n K T ∧ v = -1) ∨ (WF n K T ∧ ∃ w, FU n (UNS n K T vL aL cL) w ∧ v = w + 1)
def tyV (X : Nat → Nat → Nat → Prop) (i k : Nat) (v : Int32) : Prop := ∃ p q : Bool, (p = true ↔ X 0 i k) ∧ (q = true ↔ X 1 i k) ∧ v = lv2 p q
def SUR (n : Nat) (K T : Nat → Nat) (vL aL : Nat → Nat → Bool) (x v : Int32) : Prop := (∃ i, WF n K T ∧ x = nI i ∧ met n K T i ∧ tyV (TYb n K T vL aL) i 16 v) ∨ ((¬ ∃ i, WF n K T ∧ x = nI i ∧ met n K T i) ∧ v = -1)
def PIL (n : Nat) (K T : Nat → Nat) (vL aL : Nat → Nat → Bool) (x y v : Int32) : Prop := (∃ i h k, WF n K T ∧ x = nI i ∧ Rh n K T i h ∧ y = nI k ∧ k < h ∧ tyV (TYb n K T vL aL) i k v) ∨ ((¬ ∃ i h k, WF n K T ∧ x = nI i ∧ Rh n K T i h ∧ y = nI k ∧ k < h) ∧ v = -1)
def JUN (n : Nat) (K T : Nat → Nat) (x v : Int32) : Prop := (∃ i, WF n K T ∧ x = nI i ∧ met n K T i ∧ JX n K T i v) ∨ ((¬ ∃ i, WF n K T ∧ x = nI i ∧ met n K T i) ∧ v = -1)
theorem FU.cg {n : Nat} {P Q : Nat → Prop} {v : Int32} (h : ∀ i, P i ↔ Q i) (g : FU n P v) : FU n Q v := by
  unfold FU at g ⊢; simp only [h] at g; exact g
theorem FU.uq {n : Nat} {P : Nat → Prop} {v w : Int32} (h1 : FU n P v) (h2 : FU n P w) : v = w := by
  rcases h1 with ⟨i, a, b, c, rfl⟩ | ⟨a, rfl⟩ <;> rcases h2 with ⟨i', a', b', c', rfl⟩ | ⟨a', rfl⟩
  · rcases Nat.lt_trichotomy i i' with z | z | z
    · exact absurd b (c' i z)
    · rw [z]
    · exact absurd b' (c i' z)
  · exact absurd b (a' i a)
  · exact absurd b' (a i' a')
  · rfl
theorem CHK.uq {n : Nat} {K T : Nat → Nat} {vL aL cL : Nat → Nat → Bool} {v w : Int32} (h1 : CHK n K T vL aL cL v) (h2 : CHK n K T vL aL cL w) : v = w := by
  rcases h1 with ⟨a, rfl⟩ | ⟨a, x, b, rfl⟩ <;> rcases h2 with ⟨a', rfl⟩ | ⟨a', x', b', rfl⟩
  · rfl
  · exact absurd a' a
  · exact absurd a a'
  · rw [b.uq b']
theorem tyV.uq {X : Nat → Nat → Nat → Prop} {i k : Nat} {v w : Int32} (h1 : tyV X i k v) (h2 : tyV X i k w) : v = w := by
  obtain ⟨p, q, a, b, rfl⟩ := h1
  obtain ⟨p', q', a', b', rfl⟩ := h2
  have e1 : p = p' := Bool.eq_iff_iff.mpr (a.trans a'.symm)
  have e2 : q = q' := Bool.eq_iff_iff.mpr (b.trans b'.symm)
  rw [e1, e2]
theorem met.inj {n : Nat} {K T : Nat → Nat} (hn : n ≤ 64) (hw : WF n K T) {i j : Nat} (hi : met n K T i) (hj : met n K T j) (h : nI i = nI j) : i = j := by
  have := hw.lt hi; have := hw.lt hj
  exact (nI_eq (by omega) (by omega)).mp h
theorem SUR.uq {n : Nat} {K T : Nat → Nat} {vL aL : Nat → Nat → Bool} {x v w : Int32} (hn : n ≤ 64) (h1 : SUR n K T vL aL x v) (h2 : SUR n K T vL aL x w) : v = w := by
  rcases h1 with ⟨i, a, b, c, d⟩ | ⟨a, rfl⟩ <;> rcases h2 with ⟨i', a', b', c', d'⟩ | ⟨a', rfl⟩
  · obtain rfl := met.inj hn a c c' (b.symm.trans b'); exact d.uq d'
  · exact absurd ⟨i, a, b, c⟩ a'
  · exact absurd ⟨i', a', b', c'⟩ a
  · rfl
theorem JUN.uq {n : Nat} {K T : Nat → Nat} {x v w : Int32} (hn : n ≤ 64) (h1 : JUN n K T x v) (h2 : JUN n K T x w) : v = w := by
  rcases h1 with ⟨i, a, b, c, d⟩ | ⟨a, rfl⟩ <;> rcases h2 with ⟨i', a', b', c', d'⟩ | ⟨a', rfl⟩
  · obtain rfl := met.inj hn a c c' (b.symm.trans b'); exact d.uq d'
  · exact absurd ⟨i, a, b, c⟩ a'
  · exact absurd ⟨i', a', b', c'⟩ a
  · rfl
theorem Rh.le16 {n : Nat} {K T : Nat → Nat} {i h : Nat} (hr : Rh n K T i h) : h ≤ 16 := hr (fun _ h => h ≤ 16) (Nat.zero_le _) (fun _ _ _ _ _ _ g _ => g)
theorem PIL.uq {n : Nat} {K T : Nat → Nat} {vL aL : Nat → Nat → Bool} {x y v w : Int32} (hn : n ≤ 64) (h1 : PIL n K T vL aL x y v) (h2 : PIL n K T vL aL x y w) : v = w := by
  rcases h1 with ⟨i, h, k, a, b, c, d, e, f⟩ | ⟨a, rfl⟩ <;> rcases h2 with ⟨i', h', k', a', b', c', d', e', f'⟩ | ⟨a', rfl⟩
  · obtain rfl := met.inj hn a ⟨h, c⟩ ⟨h', c'⟩ (b.symm.trans b')
    have := c.le16; have := c'.le16
    obtain rfl := nI_inj (by omega) (by omega) (d.symm.trans d')
    exact f.uq f'
  · exact absurd ⟨i, h, k, a, b, c, d, e⟩ a'
  · exact absurd ⟨i', h', k', a', b', c', d', e'⟩ a
  · rfl
theorem TYC.tS {n : Nat} {K T : Nat → Nat} {vL aL : Nat → Nat → Bool} {ml : xml} (h : TYC n K T vL aL ml) {b j k : Nat} (hb2 : b < 2) (hj : j < 64) : TYb n K T vL aL b j k ↔ tS ml b j k := (h b j k hb2).trans (gS_tS hj)
theorem usB_iff {n : Nat} {K T : Nat → Nat} {vL aL cL : Nat → Nat → Bool} {ml : xml} (h : TYC n K T vL aL ml) (hw : WF n K T) (hn : n ≤ 64) (i : Nat) : usB n K T vL aL cL ml i ↔ UNS n K T vL aL cL i := by
  unfold usB UNS
  refine exists_congr fun x => and_congr_right fun hr => ?_
  have hi : i < 64 := Nat.lt_of_lt_of_le (hw.1 i x hr).1 hn
  have key : ∀ b, b < 2 → ((tkn K ml b i x = true ∨ hb (ml 16 (5 + b)) i = true) ↔ (TKN K (TYb n K T vL aL b) i x ∨ TYb n K T vL aL b i 16)) := fun b hb2 => by
    rw [tkn_iff hr.le16 (hw.1 i x hr).2.1]
    unfold TKN
    simp only [h.tS hb2 hi]
    have : tS ml b i 16 ↔ hb (ml 16 (5 + b)) i = true := ⟨fun z => z.elim (fun w => by omega) (fun w => w.2), fun z => Or.inr ⟨rfl, z⟩⟩
    rw [this]
  have k0 := key 0 (by decide)
  have k1 := key 1 (by decide)
  constructor
  · intro g
    unfold sfB at g
    rw [Bool.and_eq_false_iff, Bool.or_eq_false_iff, Bool.or_eq_false_iff] at g
    rcases g with ⟨g1, g2⟩ | ⟨g1, g2⟩
    · exact ⟨0, by decide, k0.mp (by rw [Bool.not_eq_false', Bool.or_eq_true] at g1; exact g1), g2⟩
    · exact ⟨1, by decide, k1.mp (by rw [Bool.not_eq_false', Bool.or_eq_true] at g1; exact g1), g2⟩
  · rintro ⟨b, hb2, g1, g2⟩
    have g1 := (key b hb2).mpr g1
    unfold sfB
    rcases (show b = 0 ∨ b = 1 by omega) with rfl | rfl
    · have : (tkn K ml 0 i x || hb (ml 16 5) i) = true := by rw [Bool.or_eq_true]; exact g1
      rw [this, g2]; simp
    · have : (tkn K ml 1 i x || hb (ml 16 6) i) = true := by rw [Bool.or_eq_true]; exact g1
      rw [this, g2]; simp
set_option maxRecDepth 100000 in
set_option maxHeartbeats 1000000 in
theorem c_typesNow (d L : Nat) (mi : xmi) (ml : xml) {n : Nat} {K T : Nat → Nat} {vL aL cL : Nat → Nat → Bool} (hC : CI n K T vL aL cL mi ml) (h08 : mi 0 8 = 0) (h84 : mi 8 4 = 1) : xF (d + 6) 83 [.ref 0] L mi ml (fun rr a b => rr = some (.ref 16) ∧ CI n K T vL aL cL a b ∧ a 0 8 = 0 ∧ a 0 9 = 0 ∧ a 8 4 = 1 ∧ FR mi ml a b) := by
  have hS := (hC.2.2.2.2.2.1 h08).1
  have hJ := (hC.2.2.2.2.2.1 h08).2 h84
  have hW := hS.wf1 h84
  refine xF.mk mX8_typesNow rfl rfl ?_
  refine xB.go 2 (4, [(0, .ref 0)], [.int (mi 0 9)], XM L mi ml) rfl ?_
  refine xB.bp ((mi 0 9) = 0) (19, [(0, .ref 0)], [], XM L mi ml) (7, [(0, .ref 0)], [], XM L mi ml) rfl (fun h1 => ?_) (fun h1 => ?_)
  · refine xB.go 2 (23, [(0, .ref 0)], [.ref 16], XM L mi ml) rfl ?_
    refine xB.rt (some (.ref 16)) mi ml rfl ?_
    exact ⟨rfl, hC, h08, h1, h84, FR.rfl'⟩
  · refine xB.go 2 (11, [(0, .ref 0)], [.ref 16], XM L mi ml) rfl ?_
    refine xB.ca 59 [.ref 16] [] (c_tfind _ L _ _ hC.1 hC.2.1 hC.2.2.1 hW.1 hW.2.1 hW.2.2) rfl ?_
    intro r1 a b hq
    obtain ⟨rfl, hf, hT⟩ := hq
    show xB _ _ L _ (14, [(0, .ref 0)], [], XM L a b)
    refine xB.go 5 (23, [(0, .ref 0)], [.ref 16], XM L (xU a 0 9 0) b) rfl ?_
    refine xB.rt (some (.ref 16)) (xU a 0 9 0) b rfl ?_
    have e0 : xU a 0 9 0 0 8 = mi 0 8 := by rw [xU_at, va_up_ne _ _ (by decide), hf.1 0 (by decide)]
    have e8 : xU a 0 9 0 8 = mi 8 := by rw [xU_ne (by decide), hf.1 8 (by decide)]
    refine ⟨rfl, ⟨hC.1.frame (by rw [xU_ne (by decide)]; exact hf.1 1 (by decide)) (by rw [xU_ne (by decide)]; exact hf.1 2 (by decide)) (by rw [xU_ne (by decide)]; exact hf.1 3 (by decide)) (by rw [xU_ne (by decide)]; exact hf.1 1002 (by decide)) (by rw [xU_ne (by decide)]; exact hf.1 1003 (by decide)), hC.2.1.frame (by rw [xU_ne (by decide)]; exact hf.1 3 (by decide)), hC.2.2.1.frame (by rw [xU_ne (by decide)]; exact hf.1 5 (by decide)) (by rw [xU_ne (by decide)]; exact hf.1 6 (by decide)) (by rw [xU_ne (by decide)]; exact hf.1 7 (by decide)), Or.inl (by rw [e0, h08]), Or.inl (by rw [xU_self]), fun _ => ⟨hS.frame (by rw [xU_ne (by decide)]; exact hf.1 8 (by decide)) (by rw [xU_ne (by decide)]; exact hf.1 9 (by decide)) (hf.2.2 8 (by decide) (by decide)), fun _ => hJ.frame (by rw [xU_ne (by decide)]; exact hf.1 14 (by decide)) (hf.2.2 15 (by decide) (by decide))⟩, fun _ _ _ b' j k hb2 => ?_⟩, by rw [e0, h08], by rw [xU_self], by rw [e8, h84], fun x hx => ⟨by rw [xU_ne (by omega)]; exact hf.1 x (by omega), hf.2.2 x (by omega) (by omega)⟩⟩
    rw [← hT b' j k hb2]
    exact (TY.cg (fun i hm h5 j => hJ.rg hW.1 hC.1.2.1 hm h5 j)).symm
set_option maxRecDepth 100000 in
set_option maxHeartbeats 1000000 in
theorem c_check (d L : Nat) (mi : xmi) (ml : xml) {n : Nat} {K T : Nat → Nat} {vL aL cL : Nat → Nat → Bool} (hC : CI n K T vL aL cL mi ml) : xF (d + 7) 71 [.ref 0] L mi ml (fun rr a b => ∃ v, rr = some (.int v) ∧ CI n K T vL aL cL a b ∧ FR mi ml a b ∧ CHK n K T vL aL cL v) := by
  refine xF.mk mX8_check rfl rfl ?_
  refine xB.go 1 (1, [(0, .ref 0)], [.ref 0], XM L mi ml) rfl ?_
  refine xB.ca 82 [.ref 0] [] (c_iwf _ L _ _ hC) rfl ?_
  intro r1 a b hq
  obtain ⟨v0, rfl, hCa, h08, hv0, hfr⟩ := hq
  have hSa := (hCa.2.2.2.2.2.1 h08).1
  show xB _ _ L _ (4, [(0, .ref 0)], [.int v0], XM L a b)
  refine xB.bp (v0 = 0) (19, [(0, .ref 0)], [], XM L a b) (7, [(0, .ref 0)], [], XM L a b) rfl (fun h1 => ?_) (fun h1 => ?_)
  · refine xB.go 1 (20, [(0, .ref 0)], [.int (-1)], XM L a b) rfl ?_
    refine xB.rt (some (.int (-1))) a b rfl ?_
    exact ⟨_, rfl, hCa, hfr, Or.inl ⟨(hSa.wf0 (by rw [← hv0, h1]; decide)).1, rfl⟩⟩
  · have h84 : a 8 4 = 1 := by rcases hSa with z | z; exact z.1; exact absurd (hv0.trans z.1) h1
    have hWa := hSa.wf1 h84
    refine xB.go 1 (8, [(0, .ref 0)], [.ref 0], XM L a b) rfl ?_
    refine xB.ca 83 [.ref 0] [] (c_typesNow _ L _ _ hCa h08 h84) rfl ?_
    intro r2 a2 b2 hq2
    obtain ⟨rfl, hC2, h082, h092, h842, hfr2⟩ := hq2
    have hS2 := (hC2.2.2.2.2.2.1 h082).1
    have hW2 := hS2.wf1 h842
    have hT2 := hC2.2.2.2.2.2.2 h082 h092 h842
    show xB _ _ L _ (11, [(0, .ref 0)], [.ref 16], XM L a2 b2)
    refine xB.ca 60 [.ref 16] [] (c_firstUnsafe _ L _ _ hC2.1 hC2.2.1 hC2.2.2.1 hW2.1 hW2.2.1 hW2.2.2) rfl ?_
    intro r3 a3 b3 hq3
    obtain ⟨ha3, hb3, w, rfl, hFU⟩ := hq3
    rw [ha3, hb3]
    show xB _ _ L _ (14, [(0, .ref 0)], [.int w], XM L a2 b2)
    refine xB.go 3 (20, [(0, .ref 0)], [.int (w + 1)], XM L a2 b2) rfl ?_
    refine xB.rt (some (.int (w + 1))) a2 b2 rfl ?_
    exact ⟨_, rfl, hC2, hfr.trans hfr2, Or.inr ⟨hW2.1, w, hFU.cg (usB_iff hT2 hW2.1 hC2.1.2.1), rfl⟩⟩
theorem met_x {n : Nat} {K T : Nat → Nat} {b : xml} {x : Int32} (hm : ∀ i, i < 64 → (hb (b 8 2) i = true ↔ ∃ h, Rh n K T i h)) (h : 0 ≤ x ∧ x < 64 ∧ hb (b 8 2) x.toNatClampNeg = true) : ∃ i, i < 64 ∧ x = nI i ∧ met n K T i := by
  obtain ⟨i, hi, e⟩ := xholds_j (i_nlt.mpr h.1) (i_nle.mpr h.2.1)
  refine ⟨i, hi, e, (hm i hi).mp ?_⟩
  have := h.2.2
  rwa [e, nI_clamp (by omega)] at this
theorem nmet_x {n : Nat} {K T : Nat → Nat} {b : xml} {x : Int32} (hn : n ≤ 64) (hm : ∀ i, i < 64 → (hb (b 8 2) i = true ↔ ∃ h, Rh n K T i h)) (h : ¬ (0 ≤ x ∧ x < 64 ∧ hb (b 8 2) x.toNatClampNeg = true)) : ¬ ∃ i, WF n K T ∧ x = nI i ∧ met n K T i := by
  rintro ⟨i, hw, e, hi⟩
  have hi64 : i < 64 := Nat.lt_of_lt_of_le (hw.lt hi) hn
  refine h ⟨by rw [e]; exact nI_pos' (by omega), by rw [e, show (64 : Int32) = nI 64 from rfl, nI_ltI (by omega) (by decide)]; exact hi64, ?_⟩
  rw [e, nI_clamp (by omega)]; exact (hm i hi64).mpr hi
set_option maxRecDepth 100000 in
set_option maxHeartbeats 1000000 in
theorem c_surrounding (d L : Nat) (mi : xmi) (ml : xml) {n : Nat} {K T : Nat → Nat} {vL aL cL : Nat → Nat → Bool} (hC : CI n K T vL aL cL mi ml) (x : Int32) : xF (d + 7) 72 [.ref 0, .int x] L mi ml (fun rr a b => ∃ v, rr = some (.int v) ∧ CI n K T vL aL cL a b ∧ FR mi ml a b ∧ SUR n K T vL aL x v) := by
  refine xF.mk mX8_surrounding rfl rfl ?_
  refine xB.go 1 (1, [(0, .ref 0), (1, .int x)], [.ref 0], XM L mi ml) rfl ?_
  refine xB.ca 82 [.ref 0] [] (c_iwf _ L _ _ hC) rfl ?_
  intro r1 a b hq
  obtain ⟨v0, rfl, hCa, h08, hv0, hfr⟩ := hq
  have hSa := (hCa.2.2.2.2.2.1 h08).1
  show xB _ _ L _ (4, [(0, .ref 0), (1, .int x)], [.int v0], XM L a b)
  refine xB.bp (v0 = 0) (29, [(0, .ref 0), (1, .int x)], [], XM L a b) (7, [(0, .ref 0), (1, .int x)], [], XM L a b) rfl (fun h1 => ?_) (fun h1 => ?_)
  · refine xB.go 1 (30, [(0, .ref 0), (1, .int x)], [.int (-1)], XM L a b) rfl ?_
    refine xB.rt (some (.int (-1))) a b rfl ?_
    exact ⟨_, rfl, hCa, hfr, Or.inr ⟨fun ⟨i, z, _⟩ => (hSa.wf0 (by rw [← hv0, h1]; decide)).1 z, rfl⟩⟩
  · have h84 : a 8 4 = 1 := by rcases hSa with z | z; exact z.1; exact absurd (hv0.trans z.1) h1
    have hWa := hSa.wf1 h84
    refine xB.go 3 (12, [(0, .ref 0), (1, .int x)], [.int x, .ref 8], XM L a b) rfl ?_
    refine xB.c1 51 [.ref 8, .int x] [] (c_isMet _ L a b x ) rfl ?_
    refine xB.bz (0 ≤ x ∧ x < 64 ∧ hb (b 8 2) x.toNatClampNeg = true) (29, [(0, .ref 0), (1, .int x)], [], XM L a b) (18, [(0, .ref 0), (1, .int x)], [], XM L a b) rfl (fun h2 => ?_) (fun h2 => ?_)
    · refine xB.go 1 (30, [(0, .ref 0), (1, .int x)], [.int (-1)], XM L a b) rfl ?_
      refine xB.rt (some (.int (-1))) a b rfl ?_
      exact ⟨_, rfl, hCa, hfr, Or.inr ⟨nmet_x hCa.1.2.1 hWa.2.1 h2, rfl⟩⟩
    · obtain ⟨i, hi64, hx, hmi⟩ := met_x hWa.2.1 h2
      have hin := hWa.1.lt hmi
      refine xB.cg (18, [(0, .ref 0), (1, .int (nI i))], [], XM L a b) (by rw [hx]) ?_
      refine xB.go 1 (19, [(0, .ref 0), (1, .int (nI i))], [.ref 0], XM L a b) rfl ?_
      refine xB.ca 83 [.ref 0] [] (c_typesNow _ L _ _ hCa h08 h84) rfl ?_
      intro r2 a2 b2 hq2
      obtain ⟨rfl, hC2, h082, h092, h842, hfr2⟩ := hq2
      have hS2 := (hC2.2.2.2.2.2.1 h082).1
      have hW2 := hS2.wf1 h842
      have hT2 := hC2.2.2.2.2.2.2 h082 h092 h842
      show xB _ _ L _ (22, [(0, .ref 0), (1, .int (nI i))], [.ref 16], XM L a2 b2)
      refine xB.go 1 (23, [(0, .ref 0), (1, .int (nI i))], [.int (nI i), .ref 16], XM L a2 b2) rfl ?_
      refine xB.c1 57 [.ref 16, .int (nI i)] [] (c_surroundingAt _ L _ _ hi64) rfl ?_
      refine xB.go 1 (30, [(0, .ref 0), (1, .int (nI i))], [.int (lv2 (hb (b2 16 5) i) (hb (b2 16 6) i))], XM L a2 b2) rfl ?_
      refine xB.rt (some (.int (lv2 (hb (b2 16 5) i) (hb (b2 16 6) i)))) a2 b2 rfl ?_
      refine ⟨_, rfl, hC2, hfr.trans hfr2, Or.inl ⟨i, hWa.1, hx, hmi, _, _, ?_, ?_, rfl⟩⟩
      · rw [hT2.tS (by decide) hi64]; exact ⟨fun z => Or.inr ⟨rfl, z⟩, fun z => z.elim (fun w => by omega) (fun w => w.2)⟩
      · rw [hT2.tS (by decide) hi64]; exact ⟨fun z => Or.inr ⟨rfl, z⟩, fun z => z.elim (fun w => by omega) (fun w => w.2)⟩
set_option maxRecDepth 100000 in
set_option maxHeartbeats 1000000 in
theorem c_junction (d L : Nat) (mi : xmi) (ml : xml) {n : Nat} {K T : Nat → Nat} {vL aL cL : Nat → Nat → Bool} (hC : CI n K T vL aL cL mi ml) (x : Int32) : xF (d + 7) 74 [.ref 0, .int x] L mi ml (fun rr a b => ∃ v, rr = some (.int v) ∧ CI n K T vL aL cL a b ∧ FR mi ml a b ∧ JUN n K T x v) := by
  refine xF.mk mX8_junction rfl rfl ?_
  refine xB.go 1 (1, [(0, .ref 0), (1, .int x)], [.ref 0], XM L mi ml) rfl ?_
  refine xB.ca 82 [.ref 0] [] (c_iwf _ L _ _ hC) rfl ?_
  intro r1 a b hq
  obtain ⟨v0, rfl, hCa, h08, hv0, hfr⟩ := hq
  have hSa := (hCa.2.2.2.2.2.1 h08).1
  show xB _ _ L _ (4, [(0, .ref 0), (1, .int x)], [.int v0], XM L a b)
  refine xB.bp (v0 = 0) (29, [(0, .ref 0), (1, .int x)], [], XM L a b) (7, [(0, .ref 0), (1, .int x)], [], XM L a b) rfl (fun h1 => ?_) (fun h1 => ?_)
  · refine xB.go 1 (30, [(0, .ref 0), (1, .int x)], [.int (-1)], XM L a b) rfl ?_
    refine xB.rt (some (.int (-1))) a b rfl ?_
    exact ⟨_, rfl, hCa, hfr, Or.inr ⟨fun ⟨i, z, _⟩ => (hSa.wf0 (by rw [← hv0, h1]; decide)).1 z, rfl⟩⟩
  · have h84 : a 8 4 = 1 := by rcases hSa with z | z; exact z.1; exact absurd (hv0.trans z.1) h1
    have hWa := hSa.wf1 h84
    refine xB.go 3 (12, [(0, .ref 0), (1, .int x)], [.int x, .ref 8], XM L a b) rfl ?_
    refine xB.c1 51 [.ref 8, .int x] [] (c_isMet _ L a b x ) rfl ?_
    refine xB.bz (0 ≤ x ∧ x < 64 ∧ hb (b 8 2) x.toNatClampNeg = true) (29, [(0, .ref 0), (1, .int x)], [], XM L a b) (18, [(0, .ref 0), (1, .int x)], [], XM L a b) rfl (fun h2 => ?_) (fun h2 => ?_)
    · refine xB.go 1 (30, [(0, .ref 0), (1, .int x)], [.int (-1)], XM L a b) rfl ?_
      refine xB.rt (some (.int (-1))) a b rfl ?_
      exact ⟨_, rfl, hCa, hfr, Or.inr ⟨nmet_x hCa.1.2.1 hWa.2.1 h2, rfl⟩⟩
    · obtain ⟨i, hi64, hx, hmi⟩ := met_x hWa.2.1 h2
      have hin := hWa.1.lt hmi
      refine xB.cg (18, [(0, .ref 0), (1, .int (nI i))], [], XM L a b) (by rw [hx]) ?_
      refine xB.go 3 (23, [(0, .ref 0), (1, .int (nI i))], [.int (nI i), .ref 10], XM L a b) rfl ?_
      refine xB.c1 1 [.ref 10, .int (nI i)] [] (c_jat _ L _ _ hCa.1 hin) rfl ?_
      refine xB.go 1 (30, [(0, .ref 0), (1, .int (nI i))], [.int (a 14 i)], XM L a b) rfl ?_
      refine xB.rt (some (.int (a 14 i))) a b rfl ?_
      exact ⟨_, rfl, hCa, hfr, Or.inl ⟨i, hWa.1, hx, hmi, (((hCa.2.2.2.2.2.1 h08).2 h84) i hin).1⟩⟩
theorem pil_t {n : Nat} {K T : Nat → Nat} {a : xmi} {b : xml} {x y : Int32} (hm : ∀ i, i < 64 → (hb (b 8 2) i = true ↔ ∃ h, Rh n K T i h)) (hht : ∀ i h, Rh n K T i h → a 9 i = nI h ∧ h ≤ 16) (h : 0 ≤ y ∧ y < (if 0 ≤ x ∧ x < 64 ∧ hb (b 8 2) x.toNatClampNeg = true then a 9 x.toNatClampNeg else 0)) : ∃ i h k, i < 64 ∧ x = nI i ∧ Rh n K T i h ∧ y = nI k ∧ k < h := by
  by_cases g : 0 ≤ x ∧ x < 64 ∧ hb (b 8 2) x.toNatClampNeg = true
  · rw [if_pos g] at h
    obtain ⟨i, hi, e, x1, hr⟩ := met_x hm g
    rw [e, nI_clamp (by omega), (hht i x1 hr).1] at h
    have h16 := (hht i x1 hr).2
    rcases pk_ix y (show x1 < 2 ^ 31 by omega) with z | z | ⟨k, h1, h2⟩
    · exact absurd z (i_nlt.mpr h.1)
    · exact absurd h.2 (i_nlt.mpr z)
    · exact ⟨i, x1, k, hi, e, hr, h2, h1⟩
  · rw [if_neg g] at h
    exact absurd h.2 (i_nlt.mpr h.1)
theorem pil_f {n : Nat} {K T : Nat → Nat} {a : xmi} {b : xml} {x y : Int32} (hn : n ≤ 64) (hm : ∀ i, i < 64 → (hb (b 8 2) i = true ↔ ∃ h, Rh n K T i h)) (hht : ∀ i h, Rh n K T i h → a 9 i = nI h ∧ h ≤ 16) (h : ¬ (0 ≤ y ∧ y < (if 0 ≤ x ∧ x < 64 ∧ hb (b 8 2) x.toNatClampNeg = true then a 9 x.toNatClampNeg else 0))) : ¬ ∃ i h k, WF n K T ∧ x = nI i ∧ Rh n K T i h ∧ y = nI k ∧ k < h := by
  rintro ⟨i, h1, k, hw, e, hr, ey, hk⟩
  have hi64 : i < 64 := Nat.lt_of_lt_of_le (hw.1 i h1 hr).1 hn
  have h16 := hr.le16
  refine h ⟨by rw [ey]; exact nI_pos' (by omega), ?_⟩
  rw [if_pos ⟨by rw [e]; exact nI_pos' (by omega), by rw [e, show (64 : Int32) = nI 64 from rfl, nI_ltI (by omega) (by decide)]; exact hi64, by rw [e, nI_clamp (by omega)]; exact (hm i hi64).mpr ⟨h1, hr⟩⟩, e, nI_clamp (by omega), (hht i h1 hr).1, ey, nI_ltI (by omega) (by omega)]
  exact hk
set_option maxRecDepth 100000 in
set_option maxHeartbeats 1000000 in
theorem c_pile (d L : Nat) (mi : xmi) (ml : xml) {n : Nat} {K T : Nat → Nat} {vL aL cL : Nat → Nat → Bool} (hC : CI n K T vL aL cL mi ml) (x y : Int32) : xF (d + 7) 73 [.ref 0, .int x, .int y] L mi ml (fun rr a b => ∃ v, rr = some (.int v) ∧ CI n K T vL aL cL a b ∧ FR mi ml a b ∧ PIL n K T vL aL x y v) := by
  refine xF.mk mX8_pile rfl rfl ?_
  refine xB.go 1 (1, [(0, .ref 0), (1, .int x), (2, .int y)], [.ref 0], XM L mi ml) rfl ?_
  refine xB.ca 82 [.ref 0] [] (c_iwf _ L _ _ hC) rfl ?_
  intro r1 a b hq
  obtain ⟨v0, rfl, hCa, h08, hv0, hfr⟩ := hq
  have hSa := (hCa.2.2.2.2.2.1 h08).1
  show xB _ _ L _ (4, [(0, .ref 0), (1, .int x), (2, .int y)], [.int v0], XM L a b)
  refine xB.bp (v0 = 0) (22, [(0, .ref 0), (1, .int x), (2, .int y)], [], XM L a b) (7, [(0, .ref 0), (1, .int x), (2, .int y)], [], XM L a b) rfl (fun h1 => ?_) (fun h1 => ?_)
  · refine xB.go 1 (23, [(0, .ref 0), (1, .int x), (2, .int y)], [.int (-1)], XM L a b) rfl ?_
    refine xB.rt (some (.int (-1))) a b rfl ?_
    exact ⟨_, rfl, hCa, hfr, Or.inr ⟨fun ⟨i, _, _, z, _⟩ => (hSa.wf0 (by rw [← hv0, h1]; decide)).1 z, rfl⟩⟩
  · have h84 : a 8 4 = 1 := by rcases hSa with z | z; exact z.1; exact absurd (hv0.trans z.1) h1
    have hWa := hSa.wf1 h84
    refine xB.go 4 (13, [(0, .ref 0), (1, .int x), (2, .int y)], [.int x, .ref 8, .int y], XM L a b) rfl ?_
    refine xB.c1 52 [.ref 8, .int x] [.int y] (c_heightAt _ L a b x ) rfl ?_
    refine xB.c1 86 [.int y, .int (if 0 ≤ x ∧ x < 64 ∧ hb (b 8 2) x.toNatClampNeg = true then a 9 x.toNatClampNeg else 0)] [] (c_isBetween _ L a b y (if 0 ≤ x ∧ x < 64 ∧ hb (b 8 2) x.toNatClampNeg = true then a 9 x.toNatClampNeg else 0) ) rfl ?_
    refine xB.bn (0 ≤ y ∧ y < (if 0 ≤ x ∧ x < 64 ∧ hb (b 8 2) x.toNatClampNeg = true then a 9 x.toNatClampNeg else 0)) (24, [(0, .ref 0), (1, .int x), (2, .int y)], [], XM L a b) (22, [(0, .ref 0), (1, .int x), (2, .int y)], [], XM L a b) rfl (fun h2 => ?_) (fun h2 => ?_)
    · obtain ⟨i, h, k, hi64, hx, hrh, hy, hkh⟩ := pil_t hWa.2.1 hWa.2.2 h2
      have hin := (hWa.1.1 i h hrh).1
      have hk16 : k < 16 := by have := hrh.le16; omega
      refine xB.cg (24, [(0, .ref 0), (1, .int (nI i)), (2, .int y)], [], XM L a b) (by rw [hx]) ?_
      refine xB.cg (24, [(0, .ref 0), (1, .int (nI i)), (2, .int (nI k))], [], XM L a b) (by rw [hy]) ?_
      refine xB.go 1 (25, [(0, .ref 0), (1, .int (nI i)), (2, .int (nI k))], [.ref 0], XM L a b) rfl ?_
      refine xB.ca 83 [.ref 0] [] (c_typesNow _ L _ _ hCa h08 h84) rfl ?_
      intro r2 a2 b2 hq2
      obtain ⟨rfl, hC2, h082, h092, h842, hfr2⟩ := hq2
      have hS2 := (hC2.2.2.2.2.2.1 h082).1
      have hW2 := hS2.wf1 h842
      have hT2 := hC2.2.2.2.2.2.2 h082 h092 h842
      show xB _ _ L _ (28, [(0, .ref 0), (1, .int (nI i)), (2, .int (nI k))], [.ref 16], XM L a2 b2)
      refine xB.go 2 (30, [(0, .ref 0), (1, .int (nI i)), (2, .int (nI k))], [.int (nI k), .int (nI i), .ref 16], XM L a2 b2) rfl ?_
      refine xB.c1 58 [.ref 16, .int (nI i), .int (nI k)] [] (c_levelOnPile _ L _ _ hC2.1 hin hk16) rfl ?_
      refine xB.rt (some (.int (lv2 (hb (b2 17 i) (2 * k)) (hb (b2 17 i) (2 * k + 1))))) a2 b2 rfl ?_
      refine ⟨_, rfl, hC2, hfr.trans hfr2, Or.inl ⟨i, h, k, hWa.1, hx, hrh, hy, hkh, _, _, ?_, ?_, rfl⟩⟩
      · rw [hT2.tS (by decide) hi64]; exact ⟨fun z => Or.inl ⟨hk16, z⟩, fun z => z.elim (fun w => w.2) (fun w => by omega)⟩
      · rw [hT2.tS (by decide) hi64]; exact ⟨fun z => Or.inl ⟨hk16, z⟩, fun z => z.elim (fun w => w.2) (fun w => by omega)⟩
    · refine xB.go 1 (23, [(0, .ref 0), (1, .int x), (2, .int y)], [.int (-1)], XM L a b) rfl ?_
      refine xB.rt (some (.int (-1))) a b rfl ?_
      exact ⟨_, rfl, hCa, hfr, Or.inr ⟨pil_f hCa.1.2.1 hWa.2.1 hWa.2.2 h2, rfl⟩⟩
end
section
/-! the class's machine: leaves -/
theorem i_msb (x : Int32) : x < 0 ↔ x.toBitVec.msb = true := by
  rw [Int32.lt_iff_toInt_lt, BitVec.msb_eq_toInt, decide_eq_true_iff, Int32.toInt_zero]; exact Iff.rfl
theorem fm_sign (x : Int32) : x ^^^ 8 < 0 ↔ x < 0 := by
  rw [i_msb, i_msb]
  show (x.toBitVec ^^^ (8 : Int32).toBitVec).msb = true ↔ _
  rw [BitVec.msb_xor, show (8 : Int32).toBitVec.msb = false from by decide +kernel, Bool.xor_false]
theorem and7_nat (x : Int32) : (x &&& 7).toBitVec.toNat = x.toBitVec.toNat % 8 := by
  show (x.toBitVec &&& (7 : Int32).toBitVec).toNat = _
  rw [BitVec.toNat_and, show (7 : Int32).toBitVec.toNat = 2 ^ 3 - 1 from by decide +kernel, Nat.and_two_pow_sub_one_eq_mod]
theorem toInt_cases (x : Int32) : (x.toInt = (x.toBitVec.toNat : Int) ∧ x.toBitVec.toNat < 2147483648) ∨ (x.toInt = (x.toBitVec.toNat : Int) - 4294967296 ∧ 2147483648 ≤ x.toBitVec.toNat) := by
  show (x.toBitVec.toInt = _ ∧ _) ∨ (x.toBitVec.toInt = _ ∧ _)
  rw [BitVec.toInt_eq_toNat_cond]
  have := x.toBitVec.isLt
  split <;> omega
theorem and7_int (x : Int32) : (x &&& 7).toInt = x.toInt % 8 := by
  have h := and7_nat x
  rcases toInt_cases (x &&& 7) with ⟨a, -⟩ | ⟨-, b⟩
  · rw [a, h]
    rcases toInt_cases x with ⟨c, -⟩ | ⟨c, -⟩ <;> rw [c] <;> omega
  · rw [h] at b; omega
def ix7 (x : Int32) : Nat := (x &&& 7).toNatClampNeg
theorem and7_ix (x : Int32) : x &&& 7 = nI (ix7 x) ∧ ix7 x < 8 := by
  have h := and7_int x
  have h2 : (x &&& 7).toInt = (ix7 x : Int) := by
    unfold ix7 Int32.toNatClampNeg
    rw [Int.toNat_of_nonneg (by rw [h]; omega)]
  have h3 : ix7 x < 8 := by omega
  exact ⟨Int32.toInt_inj.mp (by rw [h2, nI_toInt (by omega)]), h3⟩
theorem tdm (v : Int) : (0 ≤ v ∧ v.tdiv 8 = v / 8 ∧ v.tmod 8 = v % 8) ∨ (v < 0 ∧ v.tdiv 8 = -((-v) / 8) ∧ v.tmod 8 = -((-v) % 8)) := by
  rcases Int.lt_or_le v 0 with h | h
  · right
    have e : v = -(-v) := by omega
    refine ⟨h, ?_, ?_⟩
    · conv => lhs; rw [e]
      rw [Int.neg_tdiv, Int.tdiv_eq_ediv_of_nonneg (by omega)]
    · conv => lhs; rw [e]
      rw [Int.neg_tmod, Int.tmod_eq_emod_of_nonneg (by omega)]
  · exact Or.inl ⟨h, Int.tdiv_eq_ediv_of_nonneg h, Int.tmod_eq_emod_of_nonneg h⟩
theorem rem8_int (x : Int32) : (x - x / 8 * 8).toInt = x.toInt.tmod 8 := by
  have e8 : (8 : Int32).toInt = 8 := by decide +kernel
  have hk := tdm x.toInt
  rcases toInt_cases x with h | h <;> have hx := x.toBitVec.isLt
  all_goals
    have hd : (x / 8).toInt = x.toInt.tdiv 8 := by
      rw [Int32.toInt_div, e8]
      refine Int.bmod_eq_of_le ?_ ?_ <;> omega
    have hm : (x / 8 * 8).toInt = x.toInt.tdiv 8 * 8 := by
      rw [Int32.toInt_mul, hd, e8]
      refine Int.bmod_eq_of_le ?_ ?_ <;> omega
    rw [Int32.toInt_sub, hm, Int.tmod_def, Int.mul_comm 8]
    refine Int.bmod_eq_of_le ?_ ?_ <;> omega
theorem fm_1 {x : Int32} (h : 0 ≤ x ^^^ 8) : x - x / 8 * 8 = x &&& 7 := by
  have h := i_nlt.mpr h
  rw [fm_sign, Int32.lt_iff_toInt_lt, Int32.toInt_zero] at h
  refine Int32.toInt_inj.mp ?_
  rw [rem8_int, and7_int, Int.tmod_eq_emod_of_nonneg (by omega)]
theorem fm_2 {x : Int32} (h : x - x / 8 * 8 = 0) : x - x / 8 * 8 = x &&& 7 := by
  have h2 := congrArg Int32.toInt h
  rw [rem8_int, Int32.toInt_zero] at h2
  refine Int32.toInt_inj.mp ?_
  have hk := tdm x.toInt
  rw [rem8_int, and7_int]; omega
theorem fm_3 {x : Int32} (h : ¬ 0 ≤ x ^^^ 8) (h2 : ¬ x - x / 8 * 8 = 0) : x - x / 8 * 8 + 8 = x &&& 7 := by
  rw [i_nle, fm_sign, Int32.lt_iff_toInt_lt, Int32.toInt_zero] at h
  have h3 : (x - x / 8 * 8).toInt ≠ 0 := fun z => h2 (Int32.toInt_inj.mp (by rw [z, Int32.toInt_zero]))
  rw [rem8_int] at h3
  have hk := tdm x.toInt
  refine Int32.toInt_inj.mp ?_
  rw [Int32.toInt_add, rem8_int, and7_int, show (8 : Int32).toInt = 8 from by decide +kernel]
  rw [Int.bmod_eq_of_le (by omega) (by omega)]; omega
set_option maxRecDepth 100000 in
theorem c_floorMod8 (d L : Nat) (mi : xmi) (ml : xml) (x : Int32)  : xFv (d + 1) 135 [.int x, .int 8] L mi ml (.int (x &&& 7)) mi ml := by
  refine xF.mk mJ9_floorMod_7cf53 rfl rfl ?_
  refine xB.go 7 (7, [(0, .int x), (1, .int 8), (2, .int (x - x / 8 * 8))], [.int (x ^^^ 8)], XM L mi ml) rfl ?_
  refine xB.bp (0 ≤ (x ^^^ 8)) (18, [(0, .int x), (1, .int 8), (2, .int (x - x / 8 * 8))], [], XM L mi ml) (10, [(0, .int x), (1, .int 8), (2, .int (x - x / 8 * 8))], [], XM L mi ml) rfl (fun h1 => ?_) (fun h1 => ?_)
  · refine xB.go 1 (19, [(0, .int x), (1, .int 8), (2, .int (x - x / 8 * 8))], [.int (x - x / 8 * 8)], XM L mi ml) rfl ?_
    refine xB.rt (some (.int (x - x / 8 * 8))) mi ml rfl ?_
    exact ⟨by rw [fm_1 h1], rfl, rfl⟩
  · refine xB.go 1 (11, [(0, .int x), (1, .int 8), (2, .int (x - x / 8 * 8))], [.int (x - x / 8 * 8)], XM L mi ml) rfl ?_
    refine xB.bp ((x - x / 8 * 8) = 0) (18, [(0, .int x), (1, .int 8), (2, .int (x - x / 8 * 8))], [], XM L mi ml) (14, [(0, .int x), (1, .int 8), (2, .int (x - x / 8 * 8))], [], XM L mi ml) rfl (fun h2 => ?_) (fun h2 => ?_)
    · refine xB.go 1 (19, [(0, .int x), (1, .int 8), (2, .int (x - x / 8 * 8))], [.int (x - x / 8 * 8)], XM L mi ml) rfl ?_
      refine xB.rt (some (.int (x - x / 8 * 8))) mi ml rfl ?_
      exact ⟨by rw [fm_2 h2], rfl, rfl⟩
    · refine xB.go 3 (17, [(0, .int x), (1, .int 8), (2, .int (x - x / 8 * 8))], [.int ((x - x / 8 * 8) + 8)], XM L mi ml) rfl ?_
      refine xB.rt (some (.int ((x - x / 8 * 8) + 8))) mi ml rfl ?_
      exact ⟨by rw [fm_3 h1 h2], rfl, rfl⟩
set_option maxRecDepth 100000 in
theorem c_cellOf (d L : Nat) (mi : xmi) (ml : xml) (x y : Int32)  : xFv (d + 2) 24 [.int x, .int y] L mi ml (.int (8 + x * 8 + (y &&& 7))) mi ml := by
  refine xF.mk mX3_cellOf rfl rfl ?_
  refine xB.go 7 (10, [(0, .int x), (1, .int y)], [.int 8, .int y, .int (8 + (x * 8))], XM L mi ml) rfl ?_
  refine xB.c1 135 [.int y, .int 8] [.int (8 + (x * 8))] (c_floorMod8 _ L mi ml y ) rfl ?_
  refine xB.go 1 (14, [(0, .int x), (1, .int y)], [.int ((8 + (x * 8)) + (y &&& 7))], XM L mi ml) rfl ?_
  refine xB.rt (some (.int ((8 + (x * 8)) + (y &&& 7)))) mi ml rfl ?_
  exact ⟨rfl, rfl, rfl⟩
theorem cell_ix {t : Nat} {y : Int32} (ht : t < 2) : 8 + nI t * 8 + (y &&& 7) = nI (8 + 8 * t + ix7 y) := by
  rw [(and7_ix y).1]
  have := (and7_ix y).2
  generalize ix7 y = k at this ⊢
  have key : ∀ t, t < 2 → ∀ k, k < 8 → 8 + nI t * 8 + nI k = nI (8 + 8 * t + k) := by decide +kernel
  exact key t ht k this
def dnA (z a b : Int32) : Int32 := if z = 0 then a + b else if z = 1 then a - b else if z = 2 then a * b else if z = 3 then (if a < b then 1 else 0) else if z = 4 then (if a = b then 1 else 0) else if z = 5 then a &&& b else a ||| b
set_option maxRecDepth 100000 in
theorem c_resultOf (d L : Nat) (mi : xmi) (ml : xml) (z x y : Int32)  : xFv (d + 1) 20 [.int z, .int x, .int y] L mi ml (.int (dnA z x y)) mi ml := by
  refine xF.mk mX2_resultOf rfl rfl ?_
  refine xB.go 1 (1, [(0, .int z), (1, .int x), (2, .int y)], [.int z], XM L mi ml) rfl ?_
  by_cases h1 : z = 0
  · refine xB.tp h1 ?_
    refine xB.go 1 (40, [(0, .int z), (1, .int x), (2, .int y)], [], XM L mi ml) rfl ?_
    refine xB.go 3 (43, [(0, .int z), (1, .int x), (2, .int y)], [.int (x + y)], XM L mi ml) rfl ?_
    refine xB.rt (some (.int (x + y))) mi ml rfl ?_
    refine ⟨?_, rfl, rfl⟩
    subst h1
    unfold dnA
    rw [if_pos rfl]
  by_cases h2 : z = 1
  · refine xB.tp h2 ?_
    refine xB.go 1 (44, [(0, .int z), (1, .int x), (2, .int y)], [], XM L mi ml) rfl ?_
    refine xB.go 3 (47, [(0, .int z), (1, .int x), (2, .int y)], [.int (x - y)], XM L mi ml) rfl ?_
    refine xB.rt (some (.int (x - y))) mi ml rfl ?_
    refine ⟨?_, rfl, rfl⟩
    subst h2
    unfold dnA
    rw [if_neg (by decide), if_pos rfl]
  by_cases h3 : z = 2
  · refine xB.tp h3 ?_
    refine xB.go 1 (48, [(0, .int z), (1, .int x), (2, .int y)], [], XM L mi ml) rfl ?_
    refine xB.go 3 (51, [(0, .int z), (1, .int x), (2, .int y)], [.int (x * y)], XM L mi ml) rfl ?_
    refine xB.rt (some (.int (x * y))) mi ml rfl ?_
    refine ⟨?_, rfl, rfl⟩
    subst h3
    unfold dnA
    rw [if_neg (by decide), if_neg (by decide), if_pos rfl]
  by_cases h4 : z = 3
  · refine xB.tp h4 ?_
    refine xB.go 1 (52, [(0, .int z), (1, .int x), (2, .int y)], [], XM L mi ml) rfl ?_
    refine xB.go 2 (54, [(0, .int z), (1, .int x), (2, .int y)], [.int y, .int x], XM L mi ml) rfl ?_
    refine xB.bp (y ≤ x) (61, [(0, .int z), (1, .int x), (2, .int y)], [], XM L mi ml) (57, [(0, .int z), (1, .int x), (2, .int y)], [], XM L mi ml) rfl (fun h5 => ?_) (fun h5 => ?_)
    · refine xB.go 1 (62, [(0, .int z), (1, .int x), (2, .int y)], [.int 0], XM L mi ml) rfl ?_
      refine xB.rt (some (.int 0)) mi ml rfl ?_
      refine ⟨?_, rfl, rfl⟩
      subst h4
      unfold dnA
      rw [if_neg (by decide), if_neg (by decide), if_neg (by decide), if_pos rfl, if_neg (i_nlt.mpr h5)]
    · refine xB.go 2 (62, [(0, .int z), (1, .int x), (2, .int y)], [.int 1], XM L mi ml) rfl ?_
      refine xB.rt (some (.int 1)) mi ml rfl ?_
      refine ⟨?_, rfl, rfl⟩
      subst h4
      unfold dnA
      rw [if_neg (by decide), if_neg (by decide), if_neg (by decide), if_pos rfl, if_pos (i_nle.mp h5)]
  by_cases h6 : z = 4
  · refine xB.tp h6 ?_
    refine xB.go 1 (63, [(0, .int z), (1, .int x), (2, .int y)], [], XM L mi ml) rfl ?_
    refine xB.go 2 (65, [(0, .int z), (1, .int x), (2, .int y)], [.int y, .int x], XM L mi ml) rfl ?_
    refine xB.bp (¬ x = y) (72, [(0, .int z), (1, .int x), (2, .int y)], [], XM L mi ml) (68, [(0, .int z), (1, .int x), (2, .int y)], [], XM L mi ml) rfl (fun h7 => ?_) (fun h7 => ?_)
    · refine xB.go 1 (73, [(0, .int z), (1, .int x), (2, .int y)], [.int 0], XM L mi ml) rfl ?_
      refine xB.rt (some (.int 0)) mi ml rfl ?_
      refine ⟨?_, rfl, rfl⟩
      subst h6
      unfold dnA
      rw [if_neg (by decide), if_neg (by decide), if_neg (by decide), if_neg (by decide), if_pos rfl, if_neg h7]
    · refine xB.go 2 (73, [(0, .int z), (1, .int x), (2, .int y)], [.int 1], XM L mi ml) rfl ?_
      refine xB.rt (some (.int 1)) mi ml rfl ?_
      refine ⟨?_, rfl, rfl⟩
      subst h6
      unfold dnA
      rw [if_neg (by decide), if_neg (by decide), if_neg (by decide), if_neg (by decide), if_pos rfl, if_pos (Classical.not_not.mp h7)]
  by_cases h8 : z = 5
  · refine xB.tp h8 ?_
    refine xB.go 1 (74, [(0, .int z), (1, .int x), (2, .int y)], [], XM L mi ml) rfl ?_
    refine xB.go 3 (77, [(0, .int z), (1, .int x), (2, .int y)], [.int (x &&& y)], XM L mi ml) rfl ?_
    refine xB.rt (some (.int (x &&& y))) mi ml rfl ?_
    refine ⟨?_, rfl, rfl⟩
    subst h8
    unfold dnA
    rw [if_neg (by decide), if_neg (by decide), if_neg (by decide), if_neg (by decide), if_neg (by decide), if_pos rfl]
  refine xB.st (78, [(0, .int z), (1, .int x), (2, .int y)], [], XM L mi ml) (xsw_d (mt := mX2_resultOf) rfl (xsw_ne 6 (by decide) (fun k hk => by rcases (show k = 0 ∨ k = 1 ∨ k = 2 ∨ k = 3 ∨ k = 4 ∨ k = 5 by omega) with rfl | rfl | rfl | rfl | rfl | rfl; exact h1; exact h2; exact h3; exact h4; exact h6; exact h8)) rfl) ?_
  refine xB.go 3 (81, [(0, .int z), (1, .int x), (2, .int y)], [.int (x ||| y)], XM L mi ml) rfl ?_
  refine xB.rt (some (.int (x ||| y))) mi ml rfl ?_
  refine ⟨?_, rfl, rfl⟩
  unfold dnA
  rw [if_neg h1, if_neg h2, if_neg h3, if_neg h4, if_neg h6, if_neg h8]
set_option maxRecDepth 100000 in
theorem c_put (d L : Nat) (mi : xmi) (ml : xml) {h : Nat} (v : Int32) (hh : mi 18 2 = nI h) (h16 : h < 16) : xFn (d + 1) 21 [.ref 18, .int v] L mi ml (xU (xU mi 19 h v) 18 2 (nI (h + 1))) ml := by
  refine xF.mk mX2_put rfl rfl ?_
  refine xB.go 3 (6, [(0, .ref 18), (1, .int v)], [.int 16, .int (mi 18 2)], XM L mi ml) rfl ?_
  refine xB.bp (16 ≤ (mi 18 2)) (29, [(0, .ref 18), (1, .int v)], [], XM L mi ml) (9, [(0, .ref 18), (1, .int v)], [], XM L mi ml) rfl (fun h1 => ?_) (fun h1 => ?_)
  · refine xB.rt none mi ml rfl ?_
    rw [hh] at h1; have hq : 16 ≤ h := (nI_leI (by decide) (by omega)).mp h1; omega
  · refine xB.go 5 (18, [(0, .ref 18), (1, .int v)], [.int v, .int (mi 18 2), .ref 19], XM L mi ml) rfl ?_
    refine xB.ck (xin (mi 18 2) 16) (19, [(0, .ref 18), (1, .int v)], [], XM L (xU mi 19 (mi 18 2).toNatClampNeg v) ml) rfl (xin_of h16 (by decide) hh) ?_
    refine xB.go 6 (29, [(0, .ref 18), (1, .int v)], [], XM L (xU (xU mi 19 (mi 18 2).toNatClampNeg v) 18 2 ((mi 18 2) + 1)) ml) rfl ?_
    refine xB.rt none (xU (xU mi 19 (mi 18 2).toNatClampNeg v) 18 2 ((mi 18 2) + 1)) ml rfl ?_
    exact ⟨rfl, by rw [hh, nI_1, nI_clamp (by omega)], rfl⟩
set_option maxRecDepth 100000 in
theorem c_take (d L : Nat) (mi : xmi) (ml : xml) {h : Nat} (hh : mi 18 2 = nI h) (h1x : 1 ≤ h) (h16 : h ≤ 16) : xFv (d + 1) 22 [.ref 18] L mi ml (.int (mi 19 (h - 1))) (xU mi 18 2 (nI (h - 1))) ml := by
  refine xF.mk mX2_take rfl rfl ?_
  refine xB.go 2 (4, [(0, .ref 18)], [.int (mi 18 2)], XM L mi ml) rfl ?_
  refine xB.bp (0 < (mi 18 2)) (9, [(0, .ref 18)], [], XM L mi ml) (7, [(0, .ref 18)], [], XM L mi ml) rfl (fun h1 => ?_) (fun h1 => ?_)
  · refine xB.go 10 (27, [(0, .ref 18)], [.int ((mi 18 2) - 1), .ref 19], XM L (xU mi 18 2 ((mi 18 2) - 1)) ml) rfl ?_
    refine xB.ck (xin ((mi 18 2) - 1) 16) (28, [(0, .ref 18)], [.int (mi 19 ((mi 18 2) - 1).toNatClampNeg)], XM L (xU mi 18 2 ((mi 18 2) - 1)) ml) rfl (xin_of (j := h - 1) (by omega) (by decide) (by rw [hh, show (1 : Int32) = nI 1 from rfl, nI_subeq h1x])) ?_
    refine xB.rt (some (.int (mi 19 ((mi 18 2) - 1).toNatClampNeg))) (xU mi 18 2 ((mi 18 2) - 1)) ml rfl ?_
    rw [hh, show (1 : Int32) = nI 1 from rfl, nI_subeq h1x]
    exact ⟨by rw [nI_clamp (by omega)], rfl, rfl⟩
  · refine xB.go 1 (8, [(0, .ref 18)], [.int 0], XM L mi ml) rfl ?_
    refine xB.rt (some (.int 0)) mi ml rfl ?_
    rw [hh] at h1; exact absurd ((nI_ltI (a := 0) (b := h) (by decide) (by omega)).mpr (by omega)) h1
end
section
/-! runs in the document's terms; the class's machine -/
/-- pile, memory, channels and ints that came out, how many -/
abbrev RS : Type := (Nat → Int32) × (Nat → Int32) × (Nat → Int32) × (Nat → Int32) × Nat
def stA (k : Nat) (z : Int32) (h : Nat) (s : RS) : RS :=
  if k = 0 then (va_up s.1 h z, s.2)
  else if k = 1 then (va_up s.1 h (s.2.1 z.toNatClampNeg), s.2)
  else if k = 2 then (s.1, va_up s.2.1 z.toNatClampNeg (s.1 (h - 1)), s.2.2)
  else if k = 3 then (va_up s.1 (h - 2) (dnA z (s.1 (h - 2)) (s.1 (h - 1))), s.2)
  else if k = 6 then (va_up s.1 (h - 1) (s.2.1 (8 + 8 * z.toNatClampNeg + ix7 (s.1 (h - 1)))), s.2)
  else if k = 7 then (s.1, va_up s.2.1 (8 + 8 * z.toNatClampNeg + ix7 (s.1 (h - 2))) (s.1 (h - 1)), s.2.2)
  else if k = 8 then (if s.2.2.2.2 < 64 then (s.1, s.2.1, va_up s.2.2.1 s.2.2.2.2 z, va_up s.2.2.2.1 s.2.2.2.2 (s.1 (h - 1)), s.2.2.2.2 + 1) else (s.1, s.2.1, s.2.2.1, s.2.2.2.1, s.2.2.2.2 + 1))
  else s
def nxA (k t i h : Nat) (s : RS) : Nat := if k = 4 then t else if k = 5 then (if s.1 (h - 1) = 0 then t else i + 1) else i + 1
def runA (K T : Nat → Nat) (N : Nat → Int32) : Nat → Nat → Nat → RS → Nat × RS × Bool
  | 0, _, _, s => (0, s, false)
  | f + 1, i, h, s => if K i = 9 then (1, s, true) else ((runA K T N f (nxA (K i) (T i) i h s) (h - tk (K i) + pt (K i)) (stA (K i) (N i) h s)).1 + 1, (runA K T N f (nxA (K i) (T i) i h s) (h - tk (K i) + pt (K i)) (stA (K i) (N i) h s)).2)
def DA (M O : Nat) (K T : Nat → Nat) (mi : xmi) (i h cn : Nat) (v : Int32) (a : xmi) : Prop :=
  v = nI (if K i = 9 then i + 1 else nxA (K i) (T i) i h (mi 19, mi M, mi (O + 1), mi (O + 2), cn)) ∧ (∀ x, x ≠ 18 → x ≠ 19 → x ≠ M → x ≠ O → x ≠ O + 1 → x ≠ O + 2 → a x = mi x) ∧
  a 19 = (stA (K i) (mi 3 i) h (mi 19, mi M, mi (O + 1), mi (O + 2), cn)).1 ∧ a M = (stA (K i) (mi 3 i) h (mi 19, mi M, mi (O + 1), mi (O + 2), cn)).2.1 ∧ a (O + 1) = (stA (K i) (mi 3 i) h (mi 19, mi M, mi (O + 1), mi (O + 2), cn)).2.2.1 ∧ a (O + 2) = (stA (K i) (mi 3 i) h (mi 19, mi M, mi (O + 1), mi (O + 2), cn)).2.2.2.1 ∧ a O 4 = nI (stA (K i) (mi 3 i) h (mi 19, mi M, mi (O + 1), mi (O + 2), cn)).2.2.2.2 ∧
  a O 2 = mi O 2 ∧ a O 3 = (if K i = 9 then 1 else 0) ∧ a 18 2 = nI (h - tk (K i) + pt (K i))
set_option maxRecDepth 100000 in
set_option maxHeartbeats 1000000 in
theorem c_dw2 (d L : Nat) (mi : xmi) (ml : xml) (z : Int32) {h : Nat} (hh : mi 18 2 = nI h) (h2 : 2 ≤ h) (h16 : h ≤ 16) : xF (d + 2) 19 [.ref 18, .int z] L mi ml (fun rr a b => rr = none ∧ b = ml ∧ (∀ x, x ≠ 18 → x ≠ 19 → a x = mi x) ∧ a 19 = va_up (mi 19) (h - 1 - 1) (dnA z (mi 19 (h - 1 - 1)) (mi 19 (h - 1))) ∧ a 18 2 = nI (h - 1)) := by
  refine xF.mk mX2_doWithTwo rfl rfl ?_
  refine xB.go 1 (1, [(0, .ref 18), (1, .int z)], [.ref 18], XM L mi ml) rfl ?_
  refine xB.c1 22 [.ref 18] [] (c_take _ L _ _ (h := h) hh (by omega) (by omega)) rfl ?_
  refine xB.go 2 (6, [(0, .ref 18), (1, .int z), (2, .int (mi 19 (h - 1)))], [.ref 18], XM L (xU mi 18 2 (nI (h - 1))) ml) rfl ?_
  refine xB.c1 22 [.ref 18] [] (c_take _ L _ _ (h := (h - 1)) xU_self (by omega) (by omega)) rfl ?_
  refine xB.go 5 (14, [(0, .ref 18), (1, .int z), (2, .int (mi 19 (h - 1))), (3, .int ((xU mi 18 2 (nI (h - 1))) 19 ((h - 1) - 1)))], [.int (mi 19 (h - 1)), .int ((xU mi 18 2 (nI (h - 1))) 19 ((h - 1) - 1)), .int z, .ref 18], XM L (xU (xU mi 18 2 (nI (h - 1))) 18 2 (nI ((h - 1) - 1))) ml) rfl ?_
  refine xB.c1 20 [.int z, .int ((xU mi 18 2 (nI (h - 1))) 19 ((h - 1) - 1)), .int (mi 19 (h - 1))] [.ref 18] (c_resultOf _ L (xU (xU mi 18 2 (nI (h - 1))) 18 2 (nI ((h - 1) - 1))) ml z ((xU mi 18 2 (nI (h - 1))) 19 ((h - 1) - 1)) (mi 19 (h - 1)) ) rfl ?_
  refine xB.c0 21 [.ref 18, .int (dnA z ((xU mi 18 2 (nI (h - 1))) 19 ((h - 1) - 1)) (mi 19 (h - 1)))] [] (c_put _ L _ _ (h := (h - 1 - 1)) _ xU_self (by omega)) rfl ?_
  refine xB.rt none (xU (xU (xU (xU mi 18 2 (nI (h - 1))) 18 2 (nI ((h - 1) - 1))) 19 (h - 1 - 1) (dnA z ((xU mi 18 2 (nI (h - 1))) 19 ((h - 1) - 1)) (mi 19 (h - 1)))) 18 2 (nI ((h - 1 - 1) + 1))) ml rfl ?_
  refine ⟨rfl, rfl, fun x h1 h2 => by simp only [xU_ne h1, xU_ne h2], ?_, ?_⟩
  · rfl
  · show nI (h - 1 - 1 + 1) = nI (h - 1); rw [show h - 1 - 1 + 1 = h - 1 by omega]
theorem rng24 {j : Nat} (h : j < 24) : 0 ≤ nI j ∧ nI j < 24 := ⟨nI_pos' (by omega), by rw [show (24 : Int32) = nI 24 from rfl, nI_ltI (by omega) (by decide)]; exact h⟩
theorem c_msetN22 (d L : Nat) (mi : xmi) (ml : xml) {j : Nat} (y : Int32) (hj : j < 24) : xFn (d + 2) 26 [.ref 22, .int (nI j), .int y] L mi ml (xU mi 23 j y) ml := by
  have h := c_mset22 d L mi ml (nI j) y
  rwa [if_pos (rng24 hj), nI_clamp (by omega)] at h
theorem c_mgetN22 (d L : Nat) (mi : xmi) (ml : xml) {j : Nat} (hj : j < 24) : xFv (d + 2) 25 [.ref 22, .int (nI j)] L mi ml (.int (mi 23 j)) mi ml := by
  have h := c_mget22 d L mi ml (nI j)
  rwa [show (24 : Int32) = nI 24 from rfl, sl_lvN (by decide) hj] at h
set_option maxRecDepth 100000 in
set_option maxHeartbeats 1000000 in
theorem c_layInto22 (d L : Nat) (mi : xmi) (ml : xml) {t h : Nat} (ht : t < 2) (hh : mi 18 2 = nI h) (h2 : 2 ≤ h) (h16 : h ≤ 16) : xF (d + 3) 18 [.ref 18, .ref 22, .int (nI t)] L mi ml (fun rr a b => rr = none ∧ b = ml ∧ (∀ x, x ≠ 18 → x ≠ 23 → a x = mi x) ∧ a 23 = va_up (mi 23) (8 + 8 * t + ix7 (mi 19 (h - 1 - 1))) (mi 19 (h - 1)) ∧ a 18 2 = nI (h - 1 - 1)) := by
  have hcl : 8 + 8 * t + ix7 (mi 19 (h - 1 - 1)) < 24 := by have := (and7_ix (mi 19 (h - 1 - 1))).2; omega
  refine xF.mk mX2_layInto rfl rfl ?_
  refine xB.go 1 (1, [(0, .ref 18), (1, .ref 22), (2, .int (nI t))], [.ref 18], XM L mi ml) rfl ?_
  refine xB.c1 22 [.ref 18] [] (c_take _ L _ _ (h := h) hh (by omega) (by omega)) rfl ?_
  refine xB.go 2 (6, [(0, .ref 18), (1, .ref 22), (2, .int (nI t)), (3, .int (mi 19 (h - 1)))], [.ref 18], XM L (xU mi 18 2 (nI (h - 1))) ml) rfl ?_
  refine xB.c1 22 [.ref 18] [] (c_take _ L _ _ (h := (h - 1)) xU_self (by omega) (by omega)) rfl ?_
  refine xB.go 4 (15, [(0, .ref 18), (1, .ref 22), (2, .int (nI t)), (3, .int (mi 19 (h - 1))), (4, .int ((xU mi 18 2 (nI (h - 1))) 19 ((h - 1) - 1)))], [.int ((xU mi 18 2 (nI (h - 1))) 19 ((h - 1) - 1)), .int (nI t), .ref 22], XM L (xU (xU mi 18 2 (nI (h - 1))) 18 2 (nI ((h - 1) - 1))) ml) rfl ?_
  refine xB.c1 24 [.int (nI t), .int ((xU mi 18 2 (nI (h - 1))) 19 ((h - 1) - 1))] [.ref 22] (c_cellOf _ L (xU (xU mi 18 2 (nI (h - 1))) 18 2 (nI ((h - 1) - 1))) ml (nI t) ((xU mi 18 2 (nI (h - 1))) 19 ((h - 1) - 1)) ) rfl ?_
  refine xB.cg (18, [(0, .ref 18), (1, .ref 22), (2, .int (nI t)), (3, .int (mi 19 (h - 1))), (4, .int ((xU mi 18 2 (nI (h - 1))) 19 ((h - 1) - 1)))], [.int (nI (8 + 8 * t + ix7 (mi 19 (h - 1 - 1)))), .ref 22], XM L (xU (xU mi 18 2 (nI (h - 1))) 18 2 (nI ((h - 1) - 1))) ml) (by rw [cell_ix ht]; rfl) ?_
  refine xB.go 1 (19, [(0, .ref 18), (1, .ref 22), (2, .int (nI t)), (3, .int (mi 19 (h - 1))), (4, .int ((xU mi 18 2 (nI (h - 1))) 19 ((h - 1) - 1)))], [.int (mi 19 (h - 1)), .int (nI (8 + 8 * t + ix7 (mi 19 (h - 1 - 1)))), .ref 22], XM L (xU (xU mi 18 2 (nI (h - 1))) 18 2 (nI ((h - 1) - 1))) ml) rfl ?_
  refine xB.c0 26 [.ref 22, .int (nI (8 + 8 * t + ix7 (mi 19 (h - 1 - 1)))), .int (mi 19 (h - 1))] [] (c_msetN22 _ L _ _ (j := 8 + 8 * t + ix7 (mi 19 (h - 1 - 1))) _ hcl) rfl ?_
  refine xB.rt none (xU (xU (xU mi 18 2 (nI (h - 1))) 18 2 (nI ((h - 1) - 1))) 23 (8 + 8 * t + ix7 (mi 19 (h - 1 - 1))) (mi 19 (h - 1))) ml rfl ?_
  exact ⟨rfl, rfl, fun x h1 h2 => by simp only [xU_ne h1, xU_ne h2], rfl, rfl⟩
theorem c_msetN27 (d L : Nat) (mi : xmi) (ml : xml) {j : Nat} (y : Int32) (hj : j < 24) : xFn (d + 2) 26 [.ref 27, .int (nI j), .int y] L mi ml (xU mi 28 j y) ml := by
  have h := c_mset27 d L mi ml (nI j) y
  rwa [if_pos (rng24 hj), nI_clamp (by omega)] at h
theorem c_mgetN27 (d L : Nat) (mi : xmi) (ml : xml) {j : Nat} (hj : j < 24) : xFv (d + 2) 25 [.ref 27, .int (nI j)] L mi ml (.int (mi 28 j)) mi ml := by
  have h := c_mget27 d L mi ml (nI j)
  rwa [show (24 : Int32) = nI 24 from rfl, sl_lvN (by decide) hj] at h
set_option maxRecDepth 100000 in
set_option maxHeartbeats 1000000 in
theorem c_layInto27 (d L : Nat) (mi : xmi) (ml : xml) {t h : Nat} (ht : t < 2) (hh : mi 18 2 = nI h) (h2 : 2 ≤ h) (h16 : h ≤ 16) : xF (d + 3) 18 [.ref 18, .ref 27, .int (nI t)] L mi ml (fun rr a b => rr = none ∧ b = ml ∧ (∀ x, x ≠ 18 → x ≠ 28 → a x = mi x) ∧ a 28 = va_up (mi 28) (8 + 8 * t + ix7 (mi 19 (h - 1 - 1))) (mi 19 (h - 1)) ∧ a 18 2 = nI (h - 1 - 1)) := by
  have hcl : 8 + 8 * t + ix7 (mi 19 (h - 1 - 1)) < 24 := by have := (and7_ix (mi 19 (h - 1 - 1))).2; omega
  refine xF.mk mX2_layInto rfl rfl ?_
  refine xB.go 1 (1, [(0, .ref 18), (1, .ref 27), (2, .int (nI t))], [.ref 18], XM L mi ml) rfl ?_
  refine xB.c1 22 [.ref 18] [] (c_take _ L _ _ (h := h) hh (by omega) (by omega)) rfl ?_
  refine xB.go 2 (6, [(0, .ref 18), (1, .ref 27), (2, .int (nI t)), (3, .int (mi 19 (h - 1)))], [.ref 18], XM L (xU mi 18 2 (nI (h - 1))) ml) rfl ?_
  refine xB.c1 22 [.ref 18] [] (c_take _ L _ _ (h := (h - 1)) xU_self (by omega) (by omega)) rfl ?_
  refine xB.go 4 (15, [(0, .ref 18), (1, .ref 27), (2, .int (nI t)), (3, .int (mi 19 (h - 1))), (4, .int ((xU mi 18 2 (nI (h - 1))) 19 ((h - 1) - 1)))], [.int ((xU mi 18 2 (nI (h - 1))) 19 ((h - 1) - 1)), .int (nI t), .ref 27], XM L (xU (xU mi 18 2 (nI (h - 1))) 18 2 (nI ((h - 1) - 1))) ml) rfl ?_
  refine xB.c1 24 [.int (nI t), .int ((xU mi 18 2 (nI (h - 1))) 19 ((h - 1) - 1))] [.ref 27] (c_cellOf _ L (xU (xU mi 18 2 (nI (h - 1))) 18 2 (nI ((h - 1) - 1))) ml (nI t) ((xU mi 18 2 (nI (h - 1))) 19 ((h - 1) - 1)) ) rfl ?_
  refine xB.cg (18, [(0, .ref 18), (1, .ref 27), (2, .int (nI t)), (3, .int (mi 19 (h - 1))), (4, .int ((xU mi 18 2 (nI (h - 1))) 19 ((h - 1) - 1)))], [.int (nI (8 + 8 * t + ix7 (mi 19 (h - 1 - 1)))), .ref 27], XM L (xU (xU mi 18 2 (nI (h - 1))) 18 2 (nI ((h - 1) - 1))) ml) (by rw [cell_ix ht]; rfl) ?_
  refine xB.go 1 (19, [(0, .ref 18), (1, .ref 27), (2, .int (nI t)), (3, .int (mi 19 (h - 1))), (4, .int ((xU mi 18 2 (nI (h - 1))) 19 ((h - 1) - 1)))], [.int (mi 19 (h - 1)), .int (nI (8 + 8 * t + ix7 (mi 19 (h - 1 - 1)))), .ref 27], XM L (xU (xU mi 18 2 (nI (h - 1))) 18 2 (nI ((h - 1) - 1))) ml) rfl ?_
  refine xB.c0 26 [.ref 27, .int (nI (8 + 8 * t + ix7 (mi 19 (h - 1 - 1)))), .int (mi 19 (h - 1))] [] (c_msetN27 _ L _ _ (j := 8 + 8 * t + ix7 (mi 19 (h - 1 - 1))) _ hcl) rfl ?_
  refine xB.rt none (xU (xU (xU mi 18 2 (nI (h - 1))) 18 2 (nI ((h - 1) - 1))) 28 (8 + 8 * t + ix7 (mi 19 (h - 1 - 1))) (mi 19 (h - 1))) ml rfl ?_
  exact ⟨rfl, rfl, fun x h1 h2 => by simp only [xU_ne h1, xU_ne h2], rfl, rfl⟩
end
section
/-! one instruction is done -/
theorem oadd_lt {c : Int32} {cn : Nat} (h : c = nI cn) (hc : cn < 2 ^ 30) : (¬ 64 ≤ c) ↔ cn < 64 := by
  subst h; rw [show (64 : Int32) = nI 64 from rfl, nI_leI (by decide) (by omega)]; omega
set_option maxRecDepth 100000 in
set_option maxHeartbeats 1000000 in
theorem c_doAt22 (d L : Nat) (mi : xmi) (ml : xml) {n : Nat} {K T : Nat → Nat} (hP : PRG mi n K T) (hN : NUM mi n K T) {i h cn : Nat} (hin : i < n) (hh : mi 18 2 = nI h) (h16 : h ≤ 16) (htk : tk (K i) ≤ h) (hg : h - tk (K i) + pt (K i) ≤ 16) (hcn : mi 24 4 = nI cn) (hcb : cn < 2 ^ 30) (hO3 : mi 24 3 = 0) : xF (d + 4) 17 [.ref 18, .int (nI i), .ref 22, .ref 24] L mi ml (fun rr a b => ∃ v, rr = some (.int v) ∧ b = ml ∧ DA 23 24 K T mi i h cn v a) := by
  have hk := (hP.2.2.1 i hin).2
  have hi64 : i < 64 := Nat.lt_of_lt_of_le hin hP.2.1
  refine xF.mk mX2_doAt rfl rfl ?_
  refine xB.go 3 (5, [(0, .ref 18), (1, .int (nI i)), (2, .ref 22), (3, .ref 24)], [.int (nI i), .ref 1], XM L mi ml) rfl ?_
  refine xB.c1 43 [.ref 1, .int (nI i)] [] (c_numberN _ L _ _ hP hin) rfl ?_
  refine xB.go 4 (15, [(0, .ref 18), (1, .int (nI i)), (2, .ref 22), (3, .ref 24), (4, .int (mi 3 i))], [.int (nI i), .ref 1], XM L mi ml) rfl ?_
  refine xB.c1 42 [.ref 1, .int (nI i)] [] (c_kindN _ L _ _ hP hin) rfl ?_
  by_cases h1 : (nI (K i)) = 0
  · refine xB.tp h1 ?_
    refine xB.go 1 (68, [(0, .ref 18), (1, .int (nI i)), (2, .ref 22), (3, .ref 24), (4, .int (mi 3 i))], [], XM L mi ml) rfl ?_
    have g : K i = 0 := k_eq hk (c := 0) (by decide) h1
    have gt : tk (K i) = 0 := by rw [g]; rfl
    have gp : pt (K i) = 1 := by rw [g]; rfl
    refine xB.go 2 (71, [(0, .ref 18), (1, .int (nI i)), (2, .ref 22), (3, .ref 24), (4, .int (mi 3 i))], [.int (mi 3 i), .ref 18], XM L mi ml) rfl ?_
    refine xB.c0 21 [.ref 18, .int (mi 3 i)] [] (c_put _ L _ _ (h := h) _ hh (by omega)) rfl ?_
    refine xB.go 4 (181, [(0, .ref 18), (1, .int (nI i)), (2, .ref 22), (3, .ref 24), (4, .int (mi 3 i))], [.int ((nI i) + 1)], XM L (xU (xU mi 19 h (mi 3 i)) 18 2 (nI (h + 1))) ml) rfl ?_
    refine xB.rt (some (.int ((nI i) + 1))) (xU (xU mi 19 h (mi 3 i)) 18 2 (nI (h + 1))) ml rfl ?_
    refine ⟨_, rfl, rfl, ?_⟩
    unfold DA
    rw [g]
    exact ⟨by rw [nI_1]; rfl, fun x h1 h2 h3 h4 h5 h6 => by simp only [xU_ne h1, xU_ne h2], rfl, rfl, rfl, rfl, hcn, rfl, hO3, rfl⟩
  by_cases h2 : (nI (K i)) = 1
  · refine xB.tp h2 ?_
    refine xB.go 1 (77, [(0, .ref 18), (1, .int (nI i)), (2, .ref 22), (3, .ref 24), (4, .int (mi 3 i))], [], XM L mi ml) rfl ?_
    have g : K i = 1 := k_eq hk (c := 1) (by decide) h2
    have gt : tk (K i) = 0 := by rw [g]; rfl
    have gp : pt (K i) = 1 := by rw [g]; rfl
    have hz := (hN i hin).1 (Or.inl g)
    refine xB.cg (77, [(0, .ref 18), (1, .int (nI i)), (2, .ref 22), (3, .ref 24), (4, .int (nI (T i)))], [], XM L mi ml) (by rw [hz.1]) ?_
    refine xB.go 3 (81, [(0, .ref 18), (1, .int (nI i)), (2, .ref 22), (3, .ref 24), (4, .int (nI (T i)))], [.int (nI (T i)), .ref 22, .ref 18], XM L mi ml) rfl ?_
    refine xB.c1 25 [.ref 22, .int (nI (T i))] [.ref 18] (c_mgetN22 _ L _ _ (j := T i) (by omega)) rfl ?_
    refine xB.c0 21 [.ref 18, .int (mi 23 (T i))] [] (c_put _ L _ _ (h := h) _ hh (by omega)) rfl ?_
    refine xB.go 4 (181, [(0, .ref 18), (1, .int (nI i)), (2, .ref 22), (3, .ref 24), (4, .int (nI (T i)))], [.int ((nI i) + 1)], XM L (xU (xU mi 19 h (mi 23 (T i))) 18 2 (nI (h + 1))) ml) rfl ?_
    refine xB.rt (some (.int ((nI i) + 1))) (xU (xU mi 19 h (mi 23 (T i))) 18 2 (nI (h + 1))) ml rfl ?_
    refine ⟨_, rfl, rfl, ?_⟩
    unfold DA
    rw [g]
    have e : (mi 3 i).toNatClampNeg = T i := by rw [hz.1, nI_clamp (by omega)]
    refine ⟨by rw [nI_1]; rfl, fun x h1 h2 h3 h4 h5 h6 => by simp only [xU_ne h1, xU_ne h2], ?_, rfl, rfl, rfl, hcn, rfl, hO3, rfl⟩
    show _ = va_up (mi 19) h (mi 23 (mi 3 i).toNatClampNeg)
    rw [e]; rfl
  by_cases h3 : (nI (K i)) = 2
  · refine xB.tp h3 ?_
    refine xB.go 1 (90, [(0, .ref 18), (1, .int (nI i)), (2, .ref 22), (3, .ref 24), (4, .int (mi 3 i))], [], XM L mi ml) rfl ?_
    have g : K i = 2 := k_eq hk (c := 2) (by decide) h3
    have gt : tk (K i) = 1 := by rw [g]; rfl
    have gp : pt (K i) = 0 := by rw [g]; rfl
    have hz := (hN i hin).1 (Or.inr g)
    refine xB.cg (90, [(0, .ref 18), (1, .int (nI i)), (2, .ref 22), (3, .ref 24), (4, .int (nI (T i)))], [], XM L mi ml) (by rw [hz.1]) ?_
    refine xB.go 3 (94, [(0, .ref 18), (1, .int (nI i)), (2, .ref 22), (3, .ref 24), (4, .int (nI (T i)))], [.ref 18, .int (nI (T i)), .ref 22], XM L mi ml) rfl ?_
    refine xB.c1 22 [.ref 18] [.int (nI (T i)), .ref 22] (c_take _ L _ _ (h := h) hh (by omega) (by omega)) rfl ?_
    refine xB.c0 26 [.ref 22, .int (nI (T i)), .int (mi 19 (h - 1))] [] (c_msetN22 _ L _ _ (j := T i) _ (by omega)) rfl ?_
    refine xB.go 4 (181, [(0, .ref 18), (1, .int (nI i)), (2, .ref 22), (3, .ref 24), (4, .int (nI (T i)))], [.int ((nI i) + 1)], XM L (xU (xU mi 18 2 (nI (h - 1))) 23 (T i) (mi 19 (h - 1))) ml) rfl ?_
    refine xB.rt (some (.int ((nI i) + 1))) (xU (xU mi 18 2 (nI (h - 1))) 23 (T i) (mi 19 (h - 1))) ml rfl ?_
    refine ⟨_, rfl, rfl, ?_⟩
    unfold DA
    rw [g]
    have e : (mi 3 i).toNatClampNeg = T i := by rw [hz.1, nI_clamp (by omega)]
    refine ⟨by rw [nI_1]; rfl, fun x h1 h2 h3 h4 h5 h6 => by simp only [xU_ne h1, xU_ne h3], rfl, ?_, rfl, rfl, hcn, rfl, hO3, rfl⟩
    show _ = va_up (mi 23) (mi 3 i).toNatClampNeg (mi 19 (h - 1))
    rw [e]; rfl
  by_cases h4 : (nI (K i)) = 3
  · refine xB.tp h4 ?_
    refine xB.go 1 (103, [(0, .ref 18), (1, .int (nI i)), (2, .ref 22), (3, .ref 24), (4, .int (mi 3 i))], [], XM L mi ml) rfl ?_
    have g : K i = 3 := k_eq hk (c := 3) (by decide) h4
    have gt : tk (K i) = 2 := by rw [g]; rfl
    have gp : pt (K i) = 1 := by rw [g]; rfl
    refine xB.go 2 (106, [(0, .ref 18), (1, .int (nI i)), (2, .ref 22), (3, .ref 24), (4, .int (mi 3 i))], [.int (mi 3 i), .ref 18], XM L mi ml) rfl ?_
    refine xB.ca 19 [.ref 18, .int (mi 3 i)] [] (c_dw2 _ L _ _ _ hh (by omega) h16) rfl ?_
    intro r1 a1 b1 hq
    obtain ⟨rfl, hb1, q1, q2, q3⟩ := hq
    rw [hb1]
    show xB _ _ L _ (109, [(0, .ref 18), (1, .int (nI i)), (2, .ref 22), (3, .ref 24), (4, .int (mi 3 i))], [], XM L a1 ml)
    refine xB.go 4 (181, [(0, .ref 18), (1, .int (nI i)), (2, .ref 22), (3, .ref 24), (4, .int (mi 3 i))], [.int ((nI i) + 1)], XM L a1 ml) rfl ?_
    refine xB.rt (some (.int ((nI i) + 1))) a1 ml rfl ?_
    refine ⟨_, rfl, rfl, ?_⟩
    unfold DA
    rw [g]
    refine ⟨by rw [nI_1]; rfl, fun x h1 h2 _ _ _ _ => q1 x h1 h2, ?_, q1 23 (by decide) (by decide), q1 25 (by decide) (by decide), q1 26 (by decide) (by decide), by rw [q1 24 (by decide) (by decide)]; exact hcn, by rw [q1 24 (by decide) (by decide)], by rw [q1 24 (by decide) (by decide)]; exact hO3, ?_⟩
    · rw [q2]; rfl
    · rw [q3]; show _ = nI (h - 2 + 1); rw [show h - 2 + 1 = h - 1 by omega]
  by_cases h5 : (nI (K i)) = 4
  · refine xB.tp h5 ?_
    refine xB.go 1 (112, [(0, .ref 18), (1, .int (nI i)), (2, .ref 22), (3, .ref 24), (4, .int (mi 3 i))], [], XM L mi ml) rfl ?_
    have g : K i = 4 := k_eq hk (c := 4) (by decide) h5
    have gt : tk (K i) = 0 := by rw [g]; rfl
    have gp : pt (K i) = 0 := by rw [g]; rfl
    have hz := hP.2.2.2.1 i hin (Or.inl g)
    refine xB.cg (112, [(0, .ref 18), (1, .int (nI i)), (2, .ref 22), (3, .ref 24), (4, .int (nI (T i)))], [], XM L mi ml) (by rw [hz.1]) ?_
    refine xB.go 1 (114, [(0, .ref 18), (1, .int (nI i)), (2, .ref 22), (3, .ref 24), (4, .int (nI (T i)))], [.int (nI (T i))], XM L mi ml) rfl ?_
    refine xB.rt (some (.int (nI (T i)))) mi ml rfl ?_
    refine ⟨_, rfl, rfl, ?_⟩
    unfold DA
    rw [g]
    exact ⟨rfl, fun _ _ _ _ _ _ _ => rfl, rfl, rfl, rfl, rfl, hcn, rfl, hO3, by rw [hh]; rfl⟩
  by_cases h6 : (nI (K i)) = 5
  · refine xB.tp h6 ?_
    refine xB.go 1 (115, [(0, .ref 18), (1, .int (nI i)), (2, .ref 22), (3, .ref 24), (4, .int (mi 3 i))], [], XM L mi ml) rfl ?_
    have g : K i = 5 := k_eq hk (c := 5) (by decide) h6
    have gt : tk (K i) = 1 := by rw [g]; rfl
    have gp : pt (K i) = 0 := by rw [g]; rfl
    have hz := hP.2.2.2.1 i hin (Or.inr g)
    refine xB.cg (115, [(0, .ref 18), (1, .int (nI i)), (2, .ref 22), (3, .ref 24), (4, .int (nI (T i)))], [], XM L mi ml) (by rw [hz.1]) ?_
    refine xB.go 1 (116, [(0, .ref 18), (1, .int (nI i)), (2, .ref 22), (3, .ref 24), (4, .int (nI (T i)))], [.ref 18], XM L mi ml) rfl ?_
    refine xB.c1 22 [.ref 18] [] (c_take _ L _ _ (h := h) hh (by omega) (by omega)) rfl ?_
    refine xB.bp (¬ (mi 19 (h - 1)) = 0) (127, [(0, .ref 18), (1, .int (nI i)), (2, .ref 22), (3, .ref 24), (4, .int (nI (T i)))], [], XM L (xU mi 18 2 (nI (h - 1))) ml) (122, [(0, .ref 18), (1, .int (nI i)), (2, .ref 22), (3, .ref 24), (4, .int (nI (T i)))], [], XM L (xU mi 18 2 (nI (h - 1))) ml) rfl (fun h7 => ?_) (fun h7 => ?_)
    · refine xB.go 3 (130, [(0, .ref 18), (1, .int (nI i)), (2, .ref 22), (3, .ref 24), (4, .int (nI (T i)))], [.int ((nI i) + 1)], XM L (xU mi 18 2 (nI (h - 1))) ml) rfl ?_
      refine xB.rt (some (.int ((nI i) + 1))) (xU mi 18 2 (nI (h - 1))) ml rfl ?_
      refine ⟨_, rfl, rfl, ?_⟩
      unfold DA
      rw [g]
      refine ⟨?_, fun x h1 h2 h3 h4 h5 h6 => by simp only [xU_ne h1], rfl, rfl, rfl, rfl, hcn, rfl, hO3, rfl⟩
      show _ = nI (if mi 19 (h - 1) = 0 then T i else i + 1)
      rw [if_neg h7, nI_1]
    · refine xB.go 2 (130, [(0, .ref 18), (1, .int (nI i)), (2, .ref 22), (3, .ref 24), (4, .int (nI (T i)))], [.int (nI (T i))], XM L (xU mi 18 2 (nI (h - 1))) ml) rfl ?_
      refine xB.rt (some (.int (nI (T i)))) (xU mi 18 2 (nI (h - 1))) ml rfl ?_
      refine ⟨_, rfl, rfl, ?_⟩
      unfold DA
      rw [g]
      refine ⟨?_, fun x h1 h2 h3 h4 h5 h6 => by simp only [xU_ne h1], rfl, rfl, rfl, rfl, hcn, rfl, hO3, rfl⟩
      show _ = nI (if mi 19 (h - 1) = 0 then T i else i + 1)
      rw [if_pos (Classical.not_not.mp h7)]
  by_cases h8 : (nI (K i)) = 6
  · refine xB.tp h8 ?_
    refine xB.go 1 (131, [(0, .ref 18), (1, .int (nI i)), (2, .ref 22), (3, .ref 24), (4, .int (mi 3 i))], [], XM L mi ml) rfl ?_
    have g : K i = 6 := k_eq hk (c := 6) (by decide) h8
    have gt : tk (K i) = 1 := by rw [g]; rfl
    have gp : pt (K i) = 1 := by rw [g]; rfl
    have hz := (hN i hin).2.1 (Or.inl g)
    have h7 := (and7_ix (mi 19 (h - 1))).2
    refine xB.cg (131, [(0, .ref 18), (1, .int (nI i)), (2, .ref 22), (3, .ref 24), (4, .int (nI (T i)))], [], XM L mi ml) (by rw [hz.1]) ?_
    refine xB.go 4 (136, [(0, .ref 18), (1, .int (nI i)), (2, .ref 22), (3, .ref 24), (4, .int (nI (T i)))], [.ref 18, .int (nI (T i)), .ref 22, .ref 18], XM L mi ml) rfl ?_
    refine xB.c1 22 [.ref 18] [.int (nI (T i)), .ref 22, .ref 18] (c_take _ L _ _ (h := h) hh (by omega) (by omega)) rfl ?_
    refine xB.c1 24 [.int (nI (T i)), .int (mi 19 (h - 1))] [.ref 22, .ref 18] (c_cellOf _ L (xU mi 18 2 (nI (h - 1))) ml (nI (T i)) (mi 19 (h - 1)) ) rfl ?_
    refine xB.cg (142, [(0, .ref 18), (1, .int (nI i)), (2, .ref 22), (3, .ref 24), (4, .int (nI (T i)))], [.int (nI (8 + 8 * T i + ix7 (mi 19 (h - 1)))), .ref 22, .ref 18], XM L (xU mi 18 2 (nI (h - 1))) ml) (by rw [cell_ix hz.2]) ?_
    refine xB.c1 25 [.ref 22, .int (nI (8 + 8 * T i + ix7 (mi 19 (h - 1))))] [.ref 18] (c_mgetN22 _ L _ _ (j := 8 + 8 * T i + ix7 (mi 19 (h - 1))) (by omega)) rfl ?_
    refine xB.c0 21 [.ref 18, .int ((xU mi 18 2 (nI (h - 1))) 23 (8 + 8 * T i + ix7 (mi 19 (h - 1))))] [] (c_put _ L _ _ (h := (h - 1)) _ xU_self (by omega)) rfl ?_
    refine xB.go 4 (181, [(0, .ref 18), (1, .int (nI i)), (2, .ref 22), (3, .ref 24), (4, .int (nI (T i)))], [.int ((nI i) + 1)], XM L (xU (xU (xU mi 18 2 (nI (h - 1))) 19 (h - 1) ((xU mi 18 2 (nI (h - 1))) 23 (8 + 8 * T i + ix7 (mi 19 (h - 1))))) 18 2 (nI ((h - 1) + 1))) ml) rfl ?_
    refine xB.rt (some (.int ((nI i) + 1))) (xU (xU (xU mi 18 2 (nI (h - 1))) 19 (h - 1) ((xU mi 18 2 (nI (h - 1))) 23 (8 + 8 * T i + ix7 (mi 19 (h - 1))))) 18 2 (nI ((h - 1) + 1))) ml rfl ?_
    refine ⟨_, rfl, rfl, ?_⟩
    unfold DA
    rw [g]
    have e : (mi 3 i).toNatClampNeg = T i := by rw [hz.1, nI_clamp (by omega)]
    refine ⟨by rw [nI_1]; rfl, fun x h1 h2 h3 h4 h5 h6 => by simp only [xU_ne h1, xU_ne h2], ?_, rfl, rfl, rfl, hcn, rfl, hO3, ?_⟩
    · show _ = va_up (mi 19) (h - 1) (mi 23 (8 + 8 * (mi 3 i).toNatClampNeg + ix7 (mi 19 (h - 1))))
      rw [e]; rfl
    · rfl
  by_cases h9 : (nI (K i)) = 7
  · refine xB.tp h9 ?_
    refine xB.go 1 (151, [(0, .ref 18), (1, .int (nI i)), (2, .ref 22), (3, .ref 24), (4, .int (mi 3 i))], [], XM L mi ml) rfl ?_
    have g : K i = 7 := k_eq hk (c := 7) (by decide) h9
    have gt : tk (K i) = 2 := by rw [g]; rfl
    have gp : pt (K i) = 0 := by rw [g]; rfl
    have hz := (hN i hin).2.1 (Or.inr g)
    refine xB.cg (151, [(0, .ref 18), (1, .int (nI i)), (2, .ref 22), (3, .ref 24), (4, .int (nI (T i)))], [], XM L mi ml) (by rw [hz.1]) ?_
    refine xB.go 3 (155, [(0, .ref 18), (1, .int (nI i)), (2, .ref 22), (3, .ref 24), (4, .int (nI (T i)))], [.int (nI (T i)), .ref 22, .ref 18], XM L mi ml) rfl ?_
    refine xB.ca 18 [.ref 18, .ref 22, .int (nI (T i))] [] (c_layInto22 _ L _ _ hz.2 hh (by omega) h16) rfl ?_
    intro r1 a1 b1 hq
    obtain ⟨rfl, hb1, q1, q2, q3⟩ := hq
    rw [hb1]
    show xB _ _ L _ (158, [(0, .ref 18), (1, .int (nI i)), (2, .ref 22), (3, .ref 24), (4, .int (nI (T i)))], [], XM L a1 ml)
    refine xB.go 4 (181, [(0, .ref 18), (1, .int (nI i)), (2, .ref 22), (3, .ref 24), (4, .int (nI (T i)))], [.int ((nI i) + 1)], XM L a1 ml) rfl ?_
    refine xB.rt (some (.int ((nI i) + 1))) a1 ml rfl ?_
    refine ⟨_, rfl, rfl, ?_⟩
    unfold DA
    rw [g]
    have e : (mi 3 i).toNatClampNeg = T i := by rw [hz.1, nI_clamp (by omega)]
    refine ⟨by rw [nI_1]; rfl, fun x h1 _ h3 _ _ _ => q1 x h1 h3, q1 19 (by decide) (by decide), ?_, q1 25 (by decide) (by decide), q1 26 (by decide) (by decide), by rw [q1 24 (by decide) (by decide)]; exact hcn, by rw [q1 24 (by decide) (by decide)], by rw [q1 24 (by decide) (by decide)]; exact hO3, ?_⟩
    · rw [q2]; show _ = va_up (mi 23) (8 + 8 * (mi 3 i).toNatClampNeg + ix7 (mi 19 (h - 2))) (mi 19 (h - 1)); rw [e]; rfl
    · rw [q3]; rfl
  by_cases h10 : (nI (K i)) = 8
  · refine xB.tp h10 ?_
    refine xB.go 1 (161, [(0, .ref 18), (1, .int (nI i)), (2, .ref 22), (3, .ref 24), (4, .int (mi 3 i))], [], XM L mi ml) rfl ?_
    have g : K i = 8 := k_eq hk (c := 8) (by decide) h10
    have gt : tk (K i) = 1 := by rw [g]; rfl
    have gp : pt (K i) = 0 := by rw [g]; rfl
    refine xB.go 3 (165, [(0, .ref 18), (1, .int (nI i)), (2, .ref 22), (3, .ref 24), (4, .int (mi 3 i))], [.ref 18, .int (mi 3 i), .ref 24], XM L mi ml) rfl ?_
    refine xB.c1 22 [.ref 18] [.int (mi 3 i), .ref 24] (c_take _ L _ _ (h := h) hh (by omega) (by omega)) rfl ?_
    refine xB.c0 36 [.ref 24, .int (mi 3 i), .int (mi 19 (h - 1))] [] (c_oadd24 _ L _ _ (n := cn) _ _ hcn (by omega)) rfl ?_
    refine xB.go 4 (181, [(0, .ref 18), (1, .int (nI i)), (2, .ref 22), (3, .ref 24), (4, .int (mi 3 i))], [.int ((nI i) + 1)], XM L (if ¬ 64 ≤ (xU mi 18 2 (nI (h - 1))) 24 4 then xU (xU (xU (xU mi 18 2 (nI (h - 1))) 25 ((xU mi 18 2 (nI (h - 1))) 24 4).toNatClampNeg (mi 3 i)) 26 ((xU mi 18 2 (nI (h - 1))) 24 4).toNatClampNeg (mi 19 (h - 1))) 24 4 ((xU mi 18 2 (nI (h - 1))) 24 4 + 1) else xU (xU mi 18 2 (nI (h - 1))) 24 4 ((xU mi 18 2 (nI (h - 1))) 24 4 + 1)) ml) rfl ?_
    refine xB.rt (some (.int ((nI i) + 1))) (if ¬ 64 ≤ (xU mi 18 2 (nI (h - 1))) 24 4 then xU (xU (xU (xU mi 18 2 (nI (h - 1))) 25 ((xU mi 18 2 (nI (h - 1))) 24 4).toNatClampNeg (mi 3 i)) 26 ((xU mi 18 2 (nI (h - 1))) 24 4).toNatClampNeg (mi 19 (h - 1))) 24 4 ((xU mi 18 2 (nI (h - 1))) 24 4 + 1) else xU (xU mi 18 2 (nI (h - 1))) 24 4 ((xU mi 18 2 (nI (h - 1))) 24 4 + 1)) ml rfl ?_
    refine ⟨_, rfl, rfl, ?_⟩
    unfold DA
    rw [g]
    have hcn2 : (xU mi 18 2 (nI (h - 1))) 24 4 = nI cn := hcn
    by_cases hc : cn < 64
    · rw [if_pos ((oadd_lt hcn2 hcb).mpr hc), hcn2, nI_clamp (by omega)]
      have es : stA 8 (mi 3 i) h (mi 19, mi 23, mi (24 + 1), mi (24 + 2), cn) = (mi 19, mi 23, va_up (mi 25) cn (mi 3 i), va_up (mi 26) cn (mi 19 (h - 1)), cn + 1) := if_pos hc
      rw [es, nI_1, nI_1]
      exact ⟨rfl, fun x h1 h2 h3 h4 h5 h6 => by simp only [xU_ne h1, xU_ne h4, xU_ne h5, xU_ne h6], rfl, rfl, rfl, rfl, rfl, rfl, hO3, rfl⟩
    · rw [if_neg (fun z => hc ((oadd_lt hcn2 hcb).mp z)), hcn2]
      have es : stA 8 (mi 3 i) h (mi 19, mi 23, mi (24 + 1), mi (24 + 2), cn) = (mi 19, mi 23, mi 25, mi 26, cn + 1) := if_neg hc
      rw [es, nI_1, nI_1]
      exact ⟨rfl, fun x h1 h2 h3 h4 h5 h6 => by simp only [xU_ne h1, xU_ne h4], rfl, rfl, rfl, rfl, rfl, rfl, hO3, rfl⟩
  refine xB.st (174, [(0, .ref 18), (1, .int (nI i)), (2, .ref 22), (3, .ref 24), (4, .int (mi 3 i))], [], XM L mi ml) (xsw_d (mt := mX2_doAt) rfl (xsw_ne 9 (by decide) (fun k hk => by rcases (show k = 0 ∨ k = 1 ∨ k = 2 ∨ k = 3 ∨ k = 4 ∨ k = 5 ∨ k = 6 ∨ k = 7 ∨ k = 8 by omega) with rfl | rfl | rfl | rfl | rfl | rfl | rfl | rfl | rfl; exact h1; exact h2; exact h3; exact h4; exact h5; exact h6; exact h8; exact h9; exact h10)) rfl) ?_
  have g : K i = 9 := by
    have e0 := k_ne (c := 0) h1
    have e1 := k_ne (c := 1) h2
    have e2 := k_ne (c := 2) h3
    have e3 := k_ne (c := 3) h4
    have e4 := k_ne (c := 4) h5
    have e5 := k_ne (c := 5) h6
    have e6 := k_ne (c := 6) h8
    have e7 := k_ne (c := 7) h9
    have e8 := k_ne (c := 8) h10
    omega
  have gt : tk (K i) = 0 := by rw [g]; rfl
  have gp : pt (K i) = 0 := by rw [g]; rfl
  refine xB.go 1 (175, [(0, .ref 18), (1, .int (nI i)), (2, .ref 22), (3, .ref 24), (4, .int (mi 3 i))], [.ref 24], XM L mi ml) rfl ?_
  refine xB.c0 35 [.ref 24] [] (c_halt24 _ L mi ml  ) rfl ?_
  refine xB.go 3 (181, [(0, .ref 18), (1, .int (nI i)), (2, .ref 22), (3, .ref 24), (4, .int (mi 3 i))], [.int ((nI i) + 1)], XM L (xU mi 24 3 1) ml) rfl ?_
  refine xB.rt (some (.int ((nI i) + 1))) (xU mi 24 3 1) ml rfl ?_
  refine ⟨_, rfl, rfl, ?_⟩
  unfold DA
  rw [g]
  exact ⟨by rw [nI_1]; rfl, fun x h1 h2 h3 h4 h5 h6 => by simp only [xU_ne h4], rfl, rfl, rfl, rfl, hcn, rfl, rfl, by show mi 18 2 = _; rw [hh]; rfl⟩
set_option maxRecDepth 100000 in
set_option maxHeartbeats 1000000 in
theorem c_doAt27 (d L : Nat) (mi : xmi) (ml : xml) {n : Nat} {K T : Nat → Nat} (hP : PRG mi n K T) (hN : NUM mi n K T) {i h cn : Nat} (hin : i < n) (hh : mi 18 2 = nI h) (h16 : h ≤ 16) (htk : tk (K i) ≤ h) (hg : h - tk (K i) + pt (K i) ≤ 16) (hcn : mi 29 4 = nI cn) (hcb : cn < 2 ^ 30) (hO3 : mi 29 3 = 0) : xF (d + 4) 17 [.ref 18, .int (nI i), .ref 27, .ref 29] L mi ml (fun rr a b => ∃ v, rr = some (.int v) ∧ b = ml ∧ DA 28 29 K T mi i h cn v a) := by
  have hk := (hP.2.2.1 i hin).2
  have hi64 : i < 64 := Nat.lt_of_lt_of_le hin hP.2.1
  refine xF.mk mX2_doAt rfl rfl ?_
  refine xB.go 3 (5, [(0, .ref 18), (1, .int (nI i)), (2, .ref 27), (3, .ref 29)], [.int (nI i), .ref 1], XM L mi ml) rfl ?_
  refine xB.c1 43 [.ref 1, .int (nI i)] [] (c_numberN _ L _ _ hP hin) rfl ?_
  refine xB.go 4 (15, [(0, .ref 18), (1, .int (nI i)), (2, .ref 27), (3, .ref 29), (4, .int (mi 3 i))], [.int (nI i), .ref 1], XM L mi ml) rfl ?_
  refine xB.c1 42 [.ref 1, .int (nI i)] [] (c_kindN _ L _ _ hP hin) rfl ?_
  by_cases h1 : (nI (K i)) = 0
  · refine xB.tp h1 ?_
    refine xB.go 1 (68, [(0, .ref 18), (1, .int (nI i)), (2, .ref 27), (3, .ref 29), (4, .int (mi 3 i))], [], XM L mi ml) rfl ?_
    have g : K i = 0 := k_eq hk (c := 0) (by decide) h1
    have gt : tk (K i) = 0 := by rw [g]; rfl
    have gp : pt (K i) = 1 := by rw [g]; rfl
    refine xB.go 2 (71, [(0, .ref 18), (1, .int (nI i)), (2, .ref 27), (3, .ref 29), (4, .int (mi 3 i))], [.int (mi 3 i), .ref 18], XM L mi ml) rfl ?_
    refine xB.c0 21 [.ref 18, .int (mi 3 i)] [] (c_put _ L _ _ (h := h) _ hh (by omega)) rfl ?_
    refine xB.go 4 (181, [(0, .ref 18), (1, .int (nI i)), (2, .ref 27), (3, .ref 29), (4, .int (mi 3 i))], [.int ((nI i) + 1)], XM L (xU (xU mi 19 h (mi 3 i)) 18 2 (nI (h + 1))) ml) rfl ?_
    refine xB.rt (some (.int ((nI i) + 1))) (xU (xU mi 19 h (mi 3 i)) 18 2 (nI (h + 1))) ml rfl ?_
    refine ⟨_, rfl, rfl, ?_⟩
    unfold DA
    rw [g]
    exact ⟨by rw [nI_1]; rfl, fun x h1 h2 h3 h4 h5 h6 => by simp only [xU_ne h1, xU_ne h2], rfl, rfl, rfl, rfl, hcn, rfl, hO3, rfl⟩
  by_cases h2 : (nI (K i)) = 1
  · refine xB.tp h2 ?_
    refine xB.go 1 (77, [(0, .ref 18), (1, .int (nI i)), (2, .ref 27), (3, .ref 29), (4, .int (mi 3 i))], [], XM L mi ml) rfl ?_
    have g : K i = 1 := k_eq hk (c := 1) (by decide) h2
    have gt : tk (K i) = 0 := by rw [g]; rfl
    have gp : pt (K i) = 1 := by rw [g]; rfl
    have hz := (hN i hin).1 (Or.inl g)
    refine xB.cg (77, [(0, .ref 18), (1, .int (nI i)), (2, .ref 27), (3, .ref 29), (4, .int (nI (T i)))], [], XM L mi ml) (by rw [hz.1]) ?_
    refine xB.go 3 (81, [(0, .ref 18), (1, .int (nI i)), (2, .ref 27), (3, .ref 29), (4, .int (nI (T i)))], [.int (nI (T i)), .ref 27, .ref 18], XM L mi ml) rfl ?_
    refine xB.c1 25 [.ref 27, .int (nI (T i))] [.ref 18] (c_mgetN27 _ L _ _ (j := T i) (by omega)) rfl ?_
    refine xB.c0 21 [.ref 18, .int (mi 28 (T i))] [] (c_put _ L _ _ (h := h) _ hh (by omega)) rfl ?_
    refine xB.go 4 (181, [(0, .ref 18), (1, .int (nI i)), (2, .ref 27), (3, .ref 29), (4, .int (nI (T i)))], [.int ((nI i) + 1)], XM L (xU (xU mi 19 h (mi 28 (T i))) 18 2 (nI (h + 1))) ml) rfl ?_
    refine xB.rt (some (.int ((nI i) + 1))) (xU (xU mi 19 h (mi 28 (T i))) 18 2 (nI (h + 1))) ml rfl ?_
    refine ⟨_, rfl, rfl, ?_⟩
    unfold DA
    rw [g]
    have e : (mi 3 i).toNatClampNeg = T i := by rw [hz.1, nI_clamp (by omega)]
    refine ⟨by rw [nI_1]; rfl, fun x h1 h2 h3 h4 h5 h6 => by simp only [xU_ne h1, xU_ne h2], ?_, rfl, rfl, rfl, hcn, rfl, hO3, rfl⟩
    show _ = va_up (mi 19) h (mi 28 (mi 3 i).toNatClampNeg)
    rw [e]; rfl
  by_cases h3 : (nI (K i)) = 2
  · refine xB.tp h3 ?_
    refine xB.go 1 (90, [(0, .ref 18), (1, .int (nI i)), (2, .ref 27), (3, .ref 29), (4, .int (mi 3 i))], [], XM L mi ml) rfl ?_
    have g : K i = 2 := k_eq hk (c := 2) (by decide) h3
    have gt : tk (K i) = 1 := by rw [g]; rfl
    have gp : pt (K i) = 0 := by rw [g]; rfl
    have hz := (hN i hin).1 (Or.inr g)
    refine xB.cg (90, [(0, .ref 18), (1, .int (nI i)), (2, .ref 27), (3, .ref 29), (4, .int (nI (T i)))], [], XM L mi ml) (by rw [hz.1]) ?_
    refine xB.go 3 (94, [(0, .ref 18), (1, .int (nI i)), (2, .ref 27), (3, .ref 29), (4, .int (nI (T i)))], [.ref 18, .int (nI (T i)), .ref 27], XM L mi ml) rfl ?_
    refine xB.c1 22 [.ref 18] [.int (nI (T i)), .ref 27] (c_take _ L _ _ (h := h) hh (by omega) (by omega)) rfl ?_
    refine xB.c0 26 [.ref 27, .int (nI (T i)), .int (mi 19 (h - 1))] [] (c_msetN27 _ L _ _ (j := T i) _ (by omega)) rfl ?_
    refine xB.go 4 (181, [(0, .ref 18), (1, .int (nI i)), (2, .ref 27), (3, .ref 29), (4, .int (nI (T i)))], [.int ((nI i) + 1)], XM L (xU (xU mi 18 2 (nI (h - 1))) 28 (T i) (mi 19 (h - 1))) ml) rfl ?_
    refine xB.rt (some (.int ((nI i) + 1))) (xU (xU mi 18 2 (nI (h - 1))) 28 (T i) (mi 19 (h - 1))) ml rfl ?_
    refine ⟨_, rfl, rfl, ?_⟩
    unfold DA
    rw [g]
    have e : (mi 3 i).toNatClampNeg = T i := by rw [hz.1, nI_clamp (by omega)]
    refine ⟨by rw [nI_1]; rfl, fun x h1 h2 h3 h4 h5 h6 => by simp only [xU_ne h1, xU_ne h3], rfl, ?_, rfl, rfl, hcn, rfl, hO3, rfl⟩
    show _ = va_up (mi 28) (mi 3 i).toNatClampNeg (mi 19 (h - 1))
    rw [e]; rfl
  by_cases h4 : (nI (K i)) = 3
  · refine xB.tp h4 ?_
    refine xB.go 1 (103, [(0, .ref 18), (1, .int (nI i)), (2, .ref 27), (3, .ref 29), (4, .int (mi 3 i))], [], XM L mi ml) rfl ?_
    have g : K i = 3 := k_eq hk (c := 3) (by decide) h4
    have gt : tk (K i) = 2 := by rw [g]; rfl
    have gp : pt (K i) = 1 := by rw [g]; rfl
    refine xB.go 2 (106, [(0, .ref 18), (1, .int (nI i)), (2, .ref 27), (3, .ref 29), (4, .int (mi 3 i))], [.int (mi 3 i), .ref 18], XM L mi ml) rfl ?_
    refine xB.ca 19 [.ref 18, .int (mi 3 i)] [] (c_dw2 _ L _ _ _ hh (by omega) h16) rfl ?_
    intro r1 a1 b1 hq
    obtain ⟨rfl, hb1, q1, q2, q3⟩ := hq
    rw [hb1]
    show xB _ _ L _ (109, [(0, .ref 18), (1, .int (nI i)), (2, .ref 27), (3, .ref 29), (4, .int (mi 3 i))], [], XM L a1 ml)
    refine xB.go 4 (181, [(0, .ref 18), (1, .int (nI i)), (2, .ref 27), (3, .ref 29), (4, .int (mi 3 i))], [.int ((nI i) + 1)], XM L a1 ml) rfl ?_
    refine xB.rt (some (.int ((nI i) + 1))) a1 ml rfl ?_
    refine ⟨_, rfl, rfl, ?_⟩
    unfold DA
    rw [g]
    refine ⟨by rw [nI_1]; rfl, fun x h1 h2 _ _ _ _ => q1 x h1 h2, ?_, q1 28 (by decide) (by decide), q1 30 (by decide) (by decide), q1 31 (by decide) (by decide), by rw [q1 29 (by decide) (by decide)]; exact hcn, by rw [q1 29 (by decide) (by decide)], by rw [q1 29 (by decide) (by decide)]; exact hO3, ?_⟩
    · rw [q2]; rfl
    · rw [q3]; show _ = nI (h - 2 + 1); rw [show h - 2 + 1 = h - 1 by omega]
  by_cases h5 : (nI (K i)) = 4
  · refine xB.tp h5 ?_
    refine xB.go 1 (112, [(0, .ref 18), (1, .int (nI i)), (2, .ref 27), (3, .ref 29), (4, .int (mi 3 i))], [], XM L mi ml) rfl ?_
    have g : K i = 4 := k_eq hk (c := 4) (by decide) h5
    have gt : tk (K i) = 0 := by rw [g]; rfl
    have gp : pt (K i) = 0 := by rw [g]; rfl
    have hz := hP.2.2.2.1 i hin (Or.inl g)
    refine xB.cg (112, [(0, .ref 18), (1, .int (nI i)), (2, .ref 27), (3, .ref 29), (4, .int (nI (T i)))], [], XM L mi ml) (by rw [hz.1]) ?_
    refine xB.go 1 (114, [(0, .ref 18), (1, .int (nI i)), (2, .ref 27), (3, .ref 29), (4, .int (nI (T i)))], [.int (nI (T i))], XM L mi ml) rfl ?_
    refine xB.rt (some (.int (nI (T i)))) mi ml rfl ?_
    refine ⟨_, rfl, rfl, ?_⟩
    unfold DA
    rw [g]
    exact ⟨rfl, fun _ _ _ _ _ _ _ => rfl, rfl, rfl, rfl, rfl, hcn, rfl, hO3, by rw [hh]; rfl⟩
  by_cases h6 : (nI (K i)) = 5
  · refine xB.tp h6 ?_
    refine xB.go 1 (115, [(0, .ref 18), (1, .int (nI i)), (2, .ref 27), (3, .ref 29), (4, .int (mi 3 i))], [], XM L mi ml) rfl ?_
    have g : K i = 5 := k_eq hk (c := 5) (by decide) h6
    have gt : tk (K i) = 1 := by rw [g]; rfl
    have gp : pt (K i) = 0 := by rw [g]; rfl
    have hz := hP.2.2.2.1 i hin (Or.inr g)
    refine xB.cg (115, [(0, .ref 18), (1, .int (nI i)), (2, .ref 27), (3, .ref 29), (4, .int (nI (T i)))], [], XM L mi ml) (by rw [hz.1]) ?_
    refine xB.go 1 (116, [(0, .ref 18), (1, .int (nI i)), (2, .ref 27), (3, .ref 29), (4, .int (nI (T i)))], [.ref 18], XM L mi ml) rfl ?_
    refine xB.c1 22 [.ref 18] [] (c_take _ L _ _ (h := h) hh (by omega) (by omega)) rfl ?_
    refine xB.bp (¬ (mi 19 (h - 1)) = 0) (127, [(0, .ref 18), (1, .int (nI i)), (2, .ref 27), (3, .ref 29), (4, .int (nI (T i)))], [], XM L (xU mi 18 2 (nI (h - 1))) ml) (122, [(0, .ref 18), (1, .int (nI i)), (2, .ref 27), (3, .ref 29), (4, .int (nI (T i)))], [], XM L (xU mi 18 2 (nI (h - 1))) ml) rfl (fun h7 => ?_) (fun h7 => ?_)
    · refine xB.go 3 (130, [(0, .ref 18), (1, .int (nI i)), (2, .ref 27), (3, .ref 29), (4, .int (nI (T i)))], [.int ((nI i) + 1)], XM L (xU mi 18 2 (nI (h - 1))) ml) rfl ?_
      refine xB.rt (some (.int ((nI i) + 1))) (xU mi 18 2 (nI (h - 1))) ml rfl ?_
      refine ⟨_, rfl, rfl, ?_⟩
      unfold DA
      rw [g]
      refine ⟨?_, fun x h1 h2 h3 h4 h5 h6 => by simp only [xU_ne h1], rfl, rfl, rfl, rfl, hcn, rfl, hO3, rfl⟩
      show _ = nI (if mi 19 (h - 1) = 0 then T i else i + 1)
      rw [if_neg h7, nI_1]
    · refine xB.go 2 (130, [(0, .ref 18), (1, .int (nI i)), (2, .ref 27), (3, .ref 29), (4, .int (nI (T i)))], [.int (nI (T i))], XM L (xU mi 18 2 (nI (h - 1))) ml) rfl ?_
      refine xB.rt (some (.int (nI (T i)))) (xU mi 18 2 (nI (h - 1))) ml rfl ?_
      refine ⟨_, rfl, rfl, ?_⟩
      unfold DA
      rw [g]
      refine ⟨?_, fun x h1 h2 h3 h4 h5 h6 => by simp only [xU_ne h1], rfl, rfl, rfl, rfl, hcn, rfl, hO3, rfl⟩
      show _ = nI (if mi 19 (h - 1) = 0 then T i else i + 1)
      rw [if_pos (Classical.not_not.mp h7)]
  by_cases h8 : (nI (K i)) = 6
  · refine xB.tp h8 ?_
    refine xB.go 1 (131, [(0, .ref 18), (1, .int (nI i)), (2, .ref 27), (3, .ref 29), (4, .int (mi 3 i))], [], XM L mi ml) rfl ?_
    have g : K i = 6 := k_eq hk (c := 6) (by decide) h8
    have gt : tk (K i) = 1 := by rw [g]; rfl
    have gp : pt (K i) = 1 := by rw [g]; rfl
    have hz := (hN i hin).2.1 (Or.inl g)
    have h7 := (and7_ix (mi 19 (h - 1))).2
    refine xB.cg (131, [(0, .ref 18), (1, .int (nI i)), (2, .ref 27), (3, .ref 29), (4, .int (nI (T i)))], [], XM L mi ml) (by rw [hz.1]) ?_
    refine xB.go 4 (136, [(0, .ref 18), (1, .int (nI i)), (2, .ref 27), (3, .ref 29), (4, .int (nI (T i)))], [.ref 18, .int (nI (T i)), .ref 27, .ref 18], XM L mi ml) rfl ?_
    refine xB.c1 22 [.ref 18] [.int (nI (T i)), .ref 27, .ref 18] (c_take _ L _ _ (h := h) hh (by omega) (by omega)) rfl ?_
    refine xB.c1 24 [.int (nI (T i)), .int (mi 19 (h - 1))] [.ref 27, .ref 18] (c_cellOf _ L (xU mi 18 2 (nI (h - 1))) ml (nI (T i)) (mi 19 (h - 1)) ) rfl ?_
    refine xB.cg (142, [(0, .ref 18), (1, .int (nI i)), (2, .ref 27), (3, .ref 29), (4, .int (nI (T i)))], [.int (nI (8 + 8 * T i + ix7 (mi 19 (h - 1)))), .ref 27, .ref 18], XM L (xU mi 18 2 (nI (h - 1))) ml) (by rw [cell_ix hz.2]) ?_
    refine xB.c1 25 [.ref 27, .int (nI (8 + 8 * T i + ix7 (mi 19 (h - 1))))] [.ref 18] (c_mgetN27 _ L _ _ (j := 8 + 8 * T i + ix7 (mi 19 (h - 1))) (by omega)) rfl ?_
    refine xB.c0 21 [.ref 18, .int ((xU mi 18 2 (nI (h - 1))) 28 (8 + 8 * T i + ix7 (mi 19 (h - 1))))] [] (c_put _ L _ _ (h := (h - 1)) _ xU_self (by omega)) rfl ?_
    refine xB.go 4 (181, [(0, .ref 18), (1, .int (nI i)), (2, .ref 27), (3, .ref 29), (4, .int (nI (T i)))], [.int ((nI i) + 1)], XM L (xU (xU (xU mi 18 2 (nI (h - 1))) 19 (h - 1) ((xU mi 18 2 (nI (h - 1))) 28 (8 + 8 * T i + ix7 (mi 19 (h - 1))))) 18 2 (nI ((h - 1) + 1))) ml) rfl ?_
    refine xB.rt (some (.int ((nI i) + 1))) (xU (xU (xU mi 18 2 (nI (h - 1))) 19 (h - 1) ((xU mi 18 2 (nI (h - 1))) 28 (8 + 8 * T i + ix7 (mi 19 (h - 1))))) 18 2 (nI ((h - 1) + 1))) ml rfl ?_
    refine ⟨_, rfl, rfl, ?_⟩
    unfold DA
    rw [g]
    have e : (mi 3 i).toNatClampNeg = T i := by rw [hz.1, nI_clamp (by omega)]
    refine ⟨by rw [nI_1]; rfl, fun x h1 h2 h3 h4 h5 h6 => by simp only [xU_ne h1, xU_ne h2], ?_, rfl, rfl, rfl, hcn, rfl, hO3, ?_⟩
    · show _ = va_up (mi 19) (h - 1) (mi 28 (8 + 8 * (mi 3 i).toNatClampNeg + ix7 (mi 19 (h - 1))))
      rw [e]; rfl
    · rfl
  by_cases h9 : (nI (K i)) = 7
  · refine xB.tp h9 ?_
    refine xB.go 1 (151, [(0, .ref 18), (1, .int (nI i)), (2, .ref 27), (3, .ref 29), (4, .int (mi 3 i))], [], XM L mi ml) rfl ?_
    have g : K i = 7 := k_eq hk (c := 7) (by decide) h9
    have gt : tk (K i) = 2 := by rw [g]; rfl
    have gp : pt (K i) = 0 := by rw [g]; rfl
    have hz := (hN i hin).2.1 (Or.inr g)
    refine xB.cg (151, [(0, .ref 18), (1, .int (nI i)), (2, .ref 27), (3, .ref 29), (4, .int (nI (T i)))], [], XM L mi ml) (by rw [hz.1]) ?_
    refine xB.go 3 (155, [(0, .ref 18), (1, .int (nI i)), (2, .ref 27), (3, .ref 29), (4, .int (nI (T i)))], [.int (nI (T i)), .ref 27, .ref 18], XM L mi ml) rfl ?_
    refine xB.ca 18 [.ref 18, .ref 27, .int (nI (T i))] [] (c_layInto27 _ L _ _ hz.2 hh (by omega) h16) rfl ?_
    intro r1 a1 b1 hq
    obtain ⟨rfl, hb1, q1, q2, q3⟩ := hq
    rw [hb1]
    show xB _ _ L _ (158, [(0, .ref 18), (1, .int (nI i)), (2, .ref 27), (3, .ref 29), (4, .int (nI (T i)))], [], XM L a1 ml)
    refine xB.go 4 (181, [(0, .ref 18), (1, .int (nI i)), (2, .ref 27), (3, .ref 29), (4, .int (nI (T i)))], [.int ((nI i) + 1)], XM L a1 ml) rfl ?_
    refine xB.rt (some (.int ((nI i) + 1))) a1 ml rfl ?_
    refine ⟨_, rfl, rfl, ?_⟩
    unfold DA
    rw [g]
    have e : (mi 3 i).toNatClampNeg = T i := by rw [hz.1, nI_clamp (by omega)]
    refine ⟨by rw [nI_1]; rfl, fun x h1 _ h3 _ _ _ => q1 x h1 h3, q1 19 (by decide) (by decide), ?_, q1 30 (by decide) (by decide), q1 31 (by decide) (by decide), by rw [q1 29 (by decide) (by decide)]; exact hcn, by rw [q1 29 (by decide) (by decide)], by rw [q1 29 (by decide) (by decide)]; exact hO3, ?_⟩
    · rw [q2]; show _ = va_up (mi 28) (8 + 8 * (mi 3 i).toNatClampNeg + ix7 (mi 19 (h - 2))) (mi 19 (h - 1)); rw [e]; rfl
    · rw [q3]; rfl
  by_cases h10 : (nI (K i)) = 8
  · refine xB.tp h10 ?_
    refine xB.go 1 (161, [(0, .ref 18), (1, .int (nI i)), (2, .ref 27), (3, .ref 29), (4, .int (mi 3 i))], [], XM L mi ml) rfl ?_
    have g : K i = 8 := k_eq hk (c := 8) (by decide) h10
    have gt : tk (K i) = 1 := by rw [g]; rfl
    have gp : pt (K i) = 0 := by rw [g]; rfl
    refine xB.go 3 (165, [(0, .ref 18), (1, .int (nI i)), (2, .ref 27), (3, .ref 29), (4, .int (mi 3 i))], [.ref 18, .int (mi 3 i), .ref 29], XM L mi ml) rfl ?_
    refine xB.c1 22 [.ref 18] [.int (mi 3 i), .ref 29] (c_take _ L _ _ (h := h) hh (by omega) (by omega)) rfl ?_
    refine xB.c0 36 [.ref 29, .int (mi 3 i), .int (mi 19 (h - 1))] [] (c_oadd29 _ L _ _ (n := cn) _ _ hcn (by omega)) rfl ?_
    refine xB.go 4 (181, [(0, .ref 18), (1, .int (nI i)), (2, .ref 27), (3, .ref 29), (4, .int (mi 3 i))], [.int ((nI i) + 1)], XM L (if ¬ 64 ≤ (xU mi 18 2 (nI (h - 1))) 29 4 then xU (xU (xU (xU mi 18 2 (nI (h - 1))) 30 ((xU mi 18 2 (nI (h - 1))) 29 4).toNatClampNeg (mi 3 i)) 31 ((xU mi 18 2 (nI (h - 1))) 29 4).toNatClampNeg (mi 19 (h - 1))) 29 4 ((xU mi 18 2 (nI (h - 1))) 29 4 + 1) else xU (xU mi 18 2 (nI (h - 1))) 29 4 ((xU mi 18 2 (nI (h - 1))) 29 4 + 1)) ml) rfl ?_
    refine xB.rt (some (.int ((nI i) + 1))) (if ¬ 64 ≤ (xU mi 18 2 (nI (h - 1))) 29 4 then xU (xU (xU (xU mi 18 2 (nI (h - 1))) 30 ((xU mi 18 2 (nI (h - 1))) 29 4).toNatClampNeg (mi 3 i)) 31 ((xU mi 18 2 (nI (h - 1))) 29 4).toNatClampNeg (mi 19 (h - 1))) 29 4 ((xU mi 18 2 (nI (h - 1))) 29 4 + 1) else xU (xU mi 18 2 (nI (h - 1))) 29 4 ((xU mi 18 2 (nI (h - 1))) 29 4 + 1)) ml rfl ?_
    refine ⟨_, rfl, rfl, ?_⟩
    unfold DA
    rw [g]
    have hcn2 : (xU mi 18 2 (nI (h - 1))) 29 4 = nI cn := hcn
    by_cases hc : cn < 64
    · rw [if_pos ((oadd_lt hcn2 hcb).mpr hc), hcn2, nI_clamp (by omega)]
      have es : stA 8 (mi 3 i) h (mi 19, mi 28, mi (29 + 1), mi (29 + 2), cn) = (mi 19, mi 28, va_up (mi 30) cn (mi 3 i), va_up (mi 31) cn (mi 19 (h - 1)), cn + 1) := if_pos hc
      rw [es, nI_1, nI_1]
      exact ⟨rfl, fun x h1 h2 h3 h4 h5 h6 => by simp only [xU_ne h1, xU_ne h4, xU_ne h5, xU_ne h6], rfl, rfl, rfl, rfl, rfl, rfl, hO3, rfl⟩
    · rw [if_neg (fun z => hc ((oadd_lt hcn2 hcb).mp z)), hcn2]
      have es : stA 8 (mi 3 i) h (mi 19, mi 28, mi (29 + 1), mi (29 + 2), cn) = (mi 19, mi 28, mi 30, mi 31, cn + 1) := if_neg hc
      rw [es, nI_1, nI_1]
      exact ⟨rfl, fun x h1 h2 h3 h4 h5 h6 => by simp only [xU_ne h1, xU_ne h4], rfl, rfl, rfl, rfl, rfl, rfl, hO3, rfl⟩
  refine xB.st (174, [(0, .ref 18), (1, .int (nI i)), (2, .ref 27), (3, .ref 29), (4, .int (mi 3 i))], [], XM L mi ml) (xsw_d (mt := mX2_doAt) rfl (xsw_ne 9 (by decide) (fun k hk => by rcases (show k = 0 ∨ k = 1 ∨ k = 2 ∨ k = 3 ∨ k = 4 ∨ k = 5 ∨ k = 6 ∨ k = 7 ∨ k = 8 by omega) with rfl | rfl | rfl | rfl | rfl | rfl | rfl | rfl | rfl; exact h1; exact h2; exact h3; exact h4; exact h5; exact h6; exact h8; exact h9; exact h10)) rfl) ?_
  have g : K i = 9 := by
    have e0 := k_ne (c := 0) h1
    have e1 := k_ne (c := 1) h2
    have e2 := k_ne (c := 2) h3
    have e3 := k_ne (c := 3) h4
    have e4 := k_ne (c := 4) h5
    have e5 := k_ne (c := 5) h6
    have e6 := k_ne (c := 6) h8
    have e7 := k_ne (c := 7) h9
    have e8 := k_ne (c := 8) h10
    omega
  have gt : tk (K i) = 0 := by rw [g]; rfl
  have gp : pt (K i) = 0 := by rw [g]; rfl
  refine xB.go 1 (175, [(0, .ref 18), (1, .int (nI i)), (2, .ref 27), (3, .ref 29), (4, .int (mi 3 i))], [.ref 29], XM L mi ml) rfl ?_
  refine xB.c0 35 [.ref 29] [] (c_halt29 _ L mi ml  ) rfl ?_
  refine xB.go 3 (181, [(0, .ref 18), (1, .int (nI i)), (2, .ref 27), (3, .ref 29), (4, .int (mi 3 i))], [.int ((nI i) + 1)], XM L (xU mi 29 3 1) ml) rfl ?_
  refine xB.rt (some (.int ((nI i) + 1))) (xU mi 29 3 1) ml rfl ?_
  refine ⟨_, rfl, rfl, ?_⟩
  unfold DA
  rw [g]
  exact ⟨by rw [nI_1]; rfl, fun x h1 h2 h3 h4 h5 h6 => by simp only [xU_ne h4], rfl, rfl, rfl, rfl, hcn, rfl, rfl, by show mi 18 2 = _; rw [hh]; rfl⟩
end
section
/-! Machine.work, run -/
theorem lt_cl {x : Int32} {k : Nat} (hk : k < 2 ^ 31) : nI k < x ↔ k < x.toNatClampNeg := by
  rw [Int32.lt_iff_toInt_lt, nI_toInt hk]
  unfold Int32.toNatClampNeg
  omega
theorem nxA_Fo {K T : Nat → Nat} {i h : Nat} {s : RS} (h9 : K i ≠ 9) : Fo K T i (nxA (K i) (T i) i h s) := by
  refine ⟨h9, ?_⟩
  unfold nxA
  by_cases h4 : K i = 4
  · left; rw [if_pos h4, if_pos h4]
  · by_cases h5 : K i = 5
    · rw [if_neg h4, if_neg h4, if_pos h5]
      split
      · exact Or.inr ⟨h5, rfl⟩
      · exact Or.inl rfl
    · left; rw [if_neg h4, if_neg h4, if_neg h5]
theorem stA_cn (k : Nat) (z : Int32) (h : Nat) (s : RS) : (stA k z h s).2.2.2.2 ≤ s.2.2.2.2 + 1 := by
  unfold stA
  repeat' split
  all_goals first | exact Nat.le_succ _ | exact Nat.le_refl _
def WK (M O : Nat) (mi : xmi) (s : RS) (hl : Bool) (c : Nat) (a : xmi) : Prop := (∀ x, x ≠ 18 → x ≠ 19 → x ≠ M → x ≠ O → x ≠ O + 1 → x ≠ O + 2 → a x = mi x) ∧ a 19 = s.1 ∧ a M = s.2.1 ∧ a (O + 1) = s.2.2.1 ∧ a (O + 2) = s.2.2.2.1 ∧ a O 4 = nI s.2.2.2.2 ∧ s.2.2.2.2 ≤ c ∧ a O 2 = 1 ∧ a O 3 = (bif hl then 1 else 0)
theorem WK.le {M O : Nat} {mi a : xmi} {s : RS} {hl : Bool} {c c' : Nat} (h : WK M O mi s hl c a) (hc : c ≤ c') : WK M O mi s hl c' a := ⟨h.1, h.2.1, h.2.2.1, h.2.2.2.1, h.2.2.2.2.1, h.2.2.2.2.2.1, Nat.le_trans h.2.2.2.2.2.2.1 hc, h.2.2.2.2.2.2.2⟩
def fuel (x : Int32) : Nat := (if x ≤ 10000 then x else 10000).toNatClampNeg
theorem fuel_le (x : Int32) : fuel x ≤ 10000 := by
  unfold fuel
  split
  · rename_i h
    rw [Int32.le_iff_toInt_le, show (10000 : Int32).toInt = 10000 from by decide +kernel] at h
    unfold Int32.toNatClampNeg; omega
  · decide +kernel
theorem CI.frame {n : Nat} {K T : Nat → Nat} {vL aL cL : Nat → Nat → Bool} {mi a : xmi} {ml b : xml} (h : CI n K T vL aL cL mi ml) (ha : ∀ x, x < 18 ∨ 1000 ≤ x → a x = mi x) (hb : ∀ x, x < 18 → b x = ml x) : CI n K T vL aL cL a b := by
  obtain ⟨h1, h2, h3, h4, h5, h6, h7⟩ := h
  have e0 := ha 0 (by decide); have e8 := ha 8 (by decide)
  refine ⟨h1.frame (ha 1 (by decide)) (ha 2 (by decide)) (ha 3 (by decide)) (ha 1002 (by decide)) (ha 1003 (by decide)), h2.frame (ha 3 (by decide)), h3.frame (ha 5 (by decide)) (ha 6 (by decide)) (ha 7 (by decide)), by rw [e0]; exact h4, by rw [e0]; exact h5, fun z => ?_, fun z z2 z3 => ?_⟩
  · rw [e0] at z
    obtain ⟨g1, g2⟩ := h6 z
    exact ⟨g1.frame e8 (ha 9 (by decide)) (hb 8 (by decide)), fun y => by rw [e8] at y; exact (g2 y).frame (ha 14 (by decide)) (hb 15 (by decide))⟩
  · rw [e0] at z z2; rw [e8] at z3
    exact (h7 z z2 z3).frame (hb 16 (by decide)) (hb 17 (by decide))
set_option maxRecDepth 100000 in
set_option maxHeartbeats 1000000 in
theorem work_h0 (d L : Nat) (mi : xmi) (ml : xml) {dn c : Nat} {s : RS} {a : xmi} (x pl : Int32) (hk : WK 23 24 mi s true c a) : xB (d + 4) mX2_work L (fun rr a b => b = ml ∧ rr = some (.int (nI (dn))) ∧ WK 23 24 mi s (true) c a) (15, [(0, .ref 18), (1, .ref 22), (2, .ref 24), (3, .int x), (4, .int pl), (5, .int (nI dn))], [], XM L a ml) := by
  refine xB.go 2 (18, [(0, .ref 18), (1, .ref 22), (2, .ref 24), (3, .int x), (4, .int pl), (5, .int (nI dn))], [.int x, .int (nI dn)], XM L a ml) rfl ?_
  refine xB.bp (x ≤ (nI dn)) (44, [(0, .ref 18), (1, .ref 22), (2, .ref 24), (3, .int x), (4, .int pl), (5, .int (nI dn))], [], XM L a ml) (21, [(0, .ref 18), (1, .ref 22), (2, .ref 24), (3, .int x), (4, .int pl), (5, .int (nI dn))], [], XM L a ml) rfl (fun h1 => ?_) (fun h1 => ?_)
  · refine xB.go 1 (46, [(0, .ref 18), (1, .ref 22), (2, .ref 24), (3, .int x), (4, .int pl), (5, .int (nI dn))], [.int (nI dn)], XM L a ml) rfl ?_
    refine xB.rt (some (.int (nI dn))) a ml rfl ?_
    exact ⟨rfl, rfl, hk⟩
  · refine xB.go 1 (22, [(0, .ref 18), (1, .ref 22), (2, .ref 24), (3, .int x), (4, .int pl), (5, .int (nI dn))], [.ref 24], XM L a ml) rfl ?_
    refine xB.c1 29 [.ref 24] [] (c_isHalted24 _ L _ _ (by rw [hk.2.2.2.2.2.2.2.2]; rfl)) rfl ?_
    refine xB.bp (¬ (a 24 3) = 0) (44, [(0, .ref 18), (1, .ref 22), (2, .ref 24), (3, .int x), (4, .int pl), (5, .int (nI dn))], [], XM L a ml) (28, [(0, .ref 18), (1, .ref 22), (2, .ref 24), (3, .int x), (4, .int pl), (5, .int (nI dn))], [], XM L a ml) rfl (fun h2 => ?_) (fun h2 => ?_)
    · refine xB.go 1 (46, [(0, .ref 18), (1, .ref 22), (2, .ref 24), (3, .int x), (4, .int pl), (5, .int (nI dn))], [.int (nI dn)], XM L a ml) rfl ?_
      refine xB.rt (some (.int (nI dn))) a ml rfl ?_
      exact ⟨rfl, rfl, hk⟩
    · rw [hk.2.2.2.2.2.2.2.2] at h2; exact absurd (by decide) h2
set_option maxRecDepth 100000 in
set_option maxHeartbeats 1000000 in
theorem work_z0 (d L : Nat) (mi : xmi) (ml : xml) {dn c : Nat} {s : RS} {a : xmi} (x pl : Int32) (hge : x.toNatClampNeg ≤ dn) (hd : dn < 2 ^ 31) (hk : WK 23 24 mi s false c a) : xB (d + 4) mX2_work L (fun rr a b => b = ml ∧ rr = some (.int (nI (dn))) ∧ WK 23 24 mi s (false) c a) (15, [(0, .ref 18), (1, .ref 22), (2, .ref 24), (3, .int x), (4, .int pl), (5, .int (nI dn))], [], XM L a ml) := by
  refine xB.go 2 (18, [(0, .ref 18), (1, .ref 22), (2, .ref 24), (3, .int x), (4, .int pl), (5, .int (nI dn))], [.int x, .int (nI dn)], XM L a ml) rfl ?_
  refine xB.bp (x ≤ (nI dn)) (44, [(0, .ref 18), (1, .ref 22), (2, .ref 24), (3, .int x), (4, .int pl), (5, .int (nI dn))], [], XM L a ml) (21, [(0, .ref 18), (1, .ref 22), (2, .ref 24), (3, .int x), (4, .int pl), (5, .int (nI dn))], [], XM L a ml) rfl (fun h1 => ?_) (fun h1 => ?_)
  · refine xB.go 1 (46, [(0, .ref 18), (1, .ref 22), (2, .ref 24), (3, .int x), (4, .int pl), (5, .int (nI dn))], [.int (nI dn)], XM L a ml) rfl ?_
    refine xB.rt (some (.int (nI dn))) a ml rfl ?_
    exact ⟨rfl, rfl, hk⟩
  · exact absurd ((lt_cl hd).mp (i_nle.mp h1)) (by omega)
set_option maxRecDepth 100000 in
set_option maxHeartbeats 1000000 in
theorem work_15_0 (d L : Nat) (mi : xmi) (ml : xml) {n : Nat} {K T : Nat → Nat} (hP : PRG mi n K T) (hN : NUM mi n K T) (hw : WF n K T) (x : Int32) (hx : x.toNatClampNeg ≤ 10000) : ∀ (f dn i h : Nat) (s : RS) (a : xmi), dn + f = x.toNatClampNeg → Rh n K T i h → WK 23 24 mi s false dn a → a 18 2 = nI h → xB (d + 4) mX2_work L (fun rr a b => b = ml ∧ rr = some (.int (nI (dn + (runA K T (mi 3) f i h s).1))) ∧ WK 23 24 mi (runA K T (mi 3) f i h s).2.1 ((runA K T (mi 3) f i h s).2.2) 10000 a) (15, [(0, .ref 18), (1, .ref 22), (2, .ref 24), (3, .int x), (4, .int (nI i)), (5, .int (nI dn))], [], XM L a ml) := by
  intro f
  induction f with
  | zero =>
    intro dn i h s a hdn hr hk hh
    have hin := (hw.1 i h hr).1
    have hge : x.toNatClampNeg ≤ dn := by omega
    refine xR.po (work_z0 d L mi ml x (nI i) hge (by omega) (hk.le (show dn ≤ 10000 by omega))) (fun r M q => q)
  | succ f ih =>
    intro dn i h s a hdn hr hk hh
    have hin := (hw.1 i h hr).1
    have hk7 := hk.2.2.2.2.2.2.1
    have hPa : PRG a n K T := hP.frame (hk.1 1 (by decide) (by decide) (by decide) (by decide) (by decide) (by decide)) (hk.1 2 (by decide) (by decide) (by decide) (by decide) (by decide) (by decide)) (hk.1 3 (by decide) (by decide) (by decide) (by decide) (by decide) (by decide)) (hk.1 1002 (by decide) (by decide) (by decide) (by decide) (by decide) (by decide)) (hk.1 1003 (by decide) (by decide) (by decide) (by decide) (by decide) (by decide))
    have hNa : NUM a n K T := hN.frame (hk.1 3 (by decide) (by decide) (by decide) (by decide) (by decide) (by decide))
    refine xB.go 2 (18, [(0, .ref 18), (1, .ref 22), (2, .ref 24), (3, .int x), (4, .int (nI i)), (5, .int (nI dn))], [.int x, .int (nI dn)], XM L a ml) rfl ?_
    refine xB.bp (x ≤ (nI dn)) (44, [(0, .ref 18), (1, .ref 22), (2, .ref 24), (3, .int x), (4, .int (nI i)), (5, .int (nI dn))], [], XM L a ml) (21, [(0, .ref 18), (1, .ref 22), (2, .ref 24), (3, .int x), (4, .int (nI i)), (5, .int (nI dn))], [], XM L a ml) rfl (fun h1 => ?_) (fun h1 => ?_)
    · refine xB.go 1 (46, [(0, .ref 18), (1, .ref 22), (2, .ref 24), (3, .int x), (4, .int (nI i)), (5, .int (nI dn))], [.int (nI dn)], XM L a ml) rfl ?_
      refine xB.rt (some (.int (nI dn))) a ml rfl ?_
      have hge : ¬ dn < x.toNatClampNeg := fun z => absurd ((lt_cl (by omega)).mpr z) (i_nlt.mpr h1)
      exfalso; omega
    · refine xB.go 1 (22, [(0, .ref 18), (1, .ref 22), (2, .ref 24), (3, .int x), (4, .int (nI i)), (5, .int (nI dn))], [.ref 24], XM L a ml) rfl ?_
      refine xB.c1 29 [.ref 24] [] (c_isHalted24 _ L _ _ (by rw [hk.2.2.2.2.2.2.2.2]; rfl)) rfl ?_
      refine xB.bp (¬ (a 24 3) = 0) (44, [(0, .ref 18), (1, .ref 22), (2, .ref 24), (3, .int x), (4, .int (nI i)), (5, .int (nI dn))], [], XM L a ml) (28, [(0, .ref 18), (1, .ref 22), (2, .ref 24), (3, .int x), (4, .int (nI i)), (5, .int (nI dn))], [], XM L a ml) rfl (fun h2 => ?_) (fun h2 => ?_)
      · refine xB.go 1 (46, [(0, .ref 18), (1, .ref 22), (2, .ref 24), (3, .int x), (4, .int (nI i)), (5, .int (nI dn))], [.int (nI dn)], XM L a ml) rfl ?_
        refine xB.rt (some (.int (nI dn))) a ml rfl ?_
        exact absurd hk.2.2.2.2.2.2.2.2 h2
      · refine xB.go 4 (33, [(0, .ref 18), (1, .ref 22), (2, .ref 24), (3, .int x), (4, .int (nI i)), (5, .int (nI dn))], [.ref 24, .ref 22, .int (nI i), .ref 18], XM L a ml) rfl ?_
        refine xB.ca 17 [.ref 18, .int (nI i), .ref 22, .ref 24] [] (c_doAt22 _ L _ _ hPa hNa hin hh hr.le16 (hw.1 i h hr).2.1 (hw.1 i h hr).2.2 hk.2.2.2.2.2.1 (by omega) hk.2.2.2.2.2.2.2.2) rfl ?_
        intro r1 a1 b1 hq
        obtain ⟨v1, rfl, hb1, hD⟩ := hq
        rw [hb1]
        show xB _ _ L _ (36, [(0, .ref 18), (1, .ref 22), (2, .ref 24), (3, .int x), (4, .int (nI i)), (5, .int (nI dn))], [.int v1], XM L a1 ml)
        refine xB.go 3 (15, [(0, .ref 18), (1, .ref 22), (2, .ref 24), (3, .int x), (4, .int v1), (5, .int ((nI dn) + 1))], [], XM L a1 ml) rfl ?_
        have hlt : dn < x.toNatClampNeg := (lt_cl (by omega)).mp (i_nle.mp h1)
        obtain ⟨k1, k2, k3, k4, k5, k6, k7, k8, k9⟩ := hk
        obtain ⟨p, m, c, o, cn⟩ := s
        obtain ⟨d1, d2, d3, d4, d5, d6, d7, d8, d9, d10⟩ := hD
        rw [k2, k3, k4, k5, k1 3 (by decide) (by decide) (by decide) (by decide) (by decide) (by decide)] at d3 d4 d5 d6 d7
        rw [k2, k3, k4, k5] at d1
        have hcn := stA_cn (K i) (mi 3 i) h (p, m, c, o, cn)
        have k7 : cn ≤ dn := k7
        have hcn : (stA (K i) (mi 3 i) h (p, m, c, o, cn)).2.2.2.2 ≤ cn + 1 := hcn
        have hfr : ∀ x, x ≠ 18 → x ≠ 19 → x ≠ 23 → x ≠ 24 → x ≠ 24 + 1 → x ≠ 24 + 2 → a1 x = mi x := fun x h1 h2 h3 h4 h5 h6 => by rw [d2 x h1 h2 h3 h4 h5 h6, k1 x h1 h2 h3 h4 h5 h6]
        rw [nI_1]
        by_cases h9 : K i = 9
        · have e : runA K T (mi 3) (f + 1) i h (p, m, c, o, cn) = (1, (p, m, c, o, cn), true) := if_pos h9
          have es : stA (K i) (mi 3 i) h (p, m, c, o, cn) = (p, m, c, o, cn) := by rw [h9]; rfl
          rw [es] at d3 d4 d5 d6 d7
          rw [if_pos h9] at d9
          rw [e]
          exact work_h0 d L mi ml x v1 ⟨hfr, d3, d4, d5, d6, d7, by show cn ≤ 10000; omega, by rw [d8]; exact k8, d9⟩
        · have e : runA K T (mi 3) (f + 1) i h (p, m, c, o, cn) = ((runA K T (mi 3) f (nxA (K i) (T i) i h (p, m, c, o, cn)) (h - tk (K i) + pt (K i)) (stA (K i) (mi 3 i) h (p, m, c, o, cn))).1 + 1, (runA K T (mi 3) f (nxA (K i) (T i) i h (p, m, c, o, cn)) (h - tk (K i) + pt (K i)) (stA (K i) (mi 3 i) h (p, m, c, o, cn))).2) := if_neg h9
          rw [e, d1, if_neg h9]
          rw [if_neg h9] at d9
          show xB (d + 4) mX2_work L (fun rr a b => b = ml ∧ rr = some (.int (nI (dn + ((runA K T (mi 3) f _ _ _).1 + 1)))) ∧ _) _
          rw [show ∀ z, dn + (z + 1) = dn + 1 + z from fun z => by omega]
          exact ih (dn + 1) _ _ _ a1 (by omega) (hr.next hin (hw.1 i h hr).2.1 (hw.1 i h hr).2.2 (nxA_Fo h9)) ⟨hfr, d3, d4, d5, d6, d7, by omega, by rw [d8]; exact k8, d9⟩ d10
set_option maxRecDepth 100000 in
set_option maxHeartbeats 1000000 in
theorem c_work0 (d L : Nat) (mi : xmi) (ml : xml) {n : Nat} {K T : Nat → Nat} (hP : PRG mi n K T) (hN : NUM mi n K T) (hw : WF n K T) (x : Int32) (hx : x.toNatClampNeg ≤ 10000) : xF (d + 5) 16 [.ref 18, .ref 22, .ref 24, .int x] L mi ml (fun rr a b => b = ml ∧ rr = some (.int (nI ((runA K T (mi 3) x.toNatClampNeg 0 0 (mi 19, mi 23, mi 25, mi 26, 0)).1))) ∧ WK 23 24 mi (runA K T (mi 3) x.toNatClampNeg 0 0 (mi 19, mi 23, mi 25, mi 26, 0)).2.1 ((runA K T (mi 3) x.toNatClampNeg 0 0 (mi 19, mi 23, mi 25, mi 26, 0)).2.2) 10000 a) := by
  refine xF.mk mX2_work rfl rfl ?_
  refine xB.go 1 (1, [(0, .ref 18), (1, .ref 22), (2, .ref 24), (3, .int x)], [.ref 24], XM L mi ml) rfl ?_
  refine xB.c0 34 [.ref 24] [] (c_begin24 _ L mi ml  ) rfl ?_
  refine xB.go 7 (15, [(0, .ref 18), (1, .ref 22), (2, .ref 24), (3, .int x), (4, .int 0), (5, .int 0)], [], XM L (xU (xU (xU (xU mi 24 2 1) 24 3 0) 24 4 0) 18 2 0) ml) rfl ?_
  have hx := work_15_0 d L mi ml hP hN hw x hx (x.toNatClampNeg) 0 0 0 (mi 19, mi 23, mi 25, mi 26, 0) (xU (xU (xU (xU mi 24 2 1) 24 3 0) 24 4 0) 18 2 0) (by omega) Rh.zero ⟨fun y h1 h2 h3 h4 h5 h6 => by simp only [xU_ne h1, xU_ne h4], rfl, rfl, rfl, rfl, rfl, Nat.le_refl _, rfl, rfl⟩ rfl
  rw [Nat.zero_add] at hx
  exact hx
set_option maxRecDepth 100000 in
set_option maxHeartbeats 1000000 in
theorem work_h1 (d L : Nat) (mi : xmi) (ml : xml) {dn c : Nat} {s : RS} {a : xmi} (x pl : Int32) (hk : WK 28 29 mi s true c a) : xB (d + 4) mX2_work L (fun rr a b => b = ml ∧ rr = some (.int (nI (dn))) ∧ WK 28 29 mi s (true) c a) (15, [(0, .ref 18), (1, .ref 27), (2, .ref 29), (3, .int x), (4, .int pl), (5, .int (nI dn))], [], XM L a ml) := by
  refine xB.go 2 (18, [(0, .ref 18), (1, .ref 27), (2, .ref 29), (3, .int x), (4, .int pl), (5, .int (nI dn))], [.int x, .int (nI dn)], XM L a ml) rfl ?_
  refine xB.bp (x ≤ (nI dn)) (44, [(0, .ref 18), (1, .ref 27), (2, .ref 29), (3, .int x), (4, .int pl), (5, .int (nI dn))], [], XM L a ml) (21, [(0, .ref 18), (1, .ref 27), (2, .ref 29), (3, .int x), (4, .int pl), (5, .int (nI dn))], [], XM L a ml) rfl (fun h1 => ?_) (fun h1 => ?_)
  · refine xB.go 1 (46, [(0, .ref 18), (1, .ref 27), (2, .ref 29), (3, .int x), (4, .int pl), (5, .int (nI dn))], [.int (nI dn)], XM L a ml) rfl ?_
    refine xB.rt (some (.int (nI dn))) a ml rfl ?_
    exact ⟨rfl, rfl, hk⟩
  · refine xB.go 1 (22, [(0, .ref 18), (1, .ref 27), (2, .ref 29), (3, .int x), (4, .int pl), (5, .int (nI dn))], [.ref 29], XM L a ml) rfl ?_
    refine xB.c1 29 [.ref 29] [] (c_isHalted29 _ L _ _ (by rw [hk.2.2.2.2.2.2.2.2]; rfl)) rfl ?_
    refine xB.bp (¬ (a 29 3) = 0) (44, [(0, .ref 18), (1, .ref 27), (2, .ref 29), (3, .int x), (4, .int pl), (5, .int (nI dn))], [], XM L a ml) (28, [(0, .ref 18), (1, .ref 27), (2, .ref 29), (3, .int x), (4, .int pl), (5, .int (nI dn))], [], XM L a ml) rfl (fun h2 => ?_) (fun h2 => ?_)
    · refine xB.go 1 (46, [(0, .ref 18), (1, .ref 27), (2, .ref 29), (3, .int x), (4, .int pl), (5, .int (nI dn))], [.int (nI dn)], XM L a ml) rfl ?_
      refine xB.rt (some (.int (nI dn))) a ml rfl ?_
      exact ⟨rfl, rfl, hk⟩
    · rw [hk.2.2.2.2.2.2.2.2] at h2; exact absurd (by decide) h2
set_option maxRecDepth 100000 in
set_option maxHeartbeats 1000000 in
theorem work_z1 (d L : Nat) (mi : xmi) (ml : xml) {dn c : Nat} {s : RS} {a : xmi} (x pl : Int32) (hge : x.toNatClampNeg ≤ dn) (hd : dn < 2 ^ 31) (hk : WK 28 29 mi s false c a) : xB (d + 4) mX2_work L (fun rr a b => b = ml ∧ rr = some (.int (nI (dn))) ∧ WK 28 29 mi s (false) c a) (15, [(0, .ref 18), (1, .ref 27), (2, .ref 29), (3, .int x), (4, .int pl), (5, .int (nI dn))], [], XM L a ml) := by
  refine xB.go 2 (18, [(0, .ref 18), (1, .ref 27), (2, .ref 29), (3, .int x), (4, .int pl), (5, .int (nI dn))], [.int x, .int (nI dn)], XM L a ml) rfl ?_
  refine xB.bp (x ≤ (nI dn)) (44, [(0, .ref 18), (1, .ref 27), (2, .ref 29), (3, .int x), (4, .int pl), (5, .int (nI dn))], [], XM L a ml) (21, [(0, .ref 18), (1, .ref 27), (2, .ref 29), (3, .int x), (4, .int pl), (5, .int (nI dn))], [], XM L a ml) rfl (fun h1 => ?_) (fun h1 => ?_)
  · refine xB.go 1 (46, [(0, .ref 18), (1, .ref 27), (2, .ref 29), (3, .int x), (4, .int pl), (5, .int (nI dn))], [.int (nI dn)], XM L a ml) rfl ?_
    refine xB.rt (some (.int (nI dn))) a ml rfl ?_
    exact ⟨rfl, rfl, hk⟩
  · exact absurd ((lt_cl hd).mp (i_nle.mp h1)) (by omega)
set_option maxRecDepth 100000 in
set_option maxHeartbeats 1000000 in
theorem work_15_1 (d L : Nat) (mi : xmi) (ml : xml) {n : Nat} {K T : Nat → Nat} (hP : PRG mi n K T) (hN : NUM mi n K T) (hw : WF n K T) (x : Int32) (hx : x.toNatClampNeg ≤ 10000) : ∀ (f dn i h : Nat) (s : RS) (a : xmi), dn + f = x.toNatClampNeg → Rh n K T i h → WK 28 29 mi s false dn a → a 18 2 = nI h → xB (d + 4) mX2_work L (fun rr a b => b = ml ∧ rr = some (.int (nI (dn + (runA K T (mi 3) f i h s).1))) ∧ WK 28 29 mi (runA K T (mi 3) f i h s).2.1 ((runA K T (mi 3) f i h s).2.2) 10000 a) (15, [(0, .ref 18), (1, .ref 27), (2, .ref 29), (3, .int x), (4, .int (nI i)), (5, .int (nI dn))], [], XM L a ml) := by
  intro f
  induction f with
  | zero =>
    intro dn i h s a hdn hr hk hh
    have hin := (hw.1 i h hr).1
    have hge : x.toNatClampNeg ≤ dn := by omega
    refine xR.po (work_z1 d L mi ml x (nI i) hge (by omega) (hk.le (show dn ≤ 10000 by omega))) (fun r M q => q)
  | succ f ih =>
    intro dn i h s a hdn hr hk hh
    have hin := (hw.1 i h hr).1
    have hk7 := hk.2.2.2.2.2.2.1
    have hPa : PRG a n K T := hP.frame (hk.1 1 (by decide) (by decide) (by decide) (by decide) (by decide) (by decide)) (hk.1 2 (by decide) (by decide) (by decide) (by decide) (by decide) (by decide)) (hk.1 3 (by decide) (by decide) (by decide) (by decide) (by decide) (by decide)) (hk.1 1002 (by decide) (by decide) (by decide) (by decide) (by decide) (by decide)) (hk.1 1003 (by decide) (by decide) (by decide) (by decide) (by decide) (by decide))
    have hNa : NUM a n K T := hN.frame (hk.1 3 (by decide) (by decide) (by decide) (by decide) (by decide) (by decide))
    refine xB.go 2 (18, [(0, .ref 18), (1, .ref 27), (2, .ref 29), (3, .int x), (4, .int (nI i)), (5, .int (nI dn))], [.int x, .int (nI dn)], XM L a ml) rfl ?_
    refine xB.bp (x ≤ (nI dn)) (44, [(0, .ref 18), (1, .ref 27), (2, .ref 29), (3, .int x), (4, .int (nI i)), (5, .int (nI dn))], [], XM L a ml) (21, [(0, .ref 18), (1, .ref 27), (2, .ref 29), (3, .int x), (4, .int (nI i)), (5, .int (nI dn))], [], XM L a ml) rfl (fun h1 => ?_) (fun h1 => ?_)
    · refine xB.go 1 (46, [(0, .ref 18), (1, .ref 27), (2, .ref 29), (3, .int x), (4, .int (nI i)), (5, .int (nI dn))], [.int (nI dn)], XM L a ml) rfl ?_
      refine xB.rt (some (.int (nI dn))) a ml rfl ?_
      have hge : ¬ dn < x.toNatClampNeg := fun z => absurd ((lt_cl (by omega)).mpr z) (i_nlt.mpr h1)
      exfalso; omega
    · refine xB.go 1 (22, [(0, .ref 18), (1, .ref 27), (2, .ref 29), (3, .int x), (4, .int (nI i)), (5, .int (nI dn))], [.ref 29], XM L a ml) rfl ?_
      refine xB.c1 29 [.ref 29] [] (c_isHalted29 _ L _ _ (by rw [hk.2.2.2.2.2.2.2.2]; rfl)) rfl ?_
      refine xB.bp (¬ (a 29 3) = 0) (44, [(0, .ref 18), (1, .ref 27), (2, .ref 29), (3, .int x), (4, .int (nI i)), (5, .int (nI dn))], [], XM L a ml) (28, [(0, .ref 18), (1, .ref 27), (2, .ref 29), (3, .int x), (4, .int (nI i)), (5, .int (nI dn))], [], XM L a ml) rfl (fun h2 => ?_) (fun h2 => ?_)
      · refine xB.go 1 (46, [(0, .ref 18), (1, .ref 27), (2, .ref 29), (3, .int x), (4, .int (nI i)), (5, .int (nI dn))], [.int (nI dn)], XM L a ml) rfl ?_
        refine xB.rt (some (.int (nI dn))) a ml rfl ?_
        exact absurd hk.2.2.2.2.2.2.2.2 h2
      · refine xB.go 4 (33, [(0, .ref 18), (1, .ref 27), (2, .ref 29), (3, .int x), (4, .int (nI i)), (5, .int (nI dn))], [.ref 29, .ref 27, .int (nI i), .ref 18], XM L a ml) rfl ?_
        refine xB.ca 17 [.ref 18, .int (nI i), .ref 27, .ref 29] [] (c_doAt27 _ L _ _ hPa hNa hin hh hr.le16 (hw.1 i h hr).2.1 (hw.1 i h hr).2.2 hk.2.2.2.2.2.1 (by omega) hk.2.2.2.2.2.2.2.2) rfl ?_
        intro r1 a1 b1 hq
        obtain ⟨v1, rfl, hb1, hD⟩ := hq
        rw [hb1]
        show xB _ _ L _ (36, [(0, .ref 18), (1, .ref 27), (2, .ref 29), (3, .int x), (4, .int (nI i)), (5, .int (nI dn))], [.int v1], XM L a1 ml)
        refine xB.go 3 (15, [(0, .ref 18), (1, .ref 27), (2, .ref 29), (3, .int x), (4, .int v1), (5, .int ((nI dn) + 1))], [], XM L a1 ml) rfl ?_
        have hlt : dn < x.toNatClampNeg := (lt_cl (by omega)).mp (i_nle.mp h1)
        obtain ⟨k1, k2, k3, k4, k5, k6, k7, k8, k9⟩ := hk
        obtain ⟨p, m, c, o, cn⟩ := s
        obtain ⟨d1, d2, d3, d4, d5, d6, d7, d8, d9, d10⟩ := hD
        rw [k2, k3, k4, k5, k1 3 (by decide) (by decide) (by decide) (by decide) (by decide) (by decide)] at d3 d4 d5 d6 d7
        rw [k2, k3, k4, k5] at d1
        have hcn := stA_cn (K i) (mi 3 i) h (p, m, c, o, cn)
        have k7 : cn ≤ dn := k7
        have hcn : (stA (K i) (mi 3 i) h (p, m, c, o, cn)).2.2.2.2 ≤ cn + 1 := hcn
        have hfr : ∀ x, x ≠ 18 → x ≠ 19 → x ≠ 28 → x ≠ 29 → x ≠ 29 + 1 → x ≠ 29 + 2 → a1 x = mi x := fun x h1 h2 h3 h4 h5 h6 => by rw [d2 x h1 h2 h3 h4 h5 h6, k1 x h1 h2 h3 h4 h5 h6]
        rw [nI_1]
        by_cases h9 : K i = 9
        · have e : runA K T (mi 3) (f + 1) i h (p, m, c, o, cn) = (1, (p, m, c, o, cn), true) := if_pos h9
          have es : stA (K i) (mi 3 i) h (p, m, c, o, cn) = (p, m, c, o, cn) := by rw [h9]; rfl
          rw [es] at d3 d4 d5 d6 d7
          rw [if_pos h9] at d9
          rw [e]
          exact work_h1 d L mi ml x v1 ⟨hfr, d3, d4, d5, d6, d7, by show cn ≤ 10000; omega, by rw [d8]; exact k8, d9⟩
        · have e : runA K T (mi 3) (f + 1) i h (p, m, c, o, cn) = ((runA K T (mi 3) f (nxA (K i) (T i) i h (p, m, c, o, cn)) (h - tk (K i) + pt (K i)) (stA (K i) (mi 3 i) h (p, m, c, o, cn))).1 + 1, (runA K T (mi 3) f (nxA (K i) (T i) i h (p, m, c, o, cn)) (h - tk (K i) + pt (K i)) (stA (K i) (mi 3 i) h (p, m, c, o, cn))).2) := if_neg h9
          rw [e, d1, if_neg h9]
          rw [if_neg h9] at d9
          show xB (d + 4) mX2_work L (fun rr a b => b = ml ∧ rr = some (.int (nI (dn + ((runA K T (mi 3) f _ _ _).1 + 1)))) ∧ _) _
          rw [show ∀ z, dn + (z + 1) = dn + 1 + z from fun z => by omega]
          exact ih (dn + 1) _ _ _ a1 (by omega) (hr.next hin (hw.1 i h hr).2.1 (hw.1 i h hr).2.2 (nxA_Fo h9)) ⟨hfr, d3, d4, d5, d6, d7, by omega, by rw [d8]; exact k8, d9⟩ d10
set_option maxRecDepth 100000 in
set_option maxHeartbeats 1000000 in
theorem c_work1 (d L : Nat) (mi : xmi) (ml : xml) {n : Nat} {K T : Nat → Nat} (hP : PRG mi n K T) (hN : NUM mi n K T) (hw : WF n K T) (x : Int32) (hx : x.toNatClampNeg ≤ 10000) : xF (d + 5) 16 [.ref 18, .ref 27, .ref 29, .int x] L mi ml (fun rr a b => b = ml ∧ rr = some (.int (nI ((runA K T (mi 3) x.toNatClampNeg 0 0 (mi 19, mi 28, mi 30, mi 31, 0)).1))) ∧ WK 28 29 mi (runA K T (mi 3) x.toNatClampNeg 0 0 (mi 19, mi 28, mi 30, mi 31, 0)).2.1 ((runA K T (mi 3) x.toNatClampNeg 0 0 (mi 19, mi 28, mi 30, mi 31, 0)).2.2) 10000 a) := by
  refine xF.mk mX2_work rfl rfl ?_
  refine xB.go 1 (1, [(0, .ref 18), (1, .ref 27), (2, .ref 29), (3, .int x)], [.ref 29], XM L mi ml) rfl ?_
  refine xB.c0 34 [.ref 29] [] (c_begin29 _ L mi ml  ) rfl ?_
  refine xB.go 7 (15, [(0, .ref 18), (1, .ref 27), (2, .ref 29), (3, .int x), (4, .int 0), (5, .int 0)], [], XM L (xU (xU (xU (xU mi 29 2 1) 29 3 0) 29 4 0) 18 2 0) ml) rfl ?_
  have hx := work_15_1 d L mi ml hP hN hw x hx (x.toNatClampNeg) 0 0 0 (mi 19, mi 28, mi 30, mi 31, 0) (xU (xU (xU (xU mi 29 2 1) 29 3 0) 29 4 0) 18 2 0) (by omega) Rh.zero ⟨fun y h1 h2 h3 h4 h5 h6 => by simp only [xU_ne h1, xU_ne h4], rfl, rfl, rfl, rfl, rfl, Nat.le_refl _, rfl, rfl⟩ rfl
  rw [Nat.zero_add] at hx
  exact hx
end
