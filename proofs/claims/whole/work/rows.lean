section
-- printed by wip/whole/gen1.py
-- ===== PART A: goes FIRST, ahead of the names: the tables' words, and 'selects' of the private methods out of them =====
/-- a private method of a class that the tables say can be made, by its rows of tables_1 -/
def lw_okq (q : MethodName × Nat) : Prop := (q.1.cls ≠ "java/lang/invoke/MethodHandle" ∧ q.1.cls ≠ "java/lang/invoke/VarHandle") ∧ Cond.instantiable q.1.cls q.2 ∈ tables_1 ∧ Cond.privateMethod q.1 ∈ tables_1 ∧ Cond.instanceMethod q.1 ∈ tables_1
theorem lw_p0 : lw_okq (⟨"BranchingTalks$Reader", "accept", "(ILBranchingTalks$Script;)I"⟩, 5) := ⟨⟨by decide +kernel, by decide +kernel⟩, List.mem_of_getElem? (i := 26) (by decide +kernel), List.mem_of_getElem? (i := 409) (by decide +kernel), List.mem_of_getElem? (i := 410) (by decide +kernel)⟩
theorem lw_p1 : lw_okq (⟨"BranchingTalks$Reader", "acceptFirstLine", "(ILBranchingTalks$Script;)I"⟩, 5) := ⟨⟨by decide +kernel, by decide +kernel⟩, List.mem_of_getElem? (i := 26) (by decide +kernel), List.mem_of_getElem? (i := 413) (by decide +kernel), List.mem_of_getElem? (i := 414) (by decide +kernel)⟩
theorem lw_p2 : lw_okq (⟨"BranchingTalks$Reader", "goOn", "(I)I"⟩, 5) := ⟨⟨by decide +kernel, by decide +kernel⟩, List.mem_of_getElem? (i := 26) (by decide +kernel), List.mem_of_getElem? (i := 421) (by decide +kernel), List.mem_of_getElem? (i := 422) (by decide +kernel)⟩
theorem lw_p3 : lw_okq (⟨"BranchingTalks$Reader", "acceptArrowOrDot", "(ILBranchingTalks$Script;)I"⟩, 5) := ⟨⟨by decide +kernel, by decide +kernel⟩, List.mem_of_getElem? (i := 26) (by decide +kernel), List.mem_of_getElem? (i := 425) (by decide +kernel), List.mem_of_getElem? (i := 426) (by decide +kernel)⟩
theorem lw_p4 : lw_okq (⟨"BranchingTalks$Reader", "acceptClauseEnd", "(I)I"⟩, 5) := ⟨⟨by decide +kernel, by decide +kernel⟩, List.mem_of_getElem? (i := 26) (by decide +kernel), List.mem_of_getElem? (i := 433) (by decide +kernel), List.mem_of_getElem? (i := 434) (by decide +kernel)⟩
theorem lw_p5 : lw_okq (⟨"BranchingTalks$Reader", "acceptSecondLine", "(ILBranchingTalks$Script;)I"⟩, 5) := ⟨⟨by decide +kernel, by decide +kernel⟩, List.mem_of_getElem? (i := 26) (by decide +kernel), List.mem_of_getElem? (i := 437) (by decide +kernel), List.mem_of_getElem? (i := 438) (by decide +kernel)⟩
theorem lw_p6 : lw_okq (⟨"BranchingTalks$Reader", "acceptCost", "(ILBranchingTalks$Script;)I"⟩, 5) := ⟨⟨by decide +kernel, by decide +kernel⟩, List.mem_of_getElem? (i := 26) (by decide +kernel), List.mem_of_getElem? (i := 441) (by decide +kernel), List.mem_of_getElem? (i := 442) (by decide +kernel)⟩
theorem lw_p7 : lw_okq (⟨"BranchingTalks$Reader", "acceptRest", "(ILBranchingTalks$Script;)I"⟩, 5) := ⟨⟨by decide +kernel, by decide +kernel⟩, List.mem_of_getElem? (i := 26) (by decide +kernel), List.mem_of_getElem? (i := 445) (by decide +kernel), List.mem_of_getElem? (i := 446) (by decide +kernel)⟩
theorem lw_p8 : lw_okq (⟨"BranchingTalks$Reader", "openAlternative", "(LBranchingTalks$Script;)I"⟩, 5) := ⟨⟨by decide +kernel, by decide +kernel⟩, List.mem_of_getElem? (i := 26) (by decide +kernel), List.mem_of_getElem? (i := 449) (by decide +kernel), List.mem_of_getElem? (i := 450) (by decide +kernel)⟩
theorem lw_p9 : lw_okq (⟨"BranchingTalks$Reader", "acceptAsked", "(ILBranchingTalks$Script;)I"⟩, 5) := ⟨⟨by decide +kernel, by decide +kernel⟩, List.mem_of_getElem? (i := 26) (by decide +kernel), List.mem_of_getElem? (i := 457) (by decide +kernel), List.mem_of_getElem? (i := 458) (by decide +kernel)⟩
theorem lw_p10 : lw_okq (⟨"BranchingTalks$Reader", "acceptMoreOfGuard", "(ILBranchingTalks$Script;)I"⟩, 5) := ⟨⟨by decide +kernel, by decide +kernel⟩, List.mem_of_getElem? (i := 26) (by decide +kernel), List.mem_of_getElem? (i := 467) (by decide +kernel), List.mem_of_getElem? (i := 468) (by decide +kernel)⟩
theorem lw_p11 : lw_okq (⟨"BranchingTalks$Reader", "acceptChanged", "(ILBranchingTalks$Script;)I"⟩, 5) := ⟨⟨by decide +kernel, by decide +kernel⟩, List.mem_of_getElem? (i := 26) (by decide +kernel), List.mem_of_getElem? (i := 471) (by decide +kernel), List.mem_of_getElem? (i := 472) (by decide +kernel)⟩
theorem lw_p12 : lw_okq (⟨"BranchingTalks$Reader", "acceptMoreOfEffect", "(ILBranchingTalks$Script;)I"⟩, 5) := ⟨⟨by decide +kernel, by decide +kernel⟩, List.mem_of_getElem? (i := 26) (by decide +kernel), List.mem_of_getElem? (i := 475) (by decide +kernel), List.mem_of_getElem? (i := 476) (by decide +kernel)⟩
theorem lw_p13 : lw_okq (⟨"BranchingTalks", "isAnswer", "(I)Z"⟩, 16) := ⟨⟨by decide +kernel, by decide +kernel⟩, List.mem_of_getElem? (i := 18) (by decide +kernel), List.mem_of_getElem? (i := 500) (by decide +kernel), List.mem_of_getElem? (i := 501) (by decide +kernel)⟩
theorem lw_p14 : lw_okq (⟨"BranchingTalks", "isOpenHere", "(I)Z"⟩, 16) := ⟨⟨by decide +kernel, by decide +kernel⟩, List.mem_of_getElem? (i := 18) (by decide +kernel), List.mem_of_getElem? (i := 504) (by decide +kernel), List.mem_of_getElem? (i := 505) (by decide +kernel)⟩
theorem lw_p15 : lw_okq (⟨"BranchingTalks$Acts", "forgetOldest", "()V"⟩, 4) := ⟨⟨by decide +kernel, by decide +kernel⟩, List.mem_of_getElem? (i := 70) (by decide +kernel), List.mem_of_getElem? (i := 549) (by decide +kernel), List.mem_of_getElem? (i := 550) (by decide +kernel)⟩
def lw_privs_1 : List (MethodName × Nat) := [(⟨"BranchingTalks$Reader", "accept", "(ILBranchingTalks$Script;)I"⟩, 5), (⟨"BranchingTalks$Reader", "acceptFirstLine", "(ILBranchingTalks$Script;)I"⟩, 5), (⟨"BranchingTalks$Reader", "goOn", "(I)I"⟩, 5), (⟨"BranchingTalks$Reader", "acceptArrowOrDot", "(ILBranchingTalks$Script;)I"⟩, 5), (⟨"BranchingTalks$Reader", "acceptClauseEnd", "(I)I"⟩, 5), (⟨"BranchingTalks$Reader", "acceptSecondLine", "(ILBranchingTalks$Script;)I"⟩, 5), (⟨"BranchingTalks$Reader", "acceptCost", "(ILBranchingTalks$Script;)I"⟩, 5), (⟨"BranchingTalks$Reader", "acceptRest", "(ILBranchingTalks$Script;)I"⟩, 5), (⟨"BranchingTalks$Reader", "openAlternative", "(LBranchingTalks$Script;)I"⟩, 5), (⟨"BranchingTalks$Reader", "acceptAsked", "(ILBranchingTalks$Script;)I"⟩, 5), (⟨"BranchingTalks$Reader", "acceptMoreOfGuard", "(ILBranchingTalks$Script;)I"⟩, 5), (⟨"BranchingTalks$Reader", "acceptChanged", "(ILBranchingTalks$Script;)I"⟩, 5), (⟨"BranchingTalks$Reader", "acceptMoreOfEffect", "(ILBranchingTalks$Script;)I"⟩, 5), (⟨"BranchingTalks", "isAnswer", "(I)Z"⟩, 16), (⟨"BranchingTalks", "isOpenHere", "(I)Z"⟩, 16), (⟨"BranchingTalks$Acts", "forgetOldest", "()V"⟩, 4)]
theorem lw_r1 : ∀ q ∈ lw_privs_1, lw_okq q := List.forall_mem_cons.mpr ⟨lw_p0, List.forall_mem_cons.mpr ⟨lw_p1, List.forall_mem_cons.mpr ⟨lw_p2, List.forall_mem_cons.mpr ⟨lw_p3, List.forall_mem_cons.mpr ⟨lw_p4, List.forall_mem_cons.mpr ⟨lw_p5, List.forall_mem_cons.mpr ⟨lw_p6, List.forall_mem_cons.mpr ⟨lw_p7, List.forall_mem_cons.mpr ⟨lw_p8, List.forall_mem_cons.mpr ⟨lw_p9, List.forall_mem_cons.mpr ⟨lw_p10, List.forall_mem_cons.mpr ⟨lw_p11, List.forall_mem_cons.mpr ⟨lw_p12, List.forall_mem_cons.mpr ⟨lw_p13, List.forall_mem_cons.mpr ⟨lw_p14, List.forall_mem_cons.mpr ⟨lw_p15, fun _ h => absurd h List.not_mem_nil⟩⟩⟩⟩⟩⟩⟩⟩⟩⟩⟩⟩⟩⟩⟩⟩
theorem lw_p16 : lw_okq (⟨"BranchingTalks", "alternativeSet", "(II)I"⟩, 16) := ⟨⟨by decide +kernel, by decide +kernel⟩, List.mem_of_getElem? (i := 18) (by decide +kernel), List.mem_of_getElem? (i := 582) (by decide +kernel), List.mem_of_getElem? (i := 583) (by decide +kernel)⟩
theorem lw_p17 : lw_okq (⟨"BranchingTalks", "openHere", "()I"⟩, 16) := ⟨⟨by decide +kernel, by decide +kernel⟩, List.mem_of_getElem? (i := 18) (by decide +kernel), List.mem_of_getElem? (i := 590) (by decide +kernel), List.mem_of_getElem? (i := 591) (by decide +kernel)⟩
theorem lw_p18 : lw_okq (⟨"BranchingTalks", "isLine", "(I)Z"⟩, 16) := ⟨⟨by decide +kernel, by decide +kernel⟩, List.mem_of_getElem? (i := 18) (by decide +kernel), List.mem_of_getElem? (i := 606) (by decide +kernel), List.mem_of_getElem? (i := 607) (by decide +kernel)⟩
theorem lw_p19 : lw_okq (⟨"BranchingTalks", "refreshGraph", "()V"⟩, 16) := ⟨⟨by decide +kernel, by decide +kernel⟩, List.mem_of_getElem? (i := 18) (by decide +kernel), List.mem_of_getElem? (i := 610) (by decide +kernel), List.mem_of_getElem? (i := 611) (by decide +kernel)⟩
theorem lw_p20 : lw_okq (⟨"BranchingTalks$Graph", "admit", "(III)V"⟩, 13) := ⟨⟨by decide +kernel, by decide +kernel⟩, List.mem_of_getElem? (i := 93) (by decide +kernel), List.mem_of_getElem? (i := 621) (by decide +kernel), List.mem_of_getElem? (i := 622) (by decide +kernel)⟩
theorem lw_p21 : lw_okq (⟨"BranchingTalks$Graph", "addMovesFrom", "(ILBranchingTalks$Script;)V"⟩, 13) := ⟨⟨by decide +kernel, by decide +kernel⟩, List.mem_of_getElem? (i := 93) (by decide +kernel), List.mem_of_getElem? (i := 625) (by decide +kernel), List.mem_of_getElem? (i := 626) (by decide +kernel)⟩
theorem lw_p22 : lw_okq (⟨"BranchingTalks$Graph", "turnRound", "()V"⟩, 13) := ⟨⟨by decide +kernel, by decide +kernel⟩, List.mem_of_getElem? (i := 93) (by decide +kernel), List.mem_of_getElem? (i := 643) (by decide +kernel), List.mem_of_getElem? (i := 644) (by decide +kernel)⟩
theorem lw_p23 : lw_okq (⟨"BranchingTalks", "stuckStates", "(I)I"⟩, 16) := ⟨⟨by decide +kernel, by decide +kernel⟩, List.mem_of_getElem? (i := 18) (by decide +kernel), List.mem_of_getElem? (i := 659) (by decide +kernel), List.mem_of_getElem? (i := 660) (by decide +kernel)⟩
theorem lw_p24 : lw_okq (⟨"BranchingTalks", "isStuck", "(I)Z"⟩, 16) := ⟨⟨by decide +kernel, by decide +kernel⟩, List.mem_of_getElem? (i := 18) (by decide +kernel), List.mem_of_getElem? (i := 664) (by decide +kernel), List.mem_of_getElem? (i := 665) (by decide +kernel)⟩
theorem lw_p25 : lw_okq (⟨"BranchingTalks", "lostStates", "(I)I"⟩, 16) := ⟨⟨by decide +kernel, by decide +kernel⟩, List.mem_of_getElem? (i := 18) (by decide +kernel), List.mem_of_getElem? (i := 672) (by decide +kernel), List.mem_of_getElem? (i := 673) (by decide +kernel)⟩
theorem lw_p26 : lw_okq (⟨"BranchingTalks", "refreshHopes", "()V"⟩, 16) := ⟨⟨by decide +kernel, by decide +kernel⟩, List.mem_of_getElem? (i := 18) (by decide +kernel), List.mem_of_getElem? (i := 676) (by decide +kernel), List.mem_of_getElem? (i := 677) (by decide +kernel)⟩
theorem lw_p27 : lw_okq (⟨"BranchingTalks$Hopes", "admit", "(I)V"⟩, 3) := ⟨⟨by decide +kernel, by decide +kernel⟩, List.mem_of_getElem? (i := 181) (by decide +kernel), List.mem_of_getElem? (i := 686) (by decide +kernel), List.mem_of_getElem? (i := 687) (by decide +kernel)⟩
theorem lw_p28 : lw_okq (⟨"BranchingTalks", "refreshPrices", "()V"⟩, 16) := ⟨⟨by decide +kernel, by decide +kernel⟩, List.mem_of_getElem? (i := 18) (by decide +kernel), List.mem_of_getElem? (i := 694) (by decide +kernel), List.mem_of_getElem? (i := 695) (by decide +kernel)⟩
theorem lw_p29 : lw_okq (⟨"BranchingTalks$Search", "startAt", "(I)V"⟩, 3) := ⟨⟨by decide +kernel, by decide +kernel⟩, List.mem_of_getElem? (i := 165) (by decide +kernel), List.mem_of_getElem? (i := 731) (by decide +kernel), List.mem_of_getElem? (i := 732) (by decide +kernel)⟩
theorem lw_p30 : lw_okq (⟨"BranchingTalks$Search", "enqueue", "(II)V"⟩, 3) := ⟨⟨by decide +kernel, by decide +kernel⟩, List.mem_of_getElem? (i := 165) (by decide +kernel), List.mem_of_getElem? (i := 736) (by decide +kernel), List.mem_of_getElem? (i := 737) (by decide +kernel)⟩
theorem lw_p31 : lw_okq (⟨"BranchingTalks", "refreshLoops", "()V"⟩, 16) := ⟨⟨by decide +kernel, by decide +kernel⟩, List.mem_of_getElem? (i := 18) (by decide +kernel), List.mem_of_getElem? (i := 754) (by decide +kernel), List.mem_of_getElem? (i := 755) (by decide +kernel)⟩
def lw_privs_2 : List (MethodName × Nat) := [(⟨"BranchingTalks", "alternativeSet", "(II)I"⟩, 16), (⟨"BranchingTalks", "openHere", "()I"⟩, 16), (⟨"BranchingTalks", "isLine", "(I)Z"⟩, 16), (⟨"BranchingTalks", "refreshGraph", "()V"⟩, 16), (⟨"BranchingTalks$Graph", "admit", "(III)V"⟩, 13), (⟨"BranchingTalks$Graph", "addMovesFrom", "(ILBranchingTalks$Script;)V"⟩, 13), (⟨"BranchingTalks$Graph", "turnRound", "()V"⟩, 13), (⟨"BranchingTalks", "stuckStates", "(I)I"⟩, 16), (⟨"BranchingTalks", "isStuck", "(I)Z"⟩, 16), (⟨"BranchingTalks", "lostStates", "(I)I"⟩, 16), (⟨"BranchingTalks", "refreshHopes", "()V"⟩, 16), (⟨"BranchingTalks$Hopes", "admit", "(I)V"⟩, 3), (⟨"BranchingTalks", "refreshPrices", "()V"⟩, 16), (⟨"BranchingTalks$Search", "startAt", "(I)V"⟩, 3), (⟨"BranchingTalks$Search", "enqueue", "(II)V"⟩, 3), (⟨"BranchingTalks", "refreshLoops", "()V"⟩, 16)]
theorem lw_r2 : ∀ q ∈ lw_privs_2, lw_okq q := List.forall_mem_cons.mpr ⟨lw_p16, List.forall_mem_cons.mpr ⟨lw_p17, List.forall_mem_cons.mpr ⟨lw_p18, List.forall_mem_cons.mpr ⟨lw_p19, List.forall_mem_cons.mpr ⟨lw_p20, List.forall_mem_cons.mpr ⟨lw_p21, List.forall_mem_cons.mpr ⟨lw_p22, List.forall_mem_cons.mpr ⟨lw_p23, List.forall_mem_cons.mpr ⟨lw_p24, List.forall_mem_cons.mpr ⟨lw_p25, List.forall_mem_cons.mpr ⟨lw_p26, List.forall_mem_cons.mpr ⟨lw_p27, List.forall_mem_cons.mpr ⟨lw_p28, List.forall_mem_cons.mpr ⟨lw_p29, List.forall_mem_cons.mpr ⟨lw_p30, List.forall_mem_cons.mpr ⟨lw_p31, fun _ h => absurd h List.not_mem_nil⟩⟩⟩⟩⟩⟩⟩⟩⟩⟩⟩⟩⟩⟩⟩⟩
theorem lw_p32 : lw_okq (⟨"BranchingTalks$Loops", "finishAll", "(LBranchingTalks$Graph;)V"⟩, 8) := ⟨⟨by decide +kernel, by decide +kernel⟩, List.mem_of_getElem? (i := 199) (by decide +kernel), List.mem_of_getElem? (i := 762) (by decide +kernel), List.mem_of_getElem? (i := 763) (by decide +kernel)⟩
theorem lw_p33 : lw_okq (⟨"BranchingTalks$Loops", "push", "(LBranchingTalks$Graph;I)V"⟩, 8) := ⟨⟨by decide +kernel, by decide +kernel⟩, List.mem_of_getElem? (i := 199) (by decide +kernel), List.mem_of_getElem? (i := 769) (by decide +kernel), List.mem_of_getElem? (i := 770) (by decide +kernel)⟩
theorem lw_p34 : lw_okq (⟨"BranchingTalks$Loops", "gatherComponent", "(LBranchingTalks$Graph;I)V"⟩, 8) := ⟨⟨by decide +kernel, by decide +kernel⟩, List.mem_of_getElem? (i := 199) (by decide +kernel), List.mem_of_getElem? (i := 773) (by decide +kernel), List.mem_of_getElem? (i := 774) (by decide +kernel)⟩
theorem lw_p35 : lw_okq (⟨"BranchingTalks$Loops", "join", "(I)V"⟩, 8) := ⟨⟨by decide +kernel, by decide +kernel⟩, List.mem_of_getElem? (i := 199) (by decide +kernel), List.mem_of_getElem? (i := 777) (by decide +kernel), List.mem_of_getElem? (i := 778) (by decide +kernel)⟩
theorem lw_p36 : lw_okq (⟨"BranchingTalks$Script", "marksOfGuard", "(I)I"⟩, 15) := ⟨⟨by decide +kernel, by decide +kernel⟩, List.mem_of_getElem? (i := 255) (by decide +kernel), List.mem_of_getElem? (i := 801) (by decide +kernel), List.mem_of_getElem? (i := 802) (by decide +kernel)⟩
theorem lw_p37 : lw_okq (⟨"BranchingTalks", "isMarkReached", "(I)Z"⟩, 16) := ⟨⟨by decide +kernel, by decide +kernel⟩, List.mem_of_getElem? (i := 18) (by decide +kernel), List.mem_of_getElem? (i := 809) (by decide +kernel), List.mem_of_getElem? (i := 810) (by decide +kernel)⟩
theorem lw_p38 : lw_okq (⟨"BranchingTalks", "isAskedForInVain", "(I)Z"⟩, 16) := ⟨⟨by decide +kernel, by decide +kernel⟩, List.mem_of_getElem? (i := 18) (by decide +kernel), List.mem_of_getElem? (i := 814) (by decide +kernel), List.mem_of_getElem? (i := 815) (by decide +kernel)⟩
theorem lw_p39 : lw_okq (⟨"BranchingTalks", "leadsOutWithout", "(III)Z"⟩, 16) := ⟨⟨by decide +kernel, by decide +kernel⟩, List.mem_of_getElem? (i := 18) (by decide +kernel), List.mem_of_getElem? (i := 818) (by decide +kernel), List.mem_of_getElem? (i := 819) (by decide +kernel)⟩
theorem lw_p40 : lw_okq (⟨"BranchingTalks", "stuckLines", "()I"⟩, 16) := ⟨⟨by decide +kernel, by decide +kernel⟩, List.mem_of_getElem? (i := 18) (by decide +kernel), List.mem_of_getElem? (i := 832) (by decide +kernel), List.mem_of_getElem? (i := 833) (by decide +kernel)⟩
theorem lw_p41 : lw_okq (⟨"BranchingTalks", "lostLines", "()I"⟩, 16) := ⟨⟨by decide +kernel, by decide +kernel⟩, List.mem_of_getElem? (i := 18) (by decide +kernel), List.mem_of_getElem? (i := 836) (by decide +kernel), List.mem_of_getElem? (i := 837) (by decide +kernel)⟩
theorem lw_p42 : lw_okq (⟨"BranchingTalks", "loopingLines", "()I"⟩, 16) := ⟨⟨by decide +kernel, by decide +kernel⟩, List.mem_of_getElem? (i := 18) (by decide +kernel), List.mem_of_getElem? (i := 840) (by decide +kernel), List.mem_of_getElem? (i := 841) (by decide +kernel)⟩
theorem lw_p43 : lw_okq (⟨"BranchingTalks", "statesAtEndings", "()I"⟩, 16) := ⟨⟨by decide +kernel, by decide +kernel⟩, List.mem_of_getElem? (i := 18) (by decide +kernel), List.mem_of_getElem? (i := 852) (by decide +kernel), List.mem_of_getElem? (i := 853) (by decide +kernel)⟩
theorem lw_p44 : lw_okq (⟨"BranchingTalks$RowCounts", "lengthen", "(LBranchingTalks$Graph;)Z"⟩, 2) := ⟨⟨by decide +kernel, by decide +kernel⟩, List.mem_of_getElem? (i := 241) (by decide +kernel), List.mem_of_getElem? (i := 873) (by decide +kernel), List.mem_of_getElem? (i := 874) (by decide +kernel)⟩
theorem lw_p45 : lw_okq (⟨"BranchingTalksModel", "readsClause", "()V"⟩, 38) := ⟨⟨by decide +kernel, by decide +kernel⟩, List.mem_of_getElem? (i := 880) (by decide +kernel), List.mem_of_getElem? (i := 1015) (by decide +kernel), List.mem_of_getElem? (i := 1016) (by decide +kernel)⟩
theorem lw_p46 : lw_okq (⟨"BranchingTalksModel", "line", "()I"⟩, 38) := ⟨⟨by decide +kernel, by decide +kernel⟩, List.mem_of_getElem? (i := 880) (by decide +kernel), List.mem_of_getElem? (i := 1019) (by decide +kernel), List.mem_of_getElem? (i := 1020) (by decide +kernel)⟩
theorem lw_p47 : lw_okq (⟨"BranchingTalksModel", "look", "()I"⟩, 38) := ⟨⟨by decide +kernel, by decide +kernel⟩, List.mem_of_getElem? (i := 880) (by decide +kernel), List.mem_of_getElem? (i := 1023) (by decide +kernel), List.mem_of_getElem? (i := 1024) (by decide +kernel)⟩
def lw_privs_3 : List (MethodName × Nat) := [(⟨"BranchingTalks$Loops", "finishAll", "(LBranchingTalks$Graph;)V"⟩, 8), (⟨"BranchingTalks$Loops", "push", "(LBranchingTalks$Graph;I)V"⟩, 8), (⟨"BranchingTalks$Loops", "gatherComponent", "(LBranchingTalks$Graph;I)V"⟩, 8), (⟨"BranchingTalks$Loops", "join", "(I)V"⟩, 8), (⟨"BranchingTalks$Script", "marksOfGuard", "(I)I"⟩, 15), (⟨"BranchingTalks", "isMarkReached", "(I)Z"⟩, 16), (⟨"BranchingTalks", "isAskedForInVain", "(I)Z"⟩, 16), (⟨"BranchingTalks", "leadsOutWithout", "(III)Z"⟩, 16), (⟨"BranchingTalks", "stuckLines", "()I"⟩, 16), (⟨"BranchingTalks", "lostLines", "()I"⟩, 16), (⟨"BranchingTalks", "loopingLines", "()I"⟩, 16), (⟨"BranchingTalks", "statesAtEndings", "()I"⟩, 16), (⟨"BranchingTalks$RowCounts", "lengthen", "(LBranchingTalks$Graph;)Z"⟩, 2), (⟨"BranchingTalksModel", "readsClause", "()V"⟩, 38), (⟨"BranchingTalksModel", "line", "()I"⟩, 38), (⟨"BranchingTalksModel", "look", "()I"⟩, 38)]
theorem lw_r3 : ∀ q ∈ lw_privs_3, lw_okq q := List.forall_mem_cons.mpr ⟨lw_p32, List.forall_mem_cons.mpr ⟨lw_p33, List.forall_mem_cons.mpr ⟨lw_p34, List.forall_mem_cons.mpr ⟨lw_p35, List.forall_mem_cons.mpr ⟨lw_p36, List.forall_mem_cons.mpr ⟨lw_p37, List.forall_mem_cons.mpr ⟨lw_p38, List.forall_mem_cons.mpr ⟨lw_p39, List.forall_mem_cons.mpr ⟨lw_p40, List.forall_mem_cons.mpr ⟨lw_p41, List.forall_mem_cons.mpr ⟨lw_p42, List.forall_mem_cons.mpr ⟨lw_p43, List.forall_mem_cons.mpr ⟨lw_p44, List.forall_mem_cons.mpr ⟨lw_p45, List.forall_mem_cons.mpr ⟨lw_p46, List.forall_mem_cons.mpr ⟨lw_p47, fun _ h => absurd h List.not_mem_nil⟩⟩⟩⟩⟩⟩⟩⟩⟩⟩⟩⟩⟩⟩⟩⟩
theorem lw_p48 : lw_okq (⟨"BranchingTalksModel", "wrong", "(I)V"⟩, 38) := ⟨⟨by decide +kernel, by decide +kernel⟩, List.mem_of_getElem? (i := 880) (by decide +kernel), List.mem_of_getElem? (i := 1029) (by decide +kernel), List.mem_of_getElem? (i := 1030) (by decide +kernel)⟩
theorem lw_p49 : lw_okq (⟨"BranchingTalksModel", "readsAnswer", "(I)V"⟩, 38) := ⟨⟨by decide +kernel, by decide +kernel⟩, List.mem_of_getElem? (i := 880) (by decide +kernel), List.mem_of_getElem? (i := 1033) (by decide +kernel), List.mem_of_getElem? (i := 1034) (by decide +kernel)⟩
theorem lw_p50 : lw_okq (⟨"BranchingTalksModel", "passes", "(I)V"⟩, 38) := ⟨⟨by decide +kernel, by decide +kernel⟩, List.mem_of_getElem? (i := 880) (by decide +kernel), List.mem_of_getElem? (i := 1037) (by decide +kernel), List.mem_of_getElem? (i := 1038) (by decide +kernel)⟩
theorem lw_p51 : lw_okq (⟨"BranchingTalksModel", "readsGuard", "(I)V"⟩, 38) := ⟨⟨by decide +kernel, by decide +kernel⟩, List.mem_of_getElem? (i := 880) (by decide +kernel), List.mem_of_getElem? (i := 1043) (by decide +kernel), List.mem_of_getElem? (i := 1044) (by decide +kernel)⟩
theorem lw_p52 : lw_okq (⟨"BranchingTalksModel", "readsAlternative", "(I)V"⟩, 38) := ⟨⟨by decide +kernel, by decide +kernel⟩, List.mem_of_getElem? (i := 880) (by decide +kernel), List.mem_of_getElem? (i := 1047) (by decide +kernel), List.mem_of_getElem? (i := 1048) (by decide +kernel)⟩
theorem lw_p53 : lw_okq (⟨"BranchingTalksModel", "isMark", "()Z"⟩, 38) := ⟨⟨by decide +kernel, by decide +kernel⟩, List.mem_of_getElem? (i := 880) (by decide +kernel), List.mem_of_getElem? (i := 1051) (by decide +kernel), List.mem_of_getElem? (i := 1052) (by decide +kernel)⟩
theorem lw_p54 : lw_okq (⟨"BranchingTalksModel", "readsEffect", "(I)V"⟩, 38) := ⟨⟨by decide +kernel, by decide +kernel⟩, List.mem_of_getElem? (i := 880) (by decide +kernel), List.mem_of_getElem? (i := 1059) (by decide +kernel), List.mem_of_getElem? (i := 1060) (by decide +kernel)⟩
theorem lw_p55 : lw_okq (⟨"BranchingTalksModel", "keeps", "()V"⟩, 38) := ⟨⟨by decide +kernel, by decide +kernel⟩, List.mem_of_getElem? (i := 880) (by decide +kernel), List.mem_of_getElem? (i := 1066) (by decide +kernel), List.mem_of_getElem? (i := 1067) (by decide +kernel)⟩
theorem lw_p56 : lw_okq (⟨"BranchingTalksModel", "isTalk", "()Z"⟩, 38) := ⟨⟨by decide +kernel, by decide +kernel⟩, List.mem_of_getElem? (i := 880) (by decide +kernel), List.mem_of_getElem? (i := 1078) (by decide +kernel), List.mem_of_getElem? (i := 1079) (by decide +kernel)⟩
theorem lw_p57 : lw_okq (⟨"BranchingTalksModel", "isAnswer", "(I)Z"⟩, 38) := ⟨⟨by decide +kernel, by decide +kernel⟩, List.mem_of_getElem? (i := 880) (by decide +kernel), List.mem_of_getElem? (i := 1088) (by decide +kernel), List.mem_of_getElem? (i := 1089) (by decide +kernel)⟩
theorem lw_p58 : lw_okq (⟨"BranchingTalksModel", "here", "()I"⟩, 38) := ⟨⟨by decide +kernel, by decide +kernel⟩, List.mem_of_getElem? (i := 880) (by decide +kernel), List.mem_of_getElem? (i := 1092) (by decide +kernel), List.mem_of_getElem? (i := 1093) (by decide +kernel)⟩
theorem lw_p59 : lw_okq (⟨"BranchingTalksModel", "first", "()I"⟩, 38) := ⟨⟨by decide +kernel, by decide +kernel⟩, List.mem_of_getElem? (i := 880) (by decide +kernel), List.mem_of_getElem? (i := 1096) (by decide +kernel), List.mem_of_getElem? (i := 1097) (by decide +kernel)⟩
theorem lw_p60 : lw_okq (⟨"BranchingTalksModel", "next", "(II)I"⟩, 38) := ⟨⟨by decide +kernel, by decide +kernel⟩, List.mem_of_getElem? (i := 880) (by decide +kernel), List.mem_of_getElem? (i := 1100) (by decide +kernel), List.mem_of_getElem? (i := 1101) (by decide +kernel)⟩
theorem lw_p61 : lw_okq (⟨"BranchingTalksModel", "isOpen", "(III)Z"⟩, 38) := ⟨⟨by decide +kernel, by decide +kernel⟩, List.mem_of_getElem? (i := 880) (by decide +kernel), List.mem_of_getElem? (i := 1104) (by decide +kernel), List.mem_of_getElem? (i := 1105) (by decide +kernel)⟩
theorem lw_p62 : lw_okq (⟨"BranchingTalksModel", "holds", "(III)Z"⟩, 38) := ⟨⟨by decide +kernel, by decide +kernel⟩, List.mem_of_getElem? (i := 880) (by decide +kernel), List.mem_of_getElem? (i := 1108) (by decide +kernel), List.mem_of_getElem? (i := 1109) (by decide +kernel)⟩
theorem lw_p63 : lw_okq (⟨"BranchingTalksModel", "notes", "()V"⟩, 38) := ⟨⟨by decide +kernel, by decide +kernel⟩, List.mem_of_getElem? (i := 880) (by decide +kernel), List.mem_of_getElem? (i := 1122) (by decide +kernel), List.mem_of_getElem? (i := 1123) (by decide +kernel)⟩
def lw_privs_4 : List (MethodName × Nat) := [(⟨"BranchingTalksModel", "wrong", "(I)V"⟩, 38), (⟨"BranchingTalksModel", "readsAnswer", "(I)V"⟩, 38), (⟨"BranchingTalksModel", "passes", "(I)V"⟩, 38), (⟨"BranchingTalksModel", "readsGuard", "(I)V"⟩, 38), (⟨"BranchingTalksModel", "readsAlternative", "(I)V"⟩, 38), (⟨"BranchingTalksModel", "isMark", "()Z"⟩, 38), (⟨"BranchingTalksModel", "readsEffect", "(I)V"⟩, 38), (⟨"BranchingTalksModel", "keeps", "()V"⟩, 38), (⟨"BranchingTalksModel", "isTalk", "()Z"⟩, 38), (⟨"BranchingTalksModel", "isAnswer", "(I)Z"⟩, 38), (⟨"BranchingTalksModel", "here", "()I"⟩, 38), (⟨"BranchingTalksModel", "first", "()I"⟩, 38), (⟨"BranchingTalksModel", "next", "(II)I"⟩, 38), (⟨"BranchingTalksModel", "isOpen", "(III)Z"⟩, 38), (⟨"BranchingTalksModel", "holds", "(III)Z"⟩, 38), (⟨"BranchingTalksModel", "notes", "()V"⟩, 38)]
theorem lw_r4 : ∀ q ∈ lw_privs_4, lw_okq q := List.forall_mem_cons.mpr ⟨lw_p48, List.forall_mem_cons.mpr ⟨lw_p49, List.forall_mem_cons.mpr ⟨lw_p50, List.forall_mem_cons.mpr ⟨lw_p51, List.forall_mem_cons.mpr ⟨lw_p52, List.forall_mem_cons.mpr ⟨lw_p53, List.forall_mem_cons.mpr ⟨lw_p54, List.forall_mem_cons.mpr ⟨lw_p55, List.forall_mem_cons.mpr ⟨lw_p56, List.forall_mem_cons.mpr ⟨lw_p57, List.forall_mem_cons.mpr ⟨lw_p58, List.forall_mem_cons.mpr ⟨lw_p59, List.forall_mem_cons.mpr ⟨lw_p60, List.forall_mem_cons.mpr ⟨lw_p61, List.forall_mem_cons.mpr ⟨lw_p62, List.forall_mem_cons.mpr ⟨lw_p63, fun _ h => absurd h List.not_mem_nil⟩⟩⟩⟩⟩⟩⟩⟩⟩⟩⟩⟩⟩⟩⟩⟩
theorem lw_p64 : lw_okq (⟨"BranchingTalksModel", "isVain", "(I)Z"⟩, 38) := ⟨⟨by decide +kernel, by decide +kernel⟩, List.mem_of_getElem? (i := 880) (by decide +kernel), List.mem_of_getElem? (i := 1139) (by decide +kernel), List.mem_of_getElem? (i := 1140) (by decide +kernel)⟩
theorem lw_p65 : lw_okq (⟨"BranchingTalksModel", "openIn", "(I)I"⟩, 38) := ⟨⟨by decide +kernel, by decide +kernel⟩, List.mem_of_getElem? (i := 880) (by decide +kernel), List.mem_of_getElem? (i := 1148) (by decide +kernel), List.mem_of_getElem? (i := 1149) (by decide +kernel)⟩
theorem lw_p66 : lw_okq (⟨"BranchingTalksModel", "costOfSteps", "()I"⟩, 38) := ⟨⟨by decide +kernel, by decide +kernel⟩, List.mem_of_getElem? (i := 880) (by decide +kernel), List.mem_of_getElem? (i := 1152) (by decide +kernel), List.mem_of_getElem? (i := 1153) (by decide +kernel)⟩
theorem lw_p67 : lw_okq (⟨"BranchingTalksModel", "isLine", "(I)Z"⟩, 38) := ⟨⟨by decide +kernel, by decide +kernel⟩, List.mem_of_getElem? (i := 880) (by decide +kernel), List.mem_of_getElem? (i := 1164) (by decide +kernel), List.mem_of_getElem? (i := 1165) (by decide +kernel)⟩
theorem lw_p68 : lw_okq (⟨"BranchingTalksModel", "reachesAll", "()I"⟩, 38) := ⟨⟨by decide +kernel, by decide +kernel⟩, List.mem_of_getElem? (i := 880) (by decide +kernel), List.mem_of_getElem? (i := 1170) (by decide +kernel), List.mem_of_getElem? (i := 1171) (by decide +kernel)⟩
theorem lw_p69 : lw_okq (⟨"BranchingTalksModel", "reaches", "(IIII)I"⟩, 38) := ⟨⟨by decide +kernel, by decide +kernel⟩, List.mem_of_getElem? (i := 880) (by decide +kernel), List.mem_of_getElem? (i := 1174) (by decide +kernel), List.mem_of_getElem? (i := 1175) (by decide +kernel)⟩
theorem lw_p70 : lw_okq (⟨"BranchingTalksModel", "laysEnds", "()V"⟩, 38) := ⟨⟨by decide +kernel, by decide +kernel⟩, List.mem_of_getElem? (i := 880) (by decide +kernel), List.mem_of_getElem? (i := 1178) (by decide +kernel), List.mem_of_getElem? (i := 1179) (by decide +kernel)⟩
theorem lw_p71 : lw_okq (⟨"BranchingTalksModel", "statesOf", "(II)I"⟩, 38) := ⟨⟨by decide +kernel, by decide +kernel⟩, List.mem_of_getElem? (i := 880) (by decide +kernel), List.mem_of_getElem? (i := 1182) (by decide +kernel), List.mem_of_getElem? (i := 1183) (by decide +kernel)⟩
theorem lw_p72 : lw_okq (⟨"BranchingTalksModel", "isStuck", "(I)Z"⟩, 38) := ⟨⟨by decide +kernel, by decide +kernel⟩, List.mem_of_getElem? (i := 880) (by decide +kernel), List.mem_of_getElem? (i := 1186) (by decide +kernel), List.mem_of_getElem? (i := 1187) (by decide +kernel)⟩
theorem lw_p73 : lw_okq (⟨"BranchingTalksModel", "isLost", "(I)Z"⟩, 38) := ⟨⟨by decide +kernel, by decide +kernel⟩, List.mem_of_getElem? (i := 880) (by decide +kernel), List.mem_of_getElem? (i := 1190) (by decide +kernel), List.mem_of_getElem? (i := 1191) (by decide +kernel)⟩
theorem lw_p74 : lw_okq (⟨"BranchingTalksModel", "marksOf", "(IZ)I"⟩, 38) := ⟨⟨by decide +kernel, by decide +kernel⟩, List.mem_of_getElem? (i := 880) (by decide +kernel), List.mem_of_getElem? (i := 1194) (by decide +kernel), List.mem_of_getElem? (i := 1195) (by decide +kernel)⟩
theorem lw_p75 : lw_okq (⟨"BranchingTalksModel", "cheapest", "(I)I"⟩, 38) := ⟨⟨by decide +kernel, by decide +kernel⟩, List.mem_of_getElem? (i := 880) (by decide +kernel), List.mem_of_getElem? (i := 1202) (by decide +kernel), List.mem_of_getElem? (i := 1203) (by decide +kernel)⟩
theorem lw_p76 : lw_okq (⟨"BranchingTalksModel", "fewest", "(I)I"⟩, 38) := ⟨⟨by decide +kernel, by decide +kernel⟩, List.mem_of_getElem? (i := 880) (by decide +kernel), List.mem_of_getElem? (i := 1206) (by decide +kernel), List.mem_of_getElem? (i := 1207) (by decide +kernel)⟩
theorem lw_p77 : lw_okq (⟨"BranchingTalksModel", "laysGood", "(II)V"⟩, 38) := ⟨⟨by decide +kernel, by decide +kernel⟩, List.mem_of_getElem? (i := 880) (by decide +kernel), List.mem_of_getElem? (i := 1214) (by decide +kernel), List.mem_of_getElem? (i := 1215) (by decide +kernel)⟩
theorem lw_p78 : lw_okq (⟨"BranchingTalksModel", "goesOn", "(II)Z"⟩, 38) := ⟨⟨by decide +kernel, by decide +kernel⟩, List.mem_of_getElem? (i := 880) (by decide +kernel), List.mem_of_getElem? (i := 1218) (by decide +kernel), List.mem_of_getElem? (i := 1219) (by decide +kernel)⟩
theorem lw_p79 : lw_okq (⟨"BranchingTalksModel", "laysReached", "()V"⟩, 38) := ⟨⟨by decide +kernel, by decide +kernel⟩, List.mem_of_getElem? (i := 880) (by decide +kernel), List.mem_of_getElem? (i := 1234) (by decide +kernel), List.mem_of_getElem? (i := 1235) (by decide +kernel)⟩
def lw_privs_5 : List (MethodName × Nat) := [(⟨"BranchingTalksModel", "isVain", "(I)Z"⟩, 38), (⟨"BranchingTalksModel", "openIn", "(I)I"⟩, 38), (⟨"BranchingTalksModel", "costOfSteps", "()I"⟩, 38), (⟨"BranchingTalksModel", "isLine", "(I)Z"⟩, 38), (⟨"BranchingTalksModel", "reachesAll", "()I"⟩, 38), (⟨"BranchingTalksModel", "reaches", "(IIII)I"⟩, 38), (⟨"BranchingTalksModel", "laysEnds", "()V"⟩, 38), (⟨"BranchingTalksModel", "statesOf", "(II)I"⟩, 38), (⟨"BranchingTalksModel", "isStuck", "(I)Z"⟩, 38), (⟨"BranchingTalksModel", "isLost", "(I)Z"⟩, 38), (⟨"BranchingTalksModel", "marksOf", "(IZ)I"⟩, 38), (⟨"BranchingTalksModel", "cheapest", "(I)I"⟩, 38), (⟨"BranchingTalksModel", "fewest", "(I)I"⟩, 38), (⟨"BranchingTalksModel", "laysGood", "(II)V"⟩, 38), (⟨"BranchingTalksModel", "goesOn", "(II)Z"⟩, 38), (⟨"BranchingTalksModel", "laysReached", "()V"⟩, 38)]
theorem lw_r5 : ∀ q ∈ lw_privs_5, lw_okq q := List.forall_mem_cons.mpr ⟨lw_p64, List.forall_mem_cons.mpr ⟨lw_p65, List.forall_mem_cons.mpr ⟨lw_p66, List.forall_mem_cons.mpr ⟨lw_p67, List.forall_mem_cons.mpr ⟨lw_p68, List.forall_mem_cons.mpr ⟨lw_p69, List.forall_mem_cons.mpr ⟨lw_p70, List.forall_mem_cons.mpr ⟨lw_p71, List.forall_mem_cons.mpr ⟨lw_p72, List.forall_mem_cons.mpr ⟨lw_p73, List.forall_mem_cons.mpr ⟨lw_p74, List.forall_mem_cons.mpr ⟨lw_p75, List.forall_mem_cons.mpr ⟨lw_p76, List.forall_mem_cons.mpr ⟨lw_p77, List.forall_mem_cons.mpr ⟨lw_p78, List.forall_mem_cons.mpr ⟨lw_p79, fun _ h => absurd h List.not_mem_nil⟩⟩⟩⟩⟩⟩⟩⟩⟩⟩⟩⟩⟩⟩⟩⟩
theorem lw_p80 : lw_okq (⟨"BranchingTalksModel", "loopOfLine", "(I)I"⟩, 38) := ⟨⟨by decide +kernel, by decide +kernel⟩, List.mem_of_getElem? (i := 880) (by decide +kernel), List.mem_of_getElem? (i := 1238) (by decide +kernel), List.mem_of_getElem? (i := 1239) (by decide +kernel)⟩
theorem lw_p81 : lw_okq (⟨"BranchingTalksModel", "loopOf", "(I)I"⟩, 38) := ⟨⟨by decide +kernel, by decide +kernel⟩, List.mem_of_getElem? (i := 880) (by decide +kernel), List.mem_of_getElem? (i := 1242) (by decide +kernel), List.mem_of_getElem? (i := 1243) (by decide +kernel)⟩
theorem lw_p82 : lw_okq (⟨"BranchingTalksModel", "asked", "(I)I"⟩, 38) := ⟨⟨by decide +kernel, by decide +kernel⟩, List.mem_of_getElem? (i := 880) (by decide +kernel), List.mem_of_getElem? (i := 1254) (by decide +kernel), List.mem_of_getElem? (i := 1255) (by decide +kernel)⟩
theorem lw_p83 : lw_okq (⟨"BranchingTalksModel", "isAskedFor", "(II)Z"⟩, 38) := ⟨⟨by decide +kernel, by decide +kernel⟩, List.mem_of_getElem? (i := 880) (by decide +kernel), List.mem_of_getElem? (i := 1258) (by decide +kernel), List.mem_of_getElem? (i := 1259) (by decide +kernel)⟩
theorem lw_p84 : lw_okq (⟨"BranchingTalksModel", "laid", "(I)I"⟩, 38) := ⟨⟨by decide +kernel, by decide +kernel⟩, List.mem_of_getElem? (i := 880) (by decide +kernel), List.mem_of_getElem? (i := 1262) (by decide +kernel), List.mem_of_getElem? (i := 1263) (by decide +kernel)⟩
theorem lw_p85 : lw_okq (⟨"BranchingTalksModel", "isAnywhere", "(I)Z"⟩, 38) := ⟨⟨by decide +kernel, by decide +kernel⟩, List.mem_of_getElem? (i := 880) (by decide +kernel), List.mem_of_getElem? (i := 1266) (by decide +kernel), List.mem_of_getElem? (i := 1267) (by decide +kernel)⟩
theorem lw_p86 : lw_okq (⟨"BranchingTalksModel", "isIdle", "(I)Z"⟩, 38) := ⟨⟨by decide +kernel, by decide +kernel⟩, List.mem_of_getElem? (i := 880) (by decide +kernel), List.mem_of_getElem? (i := 1270) (by decide +kernel), List.mem_of_getElem? (i := 1271) (by decide +kernel)⟩
theorem lw_p87 : lw_okq (⟨"BranchingTalksModel", "linesThat", "(I)I"⟩, 38) := ⟨⟨by decide +kernel, by decide +kernel⟩, List.mem_of_getElem? (i := 880) (by decide +kernel), List.mem_of_getElem? (i := 1278) (by decide +kernel), List.mem_of_getElem? (i := 1279) (by decide +kernel)⟩
theorem lw_p88 : lw_okq (⟨"BranchingTalksModel", "linesWithLoops", "()I"⟩, 38) := ⟨⟨by decide +kernel, by decide +kernel⟩, List.mem_of_getElem? (i := 880) (by decide +kernel), List.mem_of_getElem? (i := 1282) (by decide +kernel), List.mem_of_getElem? (i := 1283) (by decide +kernel)⟩
theorem lw_p89 : lw_okq (⟨"BranchingTalksModel", "ofStates", "(I)I"⟩, 38) := ⟨⟨by decide +kernel, by decide +kernel⟩, List.mem_of_getElem? (i := 880) (by decide +kernel), List.mem_of_getElem? (i := 1286) (by decide +kernel), List.mem_of_getElem? (i := 1287) (by decide +kernel)⟩
theorem lw_p90 : lw_okq (⟨"BranchingTalksModel", "goes", "()Z"⟩, 38) := ⟨⟨by decide +kernel, by decide +kernel⟩, List.mem_of_getElem? (i := 880) (by decide +kernel), List.mem_of_getElem? (i := 1297) (by decide +kernel), List.mem_of_getElem? (i := 1298) (by decide +kernel)⟩
def lw_privs_6 : List (MethodName × Nat) := [(⟨"BranchingTalksModel", "loopOfLine", "(I)I"⟩, 38), (⟨"BranchingTalksModel", "loopOf", "(I)I"⟩, 38), (⟨"BranchingTalksModel", "asked", "(I)I"⟩, 38), (⟨"BranchingTalksModel", "isAskedFor", "(II)Z"⟩, 38), (⟨"BranchingTalksModel", "laid", "(I)I"⟩, 38), (⟨"BranchingTalksModel", "isAnywhere", "(I)Z"⟩, 38), (⟨"BranchingTalksModel", "isIdle", "(I)Z"⟩, 38), (⟨"BranchingTalksModel", "linesThat", "(I)I"⟩, 38), (⟨"BranchingTalksModel", "linesWithLoops", "()I"⟩, 38), (⟨"BranchingTalksModel", "ofStates", "(I)I"⟩, 38), (⟨"BranchingTalksModel", "goes", "()Z"⟩, 38)]
theorem lw_r6 : ∀ q ∈ lw_privs_6, lw_okq q := List.forall_mem_cons.mpr ⟨lw_p80, List.forall_mem_cons.mpr ⟨lw_p81, List.forall_mem_cons.mpr ⟨lw_p82, List.forall_mem_cons.mpr ⟨lw_p83, List.forall_mem_cons.mpr ⟨lw_p84, List.forall_mem_cons.mpr ⟨lw_p85, List.forall_mem_cons.mpr ⟨lw_p86, List.forall_mem_cons.mpr ⟨lw_p87, List.forall_mem_cons.mpr ⟨lw_p88, List.forall_mem_cons.mpr ⟨lw_p89, List.forall_mem_cons.mpr ⟨lw_p90, fun _ h => absurd h List.not_mem_nil⟩⟩⟩⟩⟩⟩⟩⟩⟩⟩⟩
def lw_privs : List (MethodName × Nat) := lw_privs_1 ++ (lw_privs_2 ++ (lw_privs_3 ++ (lw_privs_4 ++ (lw_privs_5 ++ (lw_privs_6)))))
def lw_tbl : List Cond := k2_sels lw_privs ++ tables_1
theorem lw_privs_ok : ∀ q ∈ lw_privs, lw_okq q := by
  show ∀ q ∈ lw_privs_1 ++ (lw_privs_2 ++ (lw_privs_3 ++ (lw_privs_4 ++ (lw_privs_5 ++ (lw_privs_6))))), lw_okq q
  exact List.forall_mem_append.mpr ⟨lw_r1, List.forall_mem_append.mpr ⟨lw_r2, List.forall_mem_append.mpr ⟨lw_r3, List.forall_mem_append.mpr ⟨lw_r4, List.forall_mem_append.mpr ⟨lw_r5, lw_r6⟩⟩⟩⟩⟩

def RL : String := "BranchingTalksLaw"
def RX0 : String := "BranchingTalks$Acts"
def TX0 : u_T := fun k => match k with
  | 0 => ("BranchingTalks$Acts", "answer", "[I", true)
  | 1 => ("BranchingTalks$Acts", "kind", "[I", true)
  | 2 => ("BranchingTalks$Acts", "before", "[I", true)
  | _ => ("BranchingTalks$Acts", "size", "I", false)
def tyX0 : Nat → FieldType := fun k => match k with
  | 0 => .array .int
  | 1 => .array .int
  | 2 => .array .int
  | _ => .int
theorem nmX0 : ∀ a, a < 4 → ∀ b, b < 4 → a ≠ b → (TX0 a).2.1 ≠ (TX0 b).2.1 := by decide +kernel
theorem tyX0_ok : ∀ k, k < 4 → parseFieldDescriptor (TX0 k).2.2.1 = some (tyX0 k) := by decide +kernel
abbrev cX0_init : ByteArray := prog_2_method_1_code
def yX0_init : MethodName := ⟨RX0, "<init>", "()V"⟩
abbrev cX0_keep : ByteArray := prog_2_method_2_code
def yX0_keep : MethodName := ⟨RX0, "keep", "(III)V"⟩
abbrev cX0_forgetOldest : ByteArray := prog_2_method_3_code
def yX0_forgetOldest : MethodName := ⟨RX0, "forgetOldest", "()V"⟩
def RX1 : String := "BranchingTalks$Course"
def TX1 : u_T := fun k => match k with
  | 0 => ("BranchingTalks$Course", "steps", "[I", true)
  | 1 => ("BranchingTalks$Course", "size", "I", false)
  | _ => ("BranchingTalks$Course", "beginning", "I", false)
def tyX1 : Nat → FieldType := fun k => match k with
  | 0 => .array .int
  | 1 => .int
  | _ => .int
theorem nmX1 : ∀ a, a < 3 → ∀ b, b < 3 → a ≠ b → (TX1 a).2.1 ≠ (TX1 b).2.1 := by decide +kernel
theorem tyX1_ok : ∀ k, k < 3 → parseFieldDescriptor (TX1 k).2.2.1 = some (tyX1 k) := by decide +kernel
abbrev cX1_init : ByteArray := prog_3_method_1_code
def yX1_init : MethodName := ⟨RX1, "<init>", "()V"⟩
abbrev cX1_restart : ByteArray := prog_3_method_2_code
def yX1_restart : MethodName := ⟨RX1, "restart", "(I)V"⟩
abbrev cX1_advance : ByteArray := prog_3_method_3_code
def yX1_advance : MethodName := ⟨RX1, "advance", "(I)Z"⟩
abbrev cX1_lineHere : ByteArray := prog_3_method_4_code
def yX1_lineHere : MethodName := ⟨RX1, "lineHere", "(LBranchingTalks$Script;)I"⟩
abbrev cX1_marksHere : ByteArray := prog_3_method_5_code
def yX1_marksHere : MethodName := ⟨RX1, "marksHere", "(LBranchingTalks$Script;)I"⟩
abbrev cX1_priceOfSteps : ByteArray := prog_3_method_6_code
def yX1_priceOfSteps : MethodName := ⟨RX1, "priceOfSteps", "(LBranchingTalks$Script;)I"⟩
def RX2 : String := "BranchingTalks$Graph"
def TX2 : u_T := fun k => match k with
  | 0 => ("BranchingTalks$Graph", "state", "[I", true)
  | 1 => ("BranchingTalks$Graph", "place", "[I", true)
  | 2 => ("BranchingTalks$Graph", "depth", "[I", true)
  | 3 => ("BranchingTalks$Graph", "via", "[I", true)
  | 4 => ("BranchingTalks$Graph", "nearest", "[I", true)
  | 5 => ("BranchingTalks$Graph", "first", "[I", true)
  | 6 => ("BranchingTalks$Graph", "moveFrom", "[I", true)
  | 7 => ("BranchingTalks$Graph", "moveTo", "[I", true)
  | 8 => ("BranchingTalks$Graph", "moveAnswer", "[I", true)
  | 9 => ("BranchingTalks$Graph", "backFirst", "[I", true)
  | 10 => ("BranchingTalks$Graph", "backFrom", "[I", true)
  | 11 => ("BranchingTalks$Graph", "states", "I", false)
  | _ => ("BranchingTalks$Graph", "moves", "I", false)
def tyX2 : Nat → FieldType := fun k => match k with
  | 0 => .array .int
  | 1 => .array .int
  | 2 => .array .int
  | 3 => .array .int
  | 4 => .array .int
  | 5 => .array .int
  | 6 => .array .int
  | 7 => .array .int
  | 8 => .array .int
  | 9 => .array .int
  | 10 => .array .int
  | 11 => .int
  | _ => .int
theorem nmX2 : ∀ a, a < 13 → ∀ b, b < 13 → a ≠ b → (TX2 a).2.1 ≠ (TX2 b).2.1 := by decide +kernel
theorem tyX2_ok : ∀ k, k < 13 → parseFieldDescriptor (TX2 k).2.2.1 = some (tyX2 k) := by decide +kernel
abbrev cX2_init : ByteArray := prog_4_method_1_code
def yX2_init : MethodName := ⟨RX2, "<init>", "()V"⟩
abbrev cX2_explore : ByteArray := prog_4_method_2_code
def yX2_explore : MethodName := ⟨RX2, "explore", "(LBranchingTalks$Script;I)V"⟩
abbrev cX2_admit : ByteArray := prog_4_method_3_code
def yX2_admit : MethodName := ⟨RX2, "admit", "(III)V"⟩
abbrev cX2_addMovesFrom : ByteArray := prog_4_method_4_code
def yX2_addMovesFrom : MethodName := ⟨RX2, "addMovesFrom", "(ILBranchingTalks$Script;)V"⟩
abbrev cX2_turnRound : ByteArray := prog_4_method_5_code
def yX2_turnRound : MethodName := ⟨RX2, "turnRound", "()V"⟩
abbrev cX2_lineAt : ByteArray := prog_4_method_6_code
def yX2_lineAt : MethodName := ⟨RX2, "lineAt", "(I)I"⟩
abbrev cX2_marksAt : ByteArray := prog_4_method_7_code
def yX2_marksAt : MethodName := ⟨RX2, "marksAt", "(I)I"⟩
abbrev cX2_movesFrom : ByteArray := prog_4_method_8_code
def yX2_movesFrom : MethodName := ⟨RX2, "movesFrom", "(I)I"⟩
abbrev cX2_statesOf : ByteArray := prog_4_method_9_code
def yX2_statesOf : MethodName := ⟨RX2, "statesOf", "(I)I"⟩
abbrev cX2_marksInAll : ByteArray := prog_4_method_10_code
def yX2_marksInAll : MethodName := ⟨RX2, "marksInAll", "(I)I"⟩
abbrev cX2_marksInSome : ByteArray := prog_4_method_11_code
def yX2_marksInSome : MethodName := ⟨RX2, "marksInSome", "(I)I"⟩
abbrev cX2_linesReached : ByteArray := prog_4_method_12_code
def yX2_linesReached : MethodName := ⟨RX2, "linesReached", "()I"⟩
abbrev cX2_movesBy : ByteArray := prog_4_method_13_code
def yX2_movesBy : MethodName := ⟨RX2, "movesBy", "(I)I"⟩
abbrev cX2_mostMovesOfAState : ByteArray := prog_4_method_14_code
def yX2_mostMovesOfAState : MethodName := ⟨RX2, "mostMovesOfAState", "()I"⟩
abbrev cX2_greatestDepth : ByteArray := prog_4_method_15_code
def yX2_greatestDepth : MethodName := ⟨RX2, "greatestDepth", "()I"⟩
abbrev cX2_answerOfRow : ByteArray := prog_4_method_16_code
def yX2_answerOfRow : MethodName := ⟨RX2, "answerOfRow", "(II)I"⟩
abbrev cX2_answersOfRow : ByteArray := prog_4_method_17_code
def yX2_answersOfRow : MethodName := ⟨RX2, "answersOfRow", "(I)I"⟩
def RX3 : String := "BranchingTalks$Hopes"
def TX3 : u_T := fun k => match k with
  | 0 => ("BranchingTalks$Hopes", "canEnd", "[Z", true)
  | 1 => ("BranchingTalks$Hopes", "queue", "[I", true)
  | _ => ("BranchingTalks$Hopes", "queued", "I", false)
def tyX3 : Nat → FieldType := fun k => match k with
  | 0 => .array .boolean
  | 1 => .array .int
  | _ => .int
theorem nmX3 : ∀ a, a < 3 → ∀ b, b < 3 → a ≠ b → (TX3 a).2.1 ≠ (TX3 b).2.1 := by decide +kernel
theorem tyX3_ok : ∀ k, k < 3 → parseFieldDescriptor (TX3 k).2.2.1 = some (tyX3 k) := by decide +kernel
abbrev cX3_init : ByteArray := prog_5_method_1_code
def yX3_init : MethodName := ⟨RX3, "<init>", "()V"⟩
abbrev cX3_learn : ByteArray := prog_5_method_2_code
def yX3_learn : MethodName := ⟨RX3, "learn", "(LBranchingTalks$Graph;I)V"⟩
abbrev cX3_admit : ByteArray := prog_5_method_3_code
def yX3_admit : MethodName := ⟨RX3, "admit", "(I)V"⟩
def RX4 : String := "BranchingTalks$Loops"
def TX4 : u_T := fun k => match k with
  | 0 => ("BranchingTalks$Loops", "looping", "[Z", true)
  | 1 => ("BranchingTalks$Loops", "seen", "[Z", true)
  | 2 => ("BranchingTalks$Loops", "stack", "[I", true)
  | 3 => ("BranchingTalks$Loops", "nextMove", "[I", true)
  | 4 => ("BranchingTalks$Loops", "finished", "[I", true)
  | 5 => ("BranchingTalks$Loops", "member", "[I", true)
  | 6 => ("BranchingTalks$Loops", "stacked", "I", false)
  | _ => ("BranchingTalks$Loops", "members", "I", false)
def tyX4 : Nat → FieldType := fun k => match k with
  | 0 => .array .boolean
  | 1 => .array .boolean
  | 2 => .array .int
  | 3 => .array .int
  | 4 => .array .int
  | 5 => .array .int
  | 6 => .int
  | _ => .int
theorem nmX4 : ∀ a, a < 8 → ∀ b, b < 8 → a ≠ b → (TX4 a).2.1 ≠ (TX4 b).2.1 := by decide +kernel
theorem tyX4_ok : ∀ k, k < 8 → parseFieldDescriptor (TX4 k).2.2.1 = some (tyX4 k) := by decide +kernel
abbrev cX4_init : ByteArray := prog_6_method_1_code
def yX4_init : MethodName := ⟨RX4, "<init>", "()V"⟩
abbrev cX4_learn : ByteArray := prog_6_method_2_code
def yX4_learn : MethodName := ⟨RX4, "learn", "(LBranchingTalks$Graph;)V"⟩
abbrev cX4_finishAll : ByteArray := prog_6_method_3_code
def yX4_finishAll : MethodName := ⟨RX4, "finishAll", "(LBranchingTalks$Graph;)V"⟩
abbrev cX4_push : ByteArray := prog_6_method_4_code
def yX4_push : MethodName := ⟨RX4, "push", "(LBranchingTalks$Graph;I)V"⟩
abbrev cX4_gatherComponent : ByteArray := prog_6_method_5_code
def yX4_gatherComponent : MethodName := ⟨RX4, "gatherComponent", "(LBranchingTalks$Graph;I)V"⟩
abbrev cX4_join : ByteArray := prog_6_method_6_code
def yX4_join : MethodName := ⟨RX4, "join", "(I)V"⟩
def RX5 : String := "BranchingTalks$Prices"
def TX5 : u_T := fun k => match k with
  | _ => ("BranchingTalks$Prices", "least", "[I", true)
def tyX5 : Nat → FieldType := fun k => match k with
  | _ => .array .int
theorem nmX5 : ∀ a, a < 1 → ∀ b, b < 1 → a ≠ b → (TX5 a).2.1 ≠ (TX5 b).2.1 := by decide +kernel
theorem tyX5_ok : ∀ k, k < 1 → parseFieldDescriptor (TX5 k).2.2.1 = some (tyX5 k) := by decide +kernel
abbrev cX5_init : ByteArray := prog_7_method_1_code
def yX5_init : MethodName := ⟨RX5, "<init>", "()V"⟩
abbrev cX5_learn : ByteArray := prog_7_method_2_code
def yX5_learn : MethodName := ⟨RX5, "learn", "(LBranchingTalks$Graph;[I)V"⟩
abbrev cX5_cheapestOf : ByteArray := prog_7_method_3_code
def yX5_cheapestOf : MethodName := ⟨RX5, "cheapestOf", "(LBranchingTalks$Graph;I)I"⟩
def RX6 : String := "BranchingTalks$Reader"
def TX6 : u_T := fun k => match k with
  | 0 => ("BranchingTalks$Reader", "letters", "[I", true)
  | 1 => ("BranchingTalks$Reader", "size", "I", false)
  | 2 => ("BranchingTalks$Reader", "latestFault", "I", false)
  | 3 => ("BranchingTalks$Reader", "part", "I", false)
  | _ => ("BranchingTalks$Reader", "lineOfClause", "I", false)
def tyX6 : Nat → FieldType := fun k => match k with
  | 0 => .array .int
  | 1 => .int
  | 2 => .int
  | 3 => .int
  | _ => .int
theorem nmX6 : ∀ a, a < 5 → ∀ b, b < 5 → a ≠ b → (TX6 a).2.1 ≠ (TX6 b).2.1 := by decide +kernel
theorem tyX6_ok : ∀ k, k < 5 → parseFieldDescriptor (TX6 k).2.2.1 = some (tyX6 k) := by decide +kernel
abbrev cX6_init : ByteArray := prog_8_method_1_code
def yX6_init : MethodName := ⟨RX6, "<init>", "()V"⟩
abbrev cX6_append : ByteArray := prog_8_method_2_code
def yX6_append : MethodName := ⟨RX6, "append", "(I)Z"⟩
abbrev cX6_readInto : ByteArray := prog_8_method_3_code
def yX6_readInto : MethodName := ⟨RX6, "readInto", "(LBranchingTalks$Script;)I"⟩
abbrev cX6_accept : ByteArray := prog_8_method_4_code
def yX6_accept : MethodName := ⟨RX6, "accept", "(ILBranchingTalks$Script;)I"⟩
abbrev cX6_goOn : ByteArray := prog_8_method_5_code
def yX6_goOn : MethodName := ⟨RX6, "goOn", "(I)I"⟩
abbrev cX6_acceptFirstLine : ByteArray := prog_8_method_6_code
def yX6_acceptFirstLine : MethodName := ⟨RX6, "acceptFirstLine", "(ILBranchingTalks$Script;)I"⟩
abbrev cX6_acceptArrowOrDot : ByteArray := prog_8_method_7_code
def yX6_acceptArrowOrDot : MethodName := ⟨RX6, "acceptArrowOrDot", "(ILBranchingTalks$Script;)I"⟩
abbrev cX6_acceptClauseEnd : ByteArray := prog_8_method_8_code
def yX6_acceptClauseEnd : MethodName := ⟨RX6, "acceptClauseEnd", "(I)I"⟩
abbrev cX6_acceptSecondLine : ByteArray := prog_8_method_9_code
def yX6_acceptSecondLine : MethodName := ⟨RX6, "acceptSecondLine", "(ILBranchingTalks$Script;)I"⟩
abbrev cX6_acceptCost : ByteArray := prog_8_method_10_code
def yX6_acceptCost : MethodName := ⟨RX6, "acceptCost", "(ILBranchingTalks$Script;)I"⟩
abbrev cX6_acceptRest : ByteArray := prog_8_method_11_code
def yX6_acceptRest : MethodName := ⟨RX6, "acceptRest", "(ILBranchingTalks$Script;)I"⟩
abbrev cX6_openAlternative : ByteArray := prog_8_method_12_code
def yX6_openAlternative : MethodName := ⟨RX6, "openAlternative", "(LBranchingTalks$Script;)I"⟩
abbrev cX6_acceptAsked : ByteArray := prog_8_method_13_code
def yX6_acceptAsked : MethodName := ⟨RX6, "acceptAsked", "(ILBranchingTalks$Script;)I"⟩
abbrev cX6_acceptMoreOfGuard : ByteArray := prog_8_method_14_code
def yX6_acceptMoreOfGuard : MethodName := ⟨RX6, "acceptMoreOfGuard", "(ILBranchingTalks$Script;)I"⟩
abbrev cX6_acceptChanged : ByteArray := prog_8_method_15_code
def yX6_acceptChanged : MethodName := ⟨RX6, "acceptChanged", "(ILBranchingTalks$Script;)I"⟩
abbrev cX6_acceptMoreOfEffect : ByteArray := prog_8_method_16_code
def yX6_acceptMoreOfEffect : MethodName := ⟨RX6, "acceptMoreOfEffect", "(ILBranchingTalks$Script;)I"⟩
abbrev cX6_smallMark : ByteArray := prog_8_method_17_code
def yX6_smallMark : MethodName := ⟨RX6, "smallMark", "(I)I"⟩
abbrev cX6_greatMark : ByteArray := prog_8_method_18_code
def yX6_greatMark : MethodName := ⟨RX6, "greatMark", "(I)I"⟩
def RX7 : String := "BranchingTalks$RowCounts"
def TX7 : u_T := fun k => match k with
  | 0 => ("BranchingTalks$RowCounts", "now", "[J", false)
  | _ => ("BranchingTalks$RowCounts", "next", "[J", false)
def tyX7 : Nat → FieldType := fun k => match k with
  | 0 => .array .long
  | _ => .array .long
theorem nmX7 : ∀ a, a < 2 → ∀ b, b < 2 → a ≠ b → (TX7 a).2.1 ≠ (TX7 b).2.1 := by decide +kernel
theorem tyX7_ok : ∀ k, k < 2 → parseFieldDescriptor (TX7 k).2.2.1 = some (tyX7 k) := by decide +kernel
abbrev cX7_init : ByteArray := prog_9_method_1_code
def yX7_init : MethodName := ⟨RX7, "<init>", "()V"⟩
abbrev cX7_rowsTo : ByteArray := prog_9_method_2_code
def yX7_rowsTo : MethodName := ⟨RX7, "rowsTo", "(LBranchingTalks$Graph;II)J"⟩
abbrev cX7_lengthen : ByteArray := prog_9_method_3_code
def yX7_lengthen : MethodName := ⟨RX7, "lengthen", "(LBranchingTalks$Graph;)Z"⟩
def RX8 : String := "BranchingTalks$Script"
def TX8 : u_T := fun k => match k with
  | 0 => ("BranchingTalks$Script", "from", "[I", true)
  | 1 => ("BranchingTalks$Script", "to", "[I", true)
  | 2 => ("BranchingTalks$Script", "price", "[I", true)
  | 3 => ("BranchingTalks$Script", "alternatives", "[I", true)
  | 4 => ("BranchingTalks$Script", "wants", "[I", true)
  | 5 => ("BranchingTalks$Script", "bars", "[I", true)
  | 6 => ("BranchingTalks$Script", "lays", "[I", true)
  | 7 => ("BranchingTalks$Script", "takes", "[I", true)
  | 8 => ("BranchingTalks$Script", "byLine", "[I", true)
  | 9 => ("BranchingTalks$Script", "firstOfLine", "[I", true)
  | 10 => ("BranchingTalks$Script", "answers", "I", false)
  | 11 => ("BranchingTalks$Script", "there", "I", false)
  | 12 => ("BranchingTalks$Script", "endings", "I", false)
  | 13 => ("BranchingTalks$Script", "start", "I", false)
  | _ => ("BranchingTalks$Script", "cutAnswers", "I", false)
def tyX8 : Nat → FieldType := fun k => match k with
  | 0 => .array .int
  | 1 => .array .int
  | 2 => .array .int
  | 3 => .array .int
  | 4 => .array .int
  | 5 => .array .int
  | 6 => .array .int
  | 7 => .array .int
  | 8 => .array .int
  | 9 => .array .int
  | 10 => .int
  | 11 => .int
  | 12 => .int
  | 13 => .int
  | _ => .int
theorem nmX8 : ∀ a, a < 15 → ∀ b, b < 15 → a ≠ b → (TX8 a).2.1 ≠ (TX8 b).2.1 := by decide +kernel
theorem tyX8_ok : ∀ k, k < 15 → parseFieldDescriptor (TX8 k).2.2.1 = some (tyX8 k) := by decide +kernel
abbrev cX8_init : ByteArray := prog_10_method_1_code
def yX8_init : MethodName := ⟨RX8, "<init>", "()V"⟩
abbrev cX8_clear : ByteArray := prog_10_method_2_code
def yX8_clear : MethodName := ⟨RX8, "clear", "()V"⟩
abbrev cX8_nameLine : ByteArray := prog_10_method_3_code
def yX8_nameLine : MethodName := ⟨RX8, "nameLine", "(I)V"⟩
abbrev cX8_addAnswer : ByteArray := prog_10_method_4_code
def yX8_addAnswer : MethodName := ⟨RX8, "addAnswer", "(I)Z"⟩
abbrev cX8_addAlternative : ByteArray := prog_10_method_5_code
def yX8_addAlternative : MethodName := ⟨RX8, "addAlternative", "(I)Z"⟩
abbrev cX8_sortByLine : ByteArray := prog_10_method_6_code
def yX8_sortByLine : MethodName := ⟨RX8, "sortByLine", "()V"⟩
abbrev cX8_setCut : ByteArray := prog_10_method_7_code
def yX8_setCut : MethodName := ⟨RX8, "setCut", "(II)V"⟩
abbrev cX8_isOpen : ByteArray := prog_10_method_8_code
def yX8_isOpen : MethodName := ⟨RX8, "isOpen", "(III)Z"⟩
abbrev cX8_guardHolds : ByteArray := prog_10_method_9_code
def yX8_guardHolds : MethodName := ⟨RX8, "guardHolds", "(III)Z"⟩
abbrev cX8_guardContradictsItself : ByteArray := prog_10_method_10_code
def yX8_guardContradictsItself : MethodName := ⟨RX8, "guardContradictsItself", "(I)Z"⟩
abbrev cX8_marksBehind : ByteArray := prog_10_method_11_code
def yX8_marksBehind : MethodName := ⟨RX8, "marksBehind", "(II)I"⟩
abbrev cX8_stateBehind : ByteArray := prog_10_method_12_code
def yX8_stateBehind : MethodName := ⟨RX8, "stateBehind", "(II)I"⟩
abbrev cX8_answersThatLay : ByteArray := prog_10_method_13_code
def yX8_answersThatLay : MethodName := ⟨RX8, "answersThatLay", "(I)I"⟩
abbrev cX8_guardsThatName : ByteArray := prog_10_method_14_code
def yX8_guardsThatName : MethodName := ⟨RX8, "guardsThatName", "(I)I"⟩
abbrev cX8_effectsThatName : ByteArray := prog_10_method_15_code
def yX8_effectsThatName : MethodName := ⟨RX8, "effectsThatName", "(I)I"⟩
abbrev cX8_marksOfGuard : ByteArray := prog_10_method_16_code
def yX8_marksOfGuard : MethodName := ⟨RX8, "marksOfGuard", "(I)I"⟩
def RX9 : String := "BranchingTalks$Search"
def TX9 : u_T := fun k => match k with
  | 0 => ("BranchingTalks$Search", "queue", "[I", true)
  | 1 => ("BranchingTalks$Search", "distance", "[I", true)
  | _ => ("BranchingTalks$Search", "queued", "I", false)
def tyX9 : Nat → FieldType := fun k => match k with
  | 0 => .array .int
  | 1 => .array .int
  | _ => .int
theorem nmX9 : ∀ a, a < 3 → ∀ b, b < 3 → a ≠ b → (TX9 a).2.1 ≠ (TX9 b).2.1 := by decide +kernel
theorem tyX9_ok : ∀ k, k < 3 → parseFieldDescriptor (TX9 k).2.2.1 = some (tyX9 k) := by decide +kernel
abbrev cX9_init : ByteArray := prog_11_method_1_code
def yX9_init : MethodName := ⟨RX9, "<init>", "()V"⟩
abbrev cX9_startAt : ByteArray := prog_11_method_2_code
def yX9_startAt : MethodName := ⟨RX9, "startAt", "(I)V"⟩
abbrev cX9_enqueue : ByteArray := prog_11_method_3_code
def yX9_enqueue : MethodName := ⟨RX9, "enqueue", "(II)V"⟩
abbrev cX9_comesTo : ByteArray := prog_11_method_4_code
def yX9_comesTo : MethodName := ⟨RX9, "comesTo", "(LBranchingTalks$Graph;II)Z"⟩
abbrev cX9_shortestLoop : ByteArray := prog_11_method_5_code
def yX9_shortestLoop : MethodName := ⟨RX9, "shortestLoop", "(LBranchingTalks$Graph;II)I"⟩
def RX10 : String := "BranchingTalks"
def TX10 : u_T := fun k => match k with
  | 0 => ("BranchingTalks", "reader", "LBranchingTalks$Reader;", true)
  | 1 => ("BranchingTalks", "course", "LBranchingTalks$Course;", true)
  | 2 => ("BranchingTalks", "acts", "LBranchingTalks$Acts;", true)
  | 3 => ("BranchingTalks", "graph", "LBranchingTalks$Graph;", true)
  | 4 => ("BranchingTalks", "search", "LBranchingTalks$Search;", true)
  | 5 => ("BranchingTalks", "hopes", "LBranchingTalks$Hopes;", true)
  | 6 => ("BranchingTalks", "loops", "LBranchingTalks$Loops;", true)
  | 7 => ("BranchingTalks", "prices", "LBranchingTalks$Prices;", true)
  | 8 => ("BranchingTalks", "rowCounts", "LBranchingTalks$RowCounts;", true)
  | 9 => ("BranchingTalks", "script", "LBranchingTalks$Script;", false)
  | 10 => ("BranchingTalks", "spare", "LBranchingTalks$Script;", false)
  | 11 => ("BranchingTalks", "told", "Z", false)
  | 12 => ("BranchingTalks", "graphIsFresh", "Z", false)
  | 13 => ("BranchingTalks", "hopesAreFresh", "Z", false)
  | 14 => ("BranchingTalks", "loopsAreFresh", "Z", false)
  | _ => ("BranchingTalks", "pricesAreFresh", "Z", false)
def tyX10 : Nat → FieldType := fun k => match k with
  | 0 => .object "BranchingTalks$Reader"
  | 1 => .object "BranchingTalks$Course"
  | 2 => .object "BranchingTalks$Acts"
  | 3 => .object "BranchingTalks$Graph"
  | 4 => .object "BranchingTalks$Search"
  | 5 => .object "BranchingTalks$Hopes"
  | 6 => .object "BranchingTalks$Loops"
  | 7 => .object "BranchingTalks$Prices"
  | 8 => .object "BranchingTalks$RowCounts"
  | 9 => .object "BranchingTalks$Script"
  | 10 => .object "BranchingTalks$Script"
  | 11 => .boolean
  | 12 => .boolean
  | 13 => .boolean
  | 14 => .boolean
  | _ => .boolean
theorem nmX10 : ∀ a, a < 16 → ∀ b, b < 16 → a ≠ b → (TX10 a).2.1 ≠ (TX10 b).2.1 := by decide +kernel
theorem tyX10_ok : ∀ k, k < 16 → parseFieldDescriptor (TX10 k).2.2.1 = some (tyX10 k) := by decide +kernel
abbrev cX10_init : ByteArray := prog_1_method_1_code
def yX10_init : MethodName := ⟨RX10, "<init>", "()V"⟩
abbrev cX10_write : ByteArray := prog_1_method_2_code
def yX10_write : MethodName := ⟨RX10, "write", "(I)I"⟩
abbrev cX10_talk : ByteArray := prog_1_method_3_code
def yX10_talk : MethodName := ⟨RX10, "talk", "()I"⟩
abbrev cX10_fault : ByteArray := prog_1_method_4_code
def yX10_fault : MethodName := ⟨RX10, "fault", "()I"⟩
abbrev cX10_begin : ByteArray := prog_1_method_5_code
def yX10_begin : MethodName := ⟨RX10, "begin", "(I)I"⟩
abbrev cX10_take : ByteArray := prog_1_method_6_code
def yX10_take : MethodName := ⟨RX10, "take", "(I)I"⟩
abbrev cX10_back : ByteArray := prog_1_method_7_code
def yX10_back : MethodName := ⟨RX10, "back", "(I)I"⟩
abbrev cX10_cut : ByteArray := prog_1_method_8_code
def yX10_cut : MethodName := ⟨RX10, "cut", "(II)I"⟩
abbrev cX10_cost : ByteArray := prog_1_method_9_code
def yX10_cost : MethodName := ⟨RX10, "cost", "(II)I"⟩
abbrev cX10_undo : ByteArray := prog_1_method_10_code
def yX10_undo : MethodName := ⟨RX10, "undo", "()I"⟩
abbrev cX10_answer : ByteArray := prog_1_method_11_code
def yX10_answer : MethodName := ⟨RX10, "answer", "(II)I"⟩
abbrev cX10_count : ByteArray := prog_1_method_12_code
def yX10_count : MethodName := ⟨RX10, "count", "(I)I"⟩
abbrev cX10_step : ByteArray := prog_1_method_13_code
def yX10_step : MethodName := ⟨RX10, "step", "(I)I"⟩
abbrev cX10_line : ByteArray := prog_1_method_14_code
def yX10_line : MethodName := ⟨RX10, "line", "(II)I"⟩
abbrev cX10_least : ByteArray := prog_1_method_15_code
def yX10_least : MethodName := ⟨RX10, "least", "(II)I"⟩
abbrev cX10_row : ByteArray := prog_1_method_16_code
def yX10_row : MethodName := ⟨RX10, "row", "(II)I"⟩
abbrev cX10_needs : ByteArray := prog_1_method_17_code
def yX10_needs : MethodName := ⟨RX10, "needs", "(I)I"⟩
abbrev cX10_must : ByteArray := prog_1_method_18_code
def yX10_must : MethodName := ⟨RX10, "must", "(II)I"⟩
abbrev cX10_loop : ByteArray := prog_1_method_19_code
def yX10_loop : MethodName := ⟨RX10, "loop", "(I)I"⟩
abbrev cX10_use : ByteArray := prog_1_method_20_code
def yX10_use : MethodName := ⟨RX10, "use", "(I)I"⟩
abbrev cX10_mark : ByteArray := prog_1_method_21_code
def yX10_mark : MethodName := ⟨RX10, "mark", "(II)I"⟩
abbrev cX10_whole : ByteArray := prog_1_method_22_code
def yX10_whole : MethodName := ⟨RX10, "whole", "(I)I"⟩
abbrev cX10_rows : ByteArray := prog_1_method_23_code
def yX10_rows : MethodName := ⟨RX10, "rows", "(II)J"⟩
abbrev cX10_bit : ByteArray := prog_1_method_24_code
def yX10_bit : MethodName := ⟨RX10, "bit", "(II)I"⟩
abbrev cX10_isLine : ByteArray := prog_1_method_25_code
def yX10_isLine : MethodName := ⟨RX10, "isLine", "(I)Z"⟩
abbrev cX10_isAnswer : ByteArray := prog_1_method_26_code
def yX10_isAnswer : MethodName := ⟨RX10, "isAnswer", "(I)Z"⟩
abbrev cX10_isOpenHere : ByteArray := prog_1_method_27_code
def yX10_isOpenHere : MethodName := ⟨RX10, "isOpenHere", "(I)Z"⟩
abbrev cX10_openHere : ByteArray := prog_1_method_28_code
def yX10_openHere : MethodName := ⟨RX10, "openHere", "()I"⟩
abbrev cX10_alternativeSet : ByteArray := prog_1_method_29_code
def yX10_alternativeSet : MethodName := ⟨RX10, "alternativeSet", "(II)I"⟩
abbrev cX10_refreshGraph : ByteArray := prog_1_method_30_code
def yX10_refreshGraph : MethodName := ⟨RX10, "refreshGraph", "()V"⟩
abbrev cX10_refreshHopes : ByteArray := prog_1_method_31_code
def yX10_refreshHopes : MethodName := ⟨RX10, "refreshHopes", "()V"⟩
abbrev cX10_refreshLoops : ByteArray := prog_1_method_32_code
def yX10_refreshLoops : MethodName := ⟨RX10, "refreshLoops", "()V"⟩
abbrev cX10_refreshPrices : ByteArray := prog_1_method_33_code
def yX10_refreshPrices : MethodName := ⟨RX10, "refreshPrices", "()V"⟩
abbrev cX10_isStuck : ByteArray := prog_1_method_34_code
def yX10_isStuck : MethodName := ⟨RX10, "isStuck", "(I)Z"⟩
abbrev cX10_stuckStates : ByteArray := prog_1_method_35_code
def yX10_stuckStates : MethodName := ⟨RX10, "stuckStates", "(I)I"⟩
abbrev cX10_stuckLines : ByteArray := prog_1_method_36_code
def yX10_stuckLines : MethodName := ⟨RX10, "stuckLines", "()I"⟩
abbrev cX10_lostStates : ByteArray := prog_1_method_37_code
def yX10_lostStates : MethodName := ⟨RX10, "lostStates", "(I)I"⟩
abbrev cX10_lostLines : ByteArray := prog_1_method_38_code
def yX10_lostLines : MethodName := ⟨RX10, "lostLines", "()I"⟩
abbrev cX10_loopingLines : ByteArray := prog_1_method_39_code
def yX10_loopingLines : MethodName := ⟨RX10, "loopingLines", "()I"⟩
abbrev cX10_statesAtEndings : ByteArray := prog_1_method_40_code
def yX10_statesAtEndings : MethodName := ⟨RX10, "statesAtEndings", "()I"⟩
abbrev cX10_isMarkReached : ByteArray := prog_1_method_41_code
def yX10_isMarkReached : MethodName := ⟨RX10, "isMarkReached", "(I)Z"⟩
abbrev cX10_isAskedForInVain : ByteArray := prog_1_method_42_code
def yX10_isAskedForInVain : MethodName := ⟨RX10, "isAskedForInVain", "(I)Z"⟩
abbrev cX10_leadsOutWithout : ByteArray := prog_1_method_43_code
def yX10_leadsOutWithout : MethodName := ⟨RX10, "leadsOutWithout", "(III)Z"⟩
def RX11 : String := "BranchingTalksModel"
def TX11 : u_T := fun k => match k with
  | 0 => ("BranchingTalksModel", "many", "I", false)
  | 1 => ("BranchingTalksModel", "there", "I", false)
  | 2 => ("BranchingTalksModel", "endings", "I", false)
  | 3 => ("BranchingTalksModel", "start", "I", false)
  | 4 => ("BranchingTalksModel", "from", "[I", true)
  | 5 => ("BranchingTalksModel", "to", "[I", true)
  | 6 => ("BranchingTalksModel", "costs", "[I", true)
  | 7 => ("BranchingTalksModel", "alternatives", "[I", true)
  | 8 => ("BranchingTalksModel", "wants", "[I", true)
  | 9 => ("BranchingTalksModel", "bars", "[I", true)
  | 10 => ("BranchingTalksModel", "lays", "[I", true)
  | 11 => ("BranchingTalksModel", "takes", "[I", true)
  | 12 => ("BranchingTalksModel", "isCut", "[Z", true)
  | 13 => ("BranchingTalksModel", "beginning", "I", false)
  | 14 => ("BranchingTalksModel", "taken", "[I", true)
  | 15 => ("BranchingTalksModel", "steps", "I", false)
  | 16 => ("BranchingTalksModel", "past", "[I", true)
  | 17 => ("BranchingTalksModel", "acts", "I", false)
  | 18 => ("BranchingTalksModel", "far", "[I", true)
  | 19 => ("BranchingTalksModel", "queue", "[I", true)
  | 20 => ("BranchingTalksModel", "text", "[I", true)
  | 21 => ("BranchingTalksModel", "size", "I", false)
  | 22 => ("BranchingTalksModel", "latest", "I", false)
  | 23 => ("BranchingTalksModel", "at", "I", false)
  | 24 => ("BranchingTalksModel", "bad", "I", false)
  | 25 => ("BranchingTalksModel", "read", "[I", true)
  | 26 => ("BranchingTalksModel", "readWants", "[I", true)
  | 27 => ("BranchingTalksModel", "readBars", "[I", true)
  | 28 => ("BranchingTalksModel", "readMany", "I", false)
  | 29 => ("BranchingTalksModel", "readThere", "I", false)
  | 30 => ("BranchingTalksModel", "readEndings", "I", false)
  | 31 => ("BranchingTalksModel", "readStart", "I", false)
  | 32 => ("BranchingTalksModel", "ends", "[Z", true)
  | 33 => ("BranchingTalksModel", "dear", "[I", true)
  | 34 => ("BranchingTalksModel", "good", "[Z", true)
  | 35 => ("BranchingTalksModel", "isReached", "[Z", true)
  | 36 => ("BranchingTalksModel", "ways", "[J", true)
  | _ => ("BranchingTalksModel", "waysThen", "[J", true)
def tyX11 : Nat → FieldType := fun k => match k with
  | 0 => .int
  | 1 => .int
  | 2 => .int
  | 3 => .int
  | 4 => .array .int
  | 5 => .array .int
  | 6 => .array .int
  | 7 => .array .int
  | 8 => .array .int
  | 9 => .array .int
  | 10 => .array .int
  | 11 => .array .int
  | 12 => .array .boolean
  | 13 => .int
  | 14 => .array .int
  | 15 => .int
  | 16 => .array .int
  | 17 => .int
  | 18 => .array .int
  | 19 => .array .int
  | 20 => .array .int
  | 21 => .int
  | 22 => .int
  | 23 => .int
  | 24 => .int
  | 25 => .array .int
  | 26 => .array .int
  | 27 => .array .int
  | 28 => .int
  | 29 => .int
  | 30 => .int
  | 31 => .int
  | 32 => .array .boolean
  | 33 => .array .int
  | 34 => .array .boolean
  | 35 => .array .boolean
  | 36 => .array .long
  | _ => .array .long
theorem nmX11 : ∀ a, a < 38 → ∀ b, b < 38 → a ≠ b → (TX11 a).2.1 ≠ (TX11 b).2.1 := by decide +kernel
theorem tyX11_ok : ∀ k, k < 38 → parseFieldDescriptor (TX11 k).2.2.1 = some (tyX11 k) := by decide +kernel
abbrev cX11_init : ByteArray := prog_13_method_1_code
def yX11_init : MethodName := ⟨RX11, "<init>", "()V"⟩
abbrev cX11_in : ByteArray := prog_13_method_2_code
def yX11_in : MethodName := ⟨RX11, "in", "(JJJ)Z"⟩
abbrev cX11_has : ByteArray := prog_13_method_3_code
def yX11_has : MethodName := ⟨RX11, "has", "(II)Z"⟩
abbrev cX11_isTalk : ByteArray := prog_13_method_4_code
def yX11_isTalk : MethodName := ⟨RX11, "isTalk", "()Z"⟩
abbrev cX11_isAnswer : ByteArray := prog_13_method_5_code
def yX11_isAnswer : MethodName := ⟨RX11, "isAnswer", "(I)Z"⟩
abbrev cX11_isLine : ByteArray := prog_13_method_6_code
def yX11_isLine : MethodName := ⟨RX11, "isLine", "(I)Z"⟩
abbrev cX11_holds : ByteArray := prog_13_method_7_code
def yX11_holds : MethodName := ⟨RX11, "holds", "(III)Z"⟩
abbrev cX11_isOpen : ByteArray := prog_13_method_8_code
def yX11_isOpen : MethodName := ⟨RX11, "isOpen", "(III)Z"⟩
abbrev cX11_next : ByteArray := prog_13_method_9_code
def yX11_next : MethodName := ⟨RX11, "next", "(II)I"⟩
abbrev cX11_reaches : ByteArray := prog_13_method_10_code
def yX11_reaches : MethodName := ⟨RX11, "reaches", "(IIII)I"⟩
abbrev cX11_first : ByteArray := prog_13_method_11_code
def yX11_first : MethodName := ⟨RX11, "first", "()I"⟩
abbrev cX11_reachesAll : ByteArray := prog_13_method_12_code
def yX11_reachesAll : MethodName := ⟨RX11, "reachesAll", "()I"⟩
abbrev cX11_fewest : ByteArray := prog_13_method_13_code
def yX11_fewest : MethodName := ⟨RX11, "fewest", "(I)I"⟩
abbrev cX11_here : ByteArray := prog_13_method_14_code
def yX11_here : MethodName := ⟨RX11, "here", "()I"⟩
abbrev cX11_write : ByteArray := prog_13_method_15_code
def yX11_write : MethodName := ⟨RX11, "write", "(I)I"⟩
abbrev cX11_look : ByteArray := prog_13_method_16_code
def yX11_look : MethodName := ⟨RX11, "look", "()I"⟩
abbrev cX11_wrong : ByteArray := prog_13_method_17_code
def yX11_wrong : MethodName := ⟨RX11, "wrong", "(I)V"⟩
abbrev cX11_passes : ByteArray := prog_13_method_18_code
def yX11_passes : MethodName := ⟨RX11, "passes", "(I)V"⟩
abbrev cX11_line : ByteArray := prog_13_method_19_code
def yX11_line : MethodName := ⟨RX11, "line", "()I"⟩
abbrev cX11_isMark : ByteArray := prog_13_method_20_code
def yX11_isMark : MethodName := ⟨RX11, "isMark", "()Z"⟩
abbrev cX11_readsAlternative : ByteArray := prog_13_method_21_code
def yX11_readsAlternative : MethodName := ⟨RX11, "readsAlternative", "(I)V"⟩
abbrev cX11_readsGuard : ByteArray := prog_13_method_22_code
def yX11_readsGuard : MethodName := ⟨RX11, "readsGuard", "(I)V"⟩
abbrev cX11_readsEffect : ByteArray := prog_13_method_23_code
def yX11_readsEffect : MethodName := ⟨RX11, "readsEffect", "(I)V"⟩
abbrev cX11_readsAnswer : ByteArray := prog_13_method_24_code
def yX11_readsAnswer : MethodName := ⟨RX11, "readsAnswer", "(I)V"⟩
abbrev cX11_readsClause : ByteArray := prog_13_method_25_code
def yX11_readsClause : MethodName := ⟨RX11, "readsClause", "()V"⟩
abbrev cX11_keeps : ByteArray := prog_13_method_26_code
def yX11_keeps : MethodName := ⟨RX11, "keeps", "()V"⟩
abbrev cX11_talk : ByteArray := prog_13_method_27_code
def yX11_talk : MethodName := ⟨RX11, "talk", "()I"⟩
abbrev cX11_fault : ByteArray := prog_13_method_28_code
def yX11_fault : MethodName := ⟨RX11, "fault", "()I"⟩
abbrev cX11_begin : ByteArray := prog_13_method_29_code
def yX11_begin : MethodName := ⟨RX11, "begin", "(I)I"⟩
abbrev cX11_take : ByteArray := prog_13_method_30_code
def yX11_take : MethodName := ⟨RX11, "take", "(I)I"⟩
abbrev cX11_back : ByteArray := prog_13_method_31_code
def yX11_back : MethodName := ⟨RX11, "back", "(I)I"⟩
abbrev cX11_notes : ByteArray := prog_13_method_32_code
def yX11_notes : MethodName := ⟨RX11, "notes", "()V"⟩
abbrev cX11_cut : ByteArray := prog_13_method_33_code
def yX11_cut : MethodName := ⟨RX11, "cut", "(II)I"⟩
abbrev cX11_cost : ByteArray := prog_13_method_34_code
def yX11_cost : MethodName := ⟨RX11, "cost", "(II)I"⟩
abbrev cX11_undo : ByteArray := prog_13_method_35_code
def yX11_undo : MethodName := ⟨RX11, "undo", "()I"⟩
abbrev cX11_isVain : ByteArray := prog_13_method_36_code
def yX11_isVain : MethodName := ⟨RX11, "isVain", "(I)Z"⟩
abbrev cX11_answer : ByteArray := prog_13_method_37_code
def yX11_answer : MethodName := ⟨RX11, "answer", "(II)I"⟩
abbrev cX11_openIn : ByteArray := prog_13_method_38_code
def yX11_openIn : MethodName := ⟨RX11, "openIn", "(I)I"⟩
abbrev cX11_costOfSteps : ByteArray := prog_13_method_39_code
def yX11_costOfSteps : MethodName := ⟨RX11, "costOfSteps", "()I"⟩
abbrev cX11_count : ByteArray := prog_13_method_40_code
def yX11_count : MethodName := ⟨RX11, "count", "(I)I"⟩
abbrev cX11_step : ByteArray := prog_13_method_41_code
def yX11_step : MethodName := ⟨RX11, "step", "(I)I"⟩
abbrev cX11_laysEnds : ByteArray := prog_13_method_42_code
def yX11_laysEnds : MethodName := ⟨RX11, "laysEnds", "()V"⟩
abbrev cX11_isStuck : ByteArray := prog_13_method_43_code
def yX11_isStuck : MethodName := ⟨RX11, "isStuck", "(I)Z"⟩
abbrev cX11_isLost : ByteArray := prog_13_method_44_code
def yX11_isLost : MethodName := ⟨RX11, "isLost", "(I)Z"⟩
abbrev cX11_statesOf : ByteArray := prog_13_method_45_code
def yX11_statesOf : MethodName := ⟨RX11, "statesOf", "(II)I"⟩
abbrev cX11_marksOf : ByteArray := prog_13_method_46_code
def yX11_marksOf : MethodName := ⟨RX11, "marksOf", "(IZ)I"⟩
abbrev cX11_line_ : ByteArray := prog_13_method_47_code
def yX11_line_ : MethodName := ⟨RX11, "line", "(II)I"⟩
abbrev cX11_cheapest : ByteArray := prog_13_method_48_code
def yX11_cheapest : MethodName := ⟨RX11, "cheapest", "(I)I"⟩
abbrev cX11_least : ByteArray := prog_13_method_49_code
def yX11_least : MethodName := ⟨RX11, "least", "(II)I"⟩
abbrev cX11_laysGood : ByteArray := prog_13_method_50_code
def yX11_laysGood : MethodName := ⟨RX11, "laysGood", "(II)V"⟩
abbrev cX11_goesOn : ByteArray := prog_13_method_51_code
def yX11_goesOn : MethodName := ⟨RX11, "goesOn", "(II)Z"⟩
abbrev cX11_row : ByteArray := prog_13_method_52_code
def yX11_row : MethodName := ⟨RX11, "row", "(II)I"⟩
abbrev cX11_needs : ByteArray := prog_13_method_53_code
def yX11_needs : MethodName := ⟨RX11, "needs", "(I)I"⟩
abbrev cX11_must : ByteArray := prog_13_method_54_code
def yX11_must : MethodName := ⟨RX11, "must", "(II)I"⟩
abbrev cX11_laysReached : ByteArray := prog_13_method_55_code
def yX11_laysReached : MethodName := ⟨RX11, "laysReached", "()V"⟩
abbrev cX11_loopOf : ByteArray := prog_13_method_56_code
def yX11_loopOf : MethodName := ⟨RX11, "loopOf", "(I)I"⟩
abbrev cX11_loopOfLine : ByteArray := prog_13_method_57_code
def yX11_loopOfLine : MethodName := ⟨RX11, "loopOfLine", "(I)I"⟩
abbrev cX11_loop : ByteArray := prog_13_method_58_code
def yX11_loop : MethodName := ⟨RX11, "loop", "(I)I"⟩
abbrev cX11_use : ByteArray := prog_13_method_59_code
def yX11_use : MethodName := ⟨RX11, "use", "(I)I"⟩
abbrev cX11_isAskedFor : ByteArray := prog_13_method_60_code
def yX11_isAskedFor : MethodName := ⟨RX11, "isAskedFor", "(II)Z"⟩
abbrev cX11_asked : ByteArray := prog_13_method_61_code
def yX11_asked : MethodName := ⟨RX11, "asked", "(I)I"⟩
abbrev cX11_laid : ByteArray := prog_13_method_62_code
def yX11_laid : MethodName := ⟨RX11, "laid", "(I)I"⟩
abbrev cX11_isAnywhere : ByteArray := prog_13_method_63_code
def yX11_isAnywhere : MethodName := ⟨RX11, "isAnywhere", "(I)Z"⟩
abbrev cX11_isIdle : ByteArray := prog_13_method_64_code
def yX11_isIdle : MethodName := ⟨RX11, "isIdle", "(I)Z"⟩
abbrev cX11_mark : ByteArray := prog_13_method_65_code
def yX11_mark : MethodName := ⟨RX11, "mark", "(II)I"⟩
abbrev cX11_linesThat : ByteArray := prog_13_method_66_code
def yX11_linesThat : MethodName := ⟨RX11, "linesThat", "(I)I"⟩
abbrev cX11_linesWithLoops : ByteArray := prog_13_method_67_code
def yX11_linesWithLoops : MethodName := ⟨RX11, "linesWithLoops", "()I"⟩
abbrev cX11_ofStates : ByteArray := prog_13_method_68_code
def yX11_ofStates : MethodName := ⟨RX11, "ofStates", "(I)I"⟩
abbrev cX11_whole : ByteArray := prog_13_method_69_code
def yX11_whole : MethodName := ⟨RX11, "whole", "(I)I"⟩
abbrev cX11_isTooMuch : ByteArray := prog_13_method_70_code
def yX11_isTooMuch : MethodName := ⟨RX11, "isTooMuch", "(JJ)Z"⟩
abbrev cX11_goes : ByteArray := prog_13_method_71_code
def yX11_goes : MethodName := ⟨RX11, "goes", "()Z"⟩
abbrev cX11_rows : ByteArray := prog_13_method_72_code
def yX11_rows : MethodName := ⟨RX11, "rows", "(II)J"⟩
def RJ6 : String := "java/lang/Integer"
abbrev cJ6_bitCount_0f7a4 : ByteArray := prog_14_method_49_code
def yJ6_bitCount_0f7a4 : MethodName := ⟨RJ6, "bitCount", "(I)I"⟩
def RJ9 : String := "java/lang/Math"
abbrev cJ9_max_7cf53 : ByteArray := prog_15_method_65_code
def yJ9_max_7cf53 : MethodName := ⟨RJ9, "max", "(II)I"⟩
abbrev cJ9_min_7cf53 : ByteArray := prog_15_method_69_code
def yJ9_min_7cf53 : MethodName := ⟨RJ9, "min", "(II)I"⟩
def RJ10 : String := "java/lang/System"
def RJ7 : String := "java/util/Arrays"
abbrev cJ7_fill_d0a16 : ByteArray := prog_17_method_101_code
def yJ7_fill_d0a16 : MethodName := ⟨RJ7, "fill", "([JJ)V"⟩
abbrev cJ7_fill_53178 : ByteArray := prog_17_method_103_code
def yJ7_fill_53178 : MethodName := ⟨RJ7, "fill", "([II)V"⟩
abbrev cJ7_fill_49daa : ByteArray := prog_17_method_111_code
def yJ7_fill_49daa : MethodName := ⟨RJ7, "fill", "([ZZ)V"⟩
/-- the words that every method is given: the tables' good ones -/
def tbG : List Cond := lw_tbl.filter goodWord
theorem tbG_good {w : Cond} (h : w ∈ tbG) : goodWord w = true := (List.mem_filter.mp h).2
theorem tbG_in {w : Cond} (h : w ∈ tbG) : w ∈ lw_tbl := (List.mem_filter.mp h).1
theorem tg {i : Nat} {w : Cond} (h : lw_tbl[i]? = some w) (g : goodWord w = true) : w ∈ tbG := List.mem_filter.mpr ⟨List.mem_of_getElem? h, g⟩
abbrev MI : Type := MethodName × ByteArray × Nat × Option FieldType × Nat
abbrev qX10_init : MI := (yX10_init, cX10_init, 1, none, 2)
abbrev qX6_init : MI := (yX6_init, cX6_init, 1, none, 1)
abbrev qX1_init : MI := (yX1_init, cX1_init, 1, none, 1)
abbrev qX0_init : MI := (yX0_init, cX0_init, 1, none, 1)
abbrev qX2_init : MI := (yX2_init, cX2_init, 1, none, 1)
abbrev qX9_init : MI := (yX9_init, cX9_init, 1, none, 1)
abbrev qX3_init : MI := (yX3_init, cX3_init, 1, none, 1)
abbrev qX4_init : MI := (yX4_init, cX4_init, 1, none, 1)
abbrev qX5_init : MI := (yX5_init, cX5_init, 1, none, 1)
abbrev qX7_init : MI := (yX7_init, cX7_init, 1, none, 1)
abbrev qX8_init : MI := (yX8_init, cX8_init, 1, none, 1)
abbrev qX10_write : MI := (yX10_write, cX10_write, 2, (some .int), 1)
abbrev qX6_append : MI := (yX6_append, cX6_append, 2, (some .boolean), 0)
abbrev qX10_talk : MI := (yX10_talk, cX10_talk, 3, (some .int), 6)
abbrev qX6_readInto : MI := (yX6_readInto, cX6_readInto, 4, (some .int), 5)
abbrev qX8_clear : MI := (yX8_clear, cX8_clear, 1, none, 0)
abbrev qX6_accept : MI := (yX6_accept, cX6_accept, 3, (some .int), 4)
abbrev qX6_acceptFirstLine : MI := (yX6_acceptFirstLine, cX6_acceptFirstLine, 3, (some .int), 1)
abbrev qX8_nameLine : MI := (yX8_nameLine, cX8_nameLine, 2, none, 0)
abbrev qX6_goOn : MI := (yX6_goOn, cX6_goOn, 2, (some .int), 0)
abbrev qX6_acceptArrowOrDot : MI := (yX6_acceptArrowOrDot, cX6_acceptArrowOrDot, 3, (some .int), 1)
abbrev qX8_addAnswer : MI := (yX8_addAnswer, cX8_addAnswer, 2, (some .boolean), 0)
abbrev qX6_acceptClauseEnd : MI := (yX6_acceptClauseEnd, cX6_acceptClauseEnd, 2, (some .int), 1)
abbrev qX6_acceptSecondLine : MI := (yX6_acceptSecondLine, cX6_acceptSecondLine, 3, (some .int), 1)
abbrev qX6_acceptCost : MI := (yX6_acceptCost, cX6_acceptCost, 3, (some .int), 3)
abbrev qX6_acceptRest : MI := (yX6_acceptRest, cX6_acceptRest, 3, (some .int), 2)
abbrev qX6_openAlternative : MI := (yX6_openAlternative, cX6_openAlternative, 2, (some .int), 1)
abbrev qX8_addAlternative : MI := (yX8_addAlternative, cX8_addAlternative, 3, (some .boolean), 0)
abbrev qX6_acceptAsked : MI := (yX6_acceptAsked, cX6_acceptAsked, 7, (some .int), 1)
abbrev qX6_smallMark : MI := (yX6_smallMark, cX6_smallMark, 1, (some .int), 0)
abbrev qX6_greatMark : MI := (yX6_greatMark, cX6_greatMark, 1, (some .int), 0)
abbrev qX6_acceptMoreOfGuard : MI := (yX6_acceptMoreOfGuard, cX6_acceptMoreOfGuard, 3, (some .int), 3)
abbrev qX6_acceptChanged : MI := (yX6_acceptChanged, cX6_acceptChanged, 6, (some .int), 1)
abbrev qX6_acceptMoreOfEffect : MI := (yX6_acceptMoreOfEffect, cX6_acceptMoreOfEffect, 3, (some .int), 2)
abbrev qX8_sortByLine : MI := (yX8_sortByLine, cX8_sortByLine, 4, none, 0)
abbrev qX1_restart : MI := (yX1_restart, cX1_restart, 2, none, 0)
abbrev qX10_fault : MI := (yX10_fault, cX10_fault, 1, (some .int), 0)
abbrev qX10_begin : MI := (yX10_begin, cX10_begin, 2, (some .int), 1)
abbrev qX10_take : MI := (yX10_take, cX10_take, 2, (some .int), 3)
abbrev qX10_isAnswer : MI := (yX10_isAnswer, cX10_isAnswer, 2, (some .boolean), 0)
abbrev qX10_isOpenHere : MI := (yX10_isOpenHere, cX10_isOpenHere, 2, (some .boolean), 2)
abbrev qX1_lineHere : MI := (yX1_lineHere, cX1_lineHere, 2, (some .int), 0)
abbrev qX1_marksHere : MI := (yX1_marksHere, cX1_marksHere, 4, (some .int), 1)
abbrev qX8_marksBehind : MI := (yX8_marksBehind, cX8_marksBehind, 3, (some .int), 0)
abbrev qX8_isOpen : MI := (yX8_isOpen, cX8_isOpen, 4, (some .boolean), 1)
abbrev qX10_bit : MI := (yX10_bit, cX10_bit, 2, (some .int), 0)
abbrev qX8_guardHolds : MI := (yX8_guardHolds, cX8_guardHolds, 8, (some .boolean), 0)
abbrev qX1_advance : MI := (yX1_advance, cX1_advance, 2, (some .boolean), 0)
abbrev qX10_back : MI := (yX10_back, cX10_back, 2, (some .int), 1)
abbrev qX10_cut : MI := (yX10_cut, cX10_cut, 3, (some .int), 3)
abbrev qX0_keep : MI := (yX0_keep, cX0_keep, 4, none, 2)
abbrev qX0_forgetOldest : MI := (yX0_forgetOldest, cX0_forgetOldest, 1, none, 1)
abbrev qX8_setCut : MI := (yX8_setCut, cX8_setCut, 3, none, 0)
abbrev qJ6_bitCount_0f7a4 : MI := (yJ6_bitCount_0f7a4, cJ6_bitCount_0f7a4, 1, (some .int), 0)
abbrev qX10_cost : MI := (yX10_cost, cX10_cost, 4, (some .int), 3)
abbrev qX10_undo : MI := (yX10_undo, cX10_undo, 3, (some .int), 1)
abbrev qX10_answer : MI := (yX10_answer, cX10_answer, 3, (some .int), 3)
abbrev qX8_guardContradictsItself : MI := (yX8_guardContradictsItself, cX8_guardContradictsItself, 4, (some .boolean), 0)
abbrev qX10_alternativeSet : MI := (yX10_alternativeSet, cX10_alternativeSet, 4, (some .int), 0)
abbrev qX10_count : MI := (yX10_count, cX10_count, 2, (some .int), 4)
abbrev qX10_openHere : MI := (yX10_openHere, cX10_openHere, 3, (some .int), 3)
abbrev qX1_priceOfSteps : MI := (yX1_priceOfSteps, cX1_priceOfSteps, 4, (some .int), 0)
abbrev qX10_step : MI := (yX10_step, cX10_step, 2, (some .int), 0)
abbrev qX10_line : MI := (yX10_line, cX10_line, 3, (some .int), 5)
abbrev qX10_isLine : MI := (yX10_isLine, cX10_isLine, 2, (some .boolean), 1)
abbrev qX10_refreshGraph : MI := (yX10_refreshGraph, cX10_refreshGraph, 1, none, 4)
abbrev qX2_explore : MI := (yX2_explore, cX2_explore, 4, none, 3)
abbrev qJ7_fill_53178 : MI := (yJ7_fill_53178, cJ7_fill_53178, 4, none, 0)
abbrev qX2_admit : MI := (yX2_admit, cX2_admit, 4, none, 0)
abbrev qX2_addMovesFrom : MI := (yX2_addMovesFrom, cX2_addMovesFrom, 8, none, 2)
abbrev qX2_lineAt : MI := (yX2_lineAt, cX2_lineAt, 2, (some .int), 0)
abbrev qX2_marksAt : MI := (yX2_marksAt, cX2_marksAt, 2, (some .int), 0)
abbrev qX8_stateBehind : MI := (yX8_stateBehind, cX8_stateBehind, 3, (some .int), 1)
abbrev qX2_turnRound : MI := (yX2_turnRound, cX2_turnRound, 3, none, 1)
abbrev qX2_statesOf : MI := (yX2_statesOf, cX2_statesOf, 4, (some .int), 1)
abbrev qX2_marksInAll : MI := (yX2_marksInAll, cX2_marksInAll, 4, (some .int), 1)
abbrev qX2_marksInSome : MI := (yX2_marksInSome, cX2_marksInSome, 4, (some .int), 1)
abbrev qX10_stuckStates : MI := (yX10_stuckStates, cX10_stuckStates, 4, (some .int), 2)
abbrev qX10_isStuck : MI := (yX10_isStuck, cX10_isStuck, 2, (some .boolean), 1)
abbrev qX2_movesFrom : MI := (yX2_movesFrom, cX2_movesFrom, 2, (some .int), 0)
abbrev qX10_lostStates : MI := (yX10_lostStates, cX10_lostStates, 4, (some .int), 3)
abbrev qX10_refreshHopes : MI := (yX10_refreshHopes, cX10_refreshHopes, 1, none, 2)
abbrev qX3_learn : MI := (yX3_learn, cX3_learn, 6, none, 1)
abbrev qX3_admit : MI := (yX3_admit, cX3_admit, 2, none, 0)
abbrev qX10_least : MI := (yX10_least, cX10_least, 4, (some .int), 5)
abbrev qX10_refreshPrices : MI := (yX10_refreshPrices, cX10_refreshPrices, 1, none, 2)
abbrev qX5_learn : MI := (yX5_learn, cX5_learn, 7, none, 1)
abbrev qX5_cheapestOf : MI := (yX5_cheapestOf, cX5_cheapestOf, 5, (some .int), 1)
abbrev qJ9_min_7cf53 : MI := (yJ9_min_7cf53, cJ9_min_7cf53, 2, (some .int), 0)
abbrev qX10_row : MI := (yX10_row, cX10_row, 3, (some .int), 5)
abbrev qX2_answerOfRow : MI := (yX2_answerOfRow, cX2_answerOfRow, 5, (some .int), 0)
abbrev qX10_needs : MI := (yX10_needs, cX10_needs, 4, (some .int), 5)
abbrev qX8_answersThatLay : MI := (yX8_answersThatLay, cX8_answersThatLay, 4, (some .int), 1)
abbrev qX9_comesTo : MI := (yX9_comesTo, cX9_comesTo, 7, (some .boolean), 2)
abbrev qX9_startAt : MI := (yX9_startAt, cX9_startAt, 2, none, 1)
abbrev qX9_enqueue : MI := (yX9_enqueue, cX9_enqueue, 3, none, 0)
abbrev qX10_must : MI := (yX10_must, cX10_must, 6, (some .int), 5)
abbrev qX2_answersOfRow : MI := (yX2_answersOfRow, cX2_answersOfRow, 5, (some .int), 0)
abbrev qX10_loop : MI := (yX10_loop, cX10_loop, 5, (some .int), 5)
abbrev qX10_refreshLoops : MI := (yX10_refreshLoops, cX10_refreshLoops, 1, none, 3)
abbrev qX4_learn : MI := (yX4_learn, cX4_learn, 3, none, 2)
abbrev qX4_finishAll : MI := (yX4_finishAll, cX4_finishAll, 6, none, 1)
abbrev qJ7_fill_49daa : MI := (yJ7_fill_49daa, cJ7_fill_49daa, 4, none, 0)
abbrev qX4_push : MI := (yX4_push, cX4_push, 3, none, 0)
abbrev qX4_gatherComponent : MI := (yX4_gatherComponent, cX4_gatherComponent, 7, none, 1)
abbrev qX4_join : MI := (yX4_join, cX4_join, 2, none, 0)
abbrev qX9_shortestLoop : MI := (yX9_shortestLoop, cX9_shortestLoop, 8, (some .int), 2)
abbrev qX10_use : MI := (yX10_use, cX10_use, 3, (some .int), 5)
abbrev qX2_movesBy : MI := (yX2_movesBy, cX2_movesBy, 4, (some .int), 0)
abbrev qX10_mark : MI := (yX10_mark, cX10_mark, 3, (some .int), 6)
abbrev qX8_guardsThatName : MI := (yX8_guardsThatName, cX8_guardsThatName, 4, (some .int), 1)
abbrev qX8_marksOfGuard : MI := (yX8_marksOfGuard, cX8_marksOfGuard, 5, (some .int), 0)
abbrev qX8_effectsThatName : MI := (yX8_effectsThatName, cX8_effectsThatName, 4, (some .int), 1)
abbrev qX10_isMarkReached : MI := (yX10_isMarkReached, cX10_isMarkReached, 3, (some .boolean), 5)
abbrev qX10_isAskedForInVain : MI := (yX10_isAskedForInVain, cX10_isAskedForInVain, 3, (some .boolean), 5)
abbrev qX10_leadsOutWithout : MI := (yX10_leadsOutWithout, cX10_leadsOutWithout, 6, (some .boolean), 2)
abbrev qX10_whole : MI := (yX10_whole, cX10_whole, 2, (some .int), 5)
abbrev qX2_linesReached : MI := (yX2_linesReached, cX2_linesReached, 3, (some .int), 1)
abbrev qX10_stuckLines : MI := (yX10_stuckLines, cX10_stuckLines, 3, (some .int), 2)
abbrev qX10_lostLines : MI := (yX10_lostLines, cX10_lostLines, 3, (some .int), 3)
abbrev qX10_loopingLines : MI := (yX10_loopingLines, cX10_loopingLines, 3, (some .int), 4)
abbrev qX2_mostMovesOfAState : MI := (yX2_mostMovesOfAState, cX2_mostMovesOfAState, 3, (some .int), 1)
abbrev qJ9_max_7cf53 : MI := (yJ9_max_7cf53, cJ9_max_7cf53, 2, (some .int), 0)
abbrev qX10_statesAtEndings : MI := (yX10_statesAtEndings, cX10_statesAtEndings, 3, (some .int), 1)
abbrev qX2_greatestDepth : MI := (yX2_greatestDepth, cX2_greatestDepth, 1, (some .int), 0)
abbrev qX10_rows : MI := (yX10_rows, cX10_rows, 3, (some .long), 5)
abbrev qX7_rowsTo : MI := (yX7_rowsTo, cX7_rowsTo, 7, (some .long), 2)
abbrev qJ7_fill_d0a16 : MI := (yJ7_fill_d0a16, cJ7_fill_d0a16, 5, none, 0)
abbrev qX7_lengthen : MI := (yX7_lengthen, cX7_lengthen, 6, (some .boolean), 1)
abbrev qX11_init : MI := (yX11_init, cX11_init, 1, none, 1)
abbrev qX11_write : MI := (yX11_write, cX11_write, 2, (some .int), 1)
abbrev qX11_in : MI := (yX11_in, cX11_in, 6, (some .boolean), 0)
abbrev qX11_talk : MI := (yX11_talk, cX11_talk, 3, (some .int), 6)
abbrev qX11_readsClause : MI := (yX11_readsClause, cX11_readsClause, 2, none, 5)
abbrev qX11_line : MI := (yX11_line, cX11_line, 2, (some .int), 1)
abbrev qX11_look : MI := (yX11_look, cX11_look, 1, (some .int), 0)
abbrev qX11_wrong : MI := (yX11_wrong, cX11_wrong, 2, none, 0)
abbrev qX11_readsAnswer : MI := (yX11_readsAnswer, cX11_readsAnswer, 4, none, 4)
abbrev qX11_passes : MI := (yX11_passes, cX11_passes, 2, none, 1)
abbrev qX11_readsGuard : MI := (yX11_readsGuard, cX11_readsGuard, 2, none, 3)
abbrev qX11_readsAlternative : MI := (yX11_readsAlternative, cX11_readsAlternative, 4, none, 2)
abbrev qX11_isMark : MI := (yX11_isMark, cX11_isMark, 1, (some .boolean), 1)
abbrev qX11_readsEffect : MI := (yX11_readsEffect, cX11_readsEffect, 4, none, 2)
abbrev qX11_has : MI := (yX11_has, cX11_has, 2, (some .boolean), 0)
abbrev qX11_keeps : MI := (yX11_keeps, cX11_keeps, 2, none, 0)
abbrev qX11_fault : MI := (yX11_fault, cX11_fault, 1, (some .int), 0)
abbrev qX11_begin : MI := (yX11_begin, cX11_begin, 2, (some .int), 1)
abbrev qX11_isTalk : MI := (yX11_isTalk, cX11_isTalk, 1, (some .boolean), 0)
abbrev qX11_take : MI := (yX11_take, cX11_take, 2, (some .int), 2)
abbrev qX11_isAnswer : MI := (yX11_isAnswer, cX11_isAnswer, 2, (some .boolean), 1)
abbrev qX11_here : MI := (yX11_here, cX11_here, 3, (some .int), 1)
abbrev qX11_first : MI := (yX11_first, cX11_first, 1, (some .int), 0)
abbrev qX11_next : MI := (yX11_next, cX11_next, 3, (some .int), 0)
abbrev qX11_isOpen : MI := (yX11_isOpen, cX11_isOpen, 5, (some .boolean), 1)
abbrev qX11_holds : MI := (yX11_holds, cX11_holds, 9, (some .boolean), 0)
abbrev qX11_back : MI := (yX11_back, cX11_back, 2, (some .int), 2)
abbrev qX11_cut : MI := (yX11_cut, cX11_cut, 5, (some .int), 2)
abbrev qX11_notes : MI := (yX11_notes, cX11_notes, 2, none, 0)
abbrev qX11_cost : MI := (yX11_cost, cX11_cost, 4, (some .int), 2)
abbrev qX11_undo : MI := (yX11_undo, cX11_undo, 2, (some .int), 1)
abbrev qX11_answer : MI := (yX11_answer, cX11_answer, 4, (some .int), 2)
abbrev qX11_isVain : MI := (yX11_isVain, cX11_isVain, 4, (some .boolean), 0)
abbrev qX11_count : MI := (yX11_count, cX11_count, 2, (some .int), 3)
abbrev qX11_openIn : MI := (yX11_openIn, cX11_openIn, 4, (some .int), 2)
abbrev qX11_costOfSteps : MI := (yX11_costOfSteps, cX11_costOfSteps, 3, (some .int), 0)
abbrev qX11_step : MI := (yX11_step, cX11_step, 2, (some .int), 1)
abbrev qX11_line_ : MI := (yX11_line_, cX11_line_, 3, (some .int), 5)
abbrev qX11_isLine : MI := (yX11_isLine, cX11_isLine, 2, (some .boolean), 1)
abbrev qX11_reachesAll : MI := (yX11_reachesAll, cX11_reachesAll, 1, (some .int), 3)
abbrev qX11_reaches : MI := (yX11_reaches, cX11_reaches, 11, (some .int), 2)
abbrev qX11_laysEnds : MI := (yX11_laysEnds, cX11_laysEnds, 4, none, 2)
abbrev qX11_statesOf : MI := (yX11_statesOf, cX11_statesOf, 6, (some .int), 4)
abbrev qX11_isStuck : MI := (yX11_isStuck, cX11_isStuck, 2, (some .boolean), 3)
abbrev qX11_isLost : MI := (yX11_isLost, cX11_isLost, 2, (some .boolean), 0)
abbrev qX11_marksOf : MI := (yX11_marksOf, cX11_marksOf, 6, (some .int), 0)
abbrev qX11_least : MI := (yX11_least, cX11_least, 3, (some .int), 4)
abbrev qX11_cheapest : MI := (yX11_cheapest, cX11_cheapest, 7, (some .int), 2)
abbrev qX11_fewest : MI := (yX11_fewest, cX11_fewest, 4, (some .int), 0)
abbrev qX11_row : MI := (yX11_row, cX11_row, 7, (some .int), 4)
abbrev qX11_laysGood : MI := (yX11_laysGood, cX11_laysGood, 6, none, 3)
abbrev qX11_goesOn : MI := (yX11_goesOn, cX11_goesOn, 4, (some .boolean), 2)
abbrev qX11_needs : MI := (yX11_needs, cX11_needs, 4, (some .int), 4)
abbrev qX11_must : MI := (yX11_must, cX11_must, 5, (some .int), 4)
abbrev qX11_loop : MI := (yX11_loop, cX11_loop, 2, (some .int), 5)
abbrev qX11_laysReached : MI := (yX11_laysReached, cX11_laysReached, 2, none, 4)
abbrev qX11_loopOfLine : MI := (yX11_loopOfLine, cX11_loopOfLine, 5, (some .int), 4)
abbrev qX11_loopOf : MI := (yX11_loopOf, cX11_loopOf, 6, (some .int), 3)
abbrev qX11_use : MI := (yX11_use, cX11_use, 5, (some .int), 5)
abbrev qX11_mark : MI := (yX11_mark, cX11_mark, 3, (some .int), 6)
abbrev qX11_asked : MI := (yX11_asked, cX11_asked, 4, (some .int), 2)
abbrev qX11_isAskedFor : MI := (yX11_isAskedFor, cX11_isAskedFor, 5, (some .boolean), 1)
abbrev qX11_laid : MI := (yX11_laid, cX11_laid, 4, (some .int), 1)
abbrev qX11_isAnywhere : MI := (yX11_isAnywhere, cX11_isAnywhere, 4, (some .boolean), 4)
abbrev qX11_isIdle : MI := (yX11_isIdle, cX11_isIdle, 4, (some .boolean), 5)
abbrev qX11_whole : MI := (yX11_whole, cX11_whole, 3, (some .int), 6)
abbrev qX11_linesThat : MI := (yX11_linesThat, cX11_linesThat, 5, (some .int), 5)
abbrev qX11_linesWithLoops : MI := (yX11_linesWithLoops, cX11_linesWithLoops, 3, (some .int), 5)
abbrev qX11_ofStates : MI := (yX11_ofStates, cX11_ofStates, 6, (some .int), 3)
abbrev qX11_rows : MI := (yX11_rows, cX11_rows, 6, (some .long), 3)
abbrev qX11_goes : MI := (yX11_goes, cX11_goes, 4, (some .boolean), 2)
abbrev qX11_isTooMuch : MI := (yX11_isTooMuch, cX11_isTooMuch, 4, (some .boolean), 0)
end
section
-- printed by wip/whole/gen1.py: the words of the tables, by their places
theorem wcX10_init : Cond.code yX10_init cX10_init 1 none ∈ tbG := tg (i := 112) (by decide +kernel) rfl
theorem wiX10_init : Cond.instanceMethod yX10_init ∈ tbG := tg (i := 111) (by decide +kernel) rfl
theorem wcX6_init : Cond.code yX6_init cX6_init 1 none ∈ tbG := tg (i := 120) (by decide +kernel) rfl
theorem wiX6_init : Cond.instanceMethod yX6_init ∈ tbG := tg (i := 119) (by decide +kernel) rfl
theorem wcX1_init : Cond.code yX1_init cX1_init 1 none ∈ tbG := tg (i := 145) (by decide +kernel) rfl
theorem wiX1_init : Cond.instanceMethod yX1_init ∈ tbG := tg (i := 144) (by decide +kernel) rfl
theorem wcX0_init : Cond.code yX0_init cX0_init 1 none ∈ tbG := tg (i := 164) (by decide +kernel) rfl
theorem wiX0_init : Cond.instanceMethod yX0_init ∈ tbG := tg (i := 163) (by decide +kernel) rfl
theorem wcX2_init : Cond.code yX2_init cX2_init 1 none ∈ tbG := tg (i := 187) (by decide +kernel) rfl
theorem wiX2_init : Cond.instanceMethod yX2_init ∈ tbG := tg (i := 186) (by decide +kernel) rfl
theorem wcX9_init : Cond.code yX9_init cX9_init 1 none ∈ tbG := tg (i := 259) (by decide +kernel) rfl
theorem wiX9_init : Cond.instanceMethod yX9_init ∈ tbG := tg (i := 258) (by decide +kernel) rfl
theorem wcX3_init : Cond.code yX3_init cX3_init 1 none ∈ tbG := tg (i := 275) (by decide +kernel) rfl
theorem wiX3_init : Cond.instanceMethod yX3_init ∈ tbG := tg (i := 274) (by decide +kernel) rfl
theorem wcX4_init : Cond.code yX4_init cX4_init 1 none ∈ tbG := tg (i := 293) (by decide +kernel) rfl
theorem wiX4_init : Cond.instanceMethod yX4_init ∈ tbG := tg (i := 292) (by decide +kernel) rfl
theorem wcX5_init : Cond.code yX5_init cX5_init 1 none ∈ tbG := tg (i := 325) (by decide +kernel) rfl
theorem wiX5_init : Cond.instanceMethod yX5_init ∈ tbG := tg (i := 324) (by decide +kernel) rfl
theorem wcX7_init : Cond.code yX7_init cX7_init 1 none ∈ tbG := tg (i := 335) (by decide +kernel) rfl
theorem wiX7_init : Cond.instanceMethod yX7_init ∈ tbG := tg (i := 334) (by decide +kernel) rfl
theorem wcX8_init : Cond.code yX8_init cX8_init 1 none ∈ tbG := tg (i := 349) (by decide +kernel) rfl
theorem wiX8_init : Cond.instanceMethod yX8_init ∈ tbG := tg (i := 348) (by decide +kernel) rfl
theorem wcX10_write : Cond.code yX10_write cX10_write 2 (some .int) ∈ tbG := tg (i := 480) (by decide +kernel) rfl
theorem wiX10_write : Cond.instanceMethod yX10_write ∈ tbG := tg (i := 478) (by decide +kernel) rfl
theorem wsX10_write : Cond.selects RX10 yX10_write yX10_write ∈ tbG := tg (i := 479) (by decide +kernel) rfl
theorem wcX6_append : Cond.code yX6_append cX6_append 2 (some .boolean) ∈ tbG := tg (i := 485) (by decide +kernel) rfl
theorem wiX6_append : Cond.instanceMethod yX6_append ∈ tbG := tg (i := 483) (by decide +kernel) rfl
theorem wsX6_append : Cond.selects RX6 yX6_append yX6_append ∈ tbG := tg (i := 484) (by decide +kernel) rfl
theorem wcX10_talk : Cond.code yX10_talk cX10_talk 3 (some .int) ∈ tbG := tg (i := 490) (by decide +kernel) rfl
theorem wiX10_talk : Cond.instanceMethod yX10_talk ∈ tbG := tg (i := 488) (by decide +kernel) rfl
theorem wsX10_talk : Cond.selects RX10 yX10_talk yX10_talk ∈ tbG := tg (i := 489) (by decide +kernel) rfl
theorem wcX6_readInto : Cond.code yX6_readInto cX6_readInto 4 (some .int) ∈ tbG := tg (i := 494) (by decide +kernel) rfl
theorem wiX6_readInto : Cond.instanceMethod yX6_readInto ∈ tbG := tg (i := 492) (by decide +kernel) rfl
theorem wsX6_readInto : Cond.selects RX6 yX6_readInto yX6_readInto ∈ tbG := tg (i := 493) (by decide +kernel) rfl
theorem wcX8_clear : Cond.code yX8_clear cX8_clear 1 none ∈ tbG := tg (i := 498) (by decide +kernel) rfl
theorem wiX8_clear : Cond.instanceMethod yX8_clear ∈ tbG := tg (i := 496) (by decide +kernel) rfl
theorem wsX8_clear : Cond.selects RX8 yX8_clear yX8_clear ∈ tbG := tg (i := 497) (by decide +kernel) rfl
theorem wcX6_accept : Cond.code yX6_accept cX6_accept 3 (some .int) ∈ tbG := tg (i := 502) (by decide +kernel) rfl
theorem wiX6_accept : Cond.instanceMethod yX6_accept ∈ tbG := tg (i := 501) (by decide +kernel) rfl
theorem wsX6_accept : Cond.selects RX6 yX6_accept yX6_accept ∈ tbG := tg (i := 0) (by decide +kernel) rfl
theorem wcX6_acceptFirstLine : Cond.code yX6_acceptFirstLine cX6_acceptFirstLine 3 (some .int) ∈ tbG := tg (i := 506) (by decide +kernel) rfl
theorem wiX6_acceptFirstLine : Cond.instanceMethod yX6_acceptFirstLine ∈ tbG := tg (i := 505) (by decide +kernel) rfl
theorem wsX6_acceptFirstLine : Cond.selects RX6 yX6_acceptFirstLine yX6_acceptFirstLine ∈ tbG := tg (i := 1) (by decide +kernel) rfl
theorem wcX8_nameLine : Cond.code yX8_nameLine cX8_nameLine 2 none ∈ tbG := tg (i := 510) (by decide +kernel) rfl
theorem wiX8_nameLine : Cond.instanceMethod yX8_nameLine ∈ tbG := tg (i := 508) (by decide +kernel) rfl
theorem wsX8_nameLine : Cond.selects RX8 yX8_nameLine yX8_nameLine ∈ tbG := tg (i := 509) (by decide +kernel) rfl
theorem wcX6_goOn : Cond.code yX6_goOn cX6_goOn 2 (some .int) ∈ tbG := tg (i := 514) (by decide +kernel) rfl
theorem wiX6_goOn : Cond.instanceMethod yX6_goOn ∈ tbG := tg (i := 513) (by decide +kernel) rfl
theorem wsX6_goOn : Cond.selects RX6 yX6_goOn yX6_goOn ∈ tbG := tg (i := 2) (by decide +kernel) rfl
theorem wcX6_acceptArrowOrDot : Cond.code yX6_acceptArrowOrDot cX6_acceptArrowOrDot 3 (some .int) ∈ tbG := tg (i := 518) (by decide +kernel) rfl
theorem wiX6_acceptArrowOrDot : Cond.instanceMethod yX6_acceptArrowOrDot ∈ tbG := tg (i := 517) (by decide +kernel) rfl
theorem wsX6_acceptArrowOrDot : Cond.selects RX6 yX6_acceptArrowOrDot yX6_acceptArrowOrDot ∈ tbG := tg (i := 3) (by decide +kernel) rfl
theorem wcX8_addAnswer : Cond.code yX8_addAnswer cX8_addAnswer 2 (some .boolean) ∈ tbG := tg (i := 522) (by decide +kernel) rfl
theorem wiX8_addAnswer : Cond.instanceMethod yX8_addAnswer ∈ tbG := tg (i := 520) (by decide +kernel) rfl
theorem wsX8_addAnswer : Cond.selects RX8 yX8_addAnswer yX8_addAnswer ∈ tbG := tg (i := 521) (by decide +kernel) rfl
theorem wcX6_acceptClauseEnd : Cond.code yX6_acceptClauseEnd cX6_acceptClauseEnd 2 (some .int) ∈ tbG := tg (i := 526) (by decide +kernel) rfl
theorem wiX6_acceptClauseEnd : Cond.instanceMethod yX6_acceptClauseEnd ∈ tbG := tg (i := 525) (by decide +kernel) rfl
theorem wsX6_acceptClauseEnd : Cond.selects RX6 yX6_acceptClauseEnd yX6_acceptClauseEnd ∈ tbG := tg (i := 4) (by decide +kernel) rfl
theorem wcX6_acceptSecondLine : Cond.code yX6_acceptSecondLine cX6_acceptSecondLine 3 (some .int) ∈ tbG := tg (i := 530) (by decide +kernel) rfl
theorem wiX6_acceptSecondLine : Cond.instanceMethod yX6_acceptSecondLine ∈ tbG := tg (i := 529) (by decide +kernel) rfl
theorem wsX6_acceptSecondLine : Cond.selects RX6 yX6_acceptSecondLine yX6_acceptSecondLine ∈ tbG := tg (i := 5) (by decide +kernel) rfl
theorem wcX6_acceptCost : Cond.code yX6_acceptCost cX6_acceptCost 3 (some .int) ∈ tbG := tg (i := 534) (by decide +kernel) rfl
theorem wiX6_acceptCost : Cond.instanceMethod yX6_acceptCost ∈ tbG := tg (i := 533) (by decide +kernel) rfl
theorem wsX6_acceptCost : Cond.selects RX6 yX6_acceptCost yX6_acceptCost ∈ tbG := tg (i := 6) (by decide +kernel) rfl
theorem wcX6_acceptRest : Cond.code yX6_acceptRest cX6_acceptRest 3 (some .int) ∈ tbG := tg (i := 538) (by decide +kernel) rfl
theorem wiX6_acceptRest : Cond.instanceMethod yX6_acceptRest ∈ tbG := tg (i := 537) (by decide +kernel) rfl
theorem wsX6_acceptRest : Cond.selects RX6 yX6_acceptRest yX6_acceptRest ∈ tbG := tg (i := 7) (by decide +kernel) rfl
theorem wcX6_openAlternative : Cond.code yX6_openAlternative cX6_openAlternative 2 (some .int) ∈ tbG := tg (i := 542) (by decide +kernel) rfl
theorem wiX6_openAlternative : Cond.instanceMethod yX6_openAlternative ∈ tbG := tg (i := 541) (by decide +kernel) rfl
theorem wsX6_openAlternative : Cond.selects RX6 yX6_openAlternative yX6_openAlternative ∈ tbG := tg (i := 8) (by decide +kernel) rfl
theorem wcX8_addAlternative : Cond.code yX8_addAlternative cX8_addAlternative 3 (some .boolean) ∈ tbG := tg (i := 546) (by decide +kernel) rfl
theorem wiX8_addAlternative : Cond.instanceMethod yX8_addAlternative ∈ tbG := tg (i := 544) (by decide +kernel) rfl
theorem wsX8_addAlternative : Cond.selects RX8 yX8_addAlternative yX8_addAlternative ∈ tbG := tg (i := 545) (by decide +kernel) rfl
theorem wcX6_acceptAsked : Cond.code yX6_acceptAsked cX6_acceptAsked 7 (some .int) ∈ tbG := tg (i := 550) (by decide +kernel) rfl
theorem wiX6_acceptAsked : Cond.instanceMethod yX6_acceptAsked ∈ tbG := tg (i := 549) (by decide +kernel) rfl
theorem wsX6_acceptAsked : Cond.selects RX6 yX6_acceptAsked yX6_acceptAsked ∈ tbG := tg (i := 9) (by decide +kernel) rfl
theorem wcX6_smallMark : Cond.code yX6_smallMark cX6_smallMark 1 (some .int) ∈ tbG := tg (i := 553) (by decide +kernel) rfl
theorem wtX6_smallMark : Cond.static yX6_smallMark ∈ tbG := tg (i := 552) (by decide +kernel) rfl
theorem wcX6_greatMark : Cond.code yX6_greatMark cX6_greatMark 1 (some .int) ∈ tbG := tg (i := 556) (by decide +kernel) rfl
theorem wtX6_greatMark : Cond.static yX6_greatMark ∈ tbG := tg (i := 555) (by decide +kernel) rfl
theorem wcX6_acceptMoreOfGuard : Cond.code yX6_acceptMoreOfGuard cX6_acceptMoreOfGuard 3 (some .int) ∈ tbG := tg (i := 560) (by decide +kernel) rfl
theorem wiX6_acceptMoreOfGuard : Cond.instanceMethod yX6_acceptMoreOfGuard ∈ tbG := tg (i := 559) (by decide +kernel) rfl
theorem wsX6_acceptMoreOfGuard : Cond.selects RX6 yX6_acceptMoreOfGuard yX6_acceptMoreOfGuard ∈ tbG := tg (i := 10) (by decide +kernel) rfl
theorem wcX6_acceptChanged : Cond.code yX6_acceptChanged cX6_acceptChanged 6 (some .int) ∈ tbG := tg (i := 564) (by decide +kernel) rfl
theorem wiX6_acceptChanged : Cond.instanceMethod yX6_acceptChanged ∈ tbG := tg (i := 563) (by decide +kernel) rfl
theorem wsX6_acceptChanged : Cond.selects RX6 yX6_acceptChanged yX6_acceptChanged ∈ tbG := tg (i := 11) (by decide +kernel) rfl
theorem wcX6_acceptMoreOfEffect : Cond.code yX6_acceptMoreOfEffect cX6_acceptMoreOfEffect 3 (some .int) ∈ tbG := tg (i := 568) (by decide +kernel) rfl
theorem wiX6_acceptMoreOfEffect : Cond.instanceMethod yX6_acceptMoreOfEffect ∈ tbG := tg (i := 567) (by decide +kernel) rfl
theorem wsX6_acceptMoreOfEffect : Cond.selects RX6 yX6_acceptMoreOfEffect yX6_acceptMoreOfEffect ∈ tbG := tg (i := 12) (by decide +kernel) rfl
theorem wcX8_sortByLine : Cond.code yX8_sortByLine cX8_sortByLine 4 none ∈ tbG := tg (i := 572) (by decide +kernel) rfl
theorem wiX8_sortByLine : Cond.instanceMethod yX8_sortByLine ∈ tbG := tg (i := 570) (by decide +kernel) rfl
theorem wsX8_sortByLine : Cond.selects RX8 yX8_sortByLine yX8_sortByLine ∈ tbG := tg (i := 571) (by decide +kernel) rfl
theorem wcX1_restart : Cond.code yX1_restart cX1_restart 2 none ∈ tbG := tg (i := 576) (by decide +kernel) rfl
theorem wiX1_restart : Cond.instanceMethod yX1_restart ∈ tbG := tg (i := 574) (by decide +kernel) rfl
theorem wsX1_restart : Cond.selects RX1 yX1_restart yX1_restart ∈ tbG := tg (i := 575) (by decide +kernel) rfl
theorem wcX10_fault : Cond.code yX10_fault cX10_fault 1 (some .int) ∈ tbG := tg (i := 580) (by decide +kernel) rfl
theorem wiX10_fault : Cond.instanceMethod yX10_fault ∈ tbG := tg (i := 578) (by decide +kernel) rfl
theorem wsX10_fault : Cond.selects RX10 yX10_fault yX10_fault ∈ tbG := tg (i := 579) (by decide +kernel) rfl
theorem wcX10_begin : Cond.code yX10_begin cX10_begin 2 (some .int) ∈ tbG := tg (i := 584) (by decide +kernel) rfl
theorem wiX10_begin : Cond.instanceMethod yX10_begin ∈ tbG := tg (i := 582) (by decide +kernel) rfl
theorem wsX10_begin : Cond.selects RX10 yX10_begin yX10_begin ∈ tbG := tg (i := 583) (by decide +kernel) rfl
theorem wcX10_take : Cond.code yX10_take cX10_take 2 (some .int) ∈ tbG := tg (i := 589) (by decide +kernel) rfl
theorem wiX10_take : Cond.instanceMethod yX10_take ∈ tbG := tg (i := 587) (by decide +kernel) rfl
theorem wsX10_take : Cond.selects RX10 yX10_take yX10_take ∈ tbG := tg (i := 588) (by decide +kernel) rfl
theorem wcX10_isAnswer : Cond.code yX10_isAnswer cX10_isAnswer 2 (some .boolean) ∈ tbG := tg (i := 593) (by decide +kernel) rfl
theorem wiX10_isAnswer : Cond.instanceMethod yX10_isAnswer ∈ tbG := tg (i := 592) (by decide +kernel) rfl
theorem wsX10_isAnswer : Cond.selects RX10 yX10_isAnswer yX10_isAnswer ∈ tbG := tg (i := 13) (by decide +kernel) rfl
theorem wcX10_isOpenHere : Cond.code yX10_isOpenHere cX10_isOpenHere 2 (some .boolean) ∈ tbG := tg (i := 597) (by decide +kernel) rfl
theorem wiX10_isOpenHere : Cond.instanceMethod yX10_isOpenHere ∈ tbG := tg (i := 596) (by decide +kernel) rfl
theorem wsX10_isOpenHere : Cond.selects RX10 yX10_isOpenHere yX10_isOpenHere ∈ tbG := tg (i := 14) (by decide +kernel) rfl
theorem wcX1_lineHere : Cond.code yX1_lineHere cX1_lineHere 2 (some .int) ∈ tbG := tg (i := 601) (by decide +kernel) rfl
theorem wiX1_lineHere : Cond.instanceMethod yX1_lineHere ∈ tbG := tg (i := 599) (by decide +kernel) rfl
theorem wsX1_lineHere : Cond.selects RX1 yX1_lineHere yX1_lineHere ∈ tbG := tg (i := 600) (by decide +kernel) rfl
theorem wcX1_marksHere : Cond.code yX1_marksHere cX1_marksHere 4 (some .int) ∈ tbG := tg (i := 605) (by decide +kernel) rfl
theorem wiX1_marksHere : Cond.instanceMethod yX1_marksHere ∈ tbG := tg (i := 603) (by decide +kernel) rfl
theorem wsX1_marksHere : Cond.selects RX1 yX1_marksHere yX1_marksHere ∈ tbG := tg (i := 604) (by decide +kernel) rfl
theorem wcX8_marksBehind : Cond.code yX8_marksBehind cX8_marksBehind 3 (some .int) ∈ tbG := tg (i := 609) (by decide +kernel) rfl
theorem wiX8_marksBehind : Cond.instanceMethod yX8_marksBehind ∈ tbG := tg (i := 607) (by decide +kernel) rfl
theorem wsX8_marksBehind : Cond.selects RX8 yX8_marksBehind yX8_marksBehind ∈ tbG := tg (i := 608) (by decide +kernel) rfl
theorem wcX8_isOpen : Cond.code yX8_isOpen cX8_isOpen 4 (some .boolean) ∈ tbG := tg (i := 613) (by decide +kernel) rfl
theorem wiX8_isOpen : Cond.instanceMethod yX8_isOpen ∈ tbG := tg (i := 611) (by decide +kernel) rfl
theorem wsX8_isOpen : Cond.selects RX8 yX8_isOpen yX8_isOpen ∈ tbG := tg (i := 612) (by decide +kernel) rfl
theorem wcX10_bit : Cond.code yX10_bit cX10_bit 2 (some .int) ∈ tbG := tg (i := 616) (by decide +kernel) rfl
theorem wtX10_bit : Cond.static yX10_bit ∈ tbG := tg (i := 615) (by decide +kernel) rfl
theorem wcX8_guardHolds : Cond.code yX8_guardHolds cX8_guardHolds 8 (some .boolean) ∈ tbG := tg (i := 620) (by decide +kernel) rfl
theorem wiX8_guardHolds : Cond.instanceMethod yX8_guardHolds ∈ tbG := tg (i := 618) (by decide +kernel) rfl
theorem wsX8_guardHolds : Cond.selects RX8 yX8_guardHolds yX8_guardHolds ∈ tbG := tg (i := 619) (by decide +kernel) rfl
theorem wcX1_advance : Cond.code yX1_advance cX1_advance 2 (some .boolean) ∈ tbG := tg (i := 625) (by decide +kernel) rfl
theorem wiX1_advance : Cond.instanceMethod yX1_advance ∈ tbG := tg (i := 623) (by decide +kernel) rfl
theorem wsX1_advance : Cond.selects RX1 yX1_advance yX1_advance ∈ tbG := tg (i := 624) (by decide +kernel) rfl
theorem wcX10_back : Cond.code yX10_back cX10_back 2 (some .int) ∈ tbG := tg (i := 629) (by decide +kernel) rfl
theorem wiX10_back : Cond.instanceMethod yX10_back ∈ tbG := tg (i := 627) (by decide +kernel) rfl
theorem wsX10_back : Cond.selects RX10 yX10_back yX10_back ∈ tbG := tg (i := 628) (by decide +kernel) rfl
theorem wcX10_cut : Cond.code yX10_cut cX10_cut 3 (some .int) ∈ tbG := tg (i := 633) (by decide +kernel) rfl
theorem wiX10_cut : Cond.instanceMethod yX10_cut ∈ tbG := tg (i := 631) (by decide +kernel) rfl
theorem wsX10_cut : Cond.selects RX10 yX10_cut yX10_cut ∈ tbG := tg (i := 632) (by decide +kernel) rfl
theorem wcX0_keep : Cond.code yX0_keep cX0_keep 4 none ∈ tbG := tg (i := 638) (by decide +kernel) rfl
theorem wiX0_keep : Cond.instanceMethod yX0_keep ∈ tbG := tg (i := 636) (by decide +kernel) rfl
theorem wsX0_keep : Cond.selects RX0 yX0_keep yX0_keep ∈ tbG := tg (i := 637) (by decide +kernel) rfl
theorem wcX0_forgetOldest : Cond.code yX0_forgetOldest cX0_forgetOldest 1 none ∈ tbG := tg (i := 642) (by decide +kernel) rfl
theorem wiX0_forgetOldest : Cond.instanceMethod yX0_forgetOldest ∈ tbG := tg (i := 641) (by decide +kernel) rfl
theorem wsX0_forgetOldest : Cond.selects RX0 yX0_forgetOldest yX0_forgetOldest ∈ tbG := tg (i := 15) (by decide +kernel) rfl
theorem wcX8_setCut : Cond.code yX8_setCut cX8_setCut 3 none ∈ tbG := tg (i := 649) (by decide +kernel) rfl
theorem wiX8_setCut : Cond.instanceMethod yX8_setCut ∈ tbG := tg (i := 647) (by decide +kernel) rfl
theorem wsX8_setCut : Cond.selects RX8 yX8_setCut yX8_setCut ∈ tbG := tg (i := 648) (by decide +kernel) rfl
theorem wcJ6_bitCount_0f7a4 : Cond.code yJ6_bitCount_0f7a4 cJ6_bitCount_0f7a4 1 (some .int) ∈ tbG := tg (i := 652) (by decide +kernel) rfl
theorem wtJ6_bitCount_0f7a4 : Cond.static yJ6_bitCount_0f7a4 ∈ tbG := tg (i := 651) (by decide +kernel) rfl
theorem wcX10_cost : Cond.code yX10_cost cX10_cost 4 (some .int) ∈ tbG := tg (i := 659) (by decide +kernel) rfl
theorem wiX10_cost : Cond.instanceMethod yX10_cost ∈ tbG := tg (i := 657) (by decide +kernel) rfl
theorem wsX10_cost : Cond.selects RX10 yX10_cost yX10_cost ∈ tbG := tg (i := 658) (by decide +kernel) rfl
theorem wcX10_undo : Cond.code yX10_undo cX10_undo 3 (some .int) ∈ tbG := tg (i := 663) (by decide +kernel) rfl
theorem wiX10_undo : Cond.instanceMethod yX10_undo ∈ tbG := tg (i := 661) (by decide +kernel) rfl
theorem wsX10_undo : Cond.selects RX10 yX10_undo yX10_undo ∈ tbG := tg (i := 662) (by decide +kernel) rfl
theorem wcX10_answer : Cond.code yX10_answer cX10_answer 3 (some .int) ∈ tbG := tg (i := 667) (by decide +kernel) rfl
theorem wiX10_answer : Cond.instanceMethod yX10_answer ∈ tbG := tg (i := 665) (by decide +kernel) rfl
theorem wsX10_answer : Cond.selects RX10 yX10_answer yX10_answer ∈ tbG := tg (i := 666) (by decide +kernel) rfl
theorem wcX8_guardContradictsItself : Cond.code yX8_guardContradictsItself cX8_guardContradictsItself 4 (some .boolean) ∈ tbG := tg (i := 671) (by decide +kernel) rfl
theorem wiX8_guardContradictsItself : Cond.instanceMethod yX8_guardContradictsItself ∈ tbG := tg (i := 669) (by decide +kernel) rfl
theorem wsX8_guardContradictsItself : Cond.selects RX8 yX8_guardContradictsItself yX8_guardContradictsItself ∈ tbG := tg (i := 670) (by decide +kernel) rfl
theorem wcX10_alternativeSet : Cond.code yX10_alternativeSet cX10_alternativeSet 4 (some .int) ∈ tbG := tg (i := 675) (by decide +kernel) rfl
theorem wiX10_alternativeSet : Cond.instanceMethod yX10_alternativeSet ∈ tbG := tg (i := 674) (by decide +kernel) rfl
theorem wsX10_alternativeSet : Cond.selects RX10 yX10_alternativeSet yX10_alternativeSet ∈ tbG := tg (i := 16) (by decide +kernel) rfl
theorem wcX10_count : Cond.code yX10_count cX10_count 2 (some .int) ∈ tbG := tg (i := 679) (by decide +kernel) rfl
theorem wiX10_count : Cond.instanceMethod yX10_count ∈ tbG := tg (i := 677) (by decide +kernel) rfl
theorem wsX10_count : Cond.selects RX10 yX10_count yX10_count ∈ tbG := tg (i := 678) (by decide +kernel) rfl
theorem wcX10_openHere : Cond.code yX10_openHere cX10_openHere 3 (some .int) ∈ tbG := tg (i := 683) (by decide +kernel) rfl
theorem wiX10_openHere : Cond.instanceMethod yX10_openHere ∈ tbG := tg (i := 682) (by decide +kernel) rfl
theorem wsX10_openHere : Cond.selects RX10 yX10_openHere yX10_openHere ∈ tbG := tg (i := 17) (by decide +kernel) rfl
theorem wcX1_priceOfSteps : Cond.code yX1_priceOfSteps cX1_priceOfSteps 4 (some .int) ∈ tbG := tg (i := 687) (by decide +kernel) rfl
theorem wiX1_priceOfSteps : Cond.instanceMethod yX1_priceOfSteps ∈ tbG := tg (i := 685) (by decide +kernel) rfl
theorem wsX1_priceOfSteps : Cond.selects RX1 yX1_priceOfSteps yX1_priceOfSteps ∈ tbG := tg (i := 686) (by decide +kernel) rfl
theorem wcX10_step : Cond.code yX10_step cX10_step 2 (some .int) ∈ tbG := tg (i := 691) (by decide +kernel) rfl
theorem wiX10_step : Cond.instanceMethod yX10_step ∈ tbG := tg (i := 689) (by decide +kernel) rfl
theorem wsX10_step : Cond.selects RX10 yX10_step yX10_step ∈ tbG := tg (i := 690) (by decide +kernel) rfl
theorem wcX10_line : Cond.code yX10_line cX10_line 3 (some .int) ∈ tbG := tg (i := 695) (by decide +kernel) rfl
theorem wiX10_line : Cond.instanceMethod yX10_line ∈ tbG := tg (i := 693) (by decide +kernel) rfl
theorem wsX10_line : Cond.selects RX10 yX10_line yX10_line ∈ tbG := tg (i := 694) (by decide +kernel) rfl
theorem wcX10_isLine : Cond.code yX10_isLine cX10_isLine 2 (some .boolean) ∈ tbG := tg (i := 699) (by decide +kernel) rfl
theorem wiX10_isLine : Cond.instanceMethod yX10_isLine ∈ tbG := tg (i := 698) (by decide +kernel) rfl
theorem wsX10_isLine : Cond.selects RX10 yX10_isLine yX10_isLine ∈ tbG := tg (i := 18) (by decide +kernel) rfl
theorem wcX10_refreshGraph : Cond.code yX10_refreshGraph cX10_refreshGraph 1 none ∈ tbG := tg (i := 703) (by decide +kernel) rfl
theorem wiX10_refreshGraph : Cond.instanceMethod yX10_refreshGraph ∈ tbG := tg (i := 702) (by decide +kernel) rfl
theorem wsX10_refreshGraph : Cond.selects RX10 yX10_refreshGraph yX10_refreshGraph ∈ tbG := tg (i := 19) (by decide +kernel) rfl
theorem wcX2_explore : Cond.code yX2_explore cX2_explore 4 none ∈ tbG := tg (i := 707) (by decide +kernel) rfl
theorem wiX2_explore : Cond.instanceMethod yX2_explore ∈ tbG := tg (i := 705) (by decide +kernel) rfl
theorem wsX2_explore : Cond.selects RX2 yX2_explore yX2_explore ∈ tbG := tg (i := 706) (by decide +kernel) rfl
theorem wcJ7_fill_53178 : Cond.code yJ7_fill_53178 cJ7_fill_53178 4 none ∈ tbG := tg (i := 710) (by decide +kernel) rfl
theorem wtJ7_fill_53178 : Cond.static yJ7_fill_53178 ∈ tbG := tg (i := 709) (by decide +kernel) rfl
theorem wcX2_admit : Cond.code yX2_admit cX2_admit 4 none ∈ tbG := tg (i := 714) (by decide +kernel) rfl
theorem wiX2_admit : Cond.instanceMethod yX2_admit ∈ tbG := tg (i := 713) (by decide +kernel) rfl
theorem wsX2_admit : Cond.selects RX2 yX2_admit yX2_admit ∈ tbG := tg (i := 20) (by decide +kernel) rfl
theorem wcX2_addMovesFrom : Cond.code yX2_addMovesFrom cX2_addMovesFrom 8 none ∈ tbG := tg (i := 718) (by decide +kernel) rfl
theorem wiX2_addMovesFrom : Cond.instanceMethod yX2_addMovesFrom ∈ tbG := tg (i := 717) (by decide +kernel) rfl
theorem wsX2_addMovesFrom : Cond.selects RX2 yX2_addMovesFrom yX2_addMovesFrom ∈ tbG := tg (i := 21) (by decide +kernel) rfl
theorem wcX2_lineAt : Cond.code yX2_lineAt cX2_lineAt 2 (some .int) ∈ tbG := tg (i := 722) (by decide +kernel) rfl
theorem wiX2_lineAt : Cond.instanceMethod yX2_lineAt ∈ tbG := tg (i := 720) (by decide +kernel) rfl
theorem wsX2_lineAt : Cond.selects RX2 yX2_lineAt yX2_lineAt ∈ tbG := tg (i := 721) (by decide +kernel) rfl
theorem wcX2_marksAt : Cond.code yX2_marksAt cX2_marksAt 2 (some .int) ∈ tbG := tg (i := 726) (by decide +kernel) rfl
theorem wiX2_marksAt : Cond.instanceMethod yX2_marksAt ∈ tbG := tg (i := 724) (by decide +kernel) rfl
theorem wsX2_marksAt : Cond.selects RX2 yX2_marksAt yX2_marksAt ∈ tbG := tg (i := 725) (by decide +kernel) rfl
theorem wcX8_stateBehind : Cond.code yX8_stateBehind cX8_stateBehind 3 (some .int) ∈ tbG := tg (i := 731) (by decide +kernel) rfl
theorem wiX8_stateBehind : Cond.instanceMethod yX8_stateBehind ∈ tbG := tg (i := 729) (by decide +kernel) rfl
theorem wsX8_stateBehind : Cond.selects RX8 yX8_stateBehind yX8_stateBehind ∈ tbG := tg (i := 730) (by decide +kernel) rfl
theorem wcX2_turnRound : Cond.code yX2_turnRound cX2_turnRound 3 none ∈ tbG := tg (i := 736) (by decide +kernel) rfl
theorem wiX2_turnRound : Cond.instanceMethod yX2_turnRound ∈ tbG := tg (i := 735) (by decide +kernel) rfl
theorem wsX2_turnRound : Cond.selects RX2 yX2_turnRound yX2_turnRound ∈ tbG := tg (i := 22) (by decide +kernel) rfl
theorem wcX2_statesOf : Cond.code yX2_statesOf cX2_statesOf 4 (some .int) ∈ tbG := tg (i := 740) (by decide +kernel) rfl
theorem wiX2_statesOf : Cond.instanceMethod yX2_statesOf ∈ tbG := tg (i := 738) (by decide +kernel) rfl
theorem wsX2_statesOf : Cond.selects RX2 yX2_statesOf yX2_statesOf ∈ tbG := tg (i := 739) (by decide +kernel) rfl
theorem wcX2_marksInAll : Cond.code yX2_marksInAll cX2_marksInAll 4 (some .int) ∈ tbG := tg (i := 744) (by decide +kernel) rfl
theorem wiX2_marksInAll : Cond.instanceMethod yX2_marksInAll ∈ tbG := tg (i := 742) (by decide +kernel) rfl
theorem wsX2_marksInAll : Cond.selects RX2 yX2_marksInAll yX2_marksInAll ∈ tbG := tg (i := 743) (by decide +kernel) rfl
theorem wcX2_marksInSome : Cond.code yX2_marksInSome cX2_marksInSome 4 (some .int) ∈ tbG := tg (i := 748) (by decide +kernel) rfl
theorem wiX2_marksInSome : Cond.instanceMethod yX2_marksInSome ∈ tbG := tg (i := 746) (by decide +kernel) rfl
theorem wsX2_marksInSome : Cond.selects RX2 yX2_marksInSome yX2_marksInSome ∈ tbG := tg (i := 747) (by decide +kernel) rfl
theorem wcX10_stuckStates : Cond.code yX10_stuckStates cX10_stuckStates 4 (some .int) ∈ tbG := tg (i := 752) (by decide +kernel) rfl
theorem wiX10_stuckStates : Cond.instanceMethod yX10_stuckStates ∈ tbG := tg (i := 751) (by decide +kernel) rfl
theorem wsX10_stuckStates : Cond.selects RX10 yX10_stuckStates yX10_stuckStates ∈ tbG := tg (i := 23) (by decide +kernel) rfl
theorem wcX10_isStuck : Cond.code yX10_isStuck cX10_isStuck 2 (some .boolean) ∈ tbG := tg (i := 757) (by decide +kernel) rfl
theorem wiX10_isStuck : Cond.instanceMethod yX10_isStuck ∈ tbG := tg (i := 756) (by decide +kernel) rfl
theorem wsX10_isStuck : Cond.selects RX10 yX10_isStuck yX10_isStuck ∈ tbG := tg (i := 24) (by decide +kernel) rfl
theorem wcX2_movesFrom : Cond.code yX2_movesFrom cX2_movesFrom 2 (some .int) ∈ tbG := tg (i := 761) (by decide +kernel) rfl
theorem wiX2_movesFrom : Cond.instanceMethod yX2_movesFrom ∈ tbG := tg (i := 759) (by decide +kernel) rfl
theorem wsX2_movesFrom : Cond.selects RX2 yX2_movesFrom yX2_movesFrom ∈ tbG := tg (i := 760) (by decide +kernel) rfl
theorem wcX10_lostStates : Cond.code yX10_lostStates cX10_lostStates 4 (some .int) ∈ tbG := tg (i := 765) (by decide +kernel) rfl
theorem wiX10_lostStates : Cond.instanceMethod yX10_lostStates ∈ tbG := tg (i := 764) (by decide +kernel) rfl
theorem wsX10_lostStates : Cond.selects RX10 yX10_lostStates yX10_lostStates ∈ tbG := tg (i := 25) (by decide +kernel) rfl
theorem wcX10_refreshHopes : Cond.code yX10_refreshHopes cX10_refreshHopes 1 none ∈ tbG := tg (i := 769) (by decide +kernel) rfl
theorem wiX10_refreshHopes : Cond.instanceMethod yX10_refreshHopes ∈ tbG := tg (i := 768) (by decide +kernel) rfl
theorem wsX10_refreshHopes : Cond.selects RX10 yX10_refreshHopes yX10_refreshHopes ∈ tbG := tg (i := 26) (by decide +kernel) rfl
theorem wcX3_learn : Cond.code yX3_learn cX3_learn 6 none ∈ tbG := tg (i := 773) (by decide +kernel) rfl
theorem wiX3_learn : Cond.instanceMethod yX3_learn ∈ tbG := tg (i := 771) (by decide +kernel) rfl
theorem wsX3_learn : Cond.selects RX3 yX3_learn yX3_learn ∈ tbG := tg (i := 772) (by decide +kernel) rfl
theorem wcX3_admit : Cond.code yX3_admit cX3_admit 2 none ∈ tbG := tg (i := 779) (by decide +kernel) rfl
theorem wiX3_admit : Cond.instanceMethod yX3_admit ∈ tbG := tg (i := 778) (by decide +kernel) rfl
theorem wsX3_admit : Cond.selects RX3 yX3_admit yX3_admit ∈ tbG := tg (i := 27) (by decide +kernel) rfl
theorem wcX10_least : Cond.code yX10_least cX10_least 4 (some .int) ∈ tbG := tg (i := 783) (by decide +kernel) rfl
theorem wiX10_least : Cond.instanceMethod yX10_least ∈ tbG := tg (i := 781) (by decide +kernel) rfl
theorem wsX10_least : Cond.selects RX10 yX10_least yX10_least ∈ tbG := tg (i := 782) (by decide +kernel) rfl
theorem wcX10_refreshPrices : Cond.code yX10_refreshPrices cX10_refreshPrices 1 none ∈ tbG := tg (i := 787) (by decide +kernel) rfl
theorem wiX10_refreshPrices : Cond.instanceMethod yX10_refreshPrices ∈ tbG := tg (i := 786) (by decide +kernel) rfl
theorem wsX10_refreshPrices : Cond.selects RX10 yX10_refreshPrices yX10_refreshPrices ∈ tbG := tg (i := 28) (by decide +kernel) rfl
theorem wcX5_learn : Cond.code yX5_learn cX5_learn 7 none ∈ tbG := tg (i := 791) (by decide +kernel) rfl
theorem wiX5_learn : Cond.instanceMethod yX5_learn ∈ tbG := tg (i := 789) (by decide +kernel) rfl
theorem wsX5_learn : Cond.selects RX5 yX5_learn yX5_learn ∈ tbG := tg (i := 790) (by decide +kernel) rfl
theorem wcX5_cheapestOf : Cond.code yX5_cheapestOf cX5_cheapestOf 5 (some .int) ∈ tbG := tg (i := 796) (by decide +kernel) rfl
theorem wiX5_cheapestOf : Cond.instanceMethod yX5_cheapestOf ∈ tbG := tg (i := 794) (by decide +kernel) rfl
theorem wsX5_cheapestOf : Cond.selects RX5 yX5_cheapestOf yX5_cheapestOf ∈ tbG := tg (i := 795) (by decide +kernel) rfl
theorem wcJ9_min_7cf53 : Cond.code yJ9_min_7cf53 cJ9_min_7cf53 2 (some .int) ∈ tbG := tg (i := 800) (by decide +kernel) rfl
theorem wtJ9_min_7cf53 : Cond.static yJ9_min_7cf53 ∈ tbG := tg (i := 799) (by decide +kernel) rfl
theorem wcX10_row : Cond.code yX10_row cX10_row 3 (some .int) ∈ tbG := tg (i := 804) (by decide +kernel) rfl
theorem wiX10_row : Cond.instanceMethod yX10_row ∈ tbG := tg (i := 802) (by decide +kernel) rfl
theorem wsX10_row : Cond.selects RX10 yX10_row yX10_row ∈ tbG := tg (i := 803) (by decide +kernel) rfl
theorem wcX2_answerOfRow : Cond.code yX2_answerOfRow cX2_answerOfRow 5 (some .int) ∈ tbG := tg (i := 808) (by decide +kernel) rfl
theorem wiX2_answerOfRow : Cond.instanceMethod yX2_answerOfRow ∈ tbG := tg (i := 806) (by decide +kernel) rfl
theorem wsX2_answerOfRow : Cond.selects RX2 yX2_answerOfRow yX2_answerOfRow ∈ tbG := tg (i := 807) (by decide +kernel) rfl
theorem wcX10_needs : Cond.code yX10_needs cX10_needs 4 (some .int) ∈ tbG := tg (i := 812) (by decide +kernel) rfl
theorem wiX10_needs : Cond.instanceMethod yX10_needs ∈ tbG := tg (i := 810) (by decide +kernel) rfl
theorem wsX10_needs : Cond.selects RX10 yX10_needs yX10_needs ∈ tbG := tg (i := 811) (by decide +kernel) rfl
theorem wcX8_answersThatLay : Cond.code yX8_answersThatLay cX8_answersThatLay 4 (some .int) ∈ tbG := tg (i := 816) (by decide +kernel) rfl
theorem wiX8_answersThatLay : Cond.instanceMethod yX8_answersThatLay ∈ tbG := tg (i := 814) (by decide +kernel) rfl
theorem wsX8_answersThatLay : Cond.selects RX8 yX8_answersThatLay yX8_answersThatLay ∈ tbG := tg (i := 815) (by decide +kernel) rfl
theorem wcX9_comesTo : Cond.code yX9_comesTo cX9_comesTo 7 (some .boolean) ∈ tbG := tg (i := 820) (by decide +kernel) rfl
theorem wiX9_comesTo : Cond.instanceMethod yX9_comesTo ∈ tbG := tg (i := 818) (by decide +kernel) rfl
theorem wsX9_comesTo : Cond.selects RX9 yX9_comesTo yX9_comesTo ∈ tbG := tg (i := 819) (by decide +kernel) rfl
theorem wcX9_startAt : Cond.code yX9_startAt cX9_startAt 2 none ∈ tbG := tg (i := 824) (by decide +kernel) rfl
theorem wiX9_startAt : Cond.instanceMethod yX9_startAt ∈ tbG := tg (i := 823) (by decide +kernel) rfl
theorem wsX9_startAt : Cond.selects RX9 yX9_startAt yX9_startAt ∈ tbG := tg (i := 29) (by decide +kernel) rfl
theorem wcX9_enqueue : Cond.code yX9_enqueue cX9_enqueue 3 none ∈ tbG := tg (i := 829) (by decide +kernel) rfl
theorem wiX9_enqueue : Cond.instanceMethod yX9_enqueue ∈ tbG := tg (i := 828) (by decide +kernel) rfl
theorem wsX9_enqueue : Cond.selects RX9 yX9_enqueue yX9_enqueue ∈ tbG := tg (i := 30) (by decide +kernel) rfl
theorem wcX10_must : Cond.code yX10_must cX10_must 6 (some .int) ∈ tbG := tg (i := 835) (by decide +kernel) rfl
theorem wiX10_must : Cond.instanceMethod yX10_must ∈ tbG := tg (i := 833) (by decide +kernel) rfl
theorem wsX10_must : Cond.selects RX10 yX10_must yX10_must ∈ tbG := tg (i := 834) (by decide +kernel) rfl
theorem wcX2_answersOfRow : Cond.code yX2_answersOfRow cX2_answersOfRow 5 (some .int) ∈ tbG := tg (i := 839) (by decide +kernel) rfl
theorem wiX2_answersOfRow : Cond.instanceMethod yX2_answersOfRow ∈ tbG := tg (i := 837) (by decide +kernel) rfl
theorem wsX2_answersOfRow : Cond.selects RX2 yX2_answersOfRow yX2_answersOfRow ∈ tbG := tg (i := 838) (by decide +kernel) rfl
theorem wcX10_loop : Cond.code yX10_loop cX10_loop 5 (some .int) ∈ tbG := tg (i := 843) (by decide +kernel) rfl
theorem wiX10_loop : Cond.instanceMethod yX10_loop ∈ tbG := tg (i := 841) (by decide +kernel) rfl
theorem wsX10_loop : Cond.selects RX10 yX10_loop yX10_loop ∈ tbG := tg (i := 842) (by decide +kernel) rfl
theorem wcX10_refreshLoops : Cond.code yX10_refreshLoops cX10_refreshLoops 1 none ∈ tbG := tg (i := 847) (by decide +kernel) rfl
theorem wiX10_refreshLoops : Cond.instanceMethod yX10_refreshLoops ∈ tbG := tg (i := 846) (by decide +kernel) rfl
theorem wsX10_refreshLoops : Cond.selects RX10 yX10_refreshLoops yX10_refreshLoops ∈ tbG := tg (i := 31) (by decide +kernel) rfl
theorem wcX4_learn : Cond.code yX4_learn cX4_learn 3 none ∈ tbG := tg (i := 851) (by decide +kernel) rfl
theorem wiX4_learn : Cond.instanceMethod yX4_learn ∈ tbG := tg (i := 849) (by decide +kernel) rfl
theorem wsX4_learn : Cond.selects RX4 yX4_learn yX4_learn ∈ tbG := tg (i := 850) (by decide +kernel) rfl
theorem wcX4_finishAll : Cond.code yX4_finishAll cX4_finishAll 6 none ∈ tbG := tg (i := 855) (by decide +kernel) rfl
theorem wiX4_finishAll : Cond.instanceMethod yX4_finishAll ∈ tbG := tg (i := 854) (by decide +kernel) rfl
theorem wsX4_finishAll : Cond.selects RX4 yX4_finishAll yX4_finishAll ∈ tbG := tg (i := 32) (by decide +kernel) rfl
theorem wcJ7_fill_49daa : Cond.code yJ7_fill_49daa cJ7_fill_49daa 4 none ∈ tbG := tg (i := 858) (by decide +kernel) rfl
theorem wtJ7_fill_49daa : Cond.static yJ7_fill_49daa ∈ tbG := tg (i := 857) (by decide +kernel) rfl
theorem wcX4_push : Cond.code yX4_push cX4_push 3 none ∈ tbG := tg (i := 862) (by decide +kernel) rfl
theorem wiX4_push : Cond.instanceMethod yX4_push ∈ tbG := tg (i := 861) (by decide +kernel) rfl
theorem wsX4_push : Cond.selects RX4 yX4_push yX4_push ∈ tbG := tg (i := 33) (by decide +kernel) rfl
theorem wcX4_gatherComponent : Cond.code yX4_gatherComponent cX4_gatherComponent 7 none ∈ tbG := tg (i := 866) (by decide +kernel) rfl
theorem wiX4_gatherComponent : Cond.instanceMethod yX4_gatherComponent ∈ tbG := tg (i := 865) (by decide +kernel) rfl
theorem wsX4_gatherComponent : Cond.selects RX4 yX4_gatherComponent yX4_gatherComponent ∈ tbG := tg (i := 34) (by decide +kernel) rfl
theorem wcX4_join : Cond.code yX4_join cX4_join 2 none ∈ tbG := tg (i := 870) (by decide +kernel) rfl
theorem wiX4_join : Cond.instanceMethod yX4_join ∈ tbG := tg (i := 869) (by decide +kernel) rfl
theorem wsX4_join : Cond.selects RX4 yX4_join yX4_join ∈ tbG := tg (i := 35) (by decide +kernel) rfl
theorem wcX9_shortestLoop : Cond.code yX9_shortestLoop cX9_shortestLoop 8 (some .int) ∈ tbG := tg (i := 874) (by decide +kernel) rfl
theorem wiX9_shortestLoop : Cond.instanceMethod yX9_shortestLoop ∈ tbG := tg (i := 872) (by decide +kernel) rfl
theorem wsX9_shortestLoop : Cond.selects RX9 yX9_shortestLoop yX9_shortestLoop ∈ tbG := tg (i := 873) (by decide +kernel) rfl
theorem wcX10_use : Cond.code yX10_use cX10_use 3 (some .int) ∈ tbG := tg (i := 878) (by decide +kernel) rfl
theorem wiX10_use : Cond.instanceMethod yX10_use ∈ tbG := tg (i := 876) (by decide +kernel) rfl
theorem wsX10_use : Cond.selects RX10 yX10_use yX10_use ∈ tbG := tg (i := 877) (by decide +kernel) rfl
theorem wcX2_movesBy : Cond.code yX2_movesBy cX2_movesBy 4 (some .int) ∈ tbG := tg (i := 882) (by decide +kernel) rfl
theorem wiX2_movesBy : Cond.instanceMethod yX2_movesBy ∈ tbG := tg (i := 880) (by decide +kernel) rfl
theorem wsX2_movesBy : Cond.selects RX2 yX2_movesBy yX2_movesBy ∈ tbG := tg (i := 881) (by decide +kernel) rfl
theorem wcX10_mark : Cond.code yX10_mark cX10_mark 3 (some .int) ∈ tbG := tg (i := 886) (by decide +kernel) rfl
theorem wiX10_mark : Cond.instanceMethod yX10_mark ∈ tbG := tg (i := 884) (by decide +kernel) rfl
theorem wsX10_mark : Cond.selects RX10 yX10_mark yX10_mark ∈ tbG := tg (i := 885) (by decide +kernel) rfl
theorem wcX8_guardsThatName : Cond.code yX8_guardsThatName cX8_guardsThatName 4 (some .int) ∈ tbG := tg (i := 890) (by decide +kernel) rfl
theorem wiX8_guardsThatName : Cond.instanceMethod yX8_guardsThatName ∈ tbG := tg (i := 888) (by decide +kernel) rfl
theorem wsX8_guardsThatName : Cond.selects RX8 yX8_guardsThatName yX8_guardsThatName ∈ tbG := tg (i := 889) (by decide +kernel) rfl
theorem wcX8_marksOfGuard : Cond.code yX8_marksOfGuard cX8_marksOfGuard 5 (some .int) ∈ tbG := tg (i := 894) (by decide +kernel) rfl
theorem wiX8_marksOfGuard : Cond.instanceMethod yX8_marksOfGuard ∈ tbG := tg (i := 893) (by decide +kernel) rfl
theorem wsX8_marksOfGuard : Cond.selects RX8 yX8_marksOfGuard yX8_marksOfGuard ∈ tbG := tg (i := 36) (by decide +kernel) rfl
theorem wcX8_effectsThatName : Cond.code yX8_effectsThatName cX8_effectsThatName 4 (some .int) ∈ tbG := tg (i := 898) (by decide +kernel) rfl
theorem wiX8_effectsThatName : Cond.instanceMethod yX8_effectsThatName ∈ tbG := tg (i := 896) (by decide +kernel) rfl
theorem wsX8_effectsThatName : Cond.selects RX8 yX8_effectsThatName yX8_effectsThatName ∈ tbG := tg (i := 897) (by decide +kernel) rfl
theorem wcX10_isMarkReached : Cond.code yX10_isMarkReached cX10_isMarkReached 3 (some .boolean) ∈ tbG := tg (i := 902) (by decide +kernel) rfl
theorem wiX10_isMarkReached : Cond.instanceMethod yX10_isMarkReached ∈ tbG := tg (i := 901) (by decide +kernel) rfl
theorem wsX10_isMarkReached : Cond.selects RX10 yX10_isMarkReached yX10_isMarkReached ∈ tbG := tg (i := 37) (by decide +kernel) rfl
theorem wcX10_isAskedForInVain : Cond.code yX10_isAskedForInVain cX10_isAskedForInVain 3 (some .boolean) ∈ tbG := tg (i := 907) (by decide +kernel) rfl
theorem wiX10_isAskedForInVain : Cond.instanceMethod yX10_isAskedForInVain ∈ tbG := tg (i := 906) (by decide +kernel) rfl
theorem wsX10_isAskedForInVain : Cond.selects RX10 yX10_isAskedForInVain yX10_isAskedForInVain ∈ tbG := tg (i := 38) (by decide +kernel) rfl
theorem wcX10_leadsOutWithout : Cond.code yX10_leadsOutWithout cX10_leadsOutWithout 6 (some .boolean) ∈ tbG := tg (i := 911) (by decide +kernel) rfl
theorem wiX10_leadsOutWithout : Cond.instanceMethod yX10_leadsOutWithout ∈ tbG := tg (i := 910) (by decide +kernel) rfl
theorem wsX10_leadsOutWithout : Cond.selects RX10 yX10_leadsOutWithout yX10_leadsOutWithout ∈ tbG := tg (i := 39) (by decide +kernel) rfl
theorem wcX10_whole : Cond.code yX10_whole cX10_whole 2 (some .int) ∈ tbG := tg (i := 917) (by decide +kernel) rfl
theorem wiX10_whole : Cond.instanceMethod yX10_whole ∈ tbG := tg (i := 915) (by decide +kernel) rfl
theorem wsX10_whole : Cond.selects RX10 yX10_whole yX10_whole ∈ tbG := tg (i := 916) (by decide +kernel) rfl
theorem wcX2_linesReached : Cond.code yX2_linesReached cX2_linesReached 3 (some .int) ∈ tbG := tg (i := 921) (by decide +kernel) rfl
theorem wiX2_linesReached : Cond.instanceMethod yX2_linesReached ∈ tbG := tg (i := 919) (by decide +kernel) rfl
theorem wsX2_linesReached : Cond.selects RX2 yX2_linesReached yX2_linesReached ∈ tbG := tg (i := 920) (by decide +kernel) rfl
theorem wcX10_stuckLines : Cond.code yX10_stuckLines cX10_stuckLines 3 (some .int) ∈ tbG := tg (i := 925) (by decide +kernel) rfl
theorem wiX10_stuckLines : Cond.instanceMethod yX10_stuckLines ∈ tbG := tg (i := 924) (by decide +kernel) rfl
theorem wsX10_stuckLines : Cond.selects RX10 yX10_stuckLines yX10_stuckLines ∈ tbG := tg (i := 40) (by decide +kernel) rfl
theorem wcX10_lostLines : Cond.code yX10_lostLines cX10_lostLines 3 (some .int) ∈ tbG := tg (i := 929) (by decide +kernel) rfl
theorem wiX10_lostLines : Cond.instanceMethod yX10_lostLines ∈ tbG := tg (i := 928) (by decide +kernel) rfl
theorem wsX10_lostLines : Cond.selects RX10 yX10_lostLines yX10_lostLines ∈ tbG := tg (i := 41) (by decide +kernel) rfl
theorem wcX10_loopingLines : Cond.code yX10_loopingLines cX10_loopingLines 3 (some .int) ∈ tbG := tg (i := 933) (by decide +kernel) rfl
theorem wiX10_loopingLines : Cond.instanceMethod yX10_loopingLines ∈ tbG := tg (i := 932) (by decide +kernel) rfl
theorem wsX10_loopingLines : Cond.selects RX10 yX10_loopingLines yX10_loopingLines ∈ tbG := tg (i := 42) (by decide +kernel) rfl
theorem wcX2_mostMovesOfAState : Cond.code yX2_mostMovesOfAState cX2_mostMovesOfAState 3 (some .int) ∈ tbG := tg (i := 937) (by decide +kernel) rfl
theorem wiX2_mostMovesOfAState : Cond.instanceMethod yX2_mostMovesOfAState ∈ tbG := tg (i := 935) (by decide +kernel) rfl
theorem wsX2_mostMovesOfAState : Cond.selects RX2 yX2_mostMovesOfAState yX2_mostMovesOfAState ∈ tbG := tg (i := 936) (by decide +kernel) rfl
theorem wcJ9_max_7cf53 : Cond.code yJ9_max_7cf53 cJ9_max_7cf53 2 (some .int) ∈ tbG := tg (i := 941) (by decide +kernel) rfl
theorem wtJ9_max_7cf53 : Cond.static yJ9_max_7cf53 ∈ tbG := tg (i := 940) (by decide +kernel) rfl
theorem wcX10_statesAtEndings : Cond.code yX10_statesAtEndings cX10_statesAtEndings 3 (some .int) ∈ tbG := tg (i := 945) (by decide +kernel) rfl
theorem wiX10_statesAtEndings : Cond.instanceMethod yX10_statesAtEndings ∈ tbG := tg (i := 944) (by decide +kernel) rfl
theorem wsX10_statesAtEndings : Cond.selects RX10 yX10_statesAtEndings yX10_statesAtEndings ∈ tbG := tg (i := 43) (by decide +kernel) rfl
theorem wcX2_greatestDepth : Cond.code yX2_greatestDepth cX2_greatestDepth 1 (some .int) ∈ tbG := tg (i := 949) (by decide +kernel) rfl
theorem wiX2_greatestDepth : Cond.instanceMethod yX2_greatestDepth ∈ tbG := tg (i := 947) (by decide +kernel) rfl
theorem wsX2_greatestDepth : Cond.selects RX2 yX2_greatestDepth yX2_greatestDepth ∈ tbG := tg (i := 948) (by decide +kernel) rfl
theorem wcX10_rows : Cond.code yX10_rows cX10_rows 3 (some .long) ∈ tbG := tg (i := 953) (by decide +kernel) rfl
theorem wiX10_rows : Cond.instanceMethod yX10_rows ∈ tbG := tg (i := 951) (by decide +kernel) rfl
theorem wsX10_rows : Cond.selects RX10 yX10_rows yX10_rows ∈ tbG := tg (i := 952) (by decide +kernel) rfl
theorem wcX7_rowsTo : Cond.code yX7_rowsTo cX7_rowsTo 7 (some .long) ∈ tbG := tg (i := 959) (by decide +kernel) rfl
theorem wiX7_rowsTo : Cond.instanceMethod yX7_rowsTo ∈ tbG := tg (i := 957) (by decide +kernel) rfl
theorem wsX7_rowsTo : Cond.selects RX7 yX7_rowsTo yX7_rowsTo ∈ tbG := tg (i := 958) (by decide +kernel) rfl
theorem wcJ7_fill_d0a16 : Cond.code yJ7_fill_d0a16 cJ7_fill_d0a16 5 none ∈ tbG := tg (i := 962) (by decide +kernel) rfl
theorem wtJ7_fill_d0a16 : Cond.static yJ7_fill_d0a16 ∈ tbG := tg (i := 961) (by decide +kernel) rfl
theorem wcX7_lengthen : Cond.code yX7_lengthen cX7_lengthen 6 (some .boolean) ∈ tbG := tg (i := 966) (by decide +kernel) rfl
theorem wiX7_lengthen : Cond.instanceMethod yX7_lengthen ∈ tbG := tg (i := 965) (by decide +kernel) rfl
theorem wsX7_lengthen : Cond.selects RX7 yX7_lengthen yX7_lengthen ∈ tbG := tg (i := 44) (by decide +kernel) rfl
theorem wcX11_init : Cond.code yX11_init cX11_init 1 none ∈ tbG := tg (i := 974) (by decide +kernel) rfl
theorem wiX11_init : Cond.instanceMethod yX11_init ∈ tbG := tg (i := 973) (by decide +kernel) rfl
theorem wcX11_write : Cond.code yX11_write cX11_write 2 (some .int) ∈ tbG := tg (i := 1094) (by decide +kernel) rfl
theorem wiX11_write : Cond.instanceMethod yX11_write ∈ tbG := tg (i := 1092) (by decide +kernel) rfl
theorem wsX11_write : Cond.selects RX11 yX11_write yX11_write ∈ tbG := tg (i := 1093) (by decide +kernel) rfl
theorem wcX11_in : Cond.code yX11_in cX11_in 6 (some .boolean) ∈ tbG := tg (i := 1098) (by decide +kernel) rfl
theorem wtX11_in : Cond.static yX11_in ∈ tbG := tg (i := 1097) (by decide +kernel) rfl
theorem wcX11_talk : Cond.code yX11_talk cX11_talk 3 (some .int) ∈ tbG := tg (i := 1104) (by decide +kernel) rfl
theorem wiX11_talk : Cond.instanceMethod yX11_talk ∈ tbG := tg (i := 1102) (by decide +kernel) rfl
theorem wsX11_talk : Cond.selects RX11 yX11_talk yX11_talk ∈ tbG := tg (i := 1103) (by decide +kernel) rfl
theorem wcX11_readsClause : Cond.code yX11_readsClause cX11_readsClause 2 none ∈ tbG := tg (i := 1108) (by decide +kernel) rfl
theorem wiX11_readsClause : Cond.instanceMethod yX11_readsClause ∈ tbG := tg (i := 1107) (by decide +kernel) rfl
theorem wsX11_readsClause : Cond.selects RX11 yX11_readsClause yX11_readsClause ∈ tbG := tg (i := 45) (by decide +kernel) rfl
theorem wcX11_line : Cond.code yX11_line cX11_line 2 (some .int) ∈ tbG := tg (i := 1112) (by decide +kernel) rfl
theorem wiX11_line : Cond.instanceMethod yX11_line ∈ tbG := tg (i := 1111) (by decide +kernel) rfl
theorem wsX11_line : Cond.selects RX11 yX11_line yX11_line ∈ tbG := tg (i := 46) (by decide +kernel) rfl
theorem wcX11_look : Cond.code yX11_look cX11_look 1 (some .int) ∈ tbG := tg (i := 1116) (by decide +kernel) rfl
theorem wiX11_look : Cond.instanceMethod yX11_look ∈ tbG := tg (i := 1115) (by decide +kernel) rfl
theorem wsX11_look : Cond.selects RX11 yX11_look yX11_look ∈ tbG := tg (i := 47) (by decide +kernel) rfl
theorem wcX11_wrong : Cond.code yX11_wrong cX11_wrong 2 none ∈ tbG := tg (i := 1122) (by decide +kernel) rfl
theorem wiX11_wrong : Cond.instanceMethod yX11_wrong ∈ tbG := tg (i := 1121) (by decide +kernel) rfl
theorem wsX11_wrong : Cond.selects RX11 yX11_wrong yX11_wrong ∈ tbG := tg (i := 48) (by decide +kernel) rfl
theorem wcX11_readsAnswer : Cond.code yX11_readsAnswer cX11_readsAnswer 4 none ∈ tbG := tg (i := 1126) (by decide +kernel) rfl
theorem wiX11_readsAnswer : Cond.instanceMethod yX11_readsAnswer ∈ tbG := tg (i := 1125) (by decide +kernel) rfl
theorem wsX11_readsAnswer : Cond.selects RX11 yX11_readsAnswer yX11_readsAnswer ∈ tbG := tg (i := 49) (by decide +kernel) rfl
theorem wcX11_passes : Cond.code yX11_passes cX11_passes 2 none ∈ tbG := tg (i := 1130) (by decide +kernel) rfl
theorem wiX11_passes : Cond.instanceMethod yX11_passes ∈ tbG := tg (i := 1129) (by decide +kernel) rfl
theorem wsX11_passes : Cond.selects RX11 yX11_passes yX11_passes ∈ tbG := tg (i := 50) (by decide +kernel) rfl
theorem wcX11_readsGuard : Cond.code yX11_readsGuard cX11_readsGuard 2 none ∈ tbG := tg (i := 1136) (by decide +kernel) rfl
theorem wiX11_readsGuard : Cond.instanceMethod yX11_readsGuard ∈ tbG := tg (i := 1135) (by decide +kernel) rfl
theorem wsX11_readsGuard : Cond.selects RX11 yX11_readsGuard yX11_readsGuard ∈ tbG := tg (i := 51) (by decide +kernel) rfl
theorem wcX11_readsAlternative : Cond.code yX11_readsAlternative cX11_readsAlternative 4 none ∈ tbG := tg (i := 1140) (by decide +kernel) rfl
theorem wiX11_readsAlternative : Cond.instanceMethod yX11_readsAlternative ∈ tbG := tg (i := 1139) (by decide +kernel) rfl
theorem wsX11_readsAlternative : Cond.selects RX11 yX11_readsAlternative yX11_readsAlternative ∈ tbG := tg (i := 52) (by decide +kernel) rfl
theorem wcX11_isMark : Cond.code yX11_isMark cX11_isMark 1 (some .boolean) ∈ tbG := tg (i := 1144) (by decide +kernel) rfl
theorem wiX11_isMark : Cond.instanceMethod yX11_isMark ∈ tbG := tg (i := 1143) (by decide +kernel) rfl
theorem wsX11_isMark : Cond.selects RX11 yX11_isMark yX11_isMark ∈ tbG := tg (i := 53) (by decide +kernel) rfl
theorem wcX11_readsEffect : Cond.code yX11_readsEffect cX11_readsEffect 4 none ∈ tbG := tg (i := 1152) (by decide +kernel) rfl
theorem wiX11_readsEffect : Cond.instanceMethod yX11_readsEffect ∈ tbG := tg (i := 1151) (by decide +kernel) rfl
theorem wsX11_readsEffect : Cond.selects RX11 yX11_readsEffect yX11_readsEffect ∈ tbG := tg (i := 54) (by decide +kernel) rfl
theorem wcX11_has : Cond.code yX11_has cX11_has 2 (some .boolean) ∈ tbG := tg (i := 1155) (by decide +kernel) rfl
theorem wtX11_has : Cond.static yX11_has ∈ tbG := tg (i := 1154) (by decide +kernel) rfl
theorem wcX11_keeps : Cond.code yX11_keeps cX11_keeps 2 none ∈ tbG := tg (i := 1159) (by decide +kernel) rfl
theorem wiX11_keeps : Cond.instanceMethod yX11_keeps ∈ tbG := tg (i := 1158) (by decide +kernel) rfl
theorem wsX11_keeps : Cond.selects RX11 yX11_keeps yX11_keeps ∈ tbG := tg (i := 55) (by decide +kernel) rfl
theorem wcX11_fault : Cond.code yX11_fault cX11_fault 1 (some .int) ∈ tbG := tg (i := 1163) (by decide +kernel) rfl
theorem wiX11_fault : Cond.instanceMethod yX11_fault ∈ tbG := tg (i := 1161) (by decide +kernel) rfl
theorem wsX11_fault : Cond.selects RX11 yX11_fault yX11_fault ∈ tbG := tg (i := 1162) (by decide +kernel) rfl
theorem wcX11_begin : Cond.code yX11_begin cX11_begin 2 (some .int) ∈ tbG := tg (i := 1167) (by decide +kernel) rfl
theorem wiX11_begin : Cond.instanceMethod yX11_begin ∈ tbG := tg (i := 1165) (by decide +kernel) rfl
theorem wsX11_begin : Cond.selects RX11 yX11_begin yX11_begin ∈ tbG := tg (i := 1166) (by decide +kernel) rfl
theorem wcX11_isTalk : Cond.code yX11_isTalk cX11_isTalk 1 (some .boolean) ∈ tbG := tg (i := 1171) (by decide +kernel) rfl
theorem wiX11_isTalk : Cond.instanceMethod yX11_isTalk ∈ tbG := tg (i := 1170) (by decide +kernel) rfl
theorem wsX11_isTalk : Cond.selects RX11 yX11_isTalk yX11_isTalk ∈ tbG := tg (i := 56) (by decide +kernel) rfl
theorem wcX11_take : Cond.code yX11_take cX11_take 2 (some .int) ∈ tbG := tg (i := 1177) (by decide +kernel) rfl
theorem wiX11_take : Cond.instanceMethod yX11_take ∈ tbG := tg (i := 1175) (by decide +kernel) rfl
theorem wsX11_take : Cond.selects RX11 yX11_take yX11_take ∈ tbG := tg (i := 1176) (by decide +kernel) rfl
theorem wcX11_isAnswer : Cond.code yX11_isAnswer cX11_isAnswer 2 (some .boolean) ∈ tbG := tg (i := 1181) (by decide +kernel) rfl
theorem wiX11_isAnswer : Cond.instanceMethod yX11_isAnswer ∈ tbG := tg (i := 1180) (by decide +kernel) rfl
theorem wsX11_isAnswer : Cond.selects RX11 yX11_isAnswer yX11_isAnswer ∈ tbG := tg (i := 57) (by decide +kernel) rfl
theorem wcX11_here : Cond.code yX11_here cX11_here 3 (some .int) ∈ tbG := tg (i := 1185) (by decide +kernel) rfl
theorem wiX11_here : Cond.instanceMethod yX11_here ∈ tbG := tg (i := 1184) (by decide +kernel) rfl
theorem wsX11_here : Cond.selects RX11 yX11_here yX11_here ∈ tbG := tg (i := 58) (by decide +kernel) rfl
theorem wcX11_first : Cond.code yX11_first cX11_first 1 (some .int) ∈ tbG := tg (i := 1189) (by decide +kernel) rfl
theorem wiX11_first : Cond.instanceMethod yX11_first ∈ tbG := tg (i := 1188) (by decide +kernel) rfl
theorem wsX11_first : Cond.selects RX11 yX11_first yX11_first ∈ tbG := tg (i := 59) (by decide +kernel) rfl
theorem wcX11_next : Cond.code yX11_next cX11_next 3 (some .int) ∈ tbG := tg (i := 1193) (by decide +kernel) rfl
theorem wiX11_next : Cond.instanceMethod yX11_next ∈ tbG := tg (i := 1192) (by decide +kernel) rfl
theorem wsX11_next : Cond.selects RX11 yX11_next yX11_next ∈ tbG := tg (i := 60) (by decide +kernel) rfl
theorem wcX11_isOpen : Cond.code yX11_isOpen cX11_isOpen 5 (some .boolean) ∈ tbG := tg (i := 1197) (by decide +kernel) rfl
theorem wiX11_isOpen : Cond.instanceMethod yX11_isOpen ∈ tbG := tg (i := 1196) (by decide +kernel) rfl
theorem wsX11_isOpen : Cond.selects RX11 yX11_isOpen yX11_isOpen ∈ tbG := tg (i := 61) (by decide +kernel) rfl
theorem wcX11_holds : Cond.code yX11_holds cX11_holds 9 (some .boolean) ∈ tbG := tg (i := 1201) (by decide +kernel) rfl
theorem wiX11_holds : Cond.instanceMethod yX11_holds ∈ tbG := tg (i := 1200) (by decide +kernel) rfl
theorem wsX11_holds : Cond.selects RX11 yX11_holds yX11_holds ∈ tbG := tg (i := 62) (by decide +kernel) rfl
theorem wcX11_back : Cond.code yX11_back cX11_back 2 (some .int) ∈ tbG := tg (i := 1206) (by decide +kernel) rfl
theorem wiX11_back : Cond.instanceMethod yX11_back ∈ tbG := tg (i := 1204) (by decide +kernel) rfl
theorem wsX11_back : Cond.selects RX11 yX11_back yX11_back ∈ tbG := tg (i := 1205) (by decide +kernel) rfl
theorem wcX11_cut : Cond.code yX11_cut cX11_cut 5 (some .int) ∈ tbG := tg (i := 1211) (by decide +kernel) rfl
theorem wiX11_cut : Cond.instanceMethod yX11_cut ∈ tbG := tg (i := 1209) (by decide +kernel) rfl
theorem wsX11_cut : Cond.selects RX11 yX11_cut yX11_cut ∈ tbG := tg (i := 1210) (by decide +kernel) rfl
theorem wcX11_notes : Cond.code yX11_notes cX11_notes 2 none ∈ tbG := tg (i := 1215) (by decide +kernel) rfl
theorem wiX11_notes : Cond.instanceMethod yX11_notes ∈ tbG := tg (i := 1214) (by decide +kernel) rfl
theorem wsX11_notes : Cond.selects RX11 yX11_notes yX11_notes ∈ tbG := tg (i := 63) (by decide +kernel) rfl
theorem wcX11_cost : Cond.code yX11_cost cX11_cost 4 (some .int) ∈ tbG := tg (i := 1219) (by decide +kernel) rfl
theorem wiX11_cost : Cond.instanceMethod yX11_cost ∈ tbG := tg (i := 1217) (by decide +kernel) rfl
theorem wsX11_cost : Cond.selects RX11 yX11_cost yX11_cost ∈ tbG := tg (i := 1218) (by decide +kernel) rfl
theorem wcX11_undo : Cond.code yX11_undo cX11_undo 2 (some .int) ∈ tbG := tg (i := 1224) (by decide +kernel) rfl
theorem wiX11_undo : Cond.instanceMethod yX11_undo ∈ tbG := tg (i := 1222) (by decide +kernel) rfl
theorem wsX11_undo : Cond.selects RX11 yX11_undo yX11_undo ∈ tbG := tg (i := 1223) (by decide +kernel) rfl
theorem wcX11_answer : Cond.code yX11_answer cX11_answer 4 (some .int) ∈ tbG := tg (i := 1228) (by decide +kernel) rfl
theorem wiX11_answer : Cond.instanceMethod yX11_answer ∈ tbG := tg (i := 1226) (by decide +kernel) rfl
theorem wsX11_answer : Cond.selects RX11 yX11_answer yX11_answer ∈ tbG := tg (i := 1227) (by decide +kernel) rfl
theorem wcX11_isVain : Cond.code yX11_isVain cX11_isVain 4 (some .boolean) ∈ tbG := tg (i := 1232) (by decide +kernel) rfl
theorem wiX11_isVain : Cond.instanceMethod yX11_isVain ∈ tbG := tg (i := 1231) (by decide +kernel) rfl
theorem wsX11_isVain : Cond.selects RX11 yX11_isVain yX11_isVain ∈ tbG := tg (i := 64) (by decide +kernel) rfl
theorem wcX11_count : Cond.code yX11_count cX11_count 2 (some .int) ∈ tbG := tg (i := 1237) (by decide +kernel) rfl
theorem wiX11_count : Cond.instanceMethod yX11_count ∈ tbG := tg (i := 1235) (by decide +kernel) rfl
theorem wsX11_count : Cond.selects RX11 yX11_count yX11_count ∈ tbG := tg (i := 1236) (by decide +kernel) rfl
theorem wcX11_openIn : Cond.code yX11_openIn cX11_openIn 4 (some .int) ∈ tbG := tg (i := 1241) (by decide +kernel) rfl
theorem wiX11_openIn : Cond.instanceMethod yX11_openIn ∈ tbG := tg (i := 1240) (by decide +kernel) rfl
theorem wsX11_openIn : Cond.selects RX11 yX11_openIn yX11_openIn ∈ tbG := tg (i := 65) (by decide +kernel) rfl
theorem wcX11_costOfSteps : Cond.code yX11_costOfSteps cX11_costOfSteps 3 (some .int) ∈ tbG := tg (i := 1245) (by decide +kernel) rfl
theorem wiX11_costOfSteps : Cond.instanceMethod yX11_costOfSteps ∈ tbG := tg (i := 1244) (by decide +kernel) rfl
theorem wsX11_costOfSteps : Cond.selects RX11 yX11_costOfSteps yX11_costOfSteps ∈ tbG := tg (i := 66) (by decide +kernel) rfl
theorem wcX11_step : Cond.code yX11_step cX11_step 2 (some .int) ∈ tbG := tg (i := 1249) (by decide +kernel) rfl
theorem wiX11_step : Cond.instanceMethod yX11_step ∈ tbG := tg (i := 1247) (by decide +kernel) rfl
theorem wsX11_step : Cond.selects RX11 yX11_step yX11_step ∈ tbG := tg (i := 1248) (by decide +kernel) rfl
theorem wcX11_line_ : Cond.code yX11_line_ cX11_line_ 3 (some .int) ∈ tbG := tg (i := 1253) (by decide +kernel) rfl
theorem wiX11_line_ : Cond.instanceMethod yX11_line_ ∈ tbG := tg (i := 1251) (by decide +kernel) rfl
theorem wsX11_line_ : Cond.selects RX11 yX11_line_ yX11_line_ ∈ tbG := tg (i := 1252) (by decide +kernel) rfl
theorem wcX11_isLine : Cond.code yX11_isLine cX11_isLine 2 (some .boolean) ∈ tbG := tg (i := 1257) (by decide +kernel) rfl
theorem wiX11_isLine : Cond.instanceMethod yX11_isLine ∈ tbG := tg (i := 1256) (by decide +kernel) rfl
theorem wsX11_isLine : Cond.selects RX11 yX11_isLine yX11_isLine ∈ tbG := tg (i := 67) (by decide +kernel) rfl
theorem wcX11_reachesAll : Cond.code yX11_reachesAll cX11_reachesAll 1 (some .int) ∈ tbG := tg (i := 1263) (by decide +kernel) rfl
theorem wiX11_reachesAll : Cond.instanceMethod yX11_reachesAll ∈ tbG := tg (i := 1262) (by decide +kernel) rfl
theorem wsX11_reachesAll : Cond.selects RX11 yX11_reachesAll yX11_reachesAll ∈ tbG := tg (i := 68) (by decide +kernel) rfl
theorem wcX11_reaches : Cond.code yX11_reaches cX11_reaches 11 (some .int) ∈ tbG := tg (i := 1267) (by decide +kernel) rfl
theorem wiX11_reaches : Cond.instanceMethod yX11_reaches ∈ tbG := tg (i := 1266) (by decide +kernel) rfl
theorem wsX11_reaches : Cond.selects RX11 yX11_reaches yX11_reaches ∈ tbG := tg (i := 69) (by decide +kernel) rfl
theorem wcX11_laysEnds : Cond.code yX11_laysEnds cX11_laysEnds 4 none ∈ tbG := tg (i := 1271) (by decide +kernel) rfl
theorem wiX11_laysEnds : Cond.instanceMethod yX11_laysEnds ∈ tbG := tg (i := 1270) (by decide +kernel) rfl
theorem wsX11_laysEnds : Cond.selects RX11 yX11_laysEnds yX11_laysEnds ∈ tbG := tg (i := 70) (by decide +kernel) rfl
theorem wcX11_statesOf : Cond.code yX11_statesOf cX11_statesOf 6 (some .int) ∈ tbG := tg (i := 1275) (by decide +kernel) rfl
theorem wiX11_statesOf : Cond.instanceMethod yX11_statesOf ∈ tbG := tg (i := 1274) (by decide +kernel) rfl
theorem wsX11_statesOf : Cond.selects RX11 yX11_statesOf yX11_statesOf ∈ tbG := tg (i := 71) (by decide +kernel) rfl
theorem wcX11_isStuck : Cond.code yX11_isStuck cX11_isStuck 2 (some .boolean) ∈ tbG := tg (i := 1279) (by decide +kernel) rfl
theorem wiX11_isStuck : Cond.instanceMethod yX11_isStuck ∈ tbG := tg (i := 1278) (by decide +kernel) rfl
theorem wsX11_isStuck : Cond.selects RX11 yX11_isStuck yX11_isStuck ∈ tbG := tg (i := 72) (by decide +kernel) rfl
theorem wcX11_isLost : Cond.code yX11_isLost cX11_isLost 2 (some .boolean) ∈ tbG := tg (i := 1283) (by decide +kernel) rfl
theorem wiX11_isLost : Cond.instanceMethod yX11_isLost ∈ tbG := tg (i := 1282) (by decide +kernel) rfl
theorem wsX11_isLost : Cond.selects RX11 yX11_isLost yX11_isLost ∈ tbG := tg (i := 73) (by decide +kernel) rfl
theorem wcX11_marksOf : Cond.code yX11_marksOf cX11_marksOf 6 (some .int) ∈ tbG := tg (i := 1287) (by decide +kernel) rfl
theorem wiX11_marksOf : Cond.instanceMethod yX11_marksOf ∈ tbG := tg (i := 1286) (by decide +kernel) rfl
theorem wsX11_marksOf : Cond.selects RX11 yX11_marksOf yX11_marksOf ∈ tbG := tg (i := 74) (by decide +kernel) rfl
theorem wcX11_least : Cond.code yX11_least cX11_least 3 (some .int) ∈ tbG := tg (i := 1291) (by decide +kernel) rfl
theorem wiX11_least : Cond.instanceMethod yX11_least ∈ tbG := tg (i := 1289) (by decide +kernel) rfl
theorem wsX11_least : Cond.selects RX11 yX11_least yX11_least ∈ tbG := tg (i := 1290) (by decide +kernel) rfl
theorem wcX11_cheapest : Cond.code yX11_cheapest cX11_cheapest 7 (some .int) ∈ tbG := tg (i := 1295) (by decide +kernel) rfl
theorem wiX11_cheapest : Cond.instanceMethod yX11_cheapest ∈ tbG := tg (i := 1294) (by decide +kernel) rfl
theorem wsX11_cheapest : Cond.selects RX11 yX11_cheapest yX11_cheapest ∈ tbG := tg (i := 75) (by decide +kernel) rfl
theorem wcX11_fewest : Cond.code yX11_fewest cX11_fewest 4 (some .int) ∈ tbG := tg (i := 1299) (by decide +kernel) rfl
theorem wiX11_fewest : Cond.instanceMethod yX11_fewest ∈ tbG := tg (i := 1298) (by decide +kernel) rfl
theorem wsX11_fewest : Cond.selects RX11 yX11_fewest yX11_fewest ∈ tbG := tg (i := 76) (by decide +kernel) rfl
theorem wcX11_row : Cond.code yX11_row cX11_row 7 (some .int) ∈ tbG := tg (i := 1303) (by decide +kernel) rfl
theorem wiX11_row : Cond.instanceMethod yX11_row ∈ tbG := tg (i := 1301) (by decide +kernel) rfl
theorem wsX11_row : Cond.selects RX11 yX11_row yX11_row ∈ tbG := tg (i := 1302) (by decide +kernel) rfl
theorem wcX11_laysGood : Cond.code yX11_laysGood cX11_laysGood 6 none ∈ tbG := tg (i := 1307) (by decide +kernel) rfl
theorem wiX11_laysGood : Cond.instanceMethod yX11_laysGood ∈ tbG := tg (i := 1306) (by decide +kernel) rfl
theorem wsX11_laysGood : Cond.selects RX11 yX11_laysGood yX11_laysGood ∈ tbG := tg (i := 77) (by decide +kernel) rfl
theorem wcX11_goesOn : Cond.code yX11_goesOn cX11_goesOn 4 (some .boolean) ∈ tbG := tg (i := 1311) (by decide +kernel) rfl
theorem wiX11_goesOn : Cond.instanceMethod yX11_goesOn ∈ tbG := tg (i := 1310) (by decide +kernel) rfl
theorem wsX11_goesOn : Cond.selects RX11 yX11_goesOn yX11_goesOn ∈ tbG := tg (i := 78) (by decide +kernel) rfl
theorem wcX11_needs : Cond.code yX11_needs cX11_needs 4 (some .int) ∈ tbG := tg (i := 1315) (by decide +kernel) rfl
theorem wiX11_needs : Cond.instanceMethod yX11_needs ∈ tbG := tg (i := 1313) (by decide +kernel) rfl
theorem wsX11_needs : Cond.selects RX11 yX11_needs yX11_needs ∈ tbG := tg (i := 1314) (by decide +kernel) rfl
theorem wcX11_must : Cond.code yX11_must cX11_must 5 (some .int) ∈ tbG := tg (i := 1319) (by decide +kernel) rfl
theorem wiX11_must : Cond.instanceMethod yX11_must ∈ tbG := tg (i := 1317) (by decide +kernel) rfl
theorem wsX11_must : Cond.selects RX11 yX11_must yX11_must ∈ tbG := tg (i := 1318) (by decide +kernel) rfl
theorem wcX11_loop : Cond.code yX11_loop cX11_loop 2 (some .int) ∈ tbG := tg (i := 1323) (by decide +kernel) rfl
theorem wiX11_loop : Cond.instanceMethod yX11_loop ∈ tbG := tg (i := 1321) (by decide +kernel) rfl
theorem wsX11_loop : Cond.selects RX11 yX11_loop yX11_loop ∈ tbG := tg (i := 1322) (by decide +kernel) rfl
theorem wcX11_laysReached : Cond.code yX11_laysReached cX11_laysReached 2 none ∈ tbG := tg (i := 1327) (by decide +kernel) rfl
theorem wiX11_laysReached : Cond.instanceMethod yX11_laysReached ∈ tbG := tg (i := 1326) (by decide +kernel) rfl
theorem wsX11_laysReached : Cond.selects RX11 yX11_laysReached yX11_laysReached ∈ tbG := tg (i := 79) (by decide +kernel) rfl
theorem wcX11_loopOfLine : Cond.code yX11_loopOfLine cX11_loopOfLine 5 (some .int) ∈ tbG := tg (i := 1331) (by decide +kernel) rfl
theorem wiX11_loopOfLine : Cond.instanceMethod yX11_loopOfLine ∈ tbG := tg (i := 1330) (by decide +kernel) rfl
theorem wsX11_loopOfLine : Cond.selects RX11 yX11_loopOfLine yX11_loopOfLine ∈ tbG := tg (i := 80) (by decide +kernel) rfl
theorem wcX11_loopOf : Cond.code yX11_loopOf cX11_loopOf 6 (some .int) ∈ tbG := tg (i := 1335) (by decide +kernel) rfl
theorem wiX11_loopOf : Cond.instanceMethod yX11_loopOf ∈ tbG := tg (i := 1334) (by decide +kernel) rfl
theorem wsX11_loopOf : Cond.selects RX11 yX11_loopOf yX11_loopOf ∈ tbG := tg (i := 81) (by decide +kernel) rfl
theorem wcX11_use : Cond.code yX11_use cX11_use 5 (some .int) ∈ tbG := tg (i := 1339) (by decide +kernel) rfl
theorem wiX11_use : Cond.instanceMethod yX11_use ∈ tbG := tg (i := 1337) (by decide +kernel) rfl
theorem wsX11_use : Cond.selects RX11 yX11_use yX11_use ∈ tbG := tg (i := 1338) (by decide +kernel) rfl
theorem wcX11_mark : Cond.code yX11_mark cX11_mark 3 (some .int) ∈ tbG := tg (i := 1343) (by decide +kernel) rfl
theorem wiX11_mark : Cond.instanceMethod yX11_mark ∈ tbG := tg (i := 1341) (by decide +kernel) rfl
theorem wsX11_mark : Cond.selects RX11 yX11_mark yX11_mark ∈ tbG := tg (i := 1342) (by decide +kernel) rfl
theorem wcX11_asked : Cond.code yX11_asked cX11_asked 4 (some .int) ∈ tbG := tg (i := 1347) (by decide +kernel) rfl
theorem wiX11_asked : Cond.instanceMethod yX11_asked ∈ tbG := tg (i := 1346) (by decide +kernel) rfl
theorem wsX11_asked : Cond.selects RX11 yX11_asked yX11_asked ∈ tbG := tg (i := 82) (by decide +kernel) rfl
theorem wcX11_isAskedFor : Cond.code yX11_isAskedFor cX11_isAskedFor 5 (some .boolean) ∈ tbG := tg (i := 1351) (by decide +kernel) rfl
theorem wiX11_isAskedFor : Cond.instanceMethod yX11_isAskedFor ∈ tbG := tg (i := 1350) (by decide +kernel) rfl
theorem wsX11_isAskedFor : Cond.selects RX11 yX11_isAskedFor yX11_isAskedFor ∈ tbG := tg (i := 83) (by decide +kernel) rfl
theorem wcX11_laid : Cond.code yX11_laid cX11_laid 4 (some .int) ∈ tbG := tg (i := 1355) (by decide +kernel) rfl
theorem wiX11_laid : Cond.instanceMethod yX11_laid ∈ tbG := tg (i := 1354) (by decide +kernel) rfl
theorem wsX11_laid : Cond.selects RX11 yX11_laid yX11_laid ∈ tbG := tg (i := 84) (by decide +kernel) rfl
theorem wcX11_isAnywhere : Cond.code yX11_isAnywhere cX11_isAnywhere 4 (some .boolean) ∈ tbG := tg (i := 1359) (by decide +kernel) rfl
theorem wiX11_isAnywhere : Cond.instanceMethod yX11_isAnywhere ∈ tbG := tg (i := 1358) (by decide +kernel) rfl
theorem wsX11_isAnywhere : Cond.selects RX11 yX11_isAnywhere yX11_isAnywhere ∈ tbG := tg (i := 85) (by decide +kernel) rfl
theorem wcX11_isIdle : Cond.code yX11_isIdle cX11_isIdle 4 (some .boolean) ∈ tbG := tg (i := 1363) (by decide +kernel) rfl
theorem wiX11_isIdle : Cond.instanceMethod yX11_isIdle ∈ tbG := tg (i := 1362) (by decide +kernel) rfl
theorem wsX11_isIdle : Cond.selects RX11 yX11_isIdle yX11_isIdle ∈ tbG := tg (i := 86) (by decide +kernel) rfl
theorem wcX11_whole : Cond.code yX11_whole cX11_whole 3 (some .int) ∈ tbG := tg (i := 1367) (by decide +kernel) rfl
theorem wiX11_whole : Cond.instanceMethod yX11_whole ∈ tbG := tg (i := 1365) (by decide +kernel) rfl
theorem wsX11_whole : Cond.selects RX11 yX11_whole yX11_whole ∈ tbG := tg (i := 1366) (by decide +kernel) rfl
theorem wcX11_linesThat : Cond.code yX11_linesThat cX11_linesThat 5 (some .int) ∈ tbG := tg (i := 1371) (by decide +kernel) rfl
theorem wiX11_linesThat : Cond.instanceMethod yX11_linesThat ∈ tbG := tg (i := 1370) (by decide +kernel) rfl
theorem wsX11_linesThat : Cond.selects RX11 yX11_linesThat yX11_linesThat ∈ tbG := tg (i := 87) (by decide +kernel) rfl
theorem wcX11_linesWithLoops : Cond.code yX11_linesWithLoops cX11_linesWithLoops 3 (some .int) ∈ tbG := tg (i := 1375) (by decide +kernel) rfl
theorem wiX11_linesWithLoops : Cond.instanceMethod yX11_linesWithLoops ∈ tbG := tg (i := 1374) (by decide +kernel) rfl
theorem wsX11_linesWithLoops : Cond.selects RX11 yX11_linesWithLoops yX11_linesWithLoops ∈ tbG := tg (i := 88) (by decide +kernel) rfl
theorem wcX11_ofStates : Cond.code yX11_ofStates cX11_ofStates 6 (some .int) ∈ tbG := tg (i := 1379) (by decide +kernel) rfl
theorem wiX11_ofStates : Cond.instanceMethod yX11_ofStates ∈ tbG := tg (i := 1378) (by decide +kernel) rfl
theorem wsX11_ofStates : Cond.selects RX11 yX11_ofStates yX11_ofStates ∈ tbG := tg (i := 89) (by decide +kernel) rfl
theorem wcX11_rows : Cond.code yX11_rows cX11_rows 6 (some .long) ∈ tbG := tg (i := 1383) (by decide +kernel) rfl
theorem wiX11_rows : Cond.instanceMethod yX11_rows ∈ tbG := tg (i := 1381) (by decide +kernel) rfl
theorem wsX11_rows : Cond.selects RX11 yX11_rows yX11_rows ∈ tbG := tg (i := 1382) (by decide +kernel) rfl
theorem wcX11_goes : Cond.code yX11_goes cX11_goes 4 (some .boolean) ∈ tbG := tg (i := 1390) (by decide +kernel) rfl
theorem wiX11_goes : Cond.instanceMethod yX11_goes ∈ tbG := tg (i := 1389) (by decide +kernel) rfl
theorem wsX11_goes : Cond.selects RX11 yX11_goes yX11_goes ∈ tbG := tg (i := 90) (by decide +kernel) rfl
theorem wcX11_isTooMuch : Cond.code yX11_isTooMuch cX11_isTooMuch 4 (some .boolean) ∈ tbG := tg (i := 1393) (by decide +kernel) rfl
theorem wtX11_isTooMuch : Cond.static yX11_isTooMuch ∈ tbG := tg (i := 1392) (by decide +kernel) rfl
theorem wnL : Cond.initialized RL ∈ tbG := tg (i := 91) (by decide +kernel) rfl
theorem wnX10 : Cond.initialized RX10 ∈ tbG := tg (i := 92) (by decide +kernel) rfl
theorem wnX6 : Cond.initialized RX6 ∈ tbG := tg (i := 93) (by decide +kernel) rfl
theorem wnX1 : Cond.initialized RX1 ∈ tbG := tg (i := 94) (by decide +kernel) rfl
theorem wnX0 : Cond.initialized RX0 ∈ tbG := tg (i := 95) (by decide +kernel) rfl
theorem wnX2 : Cond.initialized RX2 ∈ tbG := tg (i := 96) (by decide +kernel) rfl
theorem wnX9 : Cond.initialized RX9 ∈ tbG := tg (i := 97) (by decide +kernel) rfl
theorem wnX3 : Cond.initialized RX3 ∈ tbG := tg (i := 98) (by decide +kernel) rfl
theorem wnX4 : Cond.initialized RX4 ∈ tbG := tg (i := 99) (by decide +kernel) rfl
theorem wnX5 : Cond.initialized RX5 ∈ tbG := tg (i := 100) (by decide +kernel) rfl
theorem wnX7 : Cond.initialized RX7 ∈ tbG := tg (i := 101) (by decide +kernel) rfl
theorem wnX8 : Cond.initialized RX8 ∈ tbG := tg (i := 102) (by decide +kernel) rfl
theorem wnX11 : Cond.initialized RX11 ∈ tbG := tg (i := 103) (by decide +kernel) rfl
theorem wnJ10 : Cond.initialized RJ10 ∈ tbG := tg (i := 104) (by decide +kernel) rfl
theorem wnJ6 : Cond.initialized RJ6 ∈ tbG := tg (i := 105) (by decide +kernel) rfl
theorem wnJ7 : Cond.initialized RJ7 ∈ tbG := tg (i := 106) (by decide +kernel) rfl
theorem wnJ9 : Cond.initialized RJ9 ∈ tbG := tg (i := 107) (by decide +kernel) rfl
theorem mkL_9 : Cond.methodLink RL 9 yX10_init ∈ tbG := tg (i := 110) (by decide +kernel) rfl
theorem mkL_13 : Cond.methodLink RL 13 yX10_write ∈ tbG := tg (i := 477) (by decide +kernel) rfl
theorem mkX10_83 : Cond.methodLink RX10 83 yX6_append ∈ tbG := tg (i := 482) (by decide +kernel) rfl
theorem mkL_18 : Cond.methodLink RL 18 yX10_talk ∈ tbG := tg (i := 487) (by decide +kernel) rfl
theorem mkX10_92 : Cond.methodLink RX10 92 yX6_readInto ∈ tbG := tg (i := 491) (by decide +kernel) rfl
theorem mkX6_19 : Cond.methodLink RX6 19 yX8_clear ∈ tbG := tg (i := 495) (by decide +kernel) rfl
theorem mkX6_27 : Cond.methodLink RX6 27 yX6_accept ∈ tbG := tg (i := 499) (by decide +kernel) rfl
theorem mkX6_40 : Cond.methodLink RX6 40 yX6_acceptFirstLine ∈ tbG := tg (i := 503) (by decide +kernel) rfl
theorem mkX6_74 : Cond.methodLink RX6 74 yX8_nameLine ∈ tbG := tg (i := 507) (by decide +kernel) rfl
theorem mkX6_78 : Cond.methodLink RX6 78 yX6_goOn ∈ tbG := tg (i := 511) (by decide +kernel) rfl
theorem mkX6_43 : Cond.methodLink RX6 43 yX6_acceptArrowOrDot ∈ tbG := tg (i := 515) (by decide +kernel) rfl
theorem mkX6_84 : Cond.methodLink RX6 84 yX8_addAnswer ∈ tbG := tg (i := 519) (by decide +kernel) rfl
theorem mkX6_46 : Cond.methodLink RX6 46 yX6_acceptClauseEnd ∈ tbG := tg (i := 523) (by decide +kernel) rfl
theorem mkX6_50 : Cond.methodLink RX6 50 yX6_acceptSecondLine ∈ tbG := tg (i := 527) (by decide +kernel) rfl
theorem mkX6_53 : Cond.methodLink RX6 53 yX6_acceptCost ∈ tbG := tg (i := 531) (by decide +kernel) rfl
theorem mkX6_56 : Cond.methodLink RX6 56 yX6_acceptRest ∈ tbG := tg (i := 535) (by decide +kernel) rfl
theorem mkX6_97 : Cond.methodLink RX6 97 yX6_openAlternative ∈ tbG := tg (i := 539) (by decide +kernel) rfl
theorem mkX6_101 : Cond.methodLink RX6 101 yX8_addAlternative ∈ tbG := tg (i := 543) (by decide +kernel) rfl
theorem mkX6_59 : Cond.methodLink RX6 59 yX6_acceptAsked ∈ tbG := tg (i := 547) (by decide +kernel) rfl
theorem mkX6_104 : Cond.methodLink RX6 104 yX6_smallMark ∈ tbG := tg (i := 551) (by decide +kernel) rfl
theorem mkX6_107 : Cond.methodLink RX6 107 yX6_greatMark ∈ tbG := tg (i := 554) (by decide +kernel) rfl
theorem mkX6_62 : Cond.methodLink RX6 62 yX6_acceptMoreOfGuard ∈ tbG := tg (i := 557) (by decide +kernel) rfl
theorem mkX6_65 : Cond.methodLink RX6 65 yX6_acceptChanged ∈ tbG := tg (i := 561) (by decide +kernel) rfl
theorem mkX6_68 : Cond.methodLink RX6 68 yX6_acceptMoreOfEffect ∈ tbG := tg (i := 565) (by decide +kernel) rfl
theorem mkX6_37 : Cond.methodLink RX6 37 yX8_sortByLine ∈ tbG := tg (i := 569) (by decide +kernel) rfl
theorem mkX10_101 : Cond.methodLink RX10 101 yX1_restart ∈ tbG := tg (i := 573) (by decide +kernel) rfl
theorem mkL_23 : Cond.methodLink RL 23 yX10_fault ∈ tbG := tg (i := 577) (by decide +kernel) rfl
theorem mkL_27 : Cond.methodLink RL 27 yX10_begin ∈ tbG := tg (i := 581) (by decide +kernel) rfl
theorem mkL_31 : Cond.methodLink RL 31 yX10_take ∈ tbG := tg (i := 586) (by decide +kernel) rfl
theorem mkX10_118 : Cond.methodLink RX10 118 yX10_isAnswer ∈ tbG := tg (i := 590) (by decide +kernel) rfl
theorem mkX10_121 : Cond.methodLink RX10 121 yX10_isOpenHere ∈ tbG := tg (i := 594) (by decide +kernel) rfl
theorem mkX10_128 : Cond.methodLink RX10 128 yX1_lineHere ∈ tbG := tg (i := 598) (by decide +kernel) rfl
theorem mkX10_190 : Cond.methodLink RX10 190 yX1_marksHere ∈ tbG := tg (i := 602) (by decide +kernel) rfl
theorem mkX1_30 : Cond.methodLink RX1 30 yX8_marksBehind ∈ tbG := tg (i := 606) (by decide +kernel) rfl
theorem mkX10_320 : Cond.methodLink RX10 320 yX8_isOpen ∈ tbG := tg (i := 610) (by decide +kernel) rfl
theorem mkX8_62 : Cond.methodLink RX8 62 yX8_guardHolds ∈ tbG := tg (i := 617) (by decide +kernel) rfl
theorem mkX10_125 : Cond.methodLink RX10 125 yX1_advance ∈ tbG := tg (i := 622) (by decide +kernel) rfl
theorem mkL_35 : Cond.methodLink RL 35 yX10_back ∈ tbG := tg (i := 626) (by decide +kernel) rfl
theorem mkL_39 : Cond.methodLink RL 39 yX10_cut ∈ tbG := tg (i := 630) (by decide +kernel) rfl
theorem mkX10_135 : Cond.methodLink RX10 135 yX10_bit ∈ tbG := tg (i := 634) (by decide +kernel) rfl
theorem mkX10_139 : Cond.methodLink RX10 139 yX0_keep ∈ tbG := tg (i := 635) (by decide +kernel) rfl
theorem mkX0_25 : Cond.methodLink RX0 25 yX0_forgetOldest ∈ tbG := tg (i := 639) (by decide +kernel) rfl
theorem mkX10_143 : Cond.methodLink RX10 143 yX8_setCut ∈ tbG := tg (i := 646) (by decide +kernel) rfl
theorem mkX10_147 : Cond.methodLink RX10 147 yJ6_bitCount_0f7a4 ∈ tbG := tg (i := 650) (by decide +kernel) rfl
theorem mkL_44 : Cond.methodLink RL 44 yX10_cost ∈ tbG := tg (i := 656) (by decide +kernel) rfl
theorem mkL_48 : Cond.methodLink RL 48 yX10_undo ∈ tbG := tg (i := 660) (by decide +kernel) rfl
theorem mkL_52 : Cond.methodLink RL 52 yX10_answer ∈ tbG := tg (i := 664) (by decide +kernel) rfl
theorem mkX10_184 : Cond.methodLink RX10 184 yX8_guardContradictsItself ∈ tbG := tg (i := 668) (by decide +kernel) rfl
theorem mkX10_187 : Cond.methodLink RX10 187 yX10_alternativeSet ∈ tbG := tg (i := 672) (by decide +kernel) rfl
theorem mkL_56 : Cond.methodLink RL 56 yX10_count ∈ tbG := tg (i := 676) (by decide +kernel) rfl
theorem mkX10_193 : Cond.methodLink RX10 193 yX10_openHere ∈ tbG := tg (i := 680) (by decide +kernel) rfl
theorem mkX10_197 : Cond.methodLink RX10 197 yX1_priceOfSteps ∈ tbG := tg (i := 684) (by decide +kernel) rfl
theorem mkL_60 : Cond.methodLink RL 60 yX10_step ∈ tbG := tg (i := 688) (by decide +kernel) rfl
theorem mkL_64 : Cond.methodLink RL 64 yX10_line ∈ tbG := tg (i := 692) (by decide +kernel) rfl
theorem mkX10_209 : Cond.methodLink RX10 209 yX10_isLine ∈ tbG := tg (i := 696) (by decide +kernel) rfl
theorem mkX10_212 : Cond.methodLink RX10 212 yX10_refreshGraph ∈ tbG := tg (i := 700) (by decide +kernel) rfl
theorem mkX10_330 : Cond.methodLink RX10 330 yX2_explore ∈ tbG := tg (i := 704) (by decide +kernel) rfl
theorem mkX2_45 : Cond.methodLink RX2 45 yJ7_fill_53178 ∈ tbG := tg (i := 708) (by decide +kernel) rfl
theorem mkX2_63 : Cond.methodLink RX2 63 yX2_admit ∈ tbG := tg (i := 711) (by decide +kernel) rfl
theorem mkX2_67 : Cond.methodLink RX2 67 yX2_addMovesFrom ∈ tbG := tg (i := 715) (by decide +kernel) rfl
theorem mkX2_74 : Cond.methodLink RX2 74 yX2_lineAt ∈ tbG := tg (i := 719) (by decide +kernel) rfl
theorem mkX2_78 : Cond.methodLink RX2 78 yX2_marksAt ∈ tbG := tg (i := 723) (by decide +kernel) rfl
theorem mkX2_87 : Cond.methodLink RX2 87 yX8_isOpen ∈ tbG := tg (i := 727) (by decide +kernel) rfl
theorem mkX2_91 : Cond.methodLink RX2 91 yX8_stateBehind ∈ tbG := tg (i := 728) (by decide +kernel) rfl
theorem mkX8_66 : Cond.methodLink RX8 66 yX8_marksBehind ∈ tbG := tg (i := 732) (by decide +kernel) rfl
theorem mkX2_71 : Cond.methodLink RX2 71 yX2_turnRound ∈ tbG := tg (i := 733) (by decide +kernel) rfl
theorem mkX10_215 : Cond.methodLink RX10 215 yX2_statesOf ∈ tbG := tg (i := 737) (by decide +kernel) rfl
theorem mkX10_218 : Cond.methodLink RX10 218 yX2_marksInAll ∈ tbG := tg (i := 741) (by decide +kernel) rfl
theorem mkX10_221 : Cond.methodLink RX10 221 yX2_marksInSome ∈ tbG := tg (i := 745) (by decide +kernel) rfl
theorem mkX10_224 : Cond.methodLink RX10 224 yX10_stuckStates ∈ tbG := tg (i := 749) (by decide +kernel) rfl
theorem mkX10_265 : Cond.methodLink RX10 265 yX2_lineAt ∈ tbG := tg (i := 753) (by decide +kernel) rfl
theorem mkX10_353 : Cond.methodLink RX10 353 yX10_isStuck ∈ tbG := tg (i := 754) (by decide +kernel) rfl
theorem mkX10_350 : Cond.methodLink RX10 350 yX2_movesFrom ∈ tbG := tg (i := 758) (by decide +kernel) rfl
theorem mkX10_227 : Cond.methodLink RX10 227 yX10_lostStates ∈ tbG := tg (i := 762) (by decide +kernel) rfl
theorem mkX10_356 : Cond.methodLink RX10 356 yX10_refreshHopes ∈ tbG := tg (i := 766) (by decide +kernel) rfl
theorem mkX10_340 : Cond.methodLink RX10 340 yX3_learn ∈ tbG := tg (i := 770) (by decide +kernel) rfl
theorem mkX3_28 : Cond.methodLink RX3 28 yX2_lineAt ∈ tbG := tg (i := 774) (by decide +kernel) rfl
theorem mkX3_36 : Cond.methodLink RX3 36 yX3_admit ∈ tbG := tg (i := 776) (by decide +kernel) rfl
theorem mkL_68 : Cond.methodLink RL 68 yX10_least ∈ tbG := tg (i := 780) (by decide +kernel) rfl
theorem mkX10_236 : Cond.methodLink RX10 236 yX10_refreshPrices ∈ tbG := tg (i := 784) (by decide +kernel) rfl
theorem mkX10_347 : Cond.methodLink RX10 347 yX5_learn ∈ tbG := tg (i := 788) (by decide +kernel) rfl
theorem mkX5_15 : Cond.methodLink RX5 15 yJ7_fill_53178 ∈ tbG := tg (i := 792) (by decide +kernel) rfl
theorem mkX10_239 : Cond.methodLink RX10 239 yX5_cheapestOf ∈ tbG := tg (i := 793) (by decide +kernel) rfl
theorem mkX5_39 : Cond.methodLink RX5 39 yX2_lineAt ∈ tbG := tg (i := 797) (by decide +kernel) rfl
theorem mkX5_43 : Cond.methodLink RX5 43 yJ9_min_7cf53 ∈ tbG := tg (i := 798) (by decide +kernel) rfl
theorem mkL_72 : Cond.methodLink RL 72 yX10_row ∈ tbG := tg (i := 801) (by decide +kernel) rfl
theorem mkX10_243 : Cond.methodLink RX10 243 yX2_answerOfRow ∈ tbG := tg (i := 805) (by decide +kernel) rfl
theorem mkL_76 : Cond.methodLink RL 76 yX10_needs ∈ tbG := tg (i := 809) (by decide +kernel) rfl
theorem mkX10_249 : Cond.methodLink RX10 249 yX8_answersThatLay ∈ tbG := tg (i := 813) (by decide +kernel) rfl
theorem mkX10_252 : Cond.methodLink RX10 252 yX9_comesTo ∈ tbG := tg (i := 817) (by decide +kernel) rfl
theorem mkX9_32 : Cond.methodLink RX9 32 yX9_startAt ∈ tbG := tg (i := 821) (by decide +kernel) rfl
theorem mkX9_18 : Cond.methodLink RX9 18 yJ7_fill_53178 ∈ tbG := tg (i := 825) (by decide +kernel) rfl
theorem mkX9_28 : Cond.methodLink RX9 28 yX9_enqueue ∈ tbG := tg (i := 826) (by decide +kernel) rfl
theorem mkX9_36 : Cond.methodLink RX9 36 yX2_lineAt ∈ tbG := tg (i := 830) (by decide +kernel) rfl
theorem mkL_80 : Cond.methodLink RL 80 yX10_must ∈ tbG := tg (i := 832) (by decide +kernel) rfl
theorem mkX10_256 : Cond.methodLink RX10 256 yX2_answersOfRow ∈ tbG := tg (i := 836) (by decide +kernel) rfl
theorem mkL_84 : Cond.methodLink RL 84 yX10_loop ∈ tbG := tg (i := 840) (by decide +kernel) rfl
theorem mkX10_259 : Cond.methodLink RX10 259 yX10_refreshLoops ∈ tbG := tg (i := 844) (by decide +kernel) rfl
theorem mkX10_344 : Cond.methodLink RX10 344 yX4_learn ∈ tbG := tg (i := 848) (by decide +kernel) rfl
theorem mkX4_31 : Cond.methodLink RX4 31 yX4_finishAll ∈ tbG := tg (i := 852) (by decide +kernel) rfl
theorem mkX4_35 : Cond.methodLink RX4 35 yJ7_fill_49daa ∈ tbG := tg (i := 856) (by decide +kernel) rfl
theorem mkX4_66 : Cond.methodLink RX4 66 yX4_push ∈ tbG := tg (i := 859) (by decide +kernel) rfl
theorem mkX4_50 : Cond.methodLink RX4 50 yX4_gatherComponent ∈ tbG := tg (i := 863) (by decide +kernel) rfl
theorem mkX4_72 : Cond.methodLink RX4 72 yX4_join ∈ tbG := tg (i := 867) (by decide +kernel) rfl
theorem mkX10_272 : Cond.methodLink RX10 272 yX9_shortestLoop ∈ tbG := tg (i := 871) (by decide +kernel) rfl
theorem mkL_88 : Cond.methodLink RL 88 yX10_use ∈ tbG := tg (i := 875) (by decide +kernel) rfl
theorem mkX10_276 : Cond.methodLink RX10 276 yX2_movesBy ∈ tbG := tg (i := 879) (by decide +kernel) rfl
theorem mkL_92 : Cond.methodLink RL 92 yX10_mark ∈ tbG := tg (i := 883) (by decide +kernel) rfl
theorem mkX10_279 : Cond.methodLink RX10 279 yX8_guardsThatName ∈ tbG := tg (i := 887) (by decide +kernel) rfl
theorem mkX8_69 : Cond.methodLink RX8 69 yX8_marksOfGuard ∈ tbG := tg (i := 891) (by decide +kernel) rfl
theorem mkX10_282 : Cond.methodLink RX10 282 yX8_effectsThatName ∈ tbG := tg (i := 895) (by decide +kernel) rfl
theorem mkX10_285 : Cond.methodLink RX10 285 yX10_isMarkReached ∈ tbG := tg (i := 899) (by decide +kernel) rfl
theorem mkX10_362 : Cond.methodLink RX10 362 yX2_marksAt ∈ tbG := tg (i := 903) (by decide +kernel) rfl
theorem mkX10_288 : Cond.methodLink RX10 288 yX10_isAskedForInVain ∈ tbG := tg (i := 904) (by decide +kernel) rfl
theorem mkX10_365 : Cond.methodLink RX10 365 yX10_leadsOutWithout ∈ tbG := tg (i := 908) (by decide +kernel) rfl
theorem mkX10_374 : Cond.methodLink RX10 374 yX8_guardHolds ∈ tbG := tg (i := 912) (by decide +kernel) rfl
theorem mkX10_380 : Cond.methodLink RX10 380 yX8_stateBehind ∈ tbG := tg (i := 913) (by decide +kernel) rfl
theorem mkL_96 : Cond.methodLink RL 96 yX10_whole ∈ tbG := tg (i := 914) (by decide +kernel) rfl
theorem mkX10_291 : Cond.methodLink RX10 291 yX2_linesReached ∈ tbG := tg (i := 918) (by decide +kernel) rfl
theorem mkX10_294 : Cond.methodLink RX10 294 yX10_stuckLines ∈ tbG := tg (i := 922) (by decide +kernel) rfl
theorem mkX10_297 : Cond.methodLink RX10 297 yX10_lostLines ∈ tbG := tg (i := 926) (by decide +kernel) rfl
theorem mkX10_300 : Cond.methodLink RX10 300 yX10_loopingLines ∈ tbG := tg (i := 930) (by decide +kernel) rfl
theorem mkX10_303 : Cond.methodLink RX10 303 yX2_mostMovesOfAState ∈ tbG := tg (i := 934) (by decide +kernel) rfl
theorem mkX2_95 : Cond.methodLink RX2 95 yX2_movesFrom ∈ tbG := tg (i := 938) (by decide +kernel) rfl
theorem mkX2_98 : Cond.methodLink RX2 98 yJ9_max_7cf53 ∈ tbG := tg (i := 939) (by decide +kernel) rfl
theorem mkX10_306 : Cond.methodLink RX10 306 yX10_statesAtEndings ∈ tbG := tg (i := 942) (by decide +kernel) rfl
theorem mkX10_309 : Cond.methodLink RX10 309 yX2_greatestDepth ∈ tbG := tg (i := 946) (by decide +kernel) rfl
theorem mkL_100 : Cond.methodLink RL 100 yX10_rows ∈ tbG := tg (i := 950) (by decide +kernel) rfl
theorem mkX10_316 : Cond.methodLink RX10 316 yX7_rowsTo ∈ tbG := tg (i := 956) (by decide +kernel) rfl
theorem mkX7_18 : Cond.methodLink RX7 18 yJ7_fill_d0a16 ∈ tbG := tg (i := 960) (by decide +kernel) rfl
theorem mkX7_24 : Cond.methodLink RX7 24 yX7_lengthen ∈ tbG := tg (i := 963) (by decide +kernel) rfl
theorem mkX7_36 : Cond.methodLink RX7 36 yX2_lineAt ∈ tbG := tg (i := 969) (by decide +kernel) rfl
theorem mkL_12 : Cond.methodLink RL 12 yX11_init ∈ tbG := tg (i := 972) (by decide +kernel) rfl
theorem mkL_17 : Cond.methodLink RL 17 yX11_write ∈ tbG := tg (i := 1091) (by decide +kernel) rfl
theorem mkX11_88 : Cond.methodLink RX11 88 yX11_in ∈ tbG := tg (i := 1096) (by decide +kernel) rfl
theorem mkL_22 : Cond.methodLink RL 22 yX11_talk ∈ tbG := tg (i := 1101) (by decide +kernel) rfl
theorem mkX11_199 : Cond.methodLink RX11 199 yX11_readsClause ∈ tbG := tg (i := 1105) (by decide +kernel) rfl
theorem mkX11_180 : Cond.methodLink RX11 180 yX11_line ∈ tbG := tg (i := 1109) (by decide +kernel) rfl
theorem mkX11_142 : Cond.methodLink RX11 142 yX11_look ∈ tbG := tg (i := 1113) (by decide +kernel) rfl
theorem mkX11_145 : Cond.methodLink RX11 145 yX11_wrong ∈ tbG := tg (i := 1119) (by decide +kernel) rfl
theorem mkX11_196 : Cond.methodLink RX11 196 yX11_readsAnswer ∈ tbG := tg (i := 1123) (by decide +kernel) rfl
theorem mkX11_171 : Cond.methodLink RX11 171 yX11_passes ∈ tbG := tg (i := 1127) (by decide +kernel) rfl
theorem mkX11_187 : Cond.methodLink RX11 187 yX11_readsGuard ∈ tbG := tg (i := 1133) (by decide +kernel) rfl
theorem mkX11_174 : Cond.methodLink RX11 174 yX11_readsAlternative ∈ tbG := tg (i := 1137) (by decide +kernel) rfl
theorem mkX11_167 : Cond.methodLink RX11 167 yX11_isMark ∈ tbG := tg (i := 1141) (by decide +kernel) rfl
theorem mkX11_190 : Cond.methodLink RX11 190 yX11_readsEffect ∈ tbG := tg (i := 1149) (by decide +kernel) rfl
theorem mkX11_94 : Cond.methodLink RX11 94 yX11_has ∈ tbG := tg (i := 1153) (by decide +kernel) rfl
theorem mkX11_205 : Cond.methodLink RX11 205 yX11_keeps ∈ tbG := tg (i := 1156) (by decide +kernel) rfl
theorem mkL_26 : Cond.methodLink RL 26 yX11_fault ∈ tbG := tg (i := 1160) (by decide +kernel) rfl
theorem mkL_30 : Cond.methodLink RL 30 yX11_begin ∈ tbG := tg (i := 1164) (by decide +kernel) rfl
theorem mkX11_211 : Cond.methodLink RX11 211 yX11_isTalk ∈ tbG := tg (i := 1168) (by decide +kernel) rfl
theorem mkL_34 : Cond.methodLink RL 34 yX11_take ∈ tbG := tg (i := 1174) (by decide +kernel) rfl
theorem mkX11_217 : Cond.methodLink RX11 217 yX11_isAnswer ∈ tbG := tg (i := 1178) (by decide +kernel) rfl
theorem mkX11_221 : Cond.methodLink RX11 221 yX11_here ∈ tbG := tg (i := 1182) (by decide +kernel) rfl
theorem mkX11_118 : Cond.methodLink RX11 118 yX11_first ∈ tbG := tg (i := 1186) (by decide +kernel) rfl
theorem mkX11_108 : Cond.methodLink RX11 108 yX11_next ∈ tbG := tg (i := 1190) (by decide +kernel) rfl
theorem mkX11_105 : Cond.methodLink RX11 105 yX11_isOpen ∈ tbG := tg (i := 1194) (by decide +kernel) rfl
theorem mkX11_101 : Cond.methodLink RX11 101 yX11_holds ∈ tbG := tg (i := 1198) (by decide +kernel) rfl
theorem mkL_38 : Cond.methodLink RL 38 yX11_back ∈ tbG := tg (i := 1203) (by decide +kernel) rfl
theorem mkL_43 : Cond.methodLink RL 43 yX11_cut ∈ tbG := tg (i := 1208) (by decide +kernel) rfl
theorem mkX11_227 : Cond.methodLink RX11 227 yX11_notes ∈ tbG := tg (i := 1212) (by decide +kernel) rfl
theorem mkL_47 : Cond.methodLink RL 47 yX11_cost ∈ tbG := tg (i := 1216) (by decide +kernel) rfl
theorem mkL_51 : Cond.methodLink RL 51 yX11_undo ∈ tbG := tg (i := 1221) (by decide +kernel) rfl
theorem mkL_55 : Cond.methodLink RL 55 yX11_answer ∈ tbG := tg (i := 1225) (by decide +kernel) rfl
theorem mkX11_232 : Cond.methodLink RX11 232 yX11_isVain ∈ tbG := tg (i := 1229) (by decide +kernel) rfl
theorem mkL_59 : Cond.methodLink RL 59 yX11_count ∈ tbG := tg (i := 1234) (by decide +kernel) rfl
theorem mkX11_237 : Cond.methodLink RX11 237 yX11_openIn ∈ tbG := tg (i := 1238) (by decide +kernel) rfl
theorem mkX11_241 : Cond.methodLink RX11 241 yX11_costOfSteps ∈ tbG := tg (i := 1242) (by decide +kernel) rfl
theorem mkL_63 : Cond.methodLink RL 63 yX11_step ∈ tbG := tg (i := 1246) (by decide +kernel) rfl
theorem mkL_67 : Cond.methodLink RL 67 yX11_line_ ∈ tbG := tg (i := 1250) (by decide +kernel) rfl
theorem mkX11_250 : Cond.methodLink RX11 250 yX11_isLine ∈ tbG := tg (i := 1254) (by decide +kernel) rfl
theorem mkX11_255 : Cond.methodLink RX11 255 yX11_reachesAll ∈ tbG := tg (i := 1260) (by decide +kernel) rfl
theorem mkX11_122 : Cond.methodLink RX11 122 yX11_reaches ∈ tbG := tg (i := 1264) (by decide +kernel) rfl
theorem mkX11_258 : Cond.methodLink RX11 258 yX11_laysEnds ∈ tbG := tg (i := 1268) (by decide +kernel) rfl
theorem mkX11_261 : Cond.methodLink RX11 261 yX11_statesOf ∈ tbG := tg (i := 1272) (by decide +kernel) rfl
theorem mkX11_244 : Cond.methodLink RX11 244 yX11_isStuck ∈ tbG := tg (i := 1276) (by decide +kernel) rfl
theorem mkX11_247 : Cond.methodLink RX11 247 yX11_isLost ∈ tbG := tg (i := 1280) (by decide +kernel) rfl
theorem mkX11_264 : Cond.methodLink RX11 264 yX11_marksOf ∈ tbG := tg (i := 1284) (by decide +kernel) rfl
theorem mkL_71 : Cond.methodLink RL 71 yX11_least ∈ tbG := tg (i := 1288) (by decide +kernel) rfl
theorem mkX11_268 : Cond.methodLink RX11 268 yX11_cheapest ∈ tbG := tg (i := 1292) (by decide +kernel) rfl
theorem mkX11_271 : Cond.methodLink RX11 271 yX11_fewest ∈ tbG := tg (i := 1296) (by decide +kernel) rfl
theorem mkL_75 : Cond.methodLink RL 75 yX11_row ∈ tbG := tg (i := 1300) (by decide +kernel) rfl
theorem mkX11_277 : Cond.methodLink RX11 277 yX11_laysGood ∈ tbG := tg (i := 1304) (by decide +kernel) rfl
theorem mkX11_274 : Cond.methodLink RX11 274 yX11_goesOn ∈ tbG := tg (i := 1308) (by decide +kernel) rfl
theorem mkL_79 : Cond.methodLink RL 79 yX11_needs ∈ tbG := tg (i := 1312) (by decide +kernel) rfl
theorem mkL_83 : Cond.methodLink RL 83 yX11_must ∈ tbG := tg (i := 1316) (by decide +kernel) rfl
theorem mkL_87 : Cond.methodLink RL 87 yX11_loop ∈ tbG := tg (i := 1320) (by decide +kernel) rfl
theorem mkX11_284 : Cond.methodLink RX11 284 yX11_laysReached ∈ tbG := tg (i := 1324) (by decide +kernel) rfl
theorem mkX11_287 : Cond.methodLink RX11 287 yX11_loopOfLine ∈ tbG := tg (i := 1328) (by decide +kernel) rfl
theorem mkX11_281 : Cond.methodLink RX11 281 yX11_loopOf ∈ tbG := tg (i := 1332) (by decide +kernel) rfl
theorem mkL_91 : Cond.methodLink RL 91 yX11_use ∈ tbG := tg (i := 1336) (by decide +kernel) rfl
theorem mkL_95 : Cond.methodLink RL 95 yX11_mark ∈ tbG := tg (i := 1340) (by decide +kernel) rfl
theorem mkX11_293 : Cond.methodLink RX11 293 yX11_asked ∈ tbG := tg (i := 1344) (by decide +kernel) rfl
theorem mkX11_290 : Cond.methodLink RX11 290 yX11_isAskedFor ∈ tbG := tg (i := 1348) (by decide +kernel) rfl
theorem mkX11_296 : Cond.methodLink RX11 296 yX11_laid ∈ tbG := tg (i := 1352) (by decide +kernel) rfl
theorem mkX11_299 : Cond.methodLink RX11 299 yX11_isAnywhere ∈ tbG := tg (i := 1356) (by decide +kernel) rfl
theorem mkX11_302 : Cond.methodLink RX11 302 yX11_isIdle ∈ tbG := tg (i := 1360) (by decide +kernel) rfl
theorem mkL_99 : Cond.methodLink RL 99 yX11_whole ∈ tbG := tg (i := 1364) (by decide +kernel) rfl
theorem mkX11_305 : Cond.methodLink RX11 305 yX11_linesThat ∈ tbG := tg (i := 1368) (by decide +kernel) rfl
theorem mkX11_308 : Cond.methodLink RX11 308 yX11_linesWithLoops ∈ tbG := tg (i := 1372) (by decide +kernel) rfl
theorem mkX11_311 : Cond.methodLink RX11 311 yX11_ofStates ∈ tbG := tg (i := 1376) (by decide +kernel) rfl
theorem mkL_104 : Cond.methodLink RL 104 yX11_rows ∈ tbG := tg (i := 1380) (by decide +kernel) rfl
theorem mkX11_326 : Cond.methodLink RX11 326 yX11_goes ∈ tbG := tg (i := 1387) (by decide +kernel) rfl
theorem mkX11_316 : Cond.methodLink RX11 316 yX11_isTooMuch ∈ tbG := tg (i := 1391) (by decide +kernel) rfl
theorem fkX6_9 : Cond.fieldLink RX6 9 (TX6 0).1 (TX6 0).2.1 (TX6 0).2.2.1 ∈ tbG := tg (i := 122) (by decide +kernel) rfl
theorem fkX6_15 : Cond.fieldLink RX6 15 (TX6 1).1 (TX6 1).2.1 (TX6 1).2.2.1 ∈ tbG := tg (i := 123) (by decide +kernel) rfl
theorem fkX10_87 : Cond.fieldLink RX10 87 (TX6 1).1 (TX6 1).2.1 (TX6 1).2.2.1 ∈ tbG := tg (i := 124) (by decide +kernel) rfl
theorem fkX6_31 : Cond.fieldLink RX6 31 (TX6 2).1 (TX6 2).2.1 (TX6 2).2.2.1 ∈ tbG := tg (i := 125) (by decide +kernel) rfl
theorem fkX10_111 : Cond.fieldLink RX10 111 (TX6 2).1 (TX6 2).2.1 (TX6 2).2.2.1 ∈ tbG := tg (i := 126) (by decide +kernel) rfl
theorem fkX6_24 : Cond.fieldLink RX6 24 (TX6 3).1 (TX6 3).2.1 (TX6 3).2.2.1 ∈ tbG := tg (i := 127) (by decide +kernel) rfl
theorem fkX6_71 : Cond.fieldLink RX6 71 (TX6 4).1 (TX6 4).2.1 (TX6 4).2.2.1 ∈ tbG := tg (i := 128) (by decide +kernel) rfl
theorem fkX1_9 : Cond.fieldLink RX1 9 (TX1 0).1 (TX1 0).2.1 (TX1 0).2.2.1 ∈ tbG := tg (i := 147) (by decide +kernel) rfl
theorem fkX10_206 : Cond.fieldLink RX10 206 (TX1 0).1 (TX1 0).2.1 (TX1 0).2.2.1 ∈ tbG := tg (i := 148) (by decide +kernel) rfl
theorem fkX1_19 : Cond.fieldLink RX1 19 (TX1 1).1 (TX1 1).2.1 (TX1 1).2.2.1 ∈ tbG := tg (i := 149) (by decide +kernel) rfl
theorem fkX10_131 : Cond.fieldLink RX10 131 (TX1 1).1 (TX1 1).2.1 (TX1 1).2.2.1 ∈ tbG := tg (i := 150) (by decide +kernel) rfl
theorem fkX1_15 : Cond.fieldLink RX1 15 (TX1 2).1 (TX1 2).2.1 (TX1 2).2.2.1 ∈ tbG := tg (i := 151) (by decide +kernel) rfl
theorem fkX10_246 : Cond.fieldLink RX10 246 (TX1 2).1 (TX1 2).2.1 (TX1 2).2.2.1 ∈ tbG := tg (i := 152) (by decide +kernel) rfl
theorem fkX0_9 : Cond.fieldLink RX0 9 (TX0 0).1 (TX0 0).2.1 (TX0 0).2.2.1 ∈ tbG := tg (i := 166) (by decide +kernel) rfl
theorem fkX10_160 : Cond.fieldLink RX10 160 (TX0 0).1 (TX0 0).2.1 (TX0 0).2.2.1 ∈ tbG := tg (i := 167) (by decide +kernel) rfl
theorem fkX0_15 : Cond.fieldLink RX0 15 (TX0 1).1 (TX0 1).2.1 (TX0 1).2.2.1 ∈ tbG := tg (i := 168) (by decide +kernel) rfl
theorem fkX10_166 : Cond.fieldLink RX10 166 (TX0 1).1 (TX0 1).2.1 (TX0 1).2.2.1 ∈ tbG := tg (i := 169) (by decide +kernel) rfl
theorem fkX0_18 : Cond.fieldLink RX0 18 (TX0 2).1 (TX0 2).2.1 (TX0 2).2.2.1 ∈ tbG := tg (i := 170) (by decide +kernel) rfl
theorem fkX10_163 : Cond.fieldLink RX10 163 (TX0 2).1 (TX0 2).2.1 (TX0 2).2.2.1 ∈ tbG := tg (i := 171) (by decide +kernel) rfl
theorem fkX0_21 : Cond.fieldLink RX0 21 (TX0 3).1 (TX0 3).2.1 (TX0 3).2.2.1 ∈ tbG := tg (i := 172) (by decide +kernel) rfl
theorem fkX10_100 : Cond.fieldLink RX10 100 (TX0 3).1 (TX0 3).2.1 (TX0 3).2.2.1 ∈ tbG := tg (i := 173) (by decide +kernel) rfl
theorem fkX2_9 : Cond.fieldLink RX2 9 (TX2 0).1 (TX2 0).2.1 (TX2 0).2.2.1 ∈ tbG := tg (i := 189) (by decide +kernel) rfl
theorem fkX2_15 : Cond.fieldLink RX2 15 (TX2 1).1 (TX2 1).2.1 (TX2 1).2.2.1 ∈ tbG := tg (i := 190) (by decide +kernel) rfl
theorem fkX10_377 : Cond.fieldLink RX10 377 (TX2 1).1 (TX2 1).2.1 (TX2 1).2.2.1 ∈ tbG := tg (i := 191) (by decide +kernel) rfl
theorem fkX2_18 : Cond.fieldLink RX2 18 (TX2 2).1 (TX2 2).2.1 (TX2 2).2.2.1 ∈ tbG := tg (i := 192) (by decide +kernel) rfl
theorem fkX10_233 : Cond.fieldLink RX10 233 (TX2 2).1 (TX2 2).2.1 (TX2 2).2.2.1 ∈ tbG := tg (i := 193) (by decide +kernel) rfl
theorem fkX2_21 : Cond.fieldLink RX2 21 (TX2 3).1 (TX2 3).2.1 (TX2 3).2.2.1 ∈ tbG := tg (i := 194) (by decide +kernel) rfl
theorem fkX2_24 : Cond.fieldLink RX2 24 (TX2 4).1 (TX2 4).2.1 (TX2 4).2.2.1 ∈ tbG := tg (i := 195) (by decide +kernel) rfl
theorem fkX10_230 : Cond.fieldLink RX10 230 (TX2 4).1 (TX2 4).2.1 (TX2 4).2.2.1 ∈ tbG := tg (i := 196) (by decide +kernel) rfl
theorem fkX2_27 : Cond.fieldLink RX2 27 (TX2 5).1 (TX2 5).2.1 (TX2 5).2.2.1 ∈ tbG := tg (i := 197) (by decide +kernel) rfl
theorem fkX4_69 : Cond.fieldLink RX4 69 (TX2 5).1 (TX2 5).2.1 (TX2 5).2.2.1 ∈ tbG := tg (i := 198) (by decide +kernel) rfl
theorem fkX9_42 : Cond.fieldLink RX9 42 (TX2 5).1 (TX2 5).2.1 (TX2 5).2.2.1 ∈ tbG := tg (i := 199) (by decide +kernel) rfl
theorem fkX2_30 : Cond.fieldLink RX2 30 (TX2 6).1 (TX2 6).2.1 (TX2 6).2.2.1 ∈ tbG := tg (i := 200) (by decide +kernel) rfl
theorem fkX5_27 : Cond.fieldLink RX5 27 (TX2 6).1 (TX2 6).2.1 (TX2 6).2.2.1 ∈ tbG := tg (i := 201) (by decide +kernel) rfl
theorem fkX4_57 : Cond.fieldLink RX4 57 (TX2 6).1 (TX2 6).2.1 (TX2 6).2.2.1 ∈ tbG := tg (i := 202) (by decide +kernel) rfl
theorem fkX7_47 : Cond.fieldLink RX7 47 (TX2 6).1 (TX2 6).2.1 (TX2 6).2.2.1 ∈ tbG := tg (i := 203) (by decide +kernel) rfl
theorem fkX2_33 : Cond.fieldLink RX2 33 (TX2 7).1 (TX2 7).2.1 (TX2 7).2.2.1 ∈ tbG := tg (i := 204) (by decide +kernel) rfl
theorem fkX4_60 : Cond.fieldLink RX4 60 (TX2 7).1 (TX2 7).2.1 (TX2 7).2.2.1 ∈ tbG := tg (i := 205) (by decide +kernel) rfl
theorem fkX5_33 : Cond.fieldLink RX5 33 (TX2 7).1 (TX2 7).2.1 (TX2 7).2.2.1 ∈ tbG := tg (i := 206) (by decide +kernel) rfl
theorem fkX7_51 : Cond.fieldLink RX7 51 (TX2 7).1 (TX2 7).2.1 (TX2 7).2.2.1 ∈ tbG := tg (i := 207) (by decide +kernel) rfl
theorem fkX9_52 : Cond.fieldLink RX9 52 (TX2 7).1 (TX2 7).2.1 (TX2 7).2.2.1 ∈ tbG := tg (i := 208) (by decide +kernel) rfl
theorem fkX2_36 : Cond.fieldLink RX2 36 (TX2 8).1 (TX2 8).2.1 (TX2 8).2.2.1 ∈ tbG := tg (i := 209) (by decide +kernel) rfl
theorem fkX5_30 : Cond.fieldLink RX5 30 (TX2 8).1 (TX2 8).2.1 (TX2 8).2.2.1 ∈ tbG := tg (i := 210) (by decide +kernel) rfl
theorem fkX9_45 : Cond.fieldLink RX9 45 (TX2 8).1 (TX2 8).2.1 (TX2 8).2.2.1 ∈ tbG := tg (i := 211) (by decide +kernel) rfl
theorem fkX2_39 : Cond.fieldLink RX2 39 (TX2 9).1 (TX2 9).2.1 (TX2 9).2.2.1 ∈ tbG := tg (i := 212) (by decide +kernel) rfl
theorem fkX3_40 : Cond.fieldLink RX3 40 (TX2 9).1 (TX2 9).2.1 (TX2 9).2.2.1 ∈ tbG := tg (i := 213) (by decide +kernel) rfl
theorem fkX4_76 : Cond.fieldLink RX4 76 (TX2 9).1 (TX2 9).2.1 (TX2 9).2.2.1 ∈ tbG := tg (i := 214) (by decide +kernel) rfl
theorem fkX2_42 : Cond.fieldLink RX2 42 (TX2 10).1 (TX2 10).2.1 (TX2 10).2.2.1 ∈ tbG := tg (i := 215) (by decide +kernel) rfl
theorem fkX3_43 : Cond.fieldLink RX3 43 (TX2 10).1 (TX2 10).2.1 (TX2 10).2.2.1 ∈ tbG := tg (i := 216) (by decide +kernel) rfl
theorem fkX4_79 : Cond.fieldLink RX4 79 (TX2 10).1 (TX2 10).2.1 (TX2 10).2.2.1 ∈ tbG := tg (i := 217) (by decide +kernel) rfl
theorem fkX3_23 : Cond.fieldLink RX3 23 (TX2 11).1 (TX2 11).2.1 (TX2 11).2.2.1 ∈ tbG := tg (i := 218) (by decide +kernel) rfl
theorem fkX2_51 : Cond.fieldLink RX2 51 (TX2 11).1 (TX2 11).2.1 (TX2 11).2.2.1 ∈ tbG := tg (i := 219) (by decide +kernel) rfl
theorem fkX4_45 : Cond.fieldLink RX4 45 (TX2 11).1 (TX2 11).2.1 (TX2 11).2.2.1 ∈ tbG := tg (i := 220) (by decide +kernel) rfl
theorem fkX7_30 : Cond.fieldLink RX7 30 (TX2 11).1 (TX2 11).2.1 (TX2 11).2.2.1 ∈ tbG := tg (i := 221) (by decide +kernel) rfl
theorem fkX5_36 : Cond.fieldLink RX5 36 (TX2 11).1 (TX2 11).2.1 (TX2 11).2.2.1 ∈ tbG := tg (i := 222) (by decide +kernel) rfl
theorem fkX10_262 : Cond.fieldLink RX10 262 (TX2 11).1 (TX2 11).2.1 (TX2 11).2.2.1 ∈ tbG := tg (i := 223) (by decide +kernel) rfl
theorem fkX2_55 : Cond.fieldLink RX2 55 (TX2 12).1 (TX2 12).2.1 (TX2 12).2.2.1 ∈ tbG := tg (i := 224) (by decide +kernel) rfl
theorem fkX5_21 : Cond.fieldLink RX5 21 (TX2 12).1 (TX2 12).2.1 (TX2 12).2.2.1 ∈ tbG := tg (i := 225) (by decide +kernel) rfl
theorem fkX4_54 : Cond.fieldLink RX4 54 (TX2 12).1 (TX2 12).2.1 (TX2 12).2.2.1 ∈ tbG := tg (i := 226) (by decide +kernel) rfl
theorem fkX7_44 : Cond.fieldLink RX7 44 (TX2 12).1 (TX2 12).2.1 (TX2 12).2.2.1 ∈ tbG := tg (i := 227) (by decide +kernel) rfl
theorem fkX9_9 : Cond.fieldLink RX9 9 (TX9 0).1 (TX9 0).2.1 (TX9 0).2.2.1 ∈ tbG := tg (i := 261) (by decide +kernel) rfl
theorem fkX9_15 : Cond.fieldLink RX9 15 (TX9 1).1 (TX9 1).2.1 (TX9 1).2.2.1 ∈ tbG := tg (i := 262) (by decide +kernel) rfl
theorem fkX9_24 : Cond.fieldLink RX9 24 (TX9 2).1 (TX9 2).2.1 (TX9 2).2.2.1 ∈ tbG := tg (i := 263) (by decide +kernel) rfl
theorem fkX3_9 : Cond.fieldLink RX3 9 (TX3 0).1 (TX3 0).2.1 (TX3 0).2.2.1 ∈ tbG := tg (i := 277) (by decide +kernel) rfl
theorem fkX10_359 : Cond.fieldLink RX10 359 (TX3 0).1 (TX3 0).2.1 (TX3 0).2.2.1 ∈ tbG := tg (i := 278) (by decide +kernel) rfl
theorem fkX3_15 : Cond.fieldLink RX3 15 (TX3 1).1 (TX3 1).2.1 (TX3 1).2.2.1 ∈ tbG := tg (i := 279) (by decide +kernel) rfl
theorem fkX3_19 : Cond.fieldLink RX3 19 (TX3 2).1 (TX3 2).2.1 (TX3 2).2.2.1 ∈ tbG := tg (i := 280) (by decide +kernel) rfl
theorem fkX4_9 : Cond.fieldLink RX4 9 (TX4 0).1 (TX4 0).2.1 (TX4 0).2.2.1 ∈ tbG := tg (i := 295) (by decide +kernel) rfl
theorem fkX10_268 : Cond.fieldLink RX10 268 (TX4 0).1 (TX4 0).2.1 (TX4 0).2.2.1 ∈ tbG := tg (i := 296) (by decide +kernel) rfl
theorem fkX4_15 : Cond.fieldLink RX4 15 (TX4 1).1 (TX4 1).2.1 (TX4 1).2.2.1 ∈ tbG := tg (i := 297) (by decide +kernel) rfl
theorem fkX4_18 : Cond.fieldLink RX4 18 (TX4 2).1 (TX4 2).2.1 (TX4 2).2.2.1 ∈ tbG := tg (i := 298) (by decide +kernel) rfl
theorem fkX4_22 : Cond.fieldLink RX4 22 (TX4 3).1 (TX4 3).2.1 (TX4 3).2.2.1 ∈ tbG := tg (i := 299) (by decide +kernel) rfl
theorem fkX4_25 : Cond.fieldLink RX4 25 (TX4 4).1 (TX4 4).2.1 (TX4 4).2.2.1 ∈ tbG := tg (i := 300) (by decide +kernel) rfl
theorem fkX4_28 : Cond.fieldLink RX4 28 (TX4 5).1 (TX4 5).2.1 (TX4 5).2.2.1 ∈ tbG := tg (i := 301) (by decide +kernel) rfl
theorem fkX4_63 : Cond.fieldLink RX4 63 (TX4 6).1 (TX4 6).2.1 (TX4 6).2.2.1 ∈ tbG := tg (i := 302) (by decide +kernel) rfl
theorem fkX4_41 : Cond.fieldLink RX4 41 (TX4 7).1 (TX4 7).2.1 (TX4 7).2.2.1 ∈ tbG := tg (i := 303) (by decide +kernel) rfl
theorem fkX5_9 : Cond.fieldLink RX5 9 (TX5 0).1 (TX5 0).2.1 (TX5 0).2.2.1 ∈ tbG := tg (i := 327) (by decide +kernel) rfl
theorem fkX7_9 : Cond.fieldLink RX7 9 (TX7 0).1 (TX7 0).2.1 (TX7 0).2.2.1 ∈ tbG := tg (i := 337) (by decide +kernel) rfl
theorem fkX7_15 : Cond.fieldLink RX7 15 (TX7 1).1 (TX7 1).2.1 (TX7 1).2.2.1 ∈ tbG := tg (i := 338) (by decide +kernel) rfl
theorem fkX8_9 : Cond.fieldLink RX8 9 (TX8 0).1 (TX8 0).2.1 (TX8 0).2.2.1 ∈ tbG := tg (i := 351) (by decide +kernel) rfl
theorem fkX10_169 : Cond.fieldLink RX10 169 (TX8 0).1 (TX8 0).2.1 (TX8 0).2.2.1 ∈ tbG := tg (i := 352) (by decide +kernel) rfl
theorem fkX8_15 : Cond.fieldLink RX8 15 (TX8 1).1 (TX8 1).2.1 (TX8 1).2.2.1 ∈ tbG := tg (i := 353) (by decide +kernel) rfl
theorem fkX1_27 : Cond.fieldLink RX1 27 (TX8 1).1 (TX8 1).2.1 (TX8 1).2.2.1 ∈ tbG := tg (i := 354) (by decide +kernel) rfl
theorem fkX6_88 : Cond.fieldLink RX6 88 (TX8 1).1 (TX8 1).2.1 (TX8 1).2.2.1 ∈ tbG := tg (i := 355) (by decide +kernel) rfl
theorem fkX10_172 : Cond.fieldLink RX10 172 (TX8 1).1 (TX8 1).2.1 (TX8 1).2.2.1 ∈ tbG := tg (i := 356) (by decide +kernel) rfl
theorem fkX8_18 : Cond.fieldLink RX8 18 (TX8 2).1 (TX8 2).2.1 (TX8 2).2.2.1 ∈ tbG := tg (i := 357) (by decide +kernel) rfl
theorem fkX1_34 : Cond.fieldLink RX1 34 (TX8 2).1 (TX8 2).2.1 (TX8 2).2.2.1 ∈ tbG := tg (i := 358) (by decide +kernel) rfl
theorem fkX10_153 : Cond.fieldLink RX10 153 (TX8 2).1 (TX8 2).2.1 (TX8 2).2.2.1 ∈ tbG := tg (i := 359) (by decide +kernel) rfl
theorem fkX6_94 : Cond.fieldLink RX6 94 (TX8 2).1 (TX8 2).2.1 (TX8 2).2.2.1 ∈ tbG := tg (i := 360) (by decide +kernel) rfl
theorem fkX8_21 : Cond.fieldLink RX8 21 (TX8 3).1 (TX8 3).2.1 (TX8 3).2.2.1 ∈ tbG := tg (i := 361) (by decide +kernel) rfl
theorem fkX10_175 : Cond.fieldLink RX10 175 (TX8 3).1 (TX8 3).2.1 (TX8 3).2.2.1 ∈ tbG := tg (i := 362) (by decide +kernel) rfl
theorem fkX6_110 : Cond.fieldLink RX6 110 (TX8 3).1 (TX8 3).2.1 (TX8 3).2.2.1 ∈ tbG := tg (i := 363) (by decide +kernel) rfl
theorem fkX8_24 : Cond.fieldLink RX8 24 (TX8 4).1 (TX8 4).2.1 (TX8 4).2.2.1 ∈ tbG := tg (i := 364) (by decide +kernel) rfl
theorem fkX6_113 : Cond.fieldLink RX6 113 (TX8 4).1 (TX8 4).2.1 (TX8 4).2.2.1 ∈ tbG := tg (i := 365) (by decide +kernel) rfl
theorem fkX10_324 : Cond.fieldLink RX10 324 (TX8 4).1 (TX8 4).2.1 (TX8 4).2.2.1 ∈ tbG := tg (i := 366) (by decide +kernel) rfl
theorem fkX8_27 : Cond.fieldLink RX8 27 (TX8 5).1 (TX8 5).2.1 (TX8 5).2.2.1 ∈ tbG := tg (i := 367) (by decide +kernel) rfl
theorem fkX6_116 : Cond.fieldLink RX6 116 (TX8 5).1 (TX8 5).2.1 (TX8 5).2.2.1 ∈ tbG := tg (i := 368) (by decide +kernel) rfl
theorem fkX10_327 : Cond.fieldLink RX10 327 (TX8 5).1 (TX8 5).2.1 (TX8 5).2.2.1 ∈ tbG := tg (i := 369) (by decide +kernel) rfl
theorem fkX8_30 : Cond.fieldLink RX8 30 (TX8 6).1 (TX8 6).2.1 (TX8 6).2.2.1 ∈ tbG := tg (i := 370) (by decide +kernel) rfl
theorem fkX10_178 : Cond.fieldLink RX10 178 (TX8 6).1 (TX8 6).2.1 (TX8 6).2.2.1 ∈ tbG := tg (i := 371) (by decide +kernel) rfl
theorem fkX6_119 : Cond.fieldLink RX6 119 (TX8 6).1 (TX8 6).2.1 (TX8 6).2.2.1 ∈ tbG := tg (i := 372) (by decide +kernel) rfl
theorem fkX8_33 : Cond.fieldLink RX8 33 (TX8 7).1 (TX8 7).2.1 (TX8 7).2.2.1 ∈ tbG := tg (i := 373) (by decide +kernel) rfl
theorem fkX10_181 : Cond.fieldLink RX10 181 (TX8 7).1 (TX8 7).2.1 (TX8 7).2.2.1 ∈ tbG := tg (i := 374) (by decide +kernel) rfl
theorem fkX6_122 : Cond.fieldLink RX6 122 (TX8 7).1 (TX8 7).2.1 (TX8 7).2.2.1 ∈ tbG := tg (i := 375) (by decide +kernel) rfl
theorem fkX8_36 : Cond.fieldLink RX8 36 (TX8 8).1 (TX8 8).2.1 (TX8 8).2.2.1 ∈ tbG := tg (i := 376) (by decide +kernel) rfl
theorem fkX2_84 : Cond.fieldLink RX2 84 (TX8 8).1 (TX8 8).2.1 (TX8 8).2.2.1 ∈ tbG := tg (i := 377) (by decide +kernel) rfl
theorem fkX10_371 : Cond.fieldLink RX10 371 (TX8 8).1 (TX8 8).2.1 (TX8 8).2.2.1 ∈ tbG := tg (i := 378) (by decide +kernel) rfl
theorem fkX8_39 : Cond.fieldLink RX8 39 (TX8 9).1 (TX8 9).2.1 (TX8 9).2.2.1 ∈ tbG := tg (i := 379) (by decide +kernel) rfl
theorem fkX2_81 : Cond.fieldLink RX2 81 (TX8 9).1 (TX8 9).2.1 (TX8 9).2.2.1 ∈ tbG := tg (i := 380) (by decide +kernel) rfl
theorem fkX10_368 : Cond.fieldLink RX10 368 (TX8 9).1 (TX8 9).2.1 (TX8 9).2.2.1 ∈ tbG := tg (i := 381) (by decide +kernel) rfl
theorem fkX8_42 : Cond.fieldLink RX8 42 (TX8 10).1 (TX8 10).2.1 (TX8 10).2.2.1 ∈ tbG := tg (i := 382) (by decide +kernel) rfl
theorem fkX10_108 : Cond.fieldLink RX10 108 (TX8 10).1 (TX8 10).2.1 (TX8 10).2.2.1 ∈ tbG := tg (i := 383) (by decide +kernel) rfl
theorem fkX6_91 : Cond.fieldLink RX6 91 (TX8 10).1 (TX8 10).2.1 (TX8 10).2.2.1 ∈ tbG := tg (i := 384) (by decide +kernel) rfl
theorem fkX8_46 : Cond.fieldLink RX8 46 (TX8 11).1 (TX8 11).2.1 (TX8 11).2.2.1 ∈ tbG := tg (i := 385) (by decide +kernel) rfl
theorem fkX6_34 : Cond.fieldLink RX6 34 (TX8 11).1 (TX8 11).2.1 (TX8 11).2.2.1 ∈ tbG := tg (i := 386) (by decide +kernel) rfl
theorem fkX10_200 : Cond.fieldLink RX10 200 (TX8 11).1 (TX8 11).2.1 (TX8 11).2.2.1 ∈ tbG := tg (i := 387) (by decide +kernel) rfl
theorem fkX8_49 : Cond.fieldLink RX8 49 (TX8 12).1 (TX8 12).2.1 (TX8 12).2.2.1 ∈ tbG := tg (i := 388) (by decide +kernel) rfl
theorem fkX6_81 : Cond.fieldLink RX6 81 (TX8 12).1 (TX8 12).2.1 (TX8 12).2.2.1 ∈ tbG := tg (i := 389) (by decide +kernel) rfl
theorem fkX10_203 : Cond.fieldLink RX10 203 (TX8 12).1 (TX8 12).2.1 (TX8 12).2.2.1 ∈ tbG := tg (i := 390) (by decide +kernel) rfl
theorem fkX8_52 : Cond.fieldLink RX8 52 (TX8 13).1 (TX8 13).2.1 (TX8 13).2.2.1 ∈ tbG := tg (i := 391) (by decide +kernel) rfl
theorem fkX2_58 : Cond.fieldLink RX2 58 (TX8 13).1 (TX8 13).2.1 (TX8 13).2.2.1 ∈ tbG := tg (i := 392) (by decide +kernel) rfl
theorem fkX1_22 : Cond.fieldLink RX1 22 (TX8 13).1 (TX8 13).2.1 (TX8 13).2.2.1 ∈ tbG := tg (i := 393) (by decide +kernel) rfl
theorem fkX10_115 : Cond.fieldLink RX10 115 (TX8 13).1 (TX8 13).2.1 (TX8 13).2.2.1 ∈ tbG := tg (i := 394) (by decide +kernel) rfl
theorem fkX8_55 : Cond.fieldLink RX8 55 (TX8 14).1 (TX8 14).2.1 (TX8 14).2.2.1 ∈ tbG := tg (i := 395) (by decide +kernel) rfl
theorem fkX10_132 : Cond.fieldLink RX10 132 (TX8 14).1 (TX8 14).2.1 (TX8 14).2.2.1 ∈ tbG := tg (i := 396) (by decide +kernel) rfl
theorem fkX10_10 : Cond.fieldLink RX10 10 (TX10 0).1 (TX10 0).2.1 (TX10 0).2.2.1 ∈ tbG := tg (i := 428) (by decide +kernel) rfl
theorem fkX10_19 : Cond.fieldLink RX10 19 (TX10 1).1 (TX10 1).2.1 (TX10 1).2.2.1 ∈ tbG := tg (i := 429) (by decide +kernel) rfl
theorem fkX10_26 : Cond.fieldLink RX10 26 (TX10 2).1 (TX10 2).2.1 (TX10 2).2.2.1 ∈ tbG := tg (i := 430) (by decide +kernel) rfl
theorem fkX10_33 : Cond.fieldLink RX10 33 (TX10 3).1 (TX10 3).2.1 (TX10 3).2.2.1 ∈ tbG := tg (i := 431) (by decide +kernel) rfl
theorem fkX10_40 : Cond.fieldLink RX10 40 (TX10 4).1 (TX10 4).2.1 (TX10 4).2.2.1 ∈ tbG := tg (i := 432) (by decide +kernel) rfl
theorem fkX10_47 : Cond.fieldLink RX10 47 (TX10 5).1 (TX10 5).2.1 (TX10 5).2.2.1 ∈ tbG := tg (i := 433) (by decide +kernel) rfl
theorem fkX10_54 : Cond.fieldLink RX10 54 (TX10 6).1 (TX10 6).2.1 (TX10 6).2.2.1 ∈ tbG := tg (i := 434) (by decide +kernel) rfl
theorem fkX10_61 : Cond.fieldLink RX10 61 (TX10 7).1 (TX10 7).2.1 (TX10 7).2.2.1 ∈ tbG := tg (i := 435) (by decide +kernel) rfl
theorem fkX10_68 : Cond.fieldLink RX10 68 (TX10 8).1 (TX10 8).2.1 (TX10 8).2.2.1 ∈ tbG := tg (i := 436) (by decide +kernel) rfl
theorem fkX10_75 : Cond.fieldLink RX10 75 (TX10 9).1 (TX10 9).2.1 (TX10 9).2.2.1 ∈ tbG := tg (i := 437) (by decide +kernel) rfl
theorem fkX10_79 : Cond.fieldLink RX10 79 (TX10 10).1 (TX10 10).2.1 (TX10 10).2.2.1 ∈ tbG := tg (i := 438) (by decide +kernel) rfl
theorem fkX10_96 : Cond.fieldLink RX10 96 (TX10 11).1 (TX10 11).2.1 (TX10 11).2.2.1 ∈ tbG := tg (i := 439) (by decide +kernel) rfl
theorem fkX10_105 : Cond.fieldLink RX10 105 (TX10 12).1 (TX10 12).2.1 (TX10 12).2.2.1 ∈ tbG := tg (i := 440) (by decide +kernel) rfl
theorem fkX10_334 : Cond.fieldLink RX10 334 (TX10 13).1 (TX10 13).2.1 (TX10 13).2.2.1 ∈ tbG := tg (i := 441) (by decide +kernel) rfl
theorem fkX10_337 : Cond.fieldLink RX10 337 (TX10 14).1 (TX10 14).2.1 (TX10 14).2.2.1 ∈ tbG := tg (i := 442) (by decide +kernel) rfl
theorem fkX10_157 : Cond.fieldLink RX10 157 (TX10 15).1 (TX10 15).2.1 (TX10 15).2.2.1 ∈ tbG := tg (i := 443) (by decide +kernel) rfl
theorem fkX11_85 : Cond.fieldLink RX11 85 (TX11 0).1 (TX11 0).2.1 (TX11 0).2.2.1 ∈ tbG := tg (i := 976) (by decide +kernel) rfl
theorem fkX11_81 : Cond.fieldLink RX11 81 (TX11 1).1 (TX11 1).2.1 (TX11 1).2.2.1 ∈ tbG := tg (i := 977) (by decide +kernel) rfl
theorem fkX11_98 : Cond.fieldLink RX11 98 (TX11 2).1 (TX11 2).2.1 (TX11 2).2.2.1 ∈ tbG := tg (i := 978) (by decide +kernel) rfl
theorem fkX11_112 : Cond.fieldLink RX11 112 (TX11 3).1 (TX11 3).2.1 (TX11 3).2.2.1 ∈ tbG := tg (i := 979) (by decide +kernel) rfl
theorem fkX11_7 : Cond.fieldLink RX11 7 (TX11 4).1 (TX11 4).2.1 (TX11 4).2.2.1 ∈ tbG := tg (i := 980) (by decide +kernel) rfl
theorem fkX11_13 : Cond.fieldLink RX11 13 (TX11 5).1 (TX11 5).2.1 (TX11 5).2.2.1 ∈ tbG := tg (i := 981) (by decide +kernel) rfl
theorem fkX11_16 : Cond.fieldLink RX11 16 (TX11 6).1 (TX11 6).2.1 (TX11 6).2.2.1 ∈ tbG := tg (i := 982) (by decide +kernel) rfl
theorem fkX11_19 : Cond.fieldLink RX11 19 (TX11 7).1 (TX11 7).2.1 (TX11 7).2.2.1 ∈ tbG := tg (i := 983) (by decide +kernel) rfl
theorem fkX11_22 : Cond.fieldLink RX11 22 (TX11 8).1 (TX11 8).2.1 (TX11 8).2.2.1 ∈ tbG := tg (i := 984) (by decide +kernel) rfl
theorem fkX11_25 : Cond.fieldLink RX11 25 (TX11 9).1 (TX11 9).2.1 (TX11 9).2.2.1 ∈ tbG := tg (i := 985) (by decide +kernel) rfl
theorem fkX11_28 : Cond.fieldLink RX11 28 (TX11 10).1 (TX11 10).2.1 (TX11 10).2.2.1 ∈ tbG := tg (i := 986) (by decide +kernel) rfl
theorem fkX11_31 : Cond.fieldLink RX11 31 (TX11 11).1 (TX11 11).2.1 (TX11 11).2.2.1 ∈ tbG := tg (i := 987) (by decide +kernel) rfl
theorem fkX11_34 : Cond.fieldLink RX11 34 (TX11 12).1 (TX11 12).2.1 (TX11 12).2.2.1 ∈ tbG := tg (i := 988) (by decide +kernel) rfl
theorem fkX11_115 : Cond.fieldLink RX11 115 (TX11 13).1 (TX11 13).2.1 (TX11 13).2.2.1 ∈ tbG := tg (i := 989) (by decide +kernel) rfl
theorem fkX11_38 : Cond.fieldLink RX11 38 (TX11 14).1 (TX11 14).2.1 (TX11 14).2.2.1 ∈ tbG := tg (i := 990) (by decide +kernel) rfl
theorem fkX11_126 : Cond.fieldLink RX11 126 (TX11 15).1 (TX11 15).2.1 (TX11 15).2.2.1 ∈ tbG := tg (i := 991) (by decide +kernel) rfl
theorem fkX11_41 : Cond.fieldLink RX11 41 (TX11 16).1 (TX11 16).2.1 (TX11 16).2.2.1 ∈ tbG := tg (i := 992) (by decide +kernel) rfl
theorem fkX11_208 : Cond.fieldLink RX11 208 (TX11 17).1 (TX11 17).2.1 (TX11 17).2.2.1 ∈ tbG := tg (i := 993) (by decide +kernel) rfl
theorem fkX11_44 : Cond.fieldLink RX11 44 (TX11 18).1 (TX11 18).2.1 (TX11 18).2.2.1 ∈ tbG := tg (i := 994) (by decide +kernel) rfl
theorem fkX11_47 : Cond.fieldLink RX11 47 (TX11 19).1 (TX11 19).2.1 (TX11 19).2.2.1 ∈ tbG := tg (i := 995) (by decide +kernel) rfl
theorem fkX11_50 : Cond.fieldLink RX11 50 (TX11 20).1 (TX11 20).2.1 (TX11 20).2.2.1 ∈ tbG := tg (i := 996) (by decide +kernel) rfl
theorem fkX11_132 : Cond.fieldLink RX11 132 (TX11 21).1 (TX11 21).2.1 (TX11 21).2.2.1 ∈ tbG := tg (i := 997) (by decide +kernel) rfl
theorem fkX11_202 : Cond.fieldLink RX11 202 (TX11 22).1 (TX11 22).2.1 (TX11 22).2.2.1 ∈ tbG := tg (i := 998) (by decide +kernel) rfl
theorem fkX11_136 : Cond.fieldLink RX11 136 (TX11 23).1 (TX11 23).2.1 (TX11 23).2.2.1 ∈ tbG := tg (i := 999) (by decide +kernel) rfl
theorem fkX11_139 : Cond.fieldLink RX11 139 (TX11 24).1 (TX11 24).2.1 (TX11 24).2.2.1 ∈ tbG := tg (i := 1000) (by decide +kernel) rfl
theorem fkX11_53 : Cond.fieldLink RX11 53 (TX11 25).1 (TX11 25).2.1 (TX11 25).2.2.1 ∈ tbG := tg (i := 1001) (by decide +kernel) rfl
theorem fkX11_56 : Cond.fieldLink RX11 56 (TX11 26).1 (TX11 26).2.1 (TX11 26).2.2.1 ∈ tbG := tg (i := 1002) (by decide +kernel) rfl
theorem fkX11_59 : Cond.fieldLink RX11 59 (TX11 27).1 (TX11 27).2.1 (TX11 27).2.2.1 ∈ tbG := tg (i := 1003) (by decide +kernel) rfl
theorem fkX11_177 : Cond.fieldLink RX11 177 (TX11 28).1 (TX11 28).2.1 (TX11 28).2.2.1 ∈ tbG := tg (i := 1004) (by decide +kernel) rfl
theorem fkX11_153 : Cond.fieldLink RX11 153 (TX11 29).1 (TX11 29).2.1 (TX11 29).2.2.1 ∈ tbG := tg (i := 1005) (by decide +kernel) rfl
theorem fkX11_193 : Cond.fieldLink RX11 193 (TX11 30).1 (TX11 30).2.1 (TX11 30).2.2.1 ∈ tbG := tg (i := 1006) (by decide +kernel) rfl
theorem fkX11_156 : Cond.fieldLink RX11 156 (TX11 31).1 (TX11 31).2.1 (TX11 31).2.2.1 ∈ tbG := tg (i := 1007) (by decide +kernel) rfl
theorem fkX11_62 : Cond.fieldLink RX11 62 (TX11 32).1 (TX11 32).2.1 (TX11 32).2.2.1 ∈ tbG := tg (i := 1008) (by decide +kernel) rfl
theorem fkX11_65 : Cond.fieldLink RX11 65 (TX11 33).1 (TX11 33).2.1 (TX11 33).2.2.1 ∈ tbG := tg (i := 1009) (by decide +kernel) rfl
theorem fkX11_68 : Cond.fieldLink RX11 68 (TX11 34).1 (TX11 34).2.1 (TX11 34).2.2.1 ∈ tbG := tg (i := 1010) (by decide +kernel) rfl
theorem fkX11_71 : Cond.fieldLink RX11 71 (TX11 35).1 (TX11 35).2.1 (TX11 35).2.2.1 ∈ tbG := tg (i := 1011) (by decide +kernel) rfl
theorem fkX11_74 : Cond.fieldLink RX11 74 (TX11 36).1 (TX11 36).2.1 (TX11 36).2.2.1 ∈ tbG := tg (i := 1012) (by decide +kernel) rfl
theorem fkX11_78 : Cond.fieldLink RX11 78 (TX11 37).1 (TX11 37).2.1 (TX11 37).2.2.1 ∈ tbG := tg (i := 1013) (by decide +kernel) rfl
theorem ckX10_82 : Cond.constant RX10 82 (-1000002) ∈ tbG := tg (i := 481) (by decide +kernel) rfl
theorem ckX10_91 : Cond.constant RX10 91 (-1000004) ∈ tbG := tg (i := 486) (by decide +kernel) rfl
theorem ckX10_114 : Cond.constant RX10 114 (-1000001) ∈ tbG := tg (i := 585) (by decide +kernel) rfl
theorem ckX10_124 : Cond.constant RX10 124 (-1000003) ∈ tbG := tg (i := 621) (by decide +kernel) rfl
theorem ckJ6_265 : Cond.constant RJ6 265 (1431655765) ∈ tbG := tg (i := 653) (by decide +kernel) rfl
theorem ckJ6_266 : Cond.constant RJ6 266 (858993459) ∈ tbG := tg (i := 654) (by decide +kernel) rfl
theorem ckJ6_267 : Cond.constant RJ6 267 (252645135) ∈ tbG := tg (i := 655) (by decide +kernel) rfl
theorem ckX11_131 : Cond.constant RX11 131 (-1000002) ∈ tbG := tg (i := 1099) (by decide +kernel) rfl
theorem ckX11_135 : Cond.constant RX11 135 (-1000004) ∈ tbG := tg (i := 1100) (by decide +kernel) rfl
theorem ckX11_214 : Cond.constant RX11 214 (-1000001) ∈ tbG := tg (i := 1172) (by decide +kernel) rfl
theorem ckX11_224 : Cond.constant RX11 224 (-1000003) ∈ tbG := tg (i := 1202) (by decide +kernel) rfl
theorem clX10_312 : Cond.constantLong RX10 312 (-1000001) ∈ tbG := tg (i := 954) (by decide +kernel) rfl
theorem clX10_314 : Cond.constantLong RX10 314 (-1000002) ∈ tbG := tg (i := 955) (by decide +kernel) rfl
theorem clX7_42 : Cond.constantLong RX7 42 (9223372036854775807) ∈ tbG := tg (i := 967) (by decide +kernel) rfl
theorem clX7_28 : Cond.constantLong RX7 28 (-1000004) ∈ tbG := tg (i := 968) (by decide +kernel) rfl
theorem clX11_129 : Cond.constantLong RX11 129 (255) ∈ tbG := tg (i := 1095) (by decide +kernel) rfl
theorem clX11_149 : Cond.constantLong RX11 149 (97) ∈ tbG := tg (i := 1117) (by decide +kernel) rfl
theorem clX11_151 : Cond.constantLong RX11 151 (112) ∈ tbG := tg (i := 1118) (by decide +kernel) rfl
theorem clX11_183 : Cond.constantLong RX11 183 (48) ∈ tbG := tg (i := 1131) (by decide +kernel) rfl
theorem clX11_185 : Cond.constantLong RX11 185 (57) ∈ tbG := tg (i := 1132) (by decide +kernel) rfl
theorem clX11_159 : Cond.constantLong RX11 159 (113) ∈ tbG := tg (i := 1145) (by decide +kernel) rfl
theorem clX11_161 : Cond.constantLong RX11 161 (118) ∈ tbG := tg (i := 1146) (by decide +kernel) rfl
theorem clX11_163 : Cond.constantLong RX11 163 (81) ∈ tbG := tg (i := 1147) (by decide +kernel) rfl
theorem clX11_165 : Cond.constantLong RX11 165 (86) ∈ tbG := tg (i := 1148) (by decide +kernel) rfl
theorem clX11_215 : Cond.constantLong RX11 215 (63) ∈ tbG := tg (i := 1173) (by decide +kernel) rfl
theorem clX11_225 : Cond.constantLong RX11 225 (60) ∈ tbG := tg (i := 1207) (by decide +kernel) rfl
theorem clX11_230 : Cond.constantLong RX11 230 (9) ∈ tbG := tg (i := 1220) (by decide +kernel) rfl
theorem clX11_235 : Cond.constantLong RX11 235 (10) ∈ tbG := tg (i := 1233) (by decide +kernel) rfl
theorem clX11_92 : Cond.constantLong RX11 92 (15) ∈ tbG := tg (i := 1258) (by decide +kernel) rfl
theorem clX11_253 : Cond.constantLong RX11 253 (5) ∈ tbG := tg (i := 1259) (by decide +kernel) rfl
theorem clX11_320 : Cond.constantLong RX11 320 (-1000001) ∈ tbG := tg (i := 1384) (by decide +kernel) rfl
theorem clX11_322 : Cond.constantLong RX11 322 (80) ∈ tbG := tg (i := 1385) (by decide +kernel) rfl
theorem clX11_324 : Cond.constantLong RX11 324 (-1000002) ∈ tbG := tg (i := 1386) (by decide +kernel) rfl
theorem clX11_314 : Cond.constantLong RX11 314 (9223372036854775807) ∈ tbG := tg (i := 1394) (by decide +kernel) rfl
theorem clX11_329 : Cond.constantLong RX11 329 (-1000004) ∈ tbG := tg (i := 1395) (by decide +kernel) rfl
theorem waX10 : Cond.instantiable RX10 16 ∈ tbG := tg (i := 109) (by decide +kernel) rfl
theorem waX6 : Cond.instantiable RX6 5 ∈ tbG := tg (i := 117) (by decide +kernel) rfl
theorem waX1 : Cond.instantiable RX1 3 ∈ tbG := tg (i := 142) (by decide +kernel) rfl
theorem waX0 : Cond.instantiable RX0 4 ∈ tbG := tg (i := 161) (by decide +kernel) rfl
theorem waX2 : Cond.instantiable RX2 13 ∈ tbG := tg (i := 184) (by decide +kernel) rfl
theorem waX9 : Cond.instantiable RX9 3 ∈ tbG := tg (i := 256) (by decide +kernel) rfl
theorem waX3 : Cond.instantiable RX3 3 ∈ tbG := tg (i := 272) (by decide +kernel) rfl
theorem waX4 : Cond.instantiable RX4 8 ∈ tbG := tg (i := 290) (by decide +kernel) rfl
theorem waX5 : Cond.instantiable RX5 1 ∈ tbG := tg (i := 322) (by decide +kernel) rfl
theorem waX7 : Cond.instantiable RX7 2 ∈ tbG := tg (i := 332) (by decide +kernel) rfl
theorem waX8 : Cond.instantiable RX8 15 ∈ tbG := tg (i := 346) (by decide +kernel) rfl
theorem waX11 : Cond.instantiable RX11 38 ∈ tbG := tg (i := 971) (by decide +kernel) rfl
theorem xkL_7 : Cond.classLink RL 7 RX10 ∈ tbG := tg (i := 108) (by decide +kernel) rfl
theorem xkX10_7 : Cond.classLink RX10 7 RX6 ∈ tbG := tg (i := 116) (by decide +kernel) rfl
theorem xkX10_16 : Cond.classLink RX10 16 RX1 ∈ tbG := tg (i := 141) (by decide +kernel) rfl
theorem xkX10_23 : Cond.classLink RX10 23 RX0 ∈ tbG := tg (i := 160) (by decide +kernel) rfl
theorem xkX10_30 : Cond.classLink RX10 30 RX2 ∈ tbG := tg (i := 183) (by decide +kernel) rfl
theorem xkX10_37 : Cond.classLink RX10 37 RX9 ∈ tbG := tg (i := 255) (by decide +kernel) rfl
theorem xkX10_44 : Cond.classLink RX10 44 RX3 ∈ tbG := tg (i := 271) (by decide +kernel) rfl
theorem xkX10_51 : Cond.classLink RX10 51 RX4 ∈ tbG := tg (i := 289) (by decide +kernel) rfl
theorem xkX10_58 : Cond.classLink RX10 58 RX5 ∈ tbG := tg (i := 321) (by decide +kernel) rfl
theorem xkX10_65 : Cond.classLink RX10 65 RX7 ∈ tbG := tg (i := 331) (by decide +kernel) rfl
theorem xkX10_72 : Cond.classLink RX10 72 RX8 ∈ tbG := tg (i := 345) (by decide +kernel) rfl
theorem xkL_10 : Cond.classLink RL 10 RX11 ∈ tbG := tg (i := 970) (by decide +kernel) rfl
theorem ar_int : Cond.arrayClass .int ∈ tbG := tg (i := 140) (by decide +kernel) rfl
theorem ar_boolean : Cond.arrayClass .boolean ∈ tbG := tg (i := 288) (by decide +kernel) rfl
theorem ar_long : Cond.arrayClass .long ∈ tbG := tg (i := 344) (by decide +kernel) rfl
theorem ly0_0 : u_lay RX0 TX0 0 ∈ tbG := tg (i := 174) (by decide +kernel) rfl
theorem ly0_1 : u_lay RX0 TX0 1 ∈ tbG := tg (i := 176) (by decide +kernel) rfl
theorem ly0_2 : u_lay RX0 TX0 2 ∈ tbG := tg (i := 178) (by decide +kernel) rfl
theorem ly0_3 : u_lay RX0 TX0 3 ∈ tbG := tg (i := 180) (by decide +kernel) rfl
theorem in0 : ∀ w ∈ u_ws RX0 TX0 4, w ∈ tbG := by
  intro w hw
  obtain ⟨k, hk, rfl⟩ := List.mem_map.mp hw
  have hk := List.mem_range.mp hk
  match k, hk with
  | 0, _ => exact ly0_0
  | 1, _ => exact ly0_1
  | 2, _ => exact ly0_2
  | 3, _ => exact ly0_3
  | k + 4, h => exact absurd h (by omega)
theorem ly1_0 : u_lay RX1 TX1 0 ∈ tbG := tg (i := 153) (by decide +kernel) rfl
theorem ly1_1 : u_lay RX1 TX1 1 ∈ tbG := tg (i := 155) (by decide +kernel) rfl
theorem ly1_2 : u_lay RX1 TX1 2 ∈ tbG := tg (i := 157) (by decide +kernel) rfl
theorem in1 : ∀ w ∈ u_ws RX1 TX1 3, w ∈ tbG := by
  intro w hw
  obtain ⟨k, hk, rfl⟩ := List.mem_map.mp hw
  have hk := List.mem_range.mp hk
  match k, hk with
  | 0, _ => exact ly1_0
  | 1, _ => exact ly1_1
  | 2, _ => exact ly1_2
  | k + 3, h => exact absurd h (by omega)
theorem ly2_0 : u_lay RX2 TX2 0 ∈ tbG := tg (i := 228) (by decide +kernel) rfl
theorem ly2_1 : u_lay RX2 TX2 1 ∈ tbG := tg (i := 230) (by decide +kernel) rfl
theorem ly2_2 : u_lay RX2 TX2 2 ∈ tbG := tg (i := 232) (by decide +kernel) rfl
theorem ly2_3 : u_lay RX2 TX2 3 ∈ tbG := tg (i := 234) (by decide +kernel) rfl
theorem ly2_4 : u_lay RX2 TX2 4 ∈ tbG := tg (i := 236) (by decide +kernel) rfl
theorem ly2_5 : u_lay RX2 TX2 5 ∈ tbG := tg (i := 238) (by decide +kernel) rfl
theorem ly2_6 : u_lay RX2 TX2 6 ∈ tbG := tg (i := 240) (by decide +kernel) rfl
theorem ly2_7 : u_lay RX2 TX2 7 ∈ tbG := tg (i := 242) (by decide +kernel) rfl
theorem ly2_8 : u_lay RX2 TX2 8 ∈ tbG := tg (i := 244) (by decide +kernel) rfl
theorem ly2_9 : u_lay RX2 TX2 9 ∈ tbG := tg (i := 246) (by decide +kernel) rfl
theorem ly2_10 : u_lay RX2 TX2 10 ∈ tbG := tg (i := 248) (by decide +kernel) rfl
theorem ly2_11 : u_lay RX2 TX2 11 ∈ tbG := tg (i := 250) (by decide +kernel) rfl
theorem ly2_12 : u_lay RX2 TX2 12 ∈ tbG := tg (i := 252) (by decide +kernel) rfl
theorem in2 : ∀ w ∈ u_ws RX2 TX2 13, w ∈ tbG := by
  intro w hw
  obtain ⟨k, hk, rfl⟩ := List.mem_map.mp hw
  have hk := List.mem_range.mp hk
  match k, hk with
  | 0, _ => exact ly2_0
  | 1, _ => exact ly2_1
  | 2, _ => exact ly2_2
  | 3, _ => exact ly2_3
  | 4, _ => exact ly2_4
  | 5, _ => exact ly2_5
  | 6, _ => exact ly2_6
  | 7, _ => exact ly2_7
  | 8, _ => exact ly2_8
  | 9, _ => exact ly2_9
  | 10, _ => exact ly2_10
  | 11, _ => exact ly2_11
  | 12, _ => exact ly2_12
  | k + 13, h => exact absurd h (by omega)
theorem ly3_0 : u_lay RX3 TX3 0 ∈ tbG := tg (i := 281) (by decide +kernel) rfl
theorem ly3_1 : u_lay RX3 TX3 1 ∈ tbG := tg (i := 283) (by decide +kernel) rfl
theorem ly3_2 : u_lay RX3 TX3 2 ∈ tbG := tg (i := 285) (by decide +kernel) rfl
theorem in3 : ∀ w ∈ u_ws RX3 TX3 3, w ∈ tbG := by
  intro w hw
  obtain ⟨k, hk, rfl⟩ := List.mem_map.mp hw
  have hk := List.mem_range.mp hk
  match k, hk with
  | 0, _ => exact ly3_0
  | 1, _ => exact ly3_1
  | 2, _ => exact ly3_2
  | k + 3, h => exact absurd h (by omega)
theorem ly4_0 : u_lay RX4 TX4 0 ∈ tbG := tg (i := 304) (by decide +kernel) rfl
theorem ly4_1 : u_lay RX4 TX4 1 ∈ tbG := tg (i := 306) (by decide +kernel) rfl
theorem ly4_2 : u_lay RX4 TX4 2 ∈ tbG := tg (i := 308) (by decide +kernel) rfl
theorem ly4_3 : u_lay RX4 TX4 3 ∈ tbG := tg (i := 310) (by decide +kernel) rfl
theorem ly4_4 : u_lay RX4 TX4 4 ∈ tbG := tg (i := 312) (by decide +kernel) rfl
theorem ly4_5 : u_lay RX4 TX4 5 ∈ tbG := tg (i := 314) (by decide +kernel) rfl
theorem ly4_6 : u_lay RX4 TX4 6 ∈ tbG := tg (i := 316) (by decide +kernel) rfl
theorem ly4_7 : u_lay RX4 TX4 7 ∈ tbG := tg (i := 318) (by decide +kernel) rfl
theorem in4 : ∀ w ∈ u_ws RX4 TX4 8, w ∈ tbG := by
  intro w hw
  obtain ⟨k, hk, rfl⟩ := List.mem_map.mp hw
  have hk := List.mem_range.mp hk
  match k, hk with
  | 0, _ => exact ly4_0
  | 1, _ => exact ly4_1
  | 2, _ => exact ly4_2
  | 3, _ => exact ly4_3
  | 4, _ => exact ly4_4
  | 5, _ => exact ly4_5
  | 6, _ => exact ly4_6
  | 7, _ => exact ly4_7
  | k + 8, h => exact absurd h (by omega)
theorem ly5_0 : u_lay RX5 TX5 0 ∈ tbG := tg (i := 328) (by decide +kernel) rfl
theorem in5 : ∀ w ∈ u_ws RX5 TX5 1, w ∈ tbG := by
  intro w hw
  obtain ⟨k, hk, rfl⟩ := List.mem_map.mp hw
  have hk := List.mem_range.mp hk
  match k, hk with
  | 0, _ => exact ly5_0
  | k + 1, h => exact absurd h (by omega)
theorem ly6_0 : u_lay RX6 TX6 0 ∈ tbG := tg (i := 129) (by decide +kernel) rfl
theorem ly6_1 : u_lay RX6 TX6 1 ∈ tbG := tg (i := 131) (by decide +kernel) rfl
theorem ly6_2 : u_lay RX6 TX6 2 ∈ tbG := tg (i := 133) (by decide +kernel) rfl
theorem ly6_3 : u_lay RX6 TX6 3 ∈ tbG := tg (i := 135) (by decide +kernel) rfl
theorem ly6_4 : u_lay RX6 TX6 4 ∈ tbG := tg (i := 137) (by decide +kernel) rfl
theorem in6 : ∀ w ∈ u_ws RX6 TX6 5, w ∈ tbG := by
  intro w hw
  obtain ⟨k, hk, rfl⟩ := List.mem_map.mp hw
  have hk := List.mem_range.mp hk
  match k, hk with
  | 0, _ => exact ly6_0
  | 1, _ => exact ly6_1
  | 2, _ => exact ly6_2
  | 3, _ => exact ly6_3
  | 4, _ => exact ly6_4
  | k + 5, h => exact absurd h (by omega)
theorem ly7_0 : u_lay RX7 TX7 0 ∈ tbG := tg (i := 339) (by decide +kernel) rfl
theorem ly7_1 : u_lay RX7 TX7 1 ∈ tbG := tg (i := 341) (by decide +kernel) rfl
theorem in7 : ∀ w ∈ u_ws RX7 TX7 2, w ∈ tbG := by
  intro w hw
  obtain ⟨k, hk, rfl⟩ := List.mem_map.mp hw
  have hk := List.mem_range.mp hk
  match k, hk with
  | 0, _ => exact ly7_0
  | 1, _ => exact ly7_1
  | k + 2, h => exact absurd h (by omega)
theorem ly8_0 : u_lay RX8 TX8 0 ∈ tbG := tg (i := 397) (by decide +kernel) rfl
theorem ly8_1 : u_lay RX8 TX8 1 ∈ tbG := tg (i := 399) (by decide +kernel) rfl
theorem ly8_2 : u_lay RX8 TX8 2 ∈ tbG := tg (i := 401) (by decide +kernel) rfl
theorem ly8_3 : u_lay RX8 TX8 3 ∈ tbG := tg (i := 403) (by decide +kernel) rfl
theorem ly8_4 : u_lay RX8 TX8 4 ∈ tbG := tg (i := 405) (by decide +kernel) rfl
theorem ly8_5 : u_lay RX8 TX8 5 ∈ tbG := tg (i := 407) (by decide +kernel) rfl
theorem ly8_6 : u_lay RX8 TX8 6 ∈ tbG := tg (i := 409) (by decide +kernel) rfl
theorem ly8_7 : u_lay RX8 TX8 7 ∈ tbG := tg (i := 411) (by decide +kernel) rfl
theorem ly8_8 : u_lay RX8 TX8 8 ∈ tbG := tg (i := 413) (by decide +kernel) rfl
theorem ly8_9 : u_lay RX8 TX8 9 ∈ tbG := tg (i := 415) (by decide +kernel) rfl
theorem ly8_10 : u_lay RX8 TX8 10 ∈ tbG := tg (i := 417) (by decide +kernel) rfl
theorem ly8_11 : u_lay RX8 TX8 11 ∈ tbG := tg (i := 419) (by decide +kernel) rfl
theorem ly8_12 : u_lay RX8 TX8 12 ∈ tbG := tg (i := 421) (by decide +kernel) rfl
theorem ly8_13 : u_lay RX8 TX8 13 ∈ tbG := tg (i := 423) (by decide +kernel) rfl
theorem ly8_14 : u_lay RX8 TX8 14 ∈ tbG := tg (i := 425) (by decide +kernel) rfl
theorem in8 : ∀ w ∈ u_ws RX8 TX8 15, w ∈ tbG := by
  intro w hw
  obtain ⟨k, hk, rfl⟩ := List.mem_map.mp hw
  have hk := List.mem_range.mp hk
  match k, hk with
  | 0, _ => exact ly8_0
  | 1, _ => exact ly8_1
  | 2, _ => exact ly8_2
  | 3, _ => exact ly8_3
  | 4, _ => exact ly8_4
  | 5, _ => exact ly8_5
  | 6, _ => exact ly8_6
  | 7, _ => exact ly8_7
  | 8, _ => exact ly8_8
  | 9, _ => exact ly8_9
  | 10, _ => exact ly8_10
  | 11, _ => exact ly8_11
  | 12, _ => exact ly8_12
  | 13, _ => exact ly8_13
  | 14, _ => exact ly8_14
  | k + 15, h => exact absurd h (by omega)
theorem ly9_0 : u_lay RX9 TX9 0 ∈ tbG := tg (i := 264) (by decide +kernel) rfl
theorem ly9_1 : u_lay RX9 TX9 1 ∈ tbG := tg (i := 266) (by decide +kernel) rfl
theorem ly9_2 : u_lay RX9 TX9 2 ∈ tbG := tg (i := 268) (by decide +kernel) rfl
theorem in9 : ∀ w ∈ u_ws RX9 TX9 3, w ∈ tbG := by
  intro w hw
  obtain ⟨k, hk, rfl⟩ := List.mem_map.mp hw
  have hk := List.mem_range.mp hk
  match k, hk with
  | 0, _ => exact ly9_0
  | 1, _ => exact ly9_1
  | 2, _ => exact ly9_2
  | k + 3, h => exact absurd h (by omega)
theorem ly10_0 : u_lay RX10 TX10 0 ∈ tbG := tg (i := 444) (by decide +kernel) rfl
theorem ly10_1 : u_lay RX10 TX10 1 ∈ tbG := tg (i := 446) (by decide +kernel) rfl
theorem ly10_2 : u_lay RX10 TX10 2 ∈ tbG := tg (i := 448) (by decide +kernel) rfl
theorem ly10_3 : u_lay RX10 TX10 3 ∈ tbG := tg (i := 450) (by decide +kernel) rfl
theorem ly10_4 : u_lay RX10 TX10 4 ∈ tbG := tg (i := 452) (by decide +kernel) rfl
theorem ly10_5 : u_lay RX10 TX10 5 ∈ tbG := tg (i := 454) (by decide +kernel) rfl
theorem ly10_6 : u_lay RX10 TX10 6 ∈ tbG := tg (i := 456) (by decide +kernel) rfl
theorem ly10_7 : u_lay RX10 TX10 7 ∈ tbG := tg (i := 458) (by decide +kernel) rfl
theorem ly10_8 : u_lay RX10 TX10 8 ∈ tbG := tg (i := 460) (by decide +kernel) rfl
theorem ly10_9 : u_lay RX10 TX10 9 ∈ tbG := tg (i := 462) (by decide +kernel) rfl
theorem ly10_10 : u_lay RX10 TX10 10 ∈ tbG := tg (i := 464) (by decide +kernel) rfl
theorem ly10_11 : u_lay RX10 TX10 11 ∈ tbG := tg (i := 466) (by decide +kernel) rfl
theorem ly10_12 : u_lay RX10 TX10 12 ∈ tbG := tg (i := 468) (by decide +kernel) rfl
theorem ly10_13 : u_lay RX10 TX10 13 ∈ tbG := tg (i := 470) (by decide +kernel) rfl
theorem ly10_14 : u_lay RX10 TX10 14 ∈ tbG := tg (i := 472) (by decide +kernel) rfl
theorem ly10_15 : u_lay RX10 TX10 15 ∈ tbG := tg (i := 474) (by decide +kernel) rfl
theorem in10 : ∀ w ∈ u_ws RX10 TX10 16, w ∈ tbG := by
  intro w hw
  obtain ⟨k, hk, rfl⟩ := List.mem_map.mp hw
  have hk := List.mem_range.mp hk
  match k, hk with
  | 0, _ => exact ly10_0
  | 1, _ => exact ly10_1
  | 2, _ => exact ly10_2
  | 3, _ => exact ly10_3
  | 4, _ => exact ly10_4
  | 5, _ => exact ly10_5
  | 6, _ => exact ly10_6
  | 7, _ => exact ly10_7
  | 8, _ => exact ly10_8
  | 9, _ => exact ly10_9
  | 10, _ => exact ly10_10
  | 11, _ => exact ly10_11
  | 12, _ => exact ly10_12
  | 13, _ => exact ly10_13
  | 14, _ => exact ly10_14
  | 15, _ => exact ly10_15
  | k + 16, h => exact absurd h (by omega)
theorem ly11_0 : u_lay RX11 TX11 0 ∈ tbG := tg (i := 1014) (by decide +kernel) rfl
theorem ly11_1 : u_lay RX11 TX11 1 ∈ tbG := tg (i := 1016) (by decide +kernel) rfl
theorem ly11_2 : u_lay RX11 TX11 2 ∈ tbG := tg (i := 1018) (by decide +kernel) rfl
theorem ly11_3 : u_lay RX11 TX11 3 ∈ tbG := tg (i := 1020) (by decide +kernel) rfl
theorem ly11_4 : u_lay RX11 TX11 4 ∈ tbG := tg (i := 1022) (by decide +kernel) rfl
theorem ly11_5 : u_lay RX11 TX11 5 ∈ tbG := tg (i := 1024) (by decide +kernel) rfl
theorem ly11_6 : u_lay RX11 TX11 6 ∈ tbG := tg (i := 1026) (by decide +kernel) rfl
theorem ly11_7 : u_lay RX11 TX11 7 ∈ tbG := tg (i := 1028) (by decide +kernel) rfl
theorem ly11_8 : u_lay RX11 TX11 8 ∈ tbG := tg (i := 1030) (by decide +kernel) rfl
theorem ly11_9 : u_lay RX11 TX11 9 ∈ tbG := tg (i := 1032) (by decide +kernel) rfl
theorem ly11_10 : u_lay RX11 TX11 10 ∈ tbG := tg (i := 1034) (by decide +kernel) rfl
theorem ly11_11 : u_lay RX11 TX11 11 ∈ tbG := tg (i := 1036) (by decide +kernel) rfl
theorem ly11_12 : u_lay RX11 TX11 12 ∈ tbG := tg (i := 1038) (by decide +kernel) rfl
theorem ly11_13 : u_lay RX11 TX11 13 ∈ tbG := tg (i := 1040) (by decide +kernel) rfl
theorem ly11_14 : u_lay RX11 TX11 14 ∈ tbG := tg (i := 1042) (by decide +kernel) rfl
theorem ly11_15 : u_lay RX11 TX11 15 ∈ tbG := tg (i := 1044) (by decide +kernel) rfl
theorem ly11_16 : u_lay RX11 TX11 16 ∈ tbG := tg (i := 1046) (by decide +kernel) rfl
theorem ly11_17 : u_lay RX11 TX11 17 ∈ tbG := tg (i := 1048) (by decide +kernel) rfl
theorem ly11_18 : u_lay RX11 TX11 18 ∈ tbG := tg (i := 1050) (by decide +kernel) rfl
theorem ly11_19 : u_lay RX11 TX11 19 ∈ tbG := tg (i := 1052) (by decide +kernel) rfl
theorem ly11_20 : u_lay RX11 TX11 20 ∈ tbG := tg (i := 1054) (by decide +kernel) rfl
theorem ly11_21 : u_lay RX11 TX11 21 ∈ tbG := tg (i := 1056) (by decide +kernel) rfl
theorem ly11_22 : u_lay RX11 TX11 22 ∈ tbG := tg (i := 1058) (by decide +kernel) rfl
theorem ly11_23 : u_lay RX11 TX11 23 ∈ tbG := tg (i := 1060) (by decide +kernel) rfl
theorem ly11_24 : u_lay RX11 TX11 24 ∈ tbG := tg (i := 1062) (by decide +kernel) rfl
theorem ly11_25 : u_lay RX11 TX11 25 ∈ tbG := tg (i := 1064) (by decide +kernel) rfl
theorem ly11_26 : u_lay RX11 TX11 26 ∈ tbG := tg (i := 1066) (by decide +kernel) rfl
theorem ly11_27 : u_lay RX11 TX11 27 ∈ tbG := tg (i := 1068) (by decide +kernel) rfl
theorem ly11_28 : u_lay RX11 TX11 28 ∈ tbG := tg (i := 1070) (by decide +kernel) rfl
theorem ly11_29 : u_lay RX11 TX11 29 ∈ tbG := tg (i := 1072) (by decide +kernel) rfl
theorem ly11_30 : u_lay RX11 TX11 30 ∈ tbG := tg (i := 1074) (by decide +kernel) rfl
theorem ly11_31 : u_lay RX11 TX11 31 ∈ tbG := tg (i := 1076) (by decide +kernel) rfl
theorem ly11_32 : u_lay RX11 TX11 32 ∈ tbG := tg (i := 1078) (by decide +kernel) rfl
theorem ly11_33 : u_lay RX11 TX11 33 ∈ tbG := tg (i := 1080) (by decide +kernel) rfl
theorem ly11_34 : u_lay RX11 TX11 34 ∈ tbG := tg (i := 1082) (by decide +kernel) rfl
theorem ly11_35 : u_lay RX11 TX11 35 ∈ tbG := tg (i := 1084) (by decide +kernel) rfl
theorem ly11_36 : u_lay RX11 TX11 36 ∈ tbG := tg (i := 1086) (by decide +kernel) rfl
theorem ly11_37 : u_lay RX11 TX11 37 ∈ tbG := tg (i := 1088) (by decide +kernel) rfl
theorem in11 : ∀ w ∈ u_ws RX11 TX11 38, w ∈ tbG := by
  intro w hw
  obtain ⟨k, hk, rfl⟩ := List.mem_map.mp hw
  have hk := List.mem_range.mp hk
  match k, hk with
  | 0, _ => exact ly11_0
  | 1, _ => exact ly11_1
  | 2, _ => exact ly11_2
  | 3, _ => exact ly11_3
  | 4, _ => exact ly11_4
  | 5, _ => exact ly11_5
  | 6, _ => exact ly11_6
  | 7, _ => exact ly11_7
  | 8, _ => exact ly11_8
  | 9, _ => exact ly11_9
  | 10, _ => exact ly11_10
  | 11, _ => exact ly11_11
  | 12, _ => exact ly11_12
  | 13, _ => exact ly11_13
  | 14, _ => exact ly11_14
  | 15, _ => exact ly11_15
  | 16, _ => exact ly11_16
  | 17, _ => exact ly11_17
  | 18, _ => exact ly11_18
  | 19, _ => exact ly11_19
  | 20, _ => exact ly11_20
  | 21, _ => exact ly11_21
  | 22, _ => exact ly11_22
  | 23, _ => exact ly11_23
  | 24, _ => exact ly11_24
  | 25, _ => exact ly11_25
  | 26, _ => exact ly11_26
  | 27, _ => exact ly11_27
  | 28, _ => exact ly11_28
  | 29, _ => exact ly11_29
  | 30, _ => exact ly11_30
  | 31, _ => exact ly11_31
  | 32, _ => exact ly11_32
  | 33, _ => exact ly11_33
  | 34, _ => exact ly11_34
  | 35, _ => exact ly11_35
  | 36, _ => exact ly11_36
  | 37, _ => exact ly11_37
  | k + 38, h => exact absurd h (by omega)
end
section
-- printed by wip/whole/gen1.py
theorem dX0_init_0 : decode cX0_init 0 = .ok (.aload_n 0, 1) := by decide +kernel
theorem dX0_init_1 : decode cX0_init 1 = .ok (.invokespecial 3, 3) := by decide +kernel
theorem dX0_init_4 : decode cX0_init 4 = .ok (.aload_n 0, 1) := by decide +kernel
theorem dX0_init_5 : decode cX0_init 5 = .ok (.bipush 12, 2) := by decide +kernel
theorem dX0_init_7 : decode cX0_init 7 = .ok (.newarray .int, 2) := by decide +kernel
theorem dX0_init_9 : decode cX0_init 9 = .ok (.putfield 9, 3) := by decide +kernel
theorem dX0_init_12 : decode cX0_init 12 = .ok (.aload_n 0, 1) := by decide +kernel
theorem dX0_init_13 : decode cX0_init 13 = .ok (.bipush 12, 2) := by decide +kernel
theorem dX0_init_15 : decode cX0_init 15 = .ok (.newarray .int, 2) := by decide +kernel
theorem dX0_init_17 : decode cX0_init 17 = .ok (.putfield 15, 3) := by decide +kernel
theorem dX0_init_20 : decode cX0_init 20 = .ok (.aload_n 0, 1) := by decide +kernel
theorem dX0_init_21 : decode cX0_init 21 = .ok (.bipush 12, 2) := by decide +kernel
theorem dX0_init_23 : decode cX0_init 23 = .ok (.newarray .int, 2) := by decide +kernel
theorem dX0_init_25 : decode cX0_init 25 = .ok (.putfield 18, 3) := by decide +kernel
theorem dX0_init_28 : decode cX0_init 28 = .ok (.return_, 1) := by decide +kernel
theorem dX0_keep_0 : decode cX0_keep 0 = .ok (.aload_n 0, 1) := by decide +kernel
theorem dX0_keep_1 : decode cX0_keep 1 = .ok (.getfield 21, 3) := by decide +kernel
theorem dX0_keep_4 : decode cX0_keep 4 = .ok (.bipush 12, 2) := by decide +kernel
theorem dX0_keep_6 : decode cX0_keep 6 = .ok (.if_icmp .lt 7, 3) := by decide +kernel
theorem dX0_keep_9 : decode cX0_keep 9 = .ok (.aload_n 0, 1) := by decide +kernel
theorem dX0_keep_10 : decode cX0_keep 10 = .ok (.invokevirtual 25, 3) := by decide +kernel
theorem dX0_keep_13 : decode cX0_keep 13 = .ok (.aload_n 0, 1) := by decide +kernel
theorem dX0_keep_14 : decode cX0_keep 14 = .ok (.getfield 9, 3) := by decide +kernel
theorem dX0_keep_17 : decode cX0_keep 17 = .ok (.aload_n 0, 1) := by decide +kernel
theorem dX0_keep_18 : decode cX0_keep 18 = .ok (.getfield 21, 3) := by decide +kernel
theorem dX0_keep_21 : decode cX0_keep 21 = .ok (.iload_n 1, 1) := by decide +kernel
theorem dX0_keep_22 : decode cX0_keep 22 = .ok (.iastore, 1) := by decide +kernel
theorem dX0_keep_23 : decode cX0_keep 23 = .ok (.aload_n 0, 1) := by decide +kernel
theorem dX0_keep_24 : decode cX0_keep 24 = .ok (.getfield 15, 3) := by decide +kernel
theorem dX0_keep_27 : decode cX0_keep 27 = .ok (.aload_n 0, 1) := by decide +kernel
theorem dX0_keep_28 : decode cX0_keep 28 = .ok (.getfield 21, 3) := by decide +kernel
theorem dX0_keep_31 : decode cX0_keep 31 = .ok (.iload_n 2, 1) := by decide +kernel
theorem dX0_keep_32 : decode cX0_keep 32 = .ok (.iastore, 1) := by decide +kernel
theorem dX0_keep_33 : decode cX0_keep 33 = .ok (.aload_n 0, 1) := by decide +kernel
theorem dX0_keep_34 : decode cX0_keep 34 = .ok (.getfield 18, 3) := by decide +kernel
theorem dX0_keep_37 : decode cX0_keep 37 = .ok (.aload_n 0, 1) := by decide +kernel
theorem dX0_keep_38 : decode cX0_keep 38 = .ok (.getfield 21, 3) := by decide +kernel
theorem dX0_keep_41 : decode cX0_keep 41 = .ok (.iload_n 3, 1) := by decide +kernel
theorem dX0_keep_42 : decode cX0_keep 42 = .ok (.iastore, 1) := by decide +kernel
theorem dX0_keep_43 : decode cX0_keep 43 = .ok (.aload_n 0, 1) := by decide +kernel
theorem dX0_keep_44 : decode cX0_keep 44 = .ok (.dup, 1) := by decide +kernel
theorem dX0_keep_45 : decode cX0_keep 45 = .ok (.getfield 21, 3) := by decide +kernel
theorem dX0_keep_48 : decode cX0_keep 48 = .ok (.iconst 1, 1) := by decide +kernel
theorem dX0_keep_49 : decode cX0_keep 49 = .ok (.iadd, 1) := by decide +kernel
theorem dX0_keep_50 : decode cX0_keep 50 = .ok (.putfield 21, 3) := by decide +kernel
theorem dX0_keep_53 : decode cX0_keep 53 = .ok (.return_, 1) := by decide +kernel
theorem dX0_forgetOldest_0 : decode cX0_forgetOldest 0 = .ok (.aload_n 0, 1) := by decide +kernel
theorem dX0_forgetOldest_1 : decode cX0_forgetOldest 1 = .ok (.bipush 11, 2) := by decide +kernel
theorem dX0_forgetOldest_3 : decode cX0_forgetOldest 3 = .ok (.putfield 21, 3) := by decide +kernel
theorem dX0_forgetOldest_6 : decode cX0_forgetOldest 6 = .ok (.aload_n 0, 1) := by decide +kernel
theorem dX0_forgetOldest_7 : decode cX0_forgetOldest 7 = .ok (.getfield 9, 3) := by decide +kernel
theorem dX0_forgetOldest_10 : decode cX0_forgetOldest 10 = .ok (.iconst 1, 1) := by decide +kernel
theorem dX0_forgetOldest_11 : decode cX0_forgetOldest 11 = .ok (.aload_n 0, 1) := by decide +kernel
theorem dX0_forgetOldest_12 : decode cX0_forgetOldest 12 = .ok (.getfield 9, 3) := by decide +kernel
theorem dX0_forgetOldest_15 : decode cX0_forgetOldest 15 = .ok (.iconst 0, 1) := by decide +kernel
theorem dX0_forgetOldest_16 : decode cX0_forgetOldest 16 = .ok (.aload_n 0, 1) := by decide +kernel
theorem dX0_forgetOldest_17 : decode cX0_forgetOldest 17 = .ok (.getfield 21, 3) := by decide +kernel
theorem dX0_forgetOldest_20 : decode cX0_forgetOldest 20 = .ok (.invokestatic 28, 3) := by decide +kernel
theorem dX0_forgetOldest_23 : decode cX0_forgetOldest 23 = .ok (.aload_n 0, 1) := by decide +kernel
theorem dX0_forgetOldest_24 : decode cX0_forgetOldest 24 = .ok (.getfield 15, 3) := by decide +kernel
theorem dX0_forgetOldest_27 : decode cX0_forgetOldest 27 = .ok (.iconst 1, 1) := by decide +kernel
theorem dX0_forgetOldest_28 : decode cX0_forgetOldest 28 = .ok (.aload_n 0, 1) := by decide +kernel
theorem dX0_forgetOldest_29 : decode cX0_forgetOldest 29 = .ok (.getfield 15, 3) := by decide +kernel
theorem dX0_forgetOldest_32 : decode cX0_forgetOldest 32 = .ok (.iconst 0, 1) := by decide +kernel
theorem dX0_forgetOldest_33 : decode cX0_forgetOldest 33 = .ok (.aload_n 0, 1) := by decide +kernel
theorem dX0_forgetOldest_34 : decode cX0_forgetOldest 34 = .ok (.getfield 21, 3) := by decide +kernel
theorem dX0_forgetOldest_37 : decode cX0_forgetOldest 37 = .ok (.invokestatic 28, 3) := by decide +kernel
theorem dX0_forgetOldest_40 : decode cX0_forgetOldest 40 = .ok (.aload_n 0, 1) := by decide +kernel
theorem dX0_forgetOldest_41 : decode cX0_forgetOldest 41 = .ok (.getfield 18, 3) := by decide +kernel
theorem dX0_forgetOldest_44 : decode cX0_forgetOldest 44 = .ok (.iconst 1, 1) := by decide +kernel
theorem dX0_forgetOldest_45 : decode cX0_forgetOldest 45 = .ok (.aload_n 0, 1) := by decide +kernel
theorem dX0_forgetOldest_46 : decode cX0_forgetOldest 46 = .ok (.getfield 18, 3) := by decide +kernel
theorem dX0_forgetOldest_49 : decode cX0_forgetOldest 49 = .ok (.iconst 0, 1) := by decide +kernel
theorem dX0_forgetOldest_50 : decode cX0_forgetOldest 50 = .ok (.aload_n 0, 1) := by decide +kernel
theorem dX0_forgetOldest_51 : decode cX0_forgetOldest 51 = .ok (.getfield 21, 3) := by decide +kernel
theorem dX0_forgetOldest_54 : decode cX0_forgetOldest 54 = .ok (.invokestatic 28, 3) := by decide +kernel
theorem dX0_forgetOldest_57 : decode cX0_forgetOldest 57 = .ok (.return_, 1) := by decide +kernel
theorem dX1_init_0 : decode cX1_init 0 = .ok (.aload_n 0, 1) := by decide +kernel
theorem dX1_init_1 : decode cX1_init 1 = .ok (.invokespecial 3, 3) := by decide +kernel
theorem dX1_init_4 : decode cX1_init 4 = .ok (.aload_n 0, 1) := by decide +kernel
theorem dX1_init_5 : decode cX1_init 5 = .ok (.bipush 60, 2) := by decide +kernel
theorem dX1_init_7 : decode cX1_init 7 = .ok (.newarray .int, 2) := by decide +kernel
theorem dX1_init_9 : decode cX1_init 9 = .ok (.putfield 9, 3) := by decide +kernel
theorem dX1_init_12 : decode cX1_init 12 = .ok (.return_, 1) := by decide +kernel
theorem dX1_restart_0 : decode cX1_restart 0 = .ok (.aload_n 0, 1) := by decide +kernel
theorem dX1_restart_1 : decode cX1_restart 1 = .ok (.iload_n 1, 1) := by decide +kernel
theorem dX1_restart_2 : decode cX1_restart 2 = .ok (.putfield 15, 3) := by decide +kernel
theorem dX1_restart_5 : decode cX1_restart 5 = .ok (.aload_n 0, 1) := by decide +kernel
theorem dX1_restart_6 : decode cX1_restart 6 = .ok (.iconst 0, 1) := by decide +kernel
theorem dX1_restart_7 : decode cX1_restart 7 = .ok (.putfield 19, 3) := by decide +kernel
theorem dX1_restart_10 : decode cX1_restart 10 = .ok (.return_, 1) := by decide +kernel
theorem dX1_advance_0 : decode cX1_advance 0 = .ok (.aload_n 0, 1) := by decide +kernel
theorem dX1_advance_1 : decode cX1_advance 1 = .ok (.getfield 19, 3) := by decide +kernel
theorem dX1_advance_4 : decode cX1_advance 4 = .ok (.bipush 60, 2) := by decide +kernel
theorem dX1_advance_6 : decode cX1_advance 6 = .ok (.if_icmp .lt 5, 3) := by decide +kernel
theorem dX1_advance_9 : decode cX1_advance 9 = .ok (.iconst 0, 1) := by decide +kernel
theorem dX1_advance_10 : decode cX1_advance 10 = .ok (.ireturn, 1) := by decide +kernel
theorem dX1_advance_11 : decode cX1_advance 11 = .ok (.aload_n 0, 1) := by decide +kernel
theorem dX1_advance_12 : decode cX1_advance 12 = .ok (.getfield 9, 3) := by decide +kernel
theorem dX1_advance_15 : decode cX1_advance 15 = .ok (.aload_n 0, 1) := by decide +kernel
theorem dX1_advance_16 : decode cX1_advance 16 = .ok (.getfield 19, 3) := by decide +kernel
theorem dX1_advance_19 : decode cX1_advance 19 = .ok (.iload_n 1, 1) := by decide +kernel
theorem dX1_advance_20 : decode cX1_advance 20 = .ok (.iastore, 1) := by decide +kernel
theorem dX1_advance_21 : decode cX1_advance 21 = .ok (.aload_n 0, 1) := by decide +kernel
theorem dX1_advance_22 : decode cX1_advance 22 = .ok (.dup, 1) := by decide +kernel
theorem dX1_advance_23 : decode cX1_advance 23 = .ok (.getfield 19, 3) := by decide +kernel
theorem dX1_advance_26 : decode cX1_advance 26 = .ok (.iconst 1, 1) := by decide +kernel
theorem dX1_advance_27 : decode cX1_advance 27 = .ok (.iadd, 1) := by decide +kernel
theorem dX1_advance_28 : decode cX1_advance 28 = .ok (.putfield 19, 3) := by decide +kernel
theorem dX1_advance_31 : decode cX1_advance 31 = .ok (.iconst 1, 1) := by decide +kernel
theorem dX1_advance_32 : decode cX1_advance 32 = .ok (.ireturn, 1) := by decide +kernel
theorem dX1_lineHere_0 : decode cX1_lineHere 0 = .ok (.aload_n 0, 1) := by decide +kernel
theorem dX1_lineHere_1 : decode cX1_lineHere 1 = .ok (.getfield 19, 3) := by decide +kernel
theorem dX1_lineHere_4 : decode cX1_lineHere 4 = .ok (.ifCond .ne 10, 3) := by decide +kernel
theorem dX1_lineHere_7 : decode cX1_lineHere 7 = .ok (.aload_n 1, 1) := by decide +kernel
theorem dX1_lineHere_8 : decode cX1_lineHere 8 = .ok (.getfield 22, 3) := by decide +kernel
theorem dX1_lineHere_11 : decode cX1_lineHere 11 = .ok (.goto 19, 3) := by decide +kernel
theorem dX1_lineHere_14 : decode cX1_lineHere 14 = .ok (.aload_n 1, 1) := by decide +kernel
theorem dX1_lineHere_15 : decode cX1_lineHere 15 = .ok (.getfield 27, 3) := by decide +kernel
theorem dX1_lineHere_18 : decode cX1_lineHere 18 = .ok (.aload_n 0, 1) := by decide +kernel
theorem dX1_lineHere_19 : decode cX1_lineHere 19 = .ok (.getfield 9, 3) := by decide +kernel
theorem dX1_lineHere_22 : decode cX1_lineHere 22 = .ok (.aload_n 0, 1) := by decide +kernel
theorem dX1_lineHere_23 : decode cX1_lineHere 23 = .ok (.getfield 19, 3) := by decide +kernel
theorem dX1_lineHere_26 : decode cX1_lineHere 26 = .ok (.iconst 1, 1) := by decide +kernel
theorem dX1_lineHere_27 : decode cX1_lineHere 27 = .ok (.isub, 1) := by decide +kernel
theorem dX1_lineHere_28 : decode cX1_lineHere 28 = .ok (.iaload, 1) := by decide +kernel
theorem dX1_lineHere_29 : decode cX1_lineHere 29 = .ok (.iaload, 1) := by decide +kernel
theorem dX1_lineHere_30 : decode cX1_lineHere 30 = .ok (.ireturn, 1) := by decide +kernel
theorem dX1_marksHere_0 : decode cX1_marksHere 0 = .ok (.aload_n 0, 1) := by decide +kernel
theorem dX1_marksHere_1 : decode cX1_marksHere 1 = .ok (.getfield 15, 3) := by decide +kernel
theorem dX1_marksHere_4 : decode cX1_marksHere 4 = .ok (.istore_n 2, 1) := by decide +kernel
theorem dX1_marksHere_5 : decode cX1_marksHere 5 = .ok (.iconst 0, 1) := by decide +kernel
theorem dX1_marksHere_6 : decode cX1_marksHere 6 = .ok (.istore_n 3, 1) := by decide +kernel
theorem dX1_marksHere_7 : decode cX1_marksHere 7 = .ok (.iload_n 3, 1) := by decide +kernel
theorem dX1_marksHere_8 : decode cX1_marksHere 8 = .ok (.aload_n 0, 1) := by decide +kernel
theorem dX1_marksHere_9 : decode cX1_marksHere 9 = .ok (.getfield 19, 3) := by decide +kernel
theorem dX1_marksHere_12 : decode cX1_marksHere 12 = .ok (.if_icmp .ge 21, 3) := by decide +kernel
theorem dX1_marksHere_15 : decode cX1_marksHere 15 = .ok (.aload_n 1, 1) := by decide +kernel
theorem dX1_marksHere_16 : decode cX1_marksHere 16 = .ok (.aload_n 0, 1) := by decide +kernel
theorem dX1_marksHere_17 : decode cX1_marksHere 17 = .ok (.getfield 9, 3) := by decide +kernel
theorem dX1_marksHere_20 : decode cX1_marksHere 20 = .ok (.iload_n 3, 1) := by decide +kernel
theorem dX1_marksHere_21 : decode cX1_marksHere 21 = .ok (.iaload, 1) := by decide +kernel
theorem dX1_marksHere_22 : decode cX1_marksHere 22 = .ok (.iload_n 2, 1) := by decide +kernel
theorem dX1_marksHere_23 : decode cX1_marksHere 23 = .ok (.invokevirtual 30, 3) := by decide +kernel
theorem dX1_marksHere_26 : decode cX1_marksHere 26 = .ok (.istore_n 2, 1) := by decide +kernel
theorem dX1_marksHere_27 : decode cX1_marksHere 27 = .ok (.iinc 3 1, 3) := by decide +kernel
theorem dX1_marksHere_30 : decode cX1_marksHere 30 = .ok (.goto (-23), 3) := by decide +kernel
theorem dX1_marksHere_33 : decode cX1_marksHere 33 = .ok (.iload_n 2, 1) := by decide +kernel
theorem dX1_marksHere_34 : decode cX1_marksHere 34 = .ok (.ireturn, 1) := by decide +kernel
theorem dX1_priceOfSteps_0 : decode cX1_priceOfSteps 0 = .ok (.iconst 0, 1) := by decide +kernel
theorem dX1_priceOfSteps_1 : decode cX1_priceOfSteps 1 = .ok (.istore_n 2, 1) := by decide +kernel
theorem dX1_priceOfSteps_2 : decode cX1_priceOfSteps 2 = .ok (.iconst 0, 1) := by decide +kernel
theorem dX1_priceOfSteps_3 : decode cX1_priceOfSteps 3 = .ok (.istore_n 3, 1) := by decide +kernel
theorem dX1_priceOfSteps_4 : decode cX1_priceOfSteps 4 = .ok (.iload_n 3, 1) := by decide +kernel
theorem dX1_priceOfSteps_5 : decode cX1_priceOfSteps 5 = .ok (.aload_n 0, 1) := by decide +kernel
theorem dX1_priceOfSteps_6 : decode cX1_priceOfSteps 6 = .ok (.getfield 19, 3) := by decide +kernel
theorem dX1_priceOfSteps_9 : decode cX1_priceOfSteps 9 = .ok (.if_icmp .ge 23, 3) := by decide +kernel
theorem dX1_priceOfSteps_12 : decode cX1_priceOfSteps 12 = .ok (.iload_n 2, 1) := by decide +kernel
theorem dX1_priceOfSteps_13 : decode cX1_priceOfSteps 13 = .ok (.aload_n 1, 1) := by decide +kernel
theorem dX1_priceOfSteps_14 : decode cX1_priceOfSteps 14 = .ok (.getfield 34, 3) := by decide +kernel
theorem dX1_priceOfSteps_17 : decode cX1_priceOfSteps 17 = .ok (.aload_n 0, 1) := by decide +kernel
theorem dX1_priceOfSteps_18 : decode cX1_priceOfSteps 18 = .ok (.getfield 9, 3) := by decide +kernel
theorem dX1_priceOfSteps_21 : decode cX1_priceOfSteps 21 = .ok (.iload_n 3, 1) := by decide +kernel
theorem dX1_priceOfSteps_22 : decode cX1_priceOfSteps 22 = .ok (.iaload, 1) := by decide +kernel
theorem dX1_priceOfSteps_23 : decode cX1_priceOfSteps 23 = .ok (.iaload, 1) := by decide +kernel
theorem dX1_priceOfSteps_24 : decode cX1_priceOfSteps 24 = .ok (.iadd, 1) := by decide +kernel
theorem dX1_priceOfSteps_25 : decode cX1_priceOfSteps 25 = .ok (.istore_n 2, 1) := by decide +kernel
theorem dX1_priceOfSteps_26 : decode cX1_priceOfSteps 26 = .ok (.iinc 3 1, 3) := by decide +kernel
theorem dX1_priceOfSteps_29 : decode cX1_priceOfSteps 29 = .ok (.goto (-25), 3) := by decide +kernel
theorem dX1_priceOfSteps_32 : decode cX1_priceOfSteps 32 = .ok (.iload_n 2, 1) := by decide +kernel
theorem dX1_priceOfSteps_33 : decode cX1_priceOfSteps 33 = .ok (.ireturn, 1) := by decide +kernel
theorem dX2_init_0 : decode cX2_init 0 = .ok (.aload_n 0, 1) := by decide +kernel
theorem dX2_init_1 : decode cX2_init 1 = .ok (.invokespecial 3, 3) := by decide +kernel
theorem dX2_init_4 : decode cX2_init 4 = .ok (.aload_n 0, 1) := by decide +kernel
theorem dX2_init_5 : decode cX2_init 5 = .ok (.sipush 1024, 3) := by decide +kernel
theorem dX2_init_8 : decode cX2_init 8 = .ok (.newarray .int, 2) := by decide +kernel
theorem dX2_init_10 : decode cX2_init 10 = .ok (.putfield 9, 3) := by decide +kernel
theorem dX2_init_13 : decode cX2_init 13 = .ok (.aload_n 0, 1) := by decide +kernel
theorem dX2_init_14 : decode cX2_init 14 = .ok (.sipush 1024, 3) := by decide +kernel
theorem dX2_init_17 : decode cX2_init 17 = .ok (.newarray .int, 2) := by decide +kernel
theorem dX2_init_19 : decode cX2_init 19 = .ok (.putfield 15, 3) := by decide +kernel
theorem dX2_init_22 : decode cX2_init 22 = .ok (.aload_n 0, 1) := by decide +kernel
theorem dX2_init_23 : decode cX2_init 23 = .ok (.sipush 1024, 3) := by decide +kernel
theorem dX2_init_26 : decode cX2_init 26 = .ok (.newarray .int, 2) := by decide +kernel
theorem dX2_init_28 : decode cX2_init 28 = .ok (.putfield 18, 3) := by decide +kernel
theorem dX2_init_31 : decode cX2_init 31 = .ok (.aload_n 0, 1) := by decide +kernel
theorem dX2_init_32 : decode cX2_init 32 = .ok (.sipush 1024, 3) := by decide +kernel
theorem dX2_init_35 : decode cX2_init 35 = .ok (.newarray .int, 2) := by decide +kernel
theorem dX2_init_37 : decode cX2_init 37 = .ok (.putfield 21, 3) := by decide +kernel
theorem dX2_init_40 : decode cX2_init 40 = .ok (.aload_n 0, 1) := by decide +kernel
theorem dX2_init_41 : decode cX2_init 41 = .ok (.bipush 16, 2) := by decide +kernel
theorem dX2_init_43 : decode cX2_init 43 = .ok (.newarray .int, 2) := by decide +kernel
theorem dX2_init_45 : decode cX2_init 45 = .ok (.putfield 24, 3) := by decide +kernel
theorem dX2_init_48 : decode cX2_init 48 = .ok (.aload_n 0, 1) := by decide +kernel
theorem dX2_init_49 : decode cX2_init 49 = .ok (.sipush 1025, 3) := by decide +kernel
theorem dX2_init_52 : decode cX2_init 52 = .ok (.newarray .int, 2) := by decide +kernel
theorem dX2_init_54 : decode cX2_init 54 = .ok (.putfield 27, 3) := by decide +kernel
theorem dX2_init_57 : decode cX2_init 57 = .ok (.aload_n 0, 1) := by decide +kernel
theorem dX2_init_58 : decode cX2_init 58 = .ok (.sipush 2048, 3) := by decide +kernel
theorem dX2_init_61 : decode cX2_init 61 = .ok (.newarray .int, 2) := by decide +kernel
theorem dX2_init_63 : decode cX2_init 63 = .ok (.putfield 30, 3) := by decide +kernel
theorem dX2_init_66 : decode cX2_init 66 = .ok (.aload_n 0, 1) := by decide +kernel
theorem dX2_init_67 : decode cX2_init 67 = .ok (.sipush 2048, 3) := by decide +kernel
theorem dX2_init_70 : decode cX2_init 70 = .ok (.newarray .int, 2) := by decide +kernel
theorem dX2_init_72 : decode cX2_init 72 = .ok (.putfield 33, 3) := by decide +kernel
theorem dX2_init_75 : decode cX2_init 75 = .ok (.aload_n 0, 1) := by decide +kernel
theorem dX2_init_76 : decode cX2_init 76 = .ok (.sipush 2048, 3) := by decide +kernel
theorem dX2_init_79 : decode cX2_init 79 = .ok (.newarray .int, 2) := by decide +kernel
theorem dX2_init_81 : decode cX2_init 81 = .ok (.putfield 36, 3) := by decide +kernel
theorem dX2_init_84 : decode cX2_init 84 = .ok (.aload_n 0, 1) := by decide +kernel
theorem dX2_init_85 : decode cX2_init 85 = .ok (.sipush 1025, 3) := by decide +kernel
theorem dX2_init_88 : decode cX2_init 88 = .ok (.newarray .int, 2) := by decide +kernel
theorem dX2_init_90 : decode cX2_init 90 = .ok (.putfield 39, 3) := by decide +kernel
theorem dX2_init_93 : decode cX2_init 93 = .ok (.aload_n 0, 1) := by decide +kernel
theorem dX2_init_94 : decode cX2_init 94 = .ok (.sipush 2048, 3) := by decide +kernel
theorem dX2_init_97 : decode cX2_init 97 = .ok (.newarray .int, 2) := by decide +kernel
theorem dX2_init_99 : decode cX2_init 99 = .ok (.putfield 42, 3) := by decide +kernel
theorem dX2_init_102 : decode cX2_init 102 = .ok (.return_, 1) := by decide +kernel
theorem dX2_explore_0 : decode cX2_explore 0 = .ok (.aload_n 0, 1) := by decide +kernel
theorem dX2_explore_1 : decode cX2_explore 1 = .ok (.getfield 15, 3) := by decide +kernel
theorem dX2_explore_4 : decode cX2_explore 4 = .ok (.iconst (-1), 1) := by decide +kernel
theorem dX2_explore_5 : decode cX2_explore 5 = .ok (.invokestatic 45, 3) := by decide +kernel
theorem dX2_explore_8 : decode cX2_explore 8 = .ok (.aload_n 0, 1) := by decide +kernel
theorem dX2_explore_9 : decode cX2_explore 9 = .ok (.getfield 24, 3) := by decide +kernel
theorem dX2_explore_12 : decode cX2_explore 12 = .ok (.iconst (-1), 1) := by decide +kernel
theorem dX2_explore_13 : decode cX2_explore 13 = .ok (.invokestatic 45, 3) := by decide +kernel
theorem dX2_explore_16 : decode cX2_explore 16 = .ok (.aload_n 0, 1) := by decide +kernel
theorem dX2_explore_17 : decode cX2_explore 17 = .ok (.iconst 0, 1) := by decide +kernel
theorem dX2_explore_18 : decode cX2_explore 18 = .ok (.putfield 51, 3) := by decide +kernel
theorem dX2_explore_21 : decode cX2_explore 21 = .ok (.aload_n 0, 1) := by decide +kernel
theorem dX2_explore_22 : decode cX2_explore 22 = .ok (.iconst 0, 1) := by decide +kernel
theorem dX2_explore_23 : decode cX2_explore 23 = .ok (.putfield 55, 3) := by decide +kernel
theorem dX2_explore_26 : decode cX2_explore 26 = .ok (.aload_n 0, 1) := by decide +kernel
theorem dX2_explore_27 : decode cX2_explore 27 = .ok (.aload_n 1, 1) := by decide +kernel
theorem dX2_explore_28 : decode cX2_explore 28 = .ok (.getfield 58, 3) := by decide +kernel
theorem dX2_explore_31 : decode cX2_explore 31 = .ok (.bipush 64, 2) := by decide +kernel
theorem dX2_explore_33 : decode cX2_explore 33 = .ok (.imul, 1) := by decide +kernel
theorem dX2_explore_34 : decode cX2_explore 34 = .ok (.iload_n 2, 1) := by decide +kernel
theorem dX2_explore_35 : decode cX2_explore 35 = .ok (.iadd, 1) := by decide +kernel
theorem dX2_explore_36 : decode cX2_explore 36 = .ok (.iconst 0, 1) := by decide +kernel
theorem dX2_explore_37 : decode cX2_explore 37 = .ok (.iconst (-1), 1) := by decide +kernel
theorem dX2_explore_38 : decode cX2_explore 38 = .ok (.invokevirtual 63, 3) := by decide +kernel
theorem dX2_explore_41 : decode cX2_explore 41 = .ok (.iconst 0, 1) := by decide +kernel
theorem dX2_explore_42 : decode cX2_explore 42 = .ok (.istore_n 3, 1) := by decide +kernel
theorem dX2_explore_43 : decode cX2_explore 43 = .ok (.iload_n 3, 1) := by decide +kernel
theorem dX2_explore_44 : decode cX2_explore 44 = .ok (.sipush 1024, 3) := by decide +kernel
theorem dX2_explore_47 : decode cX2_explore 47 = .ok (.if_icmp .ge 33, 3) := by decide +kernel
theorem dX2_explore_50 : decode cX2_explore 50 = .ok (.iload_n 3, 1) := by decide +kernel
theorem dX2_explore_51 : decode cX2_explore 51 = .ok (.aload_n 0, 1) := by decide +kernel
theorem dX2_explore_52 : decode cX2_explore 52 = .ok (.getfield 51, 3) := by decide +kernel
theorem dX2_explore_55 : decode cX2_explore 55 = .ok (.if_icmp .ge 25, 3) := by decide +kernel
theorem dX2_explore_58 : decode cX2_explore 58 = .ok (.aload_n 0, 1) := by decide +kernel
theorem dX2_explore_59 : decode cX2_explore 59 = .ok (.getfield 27, 3) := by decide +kernel
theorem dX2_explore_62 : decode cX2_explore 62 = .ok (.iload_n 3, 1) := by decide +kernel
theorem dX2_explore_63 : decode cX2_explore 63 = .ok (.aload_n 0, 1) := by decide +kernel
theorem dX2_explore_64 : decode cX2_explore 64 = .ok (.getfield 55, 3) := by decide +kernel
theorem dX2_explore_67 : decode cX2_explore 67 = .ok (.iastore, 1) := by decide +kernel
theorem dX2_explore_68 : decode cX2_explore 68 = .ok (.aload_n 0, 1) := by decide +kernel
theorem dX2_explore_69 : decode cX2_explore 69 = .ok (.iload_n 3, 1) := by decide +kernel
theorem dX2_explore_70 : decode cX2_explore 70 = .ok (.aload_n 1, 1) := by decide +kernel
theorem dX2_explore_71 : decode cX2_explore 71 = .ok (.invokevirtual 67, 3) := by decide +kernel
theorem dX2_explore_74 : decode cX2_explore 74 = .ok (.iinc 3 1, 3) := by decide +kernel
theorem dX2_explore_77 : decode cX2_explore 77 = .ok (.goto (-34), 3) := by decide +kernel
theorem dX2_explore_80 : decode cX2_explore 80 = .ok (.aload_n 0, 1) := by decide +kernel
theorem dX2_explore_81 : decode cX2_explore 81 = .ok (.getfield 27, 3) := by decide +kernel
theorem dX2_explore_84 : decode cX2_explore 84 = .ok (.aload_n 0, 1) := by decide +kernel
theorem dX2_explore_85 : decode cX2_explore 85 = .ok (.getfield 51, 3) := by decide +kernel
theorem dX2_explore_88 : decode cX2_explore 88 = .ok (.aload_n 0, 1) := by decide +kernel
theorem dX2_explore_89 : decode cX2_explore 89 = .ok (.getfield 55, 3) := by decide +kernel
theorem dX2_explore_92 : decode cX2_explore 92 = .ok (.iastore, 1) := by decide +kernel
theorem dX2_explore_93 : decode cX2_explore 93 = .ok (.aload_n 0, 1) := by decide +kernel
theorem dX2_explore_94 : decode cX2_explore 94 = .ok (.invokevirtual 71, 3) := by decide +kernel
theorem dX2_explore_97 : decode cX2_explore 97 = .ok (.return_, 1) := by decide +kernel
theorem dX2_admit_0 : decode cX2_admit 0 = .ok (.aload_n 0, 1) := by decide +kernel
theorem dX2_admit_1 : decode cX2_admit 1 = .ok (.getfield 15, 3) := by decide +kernel
theorem dX2_admit_4 : decode cX2_admit 4 = .ok (.iload_n 1, 1) := by decide +kernel
theorem dX2_admit_5 : decode cX2_admit 5 = .ok (.aload_n 0, 1) := by decide +kernel
theorem dX2_admit_6 : decode cX2_admit 6 = .ok (.getfield 51, 3) := by decide +kernel
theorem dX2_admit_9 : decode cX2_admit 9 = .ok (.iastore, 1) := by decide +kernel
theorem dX2_admit_10 : decode cX2_admit 10 = .ok (.aload_n 0, 1) := by decide +kernel
theorem dX2_admit_11 : decode cX2_admit 11 = .ok (.getfield 9, 3) := by decide +kernel
theorem dX2_admit_14 : decode cX2_admit 14 = .ok (.aload_n 0, 1) := by decide +kernel
theorem dX2_admit_15 : decode cX2_admit 15 = .ok (.getfield 51, 3) := by decide +kernel
theorem dX2_admit_18 : decode cX2_admit 18 = .ok (.iload_n 1, 1) := by decide +kernel
theorem dX2_admit_19 : decode cX2_admit 19 = .ok (.iastore, 1) := by decide +kernel
theorem dX2_admit_20 : decode cX2_admit 20 = .ok (.aload_n 0, 1) := by decide +kernel
theorem dX2_admit_21 : decode cX2_admit 21 = .ok (.getfield 18, 3) := by decide +kernel
theorem dX2_admit_24 : decode cX2_admit 24 = .ok (.aload_n 0, 1) := by decide +kernel
theorem dX2_admit_25 : decode cX2_admit 25 = .ok (.getfield 51, 3) := by decide +kernel
theorem dX2_admit_28 : decode cX2_admit 28 = .ok (.iload_n 2, 1) := by decide +kernel
theorem dX2_admit_29 : decode cX2_admit 29 = .ok (.iastore, 1) := by decide +kernel
theorem dX2_admit_30 : decode cX2_admit 30 = .ok (.aload_n 0, 1) := by decide +kernel
theorem dX2_admit_31 : decode cX2_admit 31 = .ok (.getfield 21, 3) := by decide +kernel
theorem dX2_admit_34 : decode cX2_admit 34 = .ok (.aload_n 0, 1) := by decide +kernel
theorem dX2_admit_35 : decode cX2_admit 35 = .ok (.getfield 51, 3) := by decide +kernel
theorem dX2_admit_38 : decode cX2_admit 38 = .ok (.iload_n 3, 1) := by decide +kernel
theorem dX2_admit_39 : decode cX2_admit 39 = .ok (.iastore, 1) := by decide +kernel
theorem dX2_admit_40 : decode cX2_admit 40 = .ok (.aload_n 0, 1) := by decide +kernel
theorem dX2_admit_41 : decode cX2_admit 41 = .ok (.getfield 24, 3) := by decide +kernel
theorem dX2_admit_44 : decode cX2_admit 44 = .ok (.iload_n 1, 1) := by decide +kernel
theorem dX2_admit_45 : decode cX2_admit 45 = .ok (.bipush 64, 2) := by decide +kernel
theorem dX2_admit_47 : decode cX2_admit 47 = .ok (.idiv, 1) := by decide +kernel
theorem dX2_admit_48 : decode cX2_admit 48 = .ok (.iaload, 1) := by decide +kernel
theorem dX2_admit_49 : decode cX2_admit 49 = .ok (.iconst (-1), 1) := by decide +kernel
theorem dX2_admit_50 : decode cX2_admit 50 = .ok (.if_icmp .ne 16, 3) := by decide +kernel
theorem dX2_admit_53 : decode cX2_admit 53 = .ok (.aload_n 0, 1) := by decide +kernel
theorem dX2_admit_54 : decode cX2_admit 54 = .ok (.getfield 24, 3) := by decide +kernel
theorem dX2_admit_57 : decode cX2_admit 57 = .ok (.iload_n 1, 1) := by decide +kernel
theorem dX2_admit_58 : decode cX2_admit 58 = .ok (.bipush 64, 2) := by decide +kernel
theorem dX2_admit_60 : decode cX2_admit 60 = .ok (.idiv, 1) := by decide +kernel
theorem dX2_admit_61 : decode cX2_admit 61 = .ok (.aload_n 0, 1) := by decide +kernel
theorem dX2_admit_62 : decode cX2_admit 62 = .ok (.getfield 51, 3) := by decide +kernel
theorem dX2_admit_65 : decode cX2_admit 65 = .ok (.iastore, 1) := by decide +kernel
theorem dX2_admit_66 : decode cX2_admit 66 = .ok (.aload_n 0, 1) := by decide +kernel
theorem dX2_admit_67 : decode cX2_admit 67 = .ok (.dup, 1) := by decide +kernel
theorem dX2_admit_68 : decode cX2_admit 68 = .ok (.getfield 51, 3) := by decide +kernel
theorem dX2_admit_71 : decode cX2_admit 71 = .ok (.iconst 1, 1) := by decide +kernel
theorem dX2_admit_72 : decode cX2_admit 72 = .ok (.iadd, 1) := by decide +kernel
theorem dX2_admit_73 : decode cX2_admit 73 = .ok (.putfield 51, 3) := by decide +kernel
theorem dX2_admit_76 : decode cX2_admit 76 = .ok (.return_, 1) := by decide +kernel
theorem dX2_addMovesFrom_0 : decode cX2_addMovesFrom 0 = .ok (.aload_n 0, 1) := by decide +kernel
theorem dX2_addMovesFrom_1 : decode cX2_addMovesFrom 1 = .ok (.iload_n 1, 1) := by decide +kernel
theorem dX2_addMovesFrom_2 : decode cX2_addMovesFrom 2 = .ok (.invokevirtual 74, 3) := by decide +kernel
theorem dX2_addMovesFrom_5 : decode cX2_addMovesFrom 5 = .ok (.istore_n 3, 1) := by decide +kernel
theorem dX2_addMovesFrom_6 : decode cX2_addMovesFrom 6 = .ok (.aload_n 0, 1) := by decide +kernel
theorem dX2_addMovesFrom_7 : decode cX2_addMovesFrom 7 = .ok (.iload_n 1, 1) := by decide +kernel
theorem dX2_addMovesFrom_8 : decode cX2_addMovesFrom 8 = .ok (.invokevirtual 78, 3) := by decide +kernel
theorem dX2_addMovesFrom_11 : decode cX2_addMovesFrom 11 = .ok (.istore 4, 2) := by decide +kernel
theorem dX2_addMovesFrom_13 : decode cX2_addMovesFrom 13 = .ok (.aload_n 2, 1) := by decide +kernel
theorem dX2_addMovesFrom_14 : decode cX2_addMovesFrom 14 = .ok (.getfield 81, 3) := by decide +kernel
theorem dX2_addMovesFrom_17 : decode cX2_addMovesFrom 17 = .ok (.iload_n 3, 1) := by decide +kernel
theorem dX2_addMovesFrom_18 : decode cX2_addMovesFrom 18 = .ok (.iaload, 1) := by decide +kernel
theorem dX2_addMovesFrom_19 : decode cX2_addMovesFrom 19 = .ok (.istore 5, 2) := by decide +kernel
theorem dX2_addMovesFrom_21 : decode cX2_addMovesFrom 21 = .ok (.iload 5, 2) := by decide +kernel
theorem dX2_addMovesFrom_23 : decode cX2_addMovesFrom 23 = .ok (.aload_n 2, 1) := by decide +kernel
theorem dX2_addMovesFrom_24 : decode cX2_addMovesFrom 24 = .ok (.getfield 81, 3) := by decide +kernel
theorem dX2_addMovesFrom_27 : decode cX2_addMovesFrom 27 = .ok (.iload_n 3, 1) := by decide +kernel
theorem dX2_addMovesFrom_28 : decode cX2_addMovesFrom 28 = .ok (.iconst 1, 1) := by decide +kernel
theorem dX2_addMovesFrom_29 : decode cX2_addMovesFrom 29 = .ok (.iadd, 1) := by decide +kernel
theorem dX2_addMovesFrom_30 : decode cX2_addMovesFrom 30 = .ok (.iaload, 1) := by decide +kernel
theorem dX2_addMovesFrom_31 : decode cX2_addMovesFrom 31 = .ok (.if_icmp .ge 116, 3) := by decide +kernel
theorem dX2_addMovesFrom_34 : decode cX2_addMovesFrom 34 = .ok (.aload_n 2, 1) := by decide +kernel
theorem dX2_addMovesFrom_35 : decode cX2_addMovesFrom 35 = .ok (.getfield 84, 3) := by decide +kernel
theorem dX2_addMovesFrom_38 : decode cX2_addMovesFrom 38 = .ok (.iload 5, 2) := by decide +kernel
theorem dX2_addMovesFrom_40 : decode cX2_addMovesFrom 40 = .ok (.iaload, 1) := by decide +kernel
theorem dX2_addMovesFrom_41 : decode cX2_addMovesFrom 41 = .ok (.istore 6, 2) := by decide +kernel
theorem dX2_addMovesFrom_43 : decode cX2_addMovesFrom 43 = .ok (.aload_n 2, 1) := by decide +kernel
theorem dX2_addMovesFrom_44 : decode cX2_addMovesFrom 44 = .ok (.iload 6, 2) := by decide +kernel
theorem dX2_addMovesFrom_46 : decode cX2_addMovesFrom 46 = .ok (.iload_n 3, 1) := by decide +kernel
theorem dX2_addMovesFrom_47 : decode cX2_addMovesFrom 47 = .ok (.iload 4, 2) := by decide +kernel
theorem dX2_addMovesFrom_49 : decode cX2_addMovesFrom 49 = .ok (.invokevirtual 87, 3) := by decide +kernel
theorem dX2_addMovesFrom_52 : decode cX2_addMovesFrom 52 = .ok (.ifCond .eq 89, 3) := by decide +kernel
theorem dX2_addMovesFrom_55 : decode cX2_addMovesFrom 55 = .ok (.aload_n 2, 1) := by decide +kernel
theorem dX2_addMovesFrom_56 : decode cX2_addMovesFrom 56 = .ok (.iload 6, 2) := by decide +kernel
theorem dX2_addMovesFrom_58 : decode cX2_addMovesFrom 58 = .ok (.iload 4, 2) := by decide +kernel
theorem dX2_addMovesFrom_60 : decode cX2_addMovesFrom 60 = .ok (.invokevirtual 91, 3) := by decide +kernel
theorem dX2_addMovesFrom_63 : decode cX2_addMovesFrom 63 = .ok (.istore 7, 2) := by decide +kernel
theorem dX2_addMovesFrom_65 : decode cX2_addMovesFrom 65 = .ok (.aload_n 0, 1) := by decide +kernel
theorem dX2_addMovesFrom_66 : decode cX2_addMovesFrom 66 = .ok (.getfield 15, 3) := by decide +kernel
theorem dX2_addMovesFrom_69 : decode cX2_addMovesFrom 69 = .ok (.iload 7, 2) := by decide +kernel
theorem dX2_addMovesFrom_71 : decode cX2_addMovesFrom 71 = .ok (.iaload, 1) := by decide +kernel
theorem dX2_addMovesFrom_72 : decode cX2_addMovesFrom 72 = .ok (.iconst (-1), 1) := by decide +kernel
theorem dX2_addMovesFrom_73 : decode cX2_addMovesFrom 73 = .ok (.if_icmp .ne 21, 3) := by decide +kernel
theorem dX2_addMovesFrom_76 : decode cX2_addMovesFrom 76 = .ok (.aload_n 0, 1) := by decide +kernel
theorem dX2_addMovesFrom_77 : decode cX2_addMovesFrom 77 = .ok (.iload 7, 2) := by decide +kernel
theorem dX2_addMovesFrom_79 : decode cX2_addMovesFrom 79 = .ok (.aload_n 0, 1) := by decide +kernel
theorem dX2_addMovesFrom_80 : decode cX2_addMovesFrom 80 = .ok (.getfield 18, 3) := by decide +kernel
theorem dX2_addMovesFrom_83 : decode cX2_addMovesFrom 83 = .ok (.iload_n 1, 1) := by decide +kernel
theorem dX2_addMovesFrom_84 : decode cX2_addMovesFrom 84 = .ok (.iaload, 1) := by decide +kernel
theorem dX2_addMovesFrom_85 : decode cX2_addMovesFrom 85 = .ok (.iconst 1, 1) := by decide +kernel
theorem dX2_addMovesFrom_86 : decode cX2_addMovesFrom 86 = .ok (.iadd, 1) := by decide +kernel
theorem dX2_addMovesFrom_87 : decode cX2_addMovesFrom 87 = .ok (.aload_n 0, 1) := by decide +kernel
theorem dX2_addMovesFrom_88 : decode cX2_addMovesFrom 88 = .ok (.getfield 55, 3) := by decide +kernel
theorem dX2_addMovesFrom_91 : decode cX2_addMovesFrom 91 = .ok (.invokevirtual 63, 3) := by decide +kernel
theorem dX2_addMovesFrom_94 : decode cX2_addMovesFrom 94 = .ok (.aload_n 0, 1) := by decide +kernel
theorem dX2_addMovesFrom_95 : decode cX2_addMovesFrom 95 = .ok (.getfield 30, 3) := by decide +kernel
theorem dX2_addMovesFrom_98 : decode cX2_addMovesFrom 98 = .ok (.aload_n 0, 1) := by decide +kernel
theorem dX2_addMovesFrom_99 : decode cX2_addMovesFrom 99 = .ok (.getfield 55, 3) := by decide +kernel
theorem dX2_addMovesFrom_102 : decode cX2_addMovesFrom 102 = .ok (.iload_n 1, 1) := by decide +kernel
theorem dX2_addMovesFrom_103 : decode cX2_addMovesFrom 103 = .ok (.iastore, 1) := by decide +kernel
theorem dX2_addMovesFrom_104 : decode cX2_addMovesFrom 104 = .ok (.aload_n 0, 1) := by decide +kernel
theorem dX2_addMovesFrom_105 : decode cX2_addMovesFrom 105 = .ok (.getfield 33, 3) := by decide +kernel
theorem dX2_addMovesFrom_108 : decode cX2_addMovesFrom 108 = .ok (.aload_n 0, 1) := by decide +kernel
theorem dX2_addMovesFrom_109 : decode cX2_addMovesFrom 109 = .ok (.getfield 55, 3) := by decide +kernel
theorem dX2_addMovesFrom_112 : decode cX2_addMovesFrom 112 = .ok (.aload_n 0, 1) := by decide +kernel
theorem dX2_addMovesFrom_113 : decode cX2_addMovesFrom 113 = .ok (.getfield 15, 3) := by decide +kernel
theorem dX2_addMovesFrom_116 : decode cX2_addMovesFrom 116 = .ok (.iload 7, 2) := by decide +kernel
theorem dX2_addMovesFrom_118 : decode cX2_addMovesFrom 118 = .ok (.iaload, 1) := by decide +kernel
theorem dX2_addMovesFrom_119 : decode cX2_addMovesFrom 119 = .ok (.iastore, 1) := by decide +kernel
theorem dX2_addMovesFrom_120 : decode cX2_addMovesFrom 120 = .ok (.aload_n 0, 1) := by decide +kernel
theorem dX2_addMovesFrom_121 : decode cX2_addMovesFrom 121 = .ok (.getfield 36, 3) := by decide +kernel
theorem dX2_addMovesFrom_124 : decode cX2_addMovesFrom 124 = .ok (.aload_n 0, 1) := by decide +kernel
theorem dX2_addMovesFrom_125 : decode cX2_addMovesFrom 125 = .ok (.getfield 55, 3) := by decide +kernel
theorem dX2_addMovesFrom_128 : decode cX2_addMovesFrom 128 = .ok (.iload 6, 2) := by decide +kernel
theorem dX2_addMovesFrom_130 : decode cX2_addMovesFrom 130 = .ok (.iastore, 1) := by decide +kernel
theorem dX2_addMovesFrom_131 : decode cX2_addMovesFrom 131 = .ok (.aload_n 0, 1) := by decide +kernel
theorem dX2_addMovesFrom_132 : decode cX2_addMovesFrom 132 = .ok (.dup, 1) := by decide +kernel
theorem dX2_addMovesFrom_133 : decode cX2_addMovesFrom 133 = .ok (.getfield 55, 3) := by decide +kernel
theorem dX2_addMovesFrom_136 : decode cX2_addMovesFrom 136 = .ok (.iconst 1, 1) := by decide +kernel
theorem dX2_addMovesFrom_137 : decode cX2_addMovesFrom 137 = .ok (.iadd, 1) := by decide +kernel
theorem dX2_addMovesFrom_138 : decode cX2_addMovesFrom 138 = .ok (.putfield 55, 3) := by decide +kernel
theorem dX2_addMovesFrom_141 : decode cX2_addMovesFrom 141 = .ok (.iinc 5 1, 3) := by decide +kernel
theorem dX2_addMovesFrom_144 : decode cX2_addMovesFrom 144 = .ok (.goto (-123), 3) := by decide +kernel
theorem dX2_addMovesFrom_147 : decode cX2_addMovesFrom 147 = .ok (.return_, 1) := by decide +kernel
theorem dX2_turnRound_0 : decode cX2_turnRound 0 = .ok (.aload_n 0, 1) := by decide +kernel
theorem dX2_turnRound_1 : decode cX2_turnRound 1 = .ok (.getfield 39, 3) := by decide +kernel
theorem dX2_turnRound_4 : decode cX2_turnRound 4 = .ok (.iconst 0, 1) := by decide +kernel
theorem dX2_turnRound_5 : decode cX2_turnRound 5 = .ok (.invokestatic 45, 3) := by decide +kernel
theorem dX2_turnRound_8 : decode cX2_turnRound 8 = .ok (.iconst 0, 1) := by decide +kernel
theorem dX2_turnRound_9 : decode cX2_turnRound 9 = .ok (.istore_n 1, 1) := by decide +kernel
theorem dX2_turnRound_10 : decode cX2_turnRound 10 = .ok (.iload_n 1, 1) := by decide +kernel
theorem dX2_turnRound_11 : decode cX2_turnRound 11 = .ok (.aload_n 0, 1) := by decide +kernel
theorem dX2_turnRound_12 : decode cX2_turnRound 12 = .ok (.getfield 55, 3) := by decide +kernel
theorem dX2_turnRound_15 : decode cX2_turnRound 15 = .ok (.if_icmp .ge 24, 3) := by decide +kernel
theorem dX2_turnRound_18 : decode cX2_turnRound 18 = .ok (.aload_n 0, 1) := by decide +kernel
theorem dX2_turnRound_19 : decode cX2_turnRound 19 = .ok (.getfield 39, 3) := by decide +kernel
theorem dX2_turnRound_22 : decode cX2_turnRound 22 = .ok (.aload_n 0, 1) := by decide +kernel
theorem dX2_turnRound_23 : decode cX2_turnRound 23 = .ok (.getfield 33, 3) := by decide +kernel
theorem dX2_turnRound_26 : decode cX2_turnRound 26 = .ok (.iload_n 1, 1) := by decide +kernel
theorem dX2_turnRound_27 : decode cX2_turnRound 27 = .ok (.iaload, 1) := by decide +kernel
theorem dX2_turnRound_28 : decode cX2_turnRound 28 = .ok (.dup2, 1) := by decide +kernel
theorem dX2_turnRound_29 : decode cX2_turnRound 29 = .ok (.iaload, 1) := by decide +kernel
theorem dX2_turnRound_30 : decode cX2_turnRound 30 = .ok (.iconst 1, 1) := by decide +kernel
theorem dX2_turnRound_31 : decode cX2_turnRound 31 = .ok (.iadd, 1) := by decide +kernel
theorem dX2_turnRound_32 : decode cX2_turnRound 32 = .ok (.iastore, 1) := by decide +kernel
theorem dX2_turnRound_33 : decode cX2_turnRound 33 = .ok (.iinc 1 1, 3) := by decide +kernel
theorem dX2_turnRound_36 : decode cX2_turnRound 36 = .ok (.goto (-26), 3) := by decide +kernel
theorem dX2_turnRound_39 : decode cX2_turnRound 39 = .ok (.iconst 1, 1) := by decide +kernel
theorem dX2_turnRound_40 : decode cX2_turnRound 40 = .ok (.istore_n 1, 1) := by decide +kernel
theorem dX2_turnRound_41 : decode cX2_turnRound 41 = .ok (.iload_n 1, 1) := by decide +kernel
theorem dX2_turnRound_42 : decode cX2_turnRound 42 = .ok (.aload_n 0, 1) := by decide +kernel
theorem dX2_turnRound_43 : decode cX2_turnRound 43 = .ok (.getfield 51, 3) := by decide +kernel
theorem dX2_turnRound_46 : decode cX2_turnRound 46 = .ok (.if_icmp .gt 26, 3) := by decide +kernel
theorem dX2_turnRound_49 : decode cX2_turnRound 49 = .ok (.aload_n 0, 1) := by decide +kernel
theorem dX2_turnRound_50 : decode cX2_turnRound 50 = .ok (.getfield 39, 3) := by decide +kernel
theorem dX2_turnRound_53 : decode cX2_turnRound 53 = .ok (.iload_n 1, 1) := by decide +kernel
theorem dX2_turnRound_54 : decode cX2_turnRound 54 = .ok (.dup2, 1) := by decide +kernel
theorem dX2_turnRound_55 : decode cX2_turnRound 55 = .ok (.iaload, 1) := by decide +kernel
theorem dX2_turnRound_56 : decode cX2_turnRound 56 = .ok (.aload_n 0, 1) := by decide +kernel
theorem dX2_turnRound_57 : decode cX2_turnRound 57 = .ok (.getfield 39, 3) := by decide +kernel
theorem dX2_turnRound_60 : decode cX2_turnRound 60 = .ok (.iload_n 1, 1) := by decide +kernel
theorem dX2_turnRound_61 : decode cX2_turnRound 61 = .ok (.iconst 1, 1) := by decide +kernel
theorem dX2_turnRound_62 : decode cX2_turnRound 62 = .ok (.isub, 1) := by decide +kernel
theorem dX2_turnRound_63 : decode cX2_turnRound 63 = .ok (.iaload, 1) := by decide +kernel
theorem dX2_turnRound_64 : decode cX2_turnRound 64 = .ok (.iadd, 1) := by decide +kernel
theorem dX2_turnRound_65 : decode cX2_turnRound 65 = .ok (.iastore, 1) := by decide +kernel
theorem dX2_turnRound_66 : decode cX2_turnRound 66 = .ok (.iinc 1 1, 3) := by decide +kernel
theorem dX2_turnRound_69 : decode cX2_turnRound 69 = .ok (.goto (-28), 3) := by decide +kernel
theorem dX2_turnRound_72 : decode cX2_turnRound 72 = .ok (.aload_n 0, 1) := by decide +kernel
theorem dX2_turnRound_73 : decode cX2_turnRound 73 = .ok (.getfield 55, 3) := by decide +kernel
theorem dX2_turnRound_76 : decode cX2_turnRound 76 = .ok (.iconst 1, 1) := by decide +kernel
theorem dX2_turnRound_77 : decode cX2_turnRound 77 = .ok (.isub, 1) := by decide +kernel
theorem dX2_turnRound_78 : decode cX2_turnRound 78 = .ok (.istore_n 1, 1) := by decide +kernel
theorem dX2_turnRound_79 : decode cX2_turnRound 79 = .ok (.iload_n 1, 1) := by decide +kernel
theorem dX2_turnRound_80 : decode cX2_turnRound 80 = .ok (.ifCond .lt 43, 3) := by decide +kernel
theorem dX2_turnRound_83 : decode cX2_turnRound 83 = .ok (.aload_n 0, 1) := by decide +kernel
theorem dX2_turnRound_84 : decode cX2_turnRound 84 = .ok (.getfield 33, 3) := by decide +kernel
theorem dX2_turnRound_87 : decode cX2_turnRound 87 = .ok (.iload_n 1, 1) := by decide +kernel
theorem dX2_turnRound_88 : decode cX2_turnRound 88 = .ok (.iaload, 1) := by decide +kernel
theorem dX2_turnRound_89 : decode cX2_turnRound 89 = .ok (.istore_n 2, 1) := by decide +kernel
theorem dX2_turnRound_90 : decode cX2_turnRound 90 = .ok (.aload_n 0, 1) := by decide +kernel
theorem dX2_turnRound_91 : decode cX2_turnRound 91 = .ok (.getfield 39, 3) := by decide +kernel
theorem dX2_turnRound_94 : decode cX2_turnRound 94 = .ok (.iload_n 2, 1) := by decide +kernel
theorem dX2_turnRound_95 : decode cX2_turnRound 95 = .ok (.dup2, 1) := by decide +kernel
theorem dX2_turnRound_96 : decode cX2_turnRound 96 = .ok (.iaload, 1) := by decide +kernel
theorem dX2_turnRound_97 : decode cX2_turnRound 97 = .ok (.iconst 1, 1) := by decide +kernel
theorem dX2_turnRound_98 : decode cX2_turnRound 98 = .ok (.isub, 1) := by decide +kernel
theorem dX2_turnRound_99 : decode cX2_turnRound 99 = .ok (.iastore, 1) := by decide +kernel
theorem dX2_turnRound_100 : decode cX2_turnRound 100 = .ok (.aload_n 0, 1) := by decide +kernel
theorem dX2_turnRound_101 : decode cX2_turnRound 101 = .ok (.getfield 42, 3) := by decide +kernel
theorem dX2_turnRound_104 : decode cX2_turnRound 104 = .ok (.aload_n 0, 1) := by decide +kernel
theorem dX2_turnRound_105 : decode cX2_turnRound 105 = .ok (.getfield 39, 3) := by decide +kernel
theorem dX2_turnRound_108 : decode cX2_turnRound 108 = .ok (.iload_n 2, 1) := by decide +kernel
theorem dX2_turnRound_109 : decode cX2_turnRound 109 = .ok (.iaload, 1) := by decide +kernel
theorem dX2_turnRound_110 : decode cX2_turnRound 110 = .ok (.aload_n 0, 1) := by decide +kernel
theorem dX2_turnRound_111 : decode cX2_turnRound 111 = .ok (.getfield 30, 3) := by decide +kernel
theorem dX2_turnRound_114 : decode cX2_turnRound 114 = .ok (.iload_n 1, 1) := by decide +kernel
theorem dX2_turnRound_115 : decode cX2_turnRound 115 = .ok (.iaload, 1) := by decide +kernel
theorem dX2_turnRound_116 : decode cX2_turnRound 116 = .ok (.iastore, 1) := by decide +kernel
theorem dX2_turnRound_117 : decode cX2_turnRound 117 = .ok (.iinc 1 (-1), 3) := by decide +kernel
theorem dX2_turnRound_120 : decode cX2_turnRound 120 = .ok (.goto (-41), 3) := by decide +kernel
theorem dX2_turnRound_123 : decode cX2_turnRound 123 = .ok (.return_, 1) := by decide +kernel
theorem dX2_lineAt_0 : decode cX2_lineAt 0 = .ok (.aload_n 0, 1) := by decide +kernel
theorem dX2_lineAt_1 : decode cX2_lineAt 1 = .ok (.getfield 9, 3) := by decide +kernel
theorem dX2_lineAt_4 : decode cX2_lineAt 4 = .ok (.iload_n 1, 1) := by decide +kernel
theorem dX2_lineAt_5 : decode cX2_lineAt 5 = .ok (.iaload, 1) := by decide +kernel
theorem dX2_lineAt_6 : decode cX2_lineAt 6 = .ok (.bipush 64, 2) := by decide +kernel
theorem dX2_lineAt_8 : decode cX2_lineAt 8 = .ok (.idiv, 1) := by decide +kernel
theorem dX2_lineAt_9 : decode cX2_lineAt 9 = .ok (.ireturn, 1) := by decide +kernel
theorem dX2_marksAt_0 : decode cX2_marksAt 0 = .ok (.aload_n 0, 1) := by decide +kernel
theorem dX2_marksAt_1 : decode cX2_marksAt 1 = .ok (.getfield 9, 3) := by decide +kernel
theorem dX2_marksAt_4 : decode cX2_marksAt 4 = .ok (.iload_n 1, 1) := by decide +kernel
theorem dX2_marksAt_5 : decode cX2_marksAt 5 = .ok (.iaload, 1) := by decide +kernel
theorem dX2_marksAt_6 : decode cX2_marksAt 6 = .ok (.bipush 64, 2) := by decide +kernel
theorem dX2_marksAt_8 : decode cX2_marksAt 8 = .ok (.irem, 1) := by decide +kernel
theorem dX2_marksAt_9 : decode cX2_marksAt 9 = .ok (.ireturn, 1) := by decide +kernel
theorem dX2_movesFrom_0 : decode cX2_movesFrom 0 = .ok (.aload_n 0, 1) := by decide +kernel
theorem dX2_movesFrom_1 : decode cX2_movesFrom 1 = .ok (.getfield 27, 3) := by decide +kernel
theorem dX2_movesFrom_4 : decode cX2_movesFrom 4 = .ok (.iload_n 1, 1) := by decide +kernel
theorem dX2_movesFrom_5 : decode cX2_movesFrom 5 = .ok (.iconst 1, 1) := by decide +kernel
theorem dX2_movesFrom_6 : decode cX2_movesFrom 6 = .ok (.iadd, 1) := by decide +kernel
theorem dX2_movesFrom_7 : decode cX2_movesFrom 7 = .ok (.iaload, 1) := by decide +kernel
theorem dX2_movesFrom_8 : decode cX2_movesFrom 8 = .ok (.aload_n 0, 1) := by decide +kernel
theorem dX2_movesFrom_9 : decode cX2_movesFrom 9 = .ok (.getfield 27, 3) := by decide +kernel
theorem dX2_movesFrom_12 : decode cX2_movesFrom 12 = .ok (.iload_n 1, 1) := by decide +kernel
theorem dX2_movesFrom_13 : decode cX2_movesFrom 13 = .ok (.iaload, 1) := by decide +kernel
theorem dX2_movesFrom_14 : decode cX2_movesFrom 14 = .ok (.isub, 1) := by decide +kernel
theorem dX2_movesFrom_15 : decode cX2_movesFrom 15 = .ok (.ireturn, 1) := by decide +kernel
theorem dX2_statesOf_0 : decode cX2_statesOf 0 = .ok (.iconst 0, 1) := by decide +kernel
theorem dX2_statesOf_1 : decode cX2_statesOf 1 = .ok (.istore_n 2, 1) := by decide +kernel
theorem dX2_statesOf_2 : decode cX2_statesOf 2 = .ok (.iconst 0, 1) := by decide +kernel
theorem dX2_statesOf_3 : decode cX2_statesOf 3 = .ok (.istore_n 3, 1) := by decide +kernel
theorem dX2_statesOf_4 : decode cX2_statesOf 4 = .ok (.iload_n 3, 1) := by decide +kernel
theorem dX2_statesOf_5 : decode cX2_statesOf 5 = .ok (.aload_n 0, 1) := by decide +kernel
theorem dX2_statesOf_6 : decode cX2_statesOf 6 = .ok (.getfield 51, 3) := by decide +kernel
theorem dX2_statesOf_9 : decode cX2_statesOf 9 = .ok (.if_icmp .ge 21, 3) := by decide +kernel
theorem dX2_statesOf_12 : decode cX2_statesOf 12 = .ok (.aload_n 0, 1) := by decide +kernel
theorem dX2_statesOf_13 : decode cX2_statesOf 13 = .ok (.iload_n 3, 1) := by decide +kernel
theorem dX2_statesOf_14 : decode cX2_statesOf 14 = .ok (.invokevirtual 74, 3) := by decide +kernel
theorem dX2_statesOf_17 : decode cX2_statesOf 17 = .ok (.iload_n 1, 1) := by decide +kernel
theorem dX2_statesOf_18 : decode cX2_statesOf 18 = .ok (.if_icmp .ne 6, 3) := by decide +kernel
theorem dX2_statesOf_21 : decode cX2_statesOf 21 = .ok (.iinc 2 1, 3) := by decide +kernel
theorem dX2_statesOf_24 : decode cX2_statesOf 24 = .ok (.iinc 3 1, 3) := by decide +kernel
theorem dX2_statesOf_27 : decode cX2_statesOf 27 = .ok (.goto (-23), 3) := by decide +kernel
theorem dX2_statesOf_30 : decode cX2_statesOf 30 = .ok (.iload_n 2, 1) := by decide +kernel
theorem dX2_statesOf_31 : decode cX2_statesOf 31 = .ok (.ireturn, 1) := by decide +kernel
theorem dX2_marksInAll_0 : decode cX2_marksInAll 0 = .ok (.aload_n 0, 1) := by decide +kernel
theorem dX2_marksInAll_1 : decode cX2_marksInAll 1 = .ok (.getfield 24, 3) := by decide +kernel
theorem dX2_marksInAll_4 : decode cX2_marksInAll 4 = .ok (.iload_n 1, 1) := by decide +kernel
theorem dX2_marksInAll_5 : decode cX2_marksInAll 5 = .ok (.iaload, 1) := by decide +kernel
theorem dX2_marksInAll_6 : decode cX2_marksInAll 6 = .ok (.iconst (-1), 1) := by decide +kernel
theorem dX2_marksInAll_7 : decode cX2_marksInAll 7 = .ok (.if_icmp .ne 5, 3) := by decide +kernel
theorem dX2_marksInAll_10 : decode cX2_marksInAll 10 = .ok (.iconst 0, 1) := by decide +kernel
theorem dX2_marksInAll_11 : decode cX2_marksInAll 11 = .ok (.ireturn, 1) := by decide +kernel
theorem dX2_marksInAll_12 : decode cX2_marksInAll 12 = .ok (.bipush 63, 2) := by decide +kernel
theorem dX2_marksInAll_14 : decode cX2_marksInAll 14 = .ok (.istore_n 2, 1) := by decide +kernel
theorem dX2_marksInAll_15 : decode cX2_marksInAll 15 = .ok (.iconst 0, 1) := by decide +kernel
theorem dX2_marksInAll_16 : decode cX2_marksInAll 16 = .ok (.istore_n 3, 1) := by decide +kernel
theorem dX2_marksInAll_17 : decode cX2_marksInAll 17 = .ok (.iload_n 3, 1) := by decide +kernel
theorem dX2_marksInAll_18 : decode cX2_marksInAll 18 = .ok (.aload_n 0, 1) := by decide +kernel
theorem dX2_marksInAll_19 : decode cX2_marksInAll 19 = .ok (.getfield 51, 3) := by decide +kernel
theorem dX2_marksInAll_22 : decode cX2_marksInAll 22 = .ok (.if_icmp .ge 26, 3) := by decide +kernel
theorem dX2_marksInAll_25 : decode cX2_marksInAll 25 = .ok (.aload_n 0, 1) := by decide +kernel
theorem dX2_marksInAll_26 : decode cX2_marksInAll 26 = .ok (.iload_n 3, 1) := by decide +kernel
theorem dX2_marksInAll_27 : decode cX2_marksInAll 27 = .ok (.invokevirtual 74, 3) := by decide +kernel
theorem dX2_marksInAll_30 : decode cX2_marksInAll 30 = .ok (.iload_n 1, 1) := by decide +kernel
theorem dX2_marksInAll_31 : decode cX2_marksInAll 31 = .ok (.if_icmp .ne 11, 3) := by decide +kernel
theorem dX2_marksInAll_34 : decode cX2_marksInAll 34 = .ok (.iload_n 2, 1) := by decide +kernel
theorem dX2_marksInAll_35 : decode cX2_marksInAll 35 = .ok (.aload_n 0, 1) := by decide +kernel
theorem dX2_marksInAll_36 : decode cX2_marksInAll 36 = .ok (.iload_n 3, 1) := by decide +kernel
theorem dX2_marksInAll_37 : decode cX2_marksInAll 37 = .ok (.invokevirtual 78, 3) := by decide +kernel
theorem dX2_marksInAll_40 : decode cX2_marksInAll 40 = .ok (.iand, 1) := by decide +kernel
theorem dX2_marksInAll_41 : decode cX2_marksInAll 41 = .ok (.istore_n 2, 1) := by decide +kernel
theorem dX2_marksInAll_42 : decode cX2_marksInAll 42 = .ok (.iinc 3 1, 3) := by decide +kernel
theorem dX2_marksInAll_45 : decode cX2_marksInAll 45 = .ok (.goto (-28), 3) := by decide +kernel
theorem dX2_marksInAll_48 : decode cX2_marksInAll 48 = .ok (.iload_n 2, 1) := by decide +kernel
theorem dX2_marksInAll_49 : decode cX2_marksInAll 49 = .ok (.ireturn, 1) := by decide +kernel
theorem dX2_marksInSome_0 : decode cX2_marksInSome 0 = .ok (.iconst 0, 1) := by decide +kernel
theorem dX2_marksInSome_1 : decode cX2_marksInSome 1 = .ok (.istore_n 2, 1) := by decide +kernel
theorem dX2_marksInSome_2 : decode cX2_marksInSome 2 = .ok (.iconst 0, 1) := by decide +kernel
theorem dX2_marksInSome_3 : decode cX2_marksInSome 3 = .ok (.istore_n 3, 1) := by decide +kernel
theorem dX2_marksInSome_4 : decode cX2_marksInSome 4 = .ok (.iload_n 3, 1) := by decide +kernel
theorem dX2_marksInSome_5 : decode cX2_marksInSome 5 = .ok (.aload_n 0, 1) := by decide +kernel
theorem dX2_marksInSome_6 : decode cX2_marksInSome 6 = .ok (.getfield 51, 3) := by decide +kernel
theorem dX2_marksInSome_9 : decode cX2_marksInSome 9 = .ok (.if_icmp .ge 26, 3) := by decide +kernel
theorem dX2_marksInSome_12 : decode cX2_marksInSome 12 = .ok (.aload_n 0, 1) := by decide +kernel
theorem dX2_marksInSome_13 : decode cX2_marksInSome 13 = .ok (.iload_n 3, 1) := by decide +kernel
theorem dX2_marksInSome_14 : decode cX2_marksInSome 14 = .ok (.invokevirtual 74, 3) := by decide +kernel
theorem dX2_marksInSome_17 : decode cX2_marksInSome 17 = .ok (.iload_n 1, 1) := by decide +kernel
theorem dX2_marksInSome_18 : decode cX2_marksInSome 18 = .ok (.if_icmp .ne 11, 3) := by decide +kernel
theorem dX2_marksInSome_21 : decode cX2_marksInSome 21 = .ok (.iload_n 2, 1) := by decide +kernel
theorem dX2_marksInSome_22 : decode cX2_marksInSome 22 = .ok (.aload_n 0, 1) := by decide +kernel
theorem dX2_marksInSome_23 : decode cX2_marksInSome 23 = .ok (.iload_n 3, 1) := by decide +kernel
theorem dX2_marksInSome_24 : decode cX2_marksInSome 24 = .ok (.invokevirtual 78, 3) := by decide +kernel
theorem dX2_marksInSome_27 : decode cX2_marksInSome 27 = .ok (.ior, 1) := by decide +kernel
theorem dX2_marksInSome_28 : decode cX2_marksInSome 28 = .ok (.istore_n 2, 1) := by decide +kernel
theorem dX2_marksInSome_29 : decode cX2_marksInSome 29 = .ok (.iinc 3 1, 3) := by decide +kernel
theorem dX2_marksInSome_32 : decode cX2_marksInSome 32 = .ok (.goto (-28), 3) := by decide +kernel
theorem dX2_marksInSome_35 : decode cX2_marksInSome 35 = .ok (.iload_n 2, 1) := by decide +kernel
theorem dX2_marksInSome_36 : decode cX2_marksInSome 36 = .ok (.ireturn, 1) := by decide +kernel
theorem dX2_linesReached_0 : decode cX2_linesReached 0 = .ok (.iconst 0, 1) := by decide +kernel
theorem dX2_linesReached_1 : decode cX2_linesReached 1 = .ok (.istore_n 1, 1) := by decide +kernel
theorem dX2_linesReached_2 : decode cX2_linesReached 2 = .ok (.iconst 0, 1) := by decide +kernel
theorem dX2_linesReached_3 : decode cX2_linesReached 3 = .ok (.istore_n 2, 1) := by decide +kernel
theorem dX2_linesReached_4 : decode cX2_linesReached 4 = .ok (.iload_n 2, 1) := by decide +kernel
theorem dX2_linesReached_5 : decode cX2_linesReached 5 = .ok (.aload_n 0, 1) := by decide +kernel
theorem dX2_linesReached_6 : decode cX2_linesReached 6 = .ok (.getfield 51, 3) := by decide +kernel
theorem dX2_linesReached_9 : decode cX2_linesReached 9 = .ok (.if_icmp .ge 19, 3) := by decide +kernel
theorem dX2_linesReached_12 : decode cX2_linesReached 12 = .ok (.iload_n 1, 1) := by decide +kernel
theorem dX2_linesReached_13 : decode cX2_linesReached 13 = .ok (.iconst 1, 1) := by decide +kernel
theorem dX2_linesReached_14 : decode cX2_linesReached 14 = .ok (.aload_n 0, 1) := by decide +kernel
theorem dX2_linesReached_15 : decode cX2_linesReached 15 = .ok (.iload_n 2, 1) := by decide +kernel
theorem dX2_linesReached_16 : decode cX2_linesReached 16 = .ok (.invokevirtual 74, 3) := by decide +kernel
theorem dX2_linesReached_19 : decode cX2_linesReached 19 = .ok (.ishl, 1) := by decide +kernel
theorem dX2_linesReached_20 : decode cX2_linesReached 20 = .ok (.ior, 1) := by decide +kernel
theorem dX2_linesReached_21 : decode cX2_linesReached 21 = .ok (.istore_n 1, 1) := by decide +kernel
theorem dX2_linesReached_22 : decode cX2_linesReached 22 = .ok (.iinc 2 1, 3) := by decide +kernel
theorem dX2_linesReached_25 : decode cX2_linesReached 25 = .ok (.goto (-21), 3) := by decide +kernel
theorem dX2_linesReached_28 : decode cX2_linesReached 28 = .ok (.iload_n 1, 1) := by decide +kernel
theorem dX2_linesReached_29 : decode cX2_linesReached 29 = .ok (.ireturn, 1) := by decide +kernel
theorem dX2_movesBy_0 : decode cX2_movesBy 0 = .ok (.iconst 0, 1) := by decide +kernel
theorem dX2_movesBy_1 : decode cX2_movesBy 1 = .ok (.istore_n 2, 1) := by decide +kernel
theorem dX2_movesBy_2 : decode cX2_movesBy 2 = .ok (.iconst 0, 1) := by decide +kernel
theorem dX2_movesBy_3 : decode cX2_movesBy 3 = .ok (.istore_n 3, 1) := by decide +kernel
theorem dX2_movesBy_4 : decode cX2_movesBy 4 = .ok (.iload_n 3, 1) := by decide +kernel
theorem dX2_movesBy_5 : decode cX2_movesBy 5 = .ok (.aload_n 0, 1) := by decide +kernel
theorem dX2_movesBy_6 : decode cX2_movesBy 6 = .ok (.getfield 55, 3) := by decide +kernel
theorem dX2_movesBy_9 : decode cX2_movesBy 9 = .ok (.if_icmp .ge 22, 3) := by decide +kernel
theorem dX2_movesBy_12 : decode cX2_movesBy 12 = .ok (.aload_n 0, 1) := by decide +kernel
theorem dX2_movesBy_13 : decode cX2_movesBy 13 = .ok (.getfield 36, 3) := by decide +kernel
theorem dX2_movesBy_16 : decode cX2_movesBy 16 = .ok (.iload_n 3, 1) := by decide +kernel
theorem dX2_movesBy_17 : decode cX2_movesBy 17 = .ok (.iaload, 1) := by decide +kernel
theorem dX2_movesBy_18 : decode cX2_movesBy 18 = .ok (.iload_n 1, 1) := by decide +kernel
theorem dX2_movesBy_19 : decode cX2_movesBy 19 = .ok (.if_icmp .ne 6, 3) := by decide +kernel
theorem dX2_movesBy_22 : decode cX2_movesBy 22 = .ok (.iinc 2 1, 3) := by decide +kernel
theorem dX2_movesBy_25 : decode cX2_movesBy 25 = .ok (.iinc 3 1, 3) := by decide +kernel
theorem dX2_movesBy_28 : decode cX2_movesBy 28 = .ok (.goto (-24), 3) := by decide +kernel
theorem dX2_movesBy_31 : decode cX2_movesBy 31 = .ok (.iload_n 2, 1) := by decide +kernel
theorem dX2_movesBy_32 : decode cX2_movesBy 32 = .ok (.ireturn, 1) := by decide +kernel
theorem dX2_mostMovesOfAState_0 : decode cX2_mostMovesOfAState 0 = .ok (.iconst 0, 1) := by decide +kernel
theorem dX2_mostMovesOfAState_1 : decode cX2_mostMovesOfAState 1 = .ok (.istore_n 1, 1) := by decide +kernel
theorem dX2_mostMovesOfAState_2 : decode cX2_mostMovesOfAState 2 = .ok (.iconst 0, 1) := by decide +kernel
theorem dX2_mostMovesOfAState_3 : decode cX2_mostMovesOfAState 3 = .ok (.istore_n 2, 1) := by decide +kernel
theorem dX2_mostMovesOfAState_4 : decode cX2_mostMovesOfAState 4 = .ok (.iload_n 2, 1) := by decide +kernel
theorem dX2_mostMovesOfAState_5 : decode cX2_mostMovesOfAState 5 = .ok (.aload_n 0, 1) := by decide +kernel
theorem dX2_mostMovesOfAState_6 : decode cX2_mostMovesOfAState 6 = .ok (.getfield 51, 3) := by decide +kernel
theorem dX2_mostMovesOfAState_9 : decode cX2_mostMovesOfAState 9 = .ok (.if_icmp .ge 19, 3) := by decide +kernel
theorem dX2_mostMovesOfAState_12 : decode cX2_mostMovesOfAState 12 = .ok (.iload_n 1, 1) := by decide +kernel
theorem dX2_mostMovesOfAState_13 : decode cX2_mostMovesOfAState 13 = .ok (.aload_n 0, 1) := by decide +kernel
theorem dX2_mostMovesOfAState_14 : decode cX2_mostMovesOfAState 14 = .ok (.iload_n 2, 1) := by decide +kernel
theorem dX2_mostMovesOfAState_15 : decode cX2_mostMovesOfAState 15 = .ok (.invokevirtual 95, 3) := by decide +kernel
theorem dX2_mostMovesOfAState_18 : decode cX2_mostMovesOfAState 18 = .ok (.invokestatic 98, 3) := by decide +kernel
theorem dX2_mostMovesOfAState_21 : decode cX2_mostMovesOfAState 21 = .ok (.istore_n 1, 1) := by decide +kernel
theorem dX2_mostMovesOfAState_22 : decode cX2_mostMovesOfAState 22 = .ok (.iinc 2 1, 3) := by decide +kernel
theorem dX2_mostMovesOfAState_25 : decode cX2_mostMovesOfAState 25 = .ok (.goto (-21), 3) := by decide +kernel
theorem dX2_mostMovesOfAState_28 : decode cX2_mostMovesOfAState 28 = .ok (.iload_n 1, 1) := by decide +kernel
theorem dX2_mostMovesOfAState_29 : decode cX2_mostMovesOfAState 29 = .ok (.ireturn, 1) := by decide +kernel
theorem dX2_greatestDepth_0 : decode cX2_greatestDepth 0 = .ok (.aload_n 0, 1) := by decide +kernel
theorem dX2_greatestDepth_1 : decode cX2_greatestDepth 1 = .ok (.getfield 51, 3) := by decide +kernel
theorem dX2_greatestDepth_4 : decode cX2_greatestDepth 4 = .ok (.ifCond .ne 7, 3) := by decide +kernel
theorem dX2_greatestDepth_7 : decode cX2_greatestDepth 7 = .ok (.iconst 0, 1) := by decide +kernel
theorem dX2_greatestDepth_8 : decode cX2_greatestDepth 8 = .ok (.goto 14, 3) := by decide +kernel
theorem dX2_greatestDepth_11 : decode cX2_greatestDepth 11 = .ok (.aload_n 0, 1) := by decide +kernel
theorem dX2_greatestDepth_12 : decode cX2_greatestDepth 12 = .ok (.getfield 18, 3) := by decide +kernel
theorem dX2_greatestDepth_15 : decode cX2_greatestDepth 15 = .ok (.aload_n 0, 1) := by decide +kernel
theorem dX2_greatestDepth_16 : decode cX2_greatestDepth 16 = .ok (.getfield 51, 3) := by decide +kernel
theorem dX2_greatestDepth_19 : decode cX2_greatestDepth 19 = .ok (.iconst 1, 1) := by decide +kernel
theorem dX2_greatestDepth_20 : decode cX2_greatestDepth 20 = .ok (.isub, 1) := by decide +kernel
theorem dX2_greatestDepth_21 : decode cX2_greatestDepth 21 = .ok (.iaload, 1) := by decide +kernel
theorem dX2_greatestDepth_22 : decode cX2_greatestDepth 22 = .ok (.ireturn, 1) := by decide +kernel
theorem dX2_answerOfRow_0 : decode cX2_answerOfRow 0 = .ok (.iload_n 1, 1) := by decide +kernel
theorem dX2_answerOfRow_1 : decode cX2_answerOfRow 1 = .ok (.iconst (-1), 1) := by decide +kernel
theorem dX2_answerOfRow_2 : decode cX2_answerOfRow 2 = .ok (.if_icmp .eq 13, 3) := by decide +kernel
theorem dX2_answerOfRow_5 : decode cX2_answerOfRow 5 = .ok (.iload_n 2, 1) := by decide +kernel
theorem dX2_answerOfRow_6 : decode cX2_answerOfRow 6 = .ok (.aload_n 0, 1) := by decide +kernel
theorem dX2_answerOfRow_7 : decode cX2_answerOfRow 7 = .ok (.getfield 18, 3) := by decide +kernel
theorem dX2_answerOfRow_10 : decode cX2_answerOfRow 10 = .ok (.iload_n 1, 1) := by decide +kernel
theorem dX2_answerOfRow_11 : decode cX2_answerOfRow 11 = .ok (.iaload, 1) := by decide +kernel
theorem dX2_answerOfRow_12 : decode cX2_answerOfRow 12 = .ok (.if_icmp .lt 5, 3) := by decide +kernel
theorem dX2_answerOfRow_15 : decode cX2_answerOfRow 15 = .ok (.iconst (-1), 1) := by decide +kernel
theorem dX2_answerOfRow_16 : decode cX2_answerOfRow 16 = .ok (.ireturn, 1) := by decide +kernel
theorem dX2_answerOfRow_17 : decode cX2_answerOfRow 17 = .ok (.iload_n 1, 1) := by decide +kernel
theorem dX2_answerOfRow_18 : decode cX2_answerOfRow 18 = .ok (.istore_n 3, 1) := by decide +kernel
theorem dX2_answerOfRow_19 : decode cX2_answerOfRow 19 = .ok (.aload_n 0, 1) := by decide +kernel
theorem dX2_answerOfRow_20 : decode cX2_answerOfRow 20 = .ok (.getfield 18, 3) := by decide +kernel
theorem dX2_answerOfRow_23 : decode cX2_answerOfRow 23 = .ok (.iload_n 1, 1) := by decide +kernel
theorem dX2_answerOfRow_24 : decode cX2_answerOfRow 24 = .ok (.iaload, 1) := by decide +kernel
theorem dX2_answerOfRow_25 : decode cX2_answerOfRow 25 = .ok (.iconst 1, 1) := by decide +kernel
theorem dX2_answerOfRow_26 : decode cX2_answerOfRow 26 = .ok (.isub, 1) := by decide +kernel
theorem dX2_answerOfRow_27 : decode cX2_answerOfRow 27 = .ok (.istore 4, 2) := by decide +kernel
theorem dX2_answerOfRow_29 : decode cX2_answerOfRow 29 = .ok (.iload 4, 2) := by decide +kernel
theorem dX2_answerOfRow_31 : decode cX2_answerOfRow 31 = .ok (.iload_n 2, 1) := by decide +kernel
theorem dX2_answerOfRow_32 : decode cX2_answerOfRow 32 = .ok (.if_icmp .le 21, 3) := by decide +kernel
theorem dX2_answerOfRow_35 : decode cX2_answerOfRow 35 = .ok (.aload_n 0, 1) := by decide +kernel
theorem dX2_answerOfRow_36 : decode cX2_answerOfRow 36 = .ok (.getfield 30, 3) := by decide +kernel
theorem dX2_answerOfRow_39 : decode cX2_answerOfRow 39 = .ok (.aload_n 0, 1) := by decide +kernel
theorem dX2_answerOfRow_40 : decode cX2_answerOfRow 40 = .ok (.getfield 21, 3) := by decide +kernel
theorem dX2_answerOfRow_43 : decode cX2_answerOfRow 43 = .ok (.iload_n 3, 1) := by decide +kernel
theorem dX2_answerOfRow_44 : decode cX2_answerOfRow 44 = .ok (.iaload, 1) := by decide +kernel
theorem dX2_answerOfRow_45 : decode cX2_answerOfRow 45 = .ok (.iaload, 1) := by decide +kernel
theorem dX2_answerOfRow_46 : decode cX2_answerOfRow 46 = .ok (.istore_n 3, 1) := by decide +kernel
theorem dX2_answerOfRow_47 : decode cX2_answerOfRow 47 = .ok (.iinc 4 (-1), 3) := by decide +kernel
theorem dX2_answerOfRow_50 : decode cX2_answerOfRow 50 = .ok (.goto (-21), 3) := by decide +kernel
theorem dX2_answerOfRow_53 : decode cX2_answerOfRow 53 = .ok (.aload_n 0, 1) := by decide +kernel
theorem dX2_answerOfRow_54 : decode cX2_answerOfRow 54 = .ok (.getfield 36, 3) := by decide +kernel
theorem dX2_answerOfRow_57 : decode cX2_answerOfRow 57 = .ok (.aload_n 0, 1) := by decide +kernel
theorem dX2_answerOfRow_58 : decode cX2_answerOfRow 58 = .ok (.getfield 21, 3) := by decide +kernel
theorem dX2_answerOfRow_61 : decode cX2_answerOfRow 61 = .ok (.iload_n 3, 1) := by decide +kernel
theorem dX2_answerOfRow_62 : decode cX2_answerOfRow 62 = .ok (.iaload, 1) := by decide +kernel
theorem dX2_answerOfRow_63 : decode cX2_answerOfRow 63 = .ok (.iaload, 1) := by decide +kernel
theorem dX2_answerOfRow_64 : decode cX2_answerOfRow 64 = .ok (.ireturn, 1) := by decide +kernel
theorem dX2_answersOfRow_0 : decode cX2_answersOfRow 0 = .ok (.iconst 0, 1) := by decide +kernel
theorem dX2_answersOfRow_1 : decode cX2_answersOfRow 1 = .ok (.istore_n 2, 1) := by decide +kernel
theorem dX2_answersOfRow_2 : decode cX2_answersOfRow 2 = .ok (.iload_n 1, 1) := by decide +kernel
theorem dX2_answersOfRow_3 : decode cX2_answersOfRow 3 = .ok (.iconst (-1), 1) := by decide +kernel
theorem dX2_answersOfRow_4 : decode cX2_answersOfRow 4 = .ok (.if_icmp .eq 52, 3) := by decide +kernel
theorem dX2_answersOfRow_7 : decode cX2_answersOfRow 7 = .ok (.iload_n 1, 1) := by decide +kernel
theorem dX2_answersOfRow_8 : decode cX2_answersOfRow 8 = .ok (.istore_n 3, 1) := by decide +kernel
theorem dX2_answersOfRow_9 : decode cX2_answersOfRow 9 = .ok (.aload_n 0, 1) := by decide +kernel
theorem dX2_answersOfRow_10 : decode cX2_answersOfRow 10 = .ok (.getfield 18, 3) := by decide +kernel
theorem dX2_answersOfRow_13 : decode cX2_answersOfRow 13 = .ok (.iload_n 1, 1) := by decide +kernel
theorem dX2_answersOfRow_14 : decode cX2_answersOfRow 14 = .ok (.iaload, 1) := by decide +kernel
theorem dX2_answersOfRow_15 : decode cX2_answersOfRow 15 = .ok (.istore 4, 2) := by decide +kernel
theorem dX2_answersOfRow_17 : decode cX2_answersOfRow 17 = .ok (.iload 4, 2) := by decide +kernel
theorem dX2_answersOfRow_19 : decode cX2_answersOfRow 19 = .ok (.ifCond .le 37, 3) := by decide +kernel
theorem dX2_answersOfRow_22 : decode cX2_answersOfRow 22 = .ok (.iload_n 2, 1) := by decide +kernel
theorem dX2_answersOfRow_23 : decode cX2_answersOfRow 23 = .ok (.iconst 1, 1) := by decide +kernel
theorem dX2_answersOfRow_24 : decode cX2_answersOfRow 24 = .ok (.aload_n 0, 1) := by decide +kernel
theorem dX2_answersOfRow_25 : decode cX2_answersOfRow 25 = .ok (.getfield 36, 3) := by decide +kernel
theorem dX2_answersOfRow_28 : decode cX2_answersOfRow 28 = .ok (.aload_n 0, 1) := by decide +kernel
theorem dX2_answersOfRow_29 : decode cX2_answersOfRow 29 = .ok (.getfield 21, 3) := by decide +kernel
theorem dX2_answersOfRow_32 : decode cX2_answersOfRow 32 = .ok (.iload_n 3, 1) := by decide +kernel
theorem dX2_answersOfRow_33 : decode cX2_answersOfRow 33 = .ok (.iaload, 1) := by decide +kernel
theorem dX2_answersOfRow_34 : decode cX2_answersOfRow 34 = .ok (.iaload, 1) := by decide +kernel
theorem dX2_answersOfRow_35 : decode cX2_answersOfRow 35 = .ok (.ishl, 1) := by decide +kernel
theorem dX2_answersOfRow_36 : decode cX2_answersOfRow 36 = .ok (.ior, 1) := by decide +kernel
theorem dX2_answersOfRow_37 : decode cX2_answersOfRow 37 = .ok (.istore_n 2, 1) := by decide +kernel
theorem dX2_answersOfRow_38 : decode cX2_answersOfRow 38 = .ok (.aload_n 0, 1) := by decide +kernel
theorem dX2_answersOfRow_39 : decode cX2_answersOfRow 39 = .ok (.getfield 30, 3) := by decide +kernel
theorem dX2_answersOfRow_42 : decode cX2_answersOfRow 42 = .ok (.aload_n 0, 1) := by decide +kernel
theorem dX2_answersOfRow_43 : decode cX2_answersOfRow 43 = .ok (.getfield 21, 3) := by decide +kernel
theorem dX2_answersOfRow_46 : decode cX2_answersOfRow 46 = .ok (.iload_n 3, 1) := by decide +kernel
theorem dX2_answersOfRow_47 : decode cX2_answersOfRow 47 = .ok (.iaload, 1) := by decide +kernel
theorem dX2_answersOfRow_48 : decode cX2_answersOfRow 48 = .ok (.iaload, 1) := by decide +kernel
theorem dX2_answersOfRow_49 : decode cX2_answersOfRow 49 = .ok (.istore_n 3, 1) := by decide +kernel
theorem dX2_answersOfRow_50 : decode cX2_answersOfRow 50 = .ok (.iinc 4 (-1), 3) := by decide +kernel
theorem dX2_answersOfRow_53 : decode cX2_answersOfRow 53 = .ok (.goto (-36), 3) := by decide +kernel
theorem dX2_answersOfRow_56 : decode cX2_answersOfRow 56 = .ok (.iload_n 2, 1) := by decide +kernel
theorem dX2_answersOfRow_57 : decode cX2_answersOfRow 57 = .ok (.ireturn, 1) := by decide +kernel
theorem dX3_init_0 : decode cX3_init 0 = .ok (.aload_n 0, 1) := by decide +kernel
theorem dX3_init_1 : decode cX3_init 1 = .ok (.invokespecial 3, 3) := by decide +kernel
theorem dX3_init_4 : decode cX3_init 4 = .ok (.aload_n 0, 1) := by decide +kernel
theorem dX3_init_5 : decode cX3_init 5 = .ok (.sipush 1024, 3) := by decide +kernel
theorem dX3_init_8 : decode cX3_init 8 = .ok (.newarray .boolean, 2) := by decide +kernel
theorem dX3_init_10 : decode cX3_init 10 = .ok (.putfield 9, 3) := by decide +kernel
theorem dX3_init_13 : decode cX3_init 13 = .ok (.aload_n 0, 1) := by decide +kernel
theorem dX3_init_14 : decode cX3_init 14 = .ok (.sipush 1024, 3) := by decide +kernel
theorem dX3_init_17 : decode cX3_init 17 = .ok (.newarray .int, 2) := by decide +kernel
theorem dX3_init_19 : decode cX3_init 19 = .ok (.putfield 15, 3) := by decide +kernel
theorem dX3_init_22 : decode cX3_init 22 = .ok (.return_, 1) := by decide +kernel
theorem dX3_learn_0 : decode cX3_learn 0 = .ok (.aload_n 0, 1) := by decide +kernel
theorem dX3_learn_1 : decode cX3_learn 1 = .ok (.iconst 0, 1) := by decide +kernel
theorem dX3_learn_2 : decode cX3_learn 2 = .ok (.putfield 19, 3) := by decide +kernel
theorem dX3_learn_5 : decode cX3_learn 5 = .ok (.iconst 0, 1) := by decide +kernel
theorem dX3_learn_6 : decode cX3_learn 6 = .ok (.istore_n 3, 1) := by decide +kernel
theorem dX3_learn_7 : decode cX3_learn 7 = .ok (.iload_n 3, 1) := by decide +kernel
theorem dX3_learn_8 : decode cX3_learn 8 = .ok (.aload_n 1, 1) := by decide +kernel
theorem dX3_learn_9 : decode cX3_learn 9 = .ok (.getfield 23, 3) := by decide +kernel
theorem dX3_learn_12 : decode cX3_learn 12 = .ok (.if_icmp .ge 34, 3) := by decide +kernel
theorem dX3_learn_15 : decode cX3_learn 15 = .ok (.aload_n 0, 1) := by decide +kernel
theorem dX3_learn_16 : decode cX3_learn 16 = .ok (.getfield 9, 3) := by decide +kernel
theorem dX3_learn_19 : decode cX3_learn 19 = .ok (.iload_n 3, 1) := by decide +kernel
theorem dX3_learn_20 : decode cX3_learn 20 = .ok (.iconst 0, 1) := by decide +kernel
theorem dX3_learn_21 : decode cX3_learn 21 = .ok (.bastore, 1) := by decide +kernel
theorem dX3_learn_22 : decode cX3_learn 22 = .ok (.iload_n 2, 1) := by decide +kernel
theorem dX3_learn_23 : decode cX3_learn 23 = .ok (.aload_n 1, 1) := by decide +kernel
theorem dX3_learn_24 : decode cX3_learn 24 = .ok (.iload_n 3, 1) := by decide +kernel
theorem dX3_learn_25 : decode cX3_learn 25 = .ok (.invokevirtual 28, 3) := by decide +kernel
theorem dX3_learn_28 : decode cX3_learn 28 = .ok (.invokestatic 32, 3) := by decide +kernel
theorem dX3_learn_31 : decode cX3_learn 31 = .ok (.iconst 1, 1) := by decide +kernel
theorem dX3_learn_32 : decode cX3_learn 32 = .ok (.if_icmp .ne 8, 3) := by decide +kernel
theorem dX3_learn_35 : decode cX3_learn 35 = .ok (.aload_n 0, 1) := by decide +kernel
theorem dX3_learn_36 : decode cX3_learn 36 = .ok (.iload_n 3, 1) := by decide +kernel
theorem dX3_learn_37 : decode cX3_learn 37 = .ok (.invokevirtual 36, 3) := by decide +kernel
theorem dX3_learn_40 : decode cX3_learn 40 = .ok (.iinc 3 1, 3) := by decide +kernel
theorem dX3_learn_43 : decode cX3_learn 43 = .ok (.goto (-36), 3) := by decide +kernel
theorem dX3_learn_46 : decode cX3_learn 46 = .ok (.iconst 0, 1) := by decide +kernel
theorem dX3_learn_47 : decode cX3_learn 47 = .ok (.istore_n 3, 1) := by decide +kernel
theorem dX3_learn_48 : decode cX3_learn 48 = .ok (.iload_n 3, 1) := by decide +kernel
theorem dX3_learn_49 : decode cX3_learn 49 = .ok (.sipush 1024, 3) := by decide +kernel
theorem dX3_learn_52 : decode cX3_learn 52 = .ok (.if_icmp .ge 65, 3) := by decide +kernel
theorem dX3_learn_55 : decode cX3_learn 55 = .ok (.iload_n 3, 1) := by decide +kernel
theorem dX3_learn_56 : decode cX3_learn 56 = .ok (.aload_n 0, 1) := by decide +kernel
theorem dX3_learn_57 : decode cX3_learn 57 = .ok (.getfield 19, 3) := by decide +kernel
theorem dX3_learn_60 : decode cX3_learn 60 = .ok (.if_icmp .ge 57, 3) := by decide +kernel
theorem dX3_learn_63 : decode cX3_learn 63 = .ok (.aload_n 0, 1) := by decide +kernel
theorem dX3_learn_64 : decode cX3_learn 64 = .ok (.getfield 15, 3) := by decide +kernel
theorem dX3_learn_67 : decode cX3_learn 67 = .ok (.iload_n 3, 1) := by decide +kernel
theorem dX3_learn_68 : decode cX3_learn 68 = .ok (.iaload, 1) := by decide +kernel
theorem dX3_learn_69 : decode cX3_learn 69 = .ok (.istore 4, 2) := by decide +kernel
theorem dX3_learn_71 : decode cX3_learn 71 = .ok (.aload_n 1, 1) := by decide +kernel
theorem dX3_learn_72 : decode cX3_learn 72 = .ok (.getfield 40, 3) := by decide +kernel
theorem dX3_learn_75 : decode cX3_learn 75 = .ok (.iload 4, 2) := by decide +kernel
theorem dX3_learn_77 : decode cX3_learn 77 = .ok (.iaload, 1) := by decide +kernel
theorem dX3_learn_78 : decode cX3_learn 78 = .ok (.istore 5, 2) := by decide +kernel
theorem dX3_learn_80 : decode cX3_learn 80 = .ok (.iload 5, 2) := by decide +kernel
theorem dX3_learn_82 : decode cX3_learn 82 = .ok (.aload_n 1, 1) := by decide +kernel
theorem dX3_learn_83 : decode cX3_learn 83 = .ok (.getfield 40, 3) := by decide +kernel
theorem dX3_learn_86 : decode cX3_learn 86 = .ok (.iload 4, 2) := by decide +kernel
theorem dX3_learn_88 : decode cX3_learn 88 = .ok (.iconst 1, 1) := by decide +kernel
theorem dX3_learn_89 : decode cX3_learn 89 = .ok (.iadd, 1) := by decide +kernel
theorem dX3_learn_90 : decode cX3_learn 90 = .ok (.iaload, 1) := by decide +kernel
theorem dX3_learn_91 : decode cX3_learn 91 = .ok (.if_icmp .ge 20, 3) := by decide +kernel
theorem dX3_learn_94 : decode cX3_learn 94 = .ok (.aload_n 0, 1) := by decide +kernel
theorem dX3_learn_95 : decode cX3_learn 95 = .ok (.aload_n 1, 1) := by decide +kernel
theorem dX3_learn_96 : decode cX3_learn 96 = .ok (.getfield 43, 3) := by decide +kernel
theorem dX3_learn_99 : decode cX3_learn 99 = .ok (.iload 5, 2) := by decide +kernel
theorem dX3_learn_101 : decode cX3_learn 101 = .ok (.iaload, 1) := by decide +kernel
theorem dX3_learn_102 : decode cX3_learn 102 = .ok (.invokevirtual 36, 3) := by decide +kernel
theorem dX3_learn_105 : decode cX3_learn 105 = .ok (.iinc 5 1, 3) := by decide +kernel
theorem dX3_learn_108 : decode cX3_learn 108 = .ok (.goto (-28), 3) := by decide +kernel
theorem dX3_learn_111 : decode cX3_learn 111 = .ok (.iinc 3 1, 3) := by decide +kernel
theorem dX3_learn_114 : decode cX3_learn 114 = .ok (.goto (-66), 3) := by decide +kernel
theorem dX3_learn_117 : decode cX3_learn 117 = .ok (.return_, 1) := by decide +kernel
theorem dX3_admit_0 : decode cX3_admit 0 = .ok (.aload_n 0, 1) := by decide +kernel
theorem dX3_admit_1 : decode cX3_admit 1 = .ok (.getfield 9, 3) := by decide +kernel
theorem dX3_admit_4 : decode cX3_admit 4 = .ok (.iload_n 1, 1) := by decide +kernel
theorem dX3_admit_5 : decode cX3_admit 5 = .ok (.baload, 1) := by decide +kernel
theorem dX3_admit_6 : decode cX3_admit 6 = .ok (.ifCond .ne 30, 3) := by decide +kernel
theorem dX3_admit_9 : decode cX3_admit 9 = .ok (.aload_n 0, 1) := by decide +kernel
theorem dX3_admit_10 : decode cX3_admit 10 = .ok (.getfield 9, 3) := by decide +kernel
theorem dX3_admit_13 : decode cX3_admit 13 = .ok (.iload_n 1, 1) := by decide +kernel
theorem dX3_admit_14 : decode cX3_admit 14 = .ok (.iconst 1, 1) := by decide +kernel
theorem dX3_admit_15 : decode cX3_admit 15 = .ok (.bastore, 1) := by decide +kernel
theorem dX3_admit_16 : decode cX3_admit 16 = .ok (.aload_n 0, 1) := by decide +kernel
theorem dX3_admit_17 : decode cX3_admit 17 = .ok (.getfield 15, 3) := by decide +kernel
theorem dX3_admit_20 : decode cX3_admit 20 = .ok (.aload_n 0, 1) := by decide +kernel
theorem dX3_admit_21 : decode cX3_admit 21 = .ok (.getfield 19, 3) := by decide +kernel
theorem dX3_admit_24 : decode cX3_admit 24 = .ok (.iload_n 1, 1) := by decide +kernel
theorem dX3_admit_25 : decode cX3_admit 25 = .ok (.iastore, 1) := by decide +kernel
theorem dX3_admit_26 : decode cX3_admit 26 = .ok (.aload_n 0, 1) := by decide +kernel
theorem dX3_admit_27 : decode cX3_admit 27 = .ok (.dup, 1) := by decide +kernel
theorem dX3_admit_28 : decode cX3_admit 28 = .ok (.getfield 19, 3) := by decide +kernel
theorem dX3_admit_31 : decode cX3_admit 31 = .ok (.iconst 1, 1) := by decide +kernel
theorem dX3_admit_32 : decode cX3_admit 32 = .ok (.iadd, 1) := by decide +kernel
theorem dX3_admit_33 : decode cX3_admit 33 = .ok (.putfield 19, 3) := by decide +kernel
theorem dX3_admit_36 : decode cX3_admit 36 = .ok (.return_, 1) := by decide +kernel
theorem dX4_init_0 : decode cX4_init 0 = .ok (.aload_n 0, 1) := by decide +kernel
theorem dX4_init_1 : decode cX4_init 1 = .ok (.invokespecial 3, 3) := by decide +kernel
theorem dX4_init_4 : decode cX4_init 4 = .ok (.aload_n 0, 1) := by decide +kernel
theorem dX4_init_5 : decode cX4_init 5 = .ok (.sipush 1024, 3) := by decide +kernel
theorem dX4_init_8 : decode cX4_init 8 = .ok (.newarray .boolean, 2) := by decide +kernel
theorem dX4_init_10 : decode cX4_init 10 = .ok (.putfield 9, 3) := by decide +kernel
theorem dX4_init_13 : decode cX4_init 13 = .ok (.aload_n 0, 1) := by decide +kernel
theorem dX4_init_14 : decode cX4_init 14 = .ok (.sipush 1024, 3) := by decide +kernel
theorem dX4_init_17 : decode cX4_init 17 = .ok (.newarray .boolean, 2) := by decide +kernel
theorem dX4_init_19 : decode cX4_init 19 = .ok (.putfield 15, 3) := by decide +kernel
theorem dX4_init_22 : decode cX4_init 22 = .ok (.aload_n 0, 1) := by decide +kernel
theorem dX4_init_23 : decode cX4_init 23 = .ok (.sipush 1024, 3) := by decide +kernel
theorem dX4_init_26 : decode cX4_init 26 = .ok (.newarray .int, 2) := by decide +kernel
theorem dX4_init_28 : decode cX4_init 28 = .ok (.putfield 18, 3) := by decide +kernel
theorem dX4_init_31 : decode cX4_init 31 = .ok (.aload_n 0, 1) := by decide +kernel
theorem dX4_init_32 : decode cX4_init 32 = .ok (.sipush 1024, 3) := by decide +kernel
theorem dX4_init_35 : decode cX4_init 35 = .ok (.newarray .int, 2) := by decide +kernel
theorem dX4_init_37 : decode cX4_init 37 = .ok (.putfield 22, 3) := by decide +kernel
theorem dX4_init_40 : decode cX4_init 40 = .ok (.aload_n 0, 1) := by decide +kernel
theorem dX4_init_41 : decode cX4_init 41 = .ok (.sipush 1024, 3) := by decide +kernel
theorem dX4_init_44 : decode cX4_init 44 = .ok (.newarray .int, 2) := by decide +kernel
theorem dX4_init_46 : decode cX4_init 46 = .ok (.putfield 25, 3) := by decide +kernel
theorem dX4_init_49 : decode cX4_init 49 = .ok (.aload_n 0, 1) := by decide +kernel
theorem dX4_init_50 : decode cX4_init 50 = .ok (.sipush 1024, 3) := by decide +kernel
theorem dX4_init_53 : decode cX4_init 53 = .ok (.newarray .int, 2) := by decide +kernel
theorem dX4_init_55 : decode cX4_init 55 = .ok (.putfield 28, 3) := by decide +kernel
theorem dX4_init_58 : decode cX4_init 58 = .ok (.return_, 1) := by decide +kernel
theorem dX4_learn_0 : decode cX4_learn 0 = .ok (.aload_n 0, 1) := by decide +kernel
theorem dX4_learn_1 : decode cX4_learn 1 = .ok (.aload_n 1, 1) := by decide +kernel
theorem dX4_learn_2 : decode cX4_learn 2 = .ok (.invokevirtual 31, 3) := by decide +kernel
theorem dX4_learn_5 : decode cX4_learn 5 = .ok (.aload_n 0, 1) := by decide +kernel
theorem dX4_learn_6 : decode cX4_learn 6 = .ok (.getfield 15, 3) := by decide +kernel
theorem dX4_learn_9 : decode cX4_learn 9 = .ok (.iconst 0, 1) := by decide +kernel
theorem dX4_learn_10 : decode cX4_learn 10 = .ok (.invokestatic 35, 3) := by decide +kernel
theorem dX4_learn_13 : decode cX4_learn 13 = .ok (.aload_n 0, 1) := by decide +kernel
theorem dX4_learn_14 : decode cX4_learn 14 = .ok (.getfield 9, 3) := by decide +kernel
theorem dX4_learn_17 : decode cX4_learn 17 = .ok (.iconst 0, 1) := by decide +kernel
theorem dX4_learn_18 : decode cX4_learn 18 = .ok (.invokestatic 35, 3) := by decide +kernel
theorem dX4_learn_21 : decode cX4_learn 21 = .ok (.aload_n 0, 1) := by decide +kernel
theorem dX4_learn_22 : decode cX4_learn 22 = .ok (.iconst 0, 1) := by decide +kernel
theorem dX4_learn_23 : decode cX4_learn 23 = .ok (.putfield 41, 3) := by decide +kernel
theorem dX4_learn_26 : decode cX4_learn 26 = .ok (.aload_n 1, 1) := by decide +kernel
theorem dX4_learn_27 : decode cX4_learn 27 = .ok (.getfield 45, 3) := by decide +kernel
theorem dX4_learn_30 : decode cX4_learn 30 = .ok (.iconst 1, 1) := by decide +kernel
theorem dX4_learn_31 : decode cX4_learn 31 = .ok (.isub, 1) := by decide +kernel
theorem dX4_learn_32 : decode cX4_learn 32 = .ok (.istore_n 2, 1) := by decide +kernel
theorem dX4_learn_33 : decode cX4_learn 33 = .ok (.iload_n 2, 1) := by decide +kernel
theorem dX4_learn_34 : decode cX4_learn 34 = .ok (.ifCond .lt 20, 3) := by decide +kernel
theorem dX4_learn_37 : decode cX4_learn 37 = .ok (.aload_n 0, 1) := by decide +kernel
theorem dX4_learn_38 : decode cX4_learn 38 = .ok (.aload_n 1, 1) := by decide +kernel
theorem dX4_learn_39 : decode cX4_learn 39 = .ok (.aload_n 0, 1) := by decide +kernel
theorem dX4_learn_40 : decode cX4_learn 40 = .ok (.getfield 25, 3) := by decide +kernel
theorem dX4_learn_43 : decode cX4_learn 43 = .ok (.iload_n 2, 1) := by decide +kernel
theorem dX4_learn_44 : decode cX4_learn 44 = .ok (.iaload, 1) := by decide +kernel
theorem dX4_learn_45 : decode cX4_learn 45 = .ok (.invokevirtual 50, 3) := by decide +kernel
theorem dX4_learn_48 : decode cX4_learn 48 = .ok (.iinc 2 (-1), 3) := by decide +kernel
theorem dX4_learn_51 : decode cX4_learn 51 = .ok (.goto (-18), 3) := by decide +kernel
theorem dX4_learn_54 : decode cX4_learn 54 = .ok (.iconst 0, 1) := by decide +kernel
theorem dX4_learn_55 : decode cX4_learn 55 = .ok (.istore_n 2, 1) := by decide +kernel
theorem dX4_learn_56 : decode cX4_learn 56 = .ok (.iload_n 2, 1) := by decide +kernel
theorem dX4_learn_57 : decode cX4_learn 57 = .ok (.aload_n 1, 1) := by decide +kernel
theorem dX4_learn_58 : decode cX4_learn 58 = .ok (.getfield 54, 3) := by decide +kernel
theorem dX4_learn_61 : decode cX4_learn 61 = .ok (.if_icmp .ge 36, 3) := by decide +kernel
theorem dX4_learn_64 : decode cX4_learn 64 = .ok (.aload_n 1, 1) := by decide +kernel
theorem dX4_learn_65 : decode cX4_learn 65 = .ok (.getfield 57, 3) := by decide +kernel
theorem dX4_learn_68 : decode cX4_learn 68 = .ok (.iload_n 2, 1) := by decide +kernel
theorem dX4_learn_69 : decode cX4_learn 69 = .ok (.iaload, 1) := by decide +kernel
theorem dX4_learn_70 : decode cX4_learn 70 = .ok (.aload_n 1, 1) := by decide +kernel
theorem dX4_learn_71 : decode cX4_learn 71 = .ok (.getfield 60, 3) := by decide +kernel
theorem dX4_learn_74 : decode cX4_learn 74 = .ok (.iload_n 2, 1) := by decide +kernel
theorem dX4_learn_75 : decode cX4_learn 75 = .ok (.iaload, 1) := by decide +kernel
theorem dX4_learn_76 : decode cX4_learn 76 = .ok (.if_icmp .ne 15, 3) := by decide +kernel
theorem dX4_learn_79 : decode cX4_learn 79 = .ok (.aload_n 0, 1) := by decide +kernel
theorem dX4_learn_80 : decode cX4_learn 80 = .ok (.getfield 9, 3) := by decide +kernel
theorem dX4_learn_83 : decode cX4_learn 83 = .ok (.aload_n 1, 1) := by decide +kernel
theorem dX4_learn_84 : decode cX4_learn 84 = .ok (.getfield 57, 3) := by decide +kernel
theorem dX4_learn_87 : decode cX4_learn 87 = .ok (.iload_n 2, 1) := by decide +kernel
theorem dX4_learn_88 : decode cX4_learn 88 = .ok (.iaload, 1) := by decide +kernel
theorem dX4_learn_89 : decode cX4_learn 89 = .ok (.iconst 1, 1) := by decide +kernel
theorem dX4_learn_90 : decode cX4_learn 90 = .ok (.bastore, 1) := by decide +kernel
theorem dX4_learn_91 : decode cX4_learn 91 = .ok (.iinc 2 1, 3) := by decide +kernel
theorem dX4_learn_94 : decode cX4_learn 94 = .ok (.goto (-38), 3) := by decide +kernel
theorem dX4_learn_97 : decode cX4_learn 97 = .ok (.return_, 1) := by decide +kernel
theorem dX4_finishAll_0 : decode cX4_finishAll 0 = .ok (.aload_n 0, 1) := by decide +kernel
theorem dX4_finishAll_1 : decode cX4_finishAll 1 = .ok (.getfield 15, 3) := by decide +kernel
theorem dX4_finishAll_4 : decode cX4_finishAll 4 = .ok (.iconst 0, 1) := by decide +kernel
theorem dX4_finishAll_5 : decode cX4_finishAll 5 = .ok (.invokestatic 35, 3) := by decide +kernel
theorem dX4_finishAll_8 : decode cX4_finishAll 8 = .ok (.aload_n 0, 1) := by decide +kernel
theorem dX4_finishAll_9 : decode cX4_finishAll 9 = .ok (.iconst 0, 1) := by decide +kernel
theorem dX4_finishAll_10 : decode cX4_finishAll 10 = .ok (.putfield 63, 3) := by decide +kernel
theorem dX4_finishAll_13 : decode cX4_finishAll 13 = .ok (.aload_n 0, 1) := by decide +kernel
theorem dX4_finishAll_14 : decode cX4_finishAll 14 = .ok (.aload_n 1, 1) := by decide +kernel
theorem dX4_finishAll_15 : decode cX4_finishAll 15 = .ok (.iconst 0, 1) := by decide +kernel
theorem dX4_finishAll_16 : decode cX4_finishAll 16 = .ok (.invokevirtual 66, 3) := by decide +kernel
theorem dX4_finishAll_19 : decode cX4_finishAll 19 = .ok (.iconst 0, 1) := by decide +kernel
theorem dX4_finishAll_20 : decode cX4_finishAll 20 = .ok (.istore_n 2, 1) := by decide +kernel
theorem dX4_finishAll_21 : decode cX4_finishAll 21 = .ok (.iconst 0, 1) := by decide +kernel
theorem dX4_finishAll_22 : decode cX4_finishAll 22 = .ok (.istore_n 3, 1) := by decide +kernel
theorem dX4_finishAll_23 : decode cX4_finishAll 23 = .ok (.iload_n 3, 1) := by decide +kernel
theorem dX4_finishAll_24 : decode cX4_finishAll 24 = .ok (.sipush 3072, 3) := by decide +kernel
theorem dX4_finishAll_27 : decode cX4_finishAll 27 = .ok (.if_icmp .ge 104, 3) := by decide +kernel
theorem dX4_finishAll_30 : decode cX4_finishAll 30 = .ok (.aload_n 0, 1) := by decide +kernel
theorem dX4_finishAll_31 : decode cX4_finishAll 31 = .ok (.getfield 63, 3) := by decide +kernel
theorem dX4_finishAll_34 : decode cX4_finishAll 34 = .ok (.ifCond .le 97, 3) := by decide +kernel
theorem dX4_finishAll_37 : decode cX4_finishAll 37 = .ok (.aload_n 0, 1) := by decide +kernel
theorem dX4_finishAll_38 : decode cX4_finishAll 38 = .ok (.getfield 18, 3) := by decide +kernel
theorem dX4_finishAll_41 : decode cX4_finishAll 41 = .ok (.aload_n 0, 1) := by decide +kernel
theorem dX4_finishAll_42 : decode cX4_finishAll 42 = .ok (.getfield 63, 3) := by decide +kernel
theorem dX4_finishAll_45 : decode cX4_finishAll 45 = .ok (.iconst 1, 1) := by decide +kernel
theorem dX4_finishAll_46 : decode cX4_finishAll 46 = .ok (.isub, 1) := by decide +kernel
theorem dX4_finishAll_47 : decode cX4_finishAll 47 = .ok (.iaload, 1) := by decide +kernel
theorem dX4_finishAll_48 : decode cX4_finishAll 48 = .ok (.istore 4, 2) := by decide +kernel
theorem dX4_finishAll_50 : decode cX4_finishAll 50 = .ok (.aload_n 0, 1) := by decide +kernel
theorem dX4_finishAll_51 : decode cX4_finishAll 51 = .ok (.getfield 22, 3) := by decide +kernel
theorem dX4_finishAll_54 : decode cX4_finishAll 54 = .ok (.iload 4, 2) := by decide +kernel
theorem dX4_finishAll_56 : decode cX4_finishAll 56 = .ok (.iaload, 1) := by decide +kernel
theorem dX4_finishAll_57 : decode cX4_finishAll 57 = .ok (.aload_n 1, 1) := by decide +kernel
theorem dX4_finishAll_58 : decode cX4_finishAll 58 = .ok (.getfield 69, 3) := by decide +kernel
theorem dX4_finishAll_61 : decode cX4_finishAll 61 = .ok (.iload 4, 2) := by decide +kernel
theorem dX4_finishAll_63 : decode cX4_finishAll 63 = .ok (.iconst 1, 1) := by decide +kernel
theorem dX4_finishAll_64 : decode cX4_finishAll 64 = .ok (.iadd, 1) := by decide +kernel
theorem dX4_finishAll_65 : decode cX4_finishAll 65 = .ok (.iaload, 1) := by decide +kernel
theorem dX4_finishAll_66 : decode cX4_finishAll 66 = .ok (.if_icmp .ge 38, 3) := by decide +kernel
theorem dX4_finishAll_69 : decode cX4_finishAll 69 = .ok (.aload_n 1, 1) := by decide +kernel
theorem dX4_finishAll_70 : decode cX4_finishAll 70 = .ok (.getfield 60, 3) := by decide +kernel
theorem dX4_finishAll_73 : decode cX4_finishAll 73 = .ok (.aload_n 0, 1) := by decide +kernel
theorem dX4_finishAll_74 : decode cX4_finishAll 74 = .ok (.getfield 22, 3) := by decide +kernel
theorem dX4_finishAll_77 : decode cX4_finishAll 77 = .ok (.iload 4, 2) := by decide +kernel
theorem dX4_finishAll_79 : decode cX4_finishAll 79 = .ok (.iaload, 1) := by decide +kernel
theorem dX4_finishAll_80 : decode cX4_finishAll 80 = .ok (.iaload, 1) := by decide +kernel
theorem dX4_finishAll_81 : decode cX4_finishAll 81 = .ok (.istore 5, 2) := by decide +kernel
theorem dX4_finishAll_83 : decode cX4_finishAll 83 = .ok (.aload_n 0, 1) := by decide +kernel
theorem dX4_finishAll_84 : decode cX4_finishAll 84 = .ok (.getfield 22, 3) := by decide +kernel
theorem dX4_finishAll_87 : decode cX4_finishAll 87 = .ok (.iload 4, 2) := by decide +kernel
theorem dX4_finishAll_89 : decode cX4_finishAll 89 = .ok (.dup2, 1) := by decide +kernel
theorem dX4_finishAll_90 : decode cX4_finishAll 90 = .ok (.iaload, 1) := by decide +kernel
theorem dX4_finishAll_91 : decode cX4_finishAll 91 = .ok (.iconst 1, 1) := by decide +kernel
theorem dX4_finishAll_92 : decode cX4_finishAll 92 = .ok (.iadd, 1) := by decide +kernel
theorem dX4_finishAll_93 : decode cX4_finishAll 93 = .ok (.iastore, 1) := by decide +kernel
theorem dX4_finishAll_94 : decode cX4_finishAll 94 = .ok (.aload_n 0, 1) := by decide +kernel
theorem dX4_finishAll_95 : decode cX4_finishAll 95 = .ok (.aload_n 1, 1) := by decide +kernel
theorem dX4_finishAll_96 : decode cX4_finishAll 96 = .ok (.iload 5, 2) := by decide +kernel
theorem dX4_finishAll_98 : decode cX4_finishAll 98 = .ok (.invokevirtual 66, 3) := by decide +kernel
theorem dX4_finishAll_101 : decode cX4_finishAll 101 = .ok (.goto 24, 3) := by decide +kernel
theorem dX4_finishAll_104 : decode cX4_finishAll 104 = .ok (.aload_n 0, 1) := by decide +kernel
theorem dX4_finishAll_105 : decode cX4_finishAll 105 = .ok (.getfield 25, 3) := by decide +kernel
theorem dX4_finishAll_108 : decode cX4_finishAll 108 = .ok (.iload_n 2, 1) := by decide +kernel
theorem dX4_finishAll_109 : decode cX4_finishAll 109 = .ok (.iload 4, 2) := by decide +kernel
theorem dX4_finishAll_111 : decode cX4_finishAll 111 = .ok (.iastore, 1) := by decide +kernel
theorem dX4_finishAll_112 : decode cX4_finishAll 112 = .ok (.iinc 2 1, 3) := by decide +kernel
theorem dX4_finishAll_115 : decode cX4_finishAll 115 = .ok (.aload_n 0, 1) := by decide +kernel
theorem dX4_finishAll_116 : decode cX4_finishAll 116 = .ok (.dup, 1) := by decide +kernel
theorem dX4_finishAll_117 : decode cX4_finishAll 117 = .ok (.getfield 63, 3) := by decide +kernel
theorem dX4_finishAll_120 : decode cX4_finishAll 120 = .ok (.iconst 1, 1) := by decide +kernel
theorem dX4_finishAll_121 : decode cX4_finishAll 121 = .ok (.isub, 1) := by decide +kernel
theorem dX4_finishAll_122 : decode cX4_finishAll 122 = .ok (.putfield 63, 3) := by decide +kernel
theorem dX4_finishAll_125 : decode cX4_finishAll 125 = .ok (.iinc 3 1, 3) := by decide +kernel
theorem dX4_finishAll_128 : decode cX4_finishAll 128 = .ok (.goto (-105), 3) := by decide +kernel
theorem dX4_finishAll_131 : decode cX4_finishAll 131 = .ok (.return_, 1) := by decide +kernel
theorem dX4_push_0 : decode cX4_push 0 = .ok (.aload_n 0, 1) := by decide +kernel
theorem dX4_push_1 : decode cX4_push 1 = .ok (.getfield 15, 3) := by decide +kernel
theorem dX4_push_4 : decode cX4_push 4 = .ok (.iload_n 2, 1) := by decide +kernel
theorem dX4_push_5 : decode cX4_push 5 = .ok (.baload, 1) := by decide +kernel
theorem dX4_push_6 : decode cX4_push 6 = .ok (.ifCond .ne 42, 3) := by decide +kernel
theorem dX4_push_9 : decode cX4_push 9 = .ok (.aload_n 0, 1) := by decide +kernel
theorem dX4_push_10 : decode cX4_push 10 = .ok (.getfield 15, 3) := by decide +kernel
theorem dX4_push_13 : decode cX4_push 13 = .ok (.iload_n 2, 1) := by decide +kernel
theorem dX4_push_14 : decode cX4_push 14 = .ok (.iconst 1, 1) := by decide +kernel
theorem dX4_push_15 : decode cX4_push 15 = .ok (.bastore, 1) := by decide +kernel
theorem dX4_push_16 : decode cX4_push 16 = .ok (.aload_n 0, 1) := by decide +kernel
theorem dX4_push_17 : decode cX4_push 17 = .ok (.getfield 22, 3) := by decide +kernel
theorem dX4_push_20 : decode cX4_push 20 = .ok (.iload_n 2, 1) := by decide +kernel
theorem dX4_push_21 : decode cX4_push 21 = .ok (.aload_n 1, 1) := by decide +kernel
theorem dX4_push_22 : decode cX4_push 22 = .ok (.getfield 69, 3) := by decide +kernel
theorem dX4_push_25 : decode cX4_push 25 = .ok (.iload_n 2, 1) := by decide +kernel
theorem dX4_push_26 : decode cX4_push 26 = .ok (.iaload, 1) := by decide +kernel
theorem dX4_push_27 : decode cX4_push 27 = .ok (.iastore, 1) := by decide +kernel
theorem dX4_push_28 : decode cX4_push 28 = .ok (.aload_n 0, 1) := by decide +kernel
theorem dX4_push_29 : decode cX4_push 29 = .ok (.getfield 18, 3) := by decide +kernel
theorem dX4_push_32 : decode cX4_push 32 = .ok (.aload_n 0, 1) := by decide +kernel
theorem dX4_push_33 : decode cX4_push 33 = .ok (.getfield 63, 3) := by decide +kernel
theorem dX4_push_36 : decode cX4_push 36 = .ok (.iload_n 2, 1) := by decide +kernel
theorem dX4_push_37 : decode cX4_push 37 = .ok (.iastore, 1) := by decide +kernel
theorem dX4_push_38 : decode cX4_push 38 = .ok (.aload_n 0, 1) := by decide +kernel
theorem dX4_push_39 : decode cX4_push 39 = .ok (.dup, 1) := by decide +kernel
theorem dX4_push_40 : decode cX4_push 40 = .ok (.getfield 63, 3) := by decide +kernel
theorem dX4_push_43 : decode cX4_push 43 = .ok (.iconst 1, 1) := by decide +kernel
theorem dX4_push_44 : decode cX4_push 44 = .ok (.iadd, 1) := by decide +kernel
theorem dX4_push_45 : decode cX4_push 45 = .ok (.putfield 63, 3) := by decide +kernel
theorem dX4_push_48 : decode cX4_push 48 = .ok (.return_, 1) := by decide +kernel
theorem dX4_gatherComponent_0 : decode cX4_gatherComponent 0 = .ok (.aload_n 0, 1) := by decide +kernel
theorem dX4_gatherComponent_1 : decode cX4_gatherComponent 1 = .ok (.getfield 41, 3) := by decide +kernel
theorem dX4_gatherComponent_4 : decode cX4_gatherComponent 4 = .ok (.istore_n 3, 1) := by decide +kernel
theorem dX4_gatherComponent_5 : decode cX4_gatherComponent 5 = .ok (.aload_n 0, 1) := by decide +kernel
theorem dX4_gatherComponent_6 : decode cX4_gatherComponent 6 = .ok (.iload_n 2, 1) := by decide +kernel
theorem dX4_gatherComponent_7 : decode cX4_gatherComponent 7 = .ok (.invokevirtual 72, 3) := by decide +kernel
theorem dX4_gatherComponent_10 : decode cX4_gatherComponent 10 = .ok (.iload_n 3, 1) := by decide +kernel
theorem dX4_gatherComponent_11 : decode cX4_gatherComponent 11 = .ok (.istore 4, 2) := by decide +kernel
theorem dX4_gatherComponent_13 : decode cX4_gatherComponent 13 = .ok (.iload 4, 2) := by decide +kernel
theorem dX4_gatherComponent_15 : decode cX4_gatherComponent 15 = .ok (.sipush 1024, 3) := by decide +kernel
theorem dX4_gatherComponent_18 : decode cX4_gatherComponent 18 = .ok (.if_icmp .ge 67, 3) := by decide +kernel
theorem dX4_gatherComponent_21 : decode cX4_gatherComponent 21 = .ok (.iload 4, 2) := by decide +kernel
theorem dX4_gatherComponent_23 : decode cX4_gatherComponent 23 = .ok (.aload_n 0, 1) := by decide +kernel
theorem dX4_gatherComponent_24 : decode cX4_gatherComponent 24 = .ok (.getfield 41, 3) := by decide +kernel
theorem dX4_gatherComponent_27 : decode cX4_gatherComponent 27 = .ok (.if_icmp .ge 58, 3) := by decide +kernel
theorem dX4_gatherComponent_30 : decode cX4_gatherComponent 30 = .ok (.aload_n 0, 1) := by decide +kernel
theorem dX4_gatherComponent_31 : decode cX4_gatherComponent 31 = .ok (.getfield 28, 3) := by decide +kernel
theorem dX4_gatherComponent_34 : decode cX4_gatherComponent 34 = .ok (.iload 4, 2) := by decide +kernel
theorem dX4_gatherComponent_36 : decode cX4_gatherComponent 36 = .ok (.iaload, 1) := by decide +kernel
theorem dX4_gatherComponent_37 : decode cX4_gatherComponent 37 = .ok (.istore 5, 2) := by decide +kernel
theorem dX4_gatherComponent_39 : decode cX4_gatherComponent 39 = .ok (.aload_n 1, 1) := by decide +kernel
theorem dX4_gatherComponent_40 : decode cX4_gatherComponent 40 = .ok (.getfield 76, 3) := by decide +kernel
theorem dX4_gatherComponent_43 : decode cX4_gatherComponent 43 = .ok (.iload 5, 2) := by decide +kernel
theorem dX4_gatherComponent_45 : decode cX4_gatherComponent 45 = .ok (.iaload, 1) := by decide +kernel
theorem dX4_gatherComponent_46 : decode cX4_gatherComponent 46 = .ok (.istore 6, 2) := by decide +kernel
theorem dX4_gatherComponent_48 : decode cX4_gatherComponent 48 = .ok (.iload 6, 2) := by decide +kernel
theorem dX4_gatherComponent_50 : decode cX4_gatherComponent 50 = .ok (.aload_n 1, 1) := by decide +kernel
theorem dX4_gatherComponent_51 : decode cX4_gatherComponent 51 = .ok (.getfield 76, 3) := by decide +kernel
theorem dX4_gatherComponent_54 : decode cX4_gatherComponent 54 = .ok (.iload 5, 2) := by decide +kernel
theorem dX4_gatherComponent_56 : decode cX4_gatherComponent 56 = .ok (.iconst 1, 1) := by decide +kernel
theorem dX4_gatherComponent_57 : decode cX4_gatherComponent 57 = .ok (.iadd, 1) := by decide +kernel
theorem dX4_gatherComponent_58 : decode cX4_gatherComponent 58 = .ok (.iaload, 1) := by decide +kernel
theorem dX4_gatherComponent_59 : decode cX4_gatherComponent 59 = .ok (.if_icmp .ge 20, 3) := by decide +kernel
theorem dX4_gatherComponent_62 : decode cX4_gatherComponent 62 = .ok (.aload_n 0, 1) := by decide +kernel
theorem dX4_gatherComponent_63 : decode cX4_gatherComponent 63 = .ok (.aload_n 1, 1) := by decide +kernel
theorem dX4_gatherComponent_64 : decode cX4_gatherComponent 64 = .ok (.getfield 79, 3) := by decide +kernel
theorem dX4_gatherComponent_67 : decode cX4_gatherComponent 67 = .ok (.iload 6, 2) := by decide +kernel
theorem dX4_gatherComponent_69 : decode cX4_gatherComponent 69 = .ok (.iaload, 1) := by decide +kernel
theorem dX4_gatherComponent_70 : decode cX4_gatherComponent 70 = .ok (.invokevirtual 72, 3) := by decide +kernel
theorem dX4_gatherComponent_73 : decode cX4_gatherComponent 73 = .ok (.iinc 6 1, 3) := by decide +kernel
theorem dX4_gatherComponent_76 : decode cX4_gatherComponent 76 = .ok (.goto (-28), 3) := by decide +kernel
theorem dX4_gatherComponent_79 : decode cX4_gatherComponent 79 = .ok (.iinc 4 1, 3) := by decide +kernel
theorem dX4_gatherComponent_82 : decode cX4_gatherComponent 82 = .ok (.goto (-69), 3) := by decide +kernel
theorem dX4_gatherComponent_85 : decode cX4_gatherComponent 85 = .ok (.aload_n 0, 1) := by decide +kernel
theorem dX4_gatherComponent_86 : decode cX4_gatherComponent 86 = .ok (.getfield 41, 3) := by decide +kernel
theorem dX4_gatherComponent_89 : decode cX4_gatherComponent 89 = .ok (.iload_n 3, 1) := by decide +kernel
theorem dX4_gatherComponent_90 : decode cX4_gatherComponent 90 = .ok (.isub, 1) := by decide +kernel
theorem dX4_gatherComponent_91 : decode cX4_gatherComponent 91 = .ok (.iconst 1, 1) := by decide +kernel
theorem dX4_gatherComponent_92 : decode cX4_gatherComponent 92 = .ok (.if_icmp .le 34, 3) := by decide +kernel
theorem dX4_gatherComponent_95 : decode cX4_gatherComponent 95 = .ok (.iload_n 3, 1) := by decide +kernel
theorem dX4_gatherComponent_96 : decode cX4_gatherComponent 96 = .ok (.istore 4, 2) := by decide +kernel
theorem dX4_gatherComponent_98 : decode cX4_gatherComponent 98 = .ok (.iload 4, 2) := by decide +kernel
theorem dX4_gatherComponent_100 : decode cX4_gatherComponent 100 = .ok (.aload_n 0, 1) := by decide +kernel
theorem dX4_gatherComponent_101 : decode cX4_gatherComponent 101 = .ok (.getfield 41, 3) := by decide +kernel
theorem dX4_gatherComponent_104 : decode cX4_gatherComponent 104 = .ok (.if_icmp .ge 22, 3) := by decide +kernel
theorem dX4_gatherComponent_107 : decode cX4_gatherComponent 107 = .ok (.aload_n 0, 1) := by decide +kernel
theorem dX4_gatherComponent_108 : decode cX4_gatherComponent 108 = .ok (.getfield 9, 3) := by decide +kernel
theorem dX4_gatherComponent_111 : decode cX4_gatherComponent 111 = .ok (.aload_n 0, 1) := by decide +kernel
theorem dX4_gatherComponent_112 : decode cX4_gatherComponent 112 = .ok (.getfield 28, 3) := by decide +kernel
theorem dX4_gatherComponent_115 : decode cX4_gatherComponent 115 = .ok (.iload 4, 2) := by decide +kernel
theorem dX4_gatherComponent_117 : decode cX4_gatherComponent 117 = .ok (.iaload, 1) := by decide +kernel
theorem dX4_gatherComponent_118 : decode cX4_gatherComponent 118 = .ok (.iconst 1, 1) := by decide +kernel
theorem dX4_gatherComponent_119 : decode cX4_gatherComponent 119 = .ok (.bastore, 1) := by decide +kernel
theorem dX4_gatherComponent_120 : decode cX4_gatherComponent 120 = .ok (.iinc 4 1, 3) := by decide +kernel
theorem dX4_gatherComponent_123 : decode cX4_gatherComponent 123 = .ok (.goto (-25), 3) := by decide +kernel
theorem dX4_gatherComponent_126 : decode cX4_gatherComponent 126 = .ok (.return_, 1) := by decide +kernel
theorem dX4_join_0 : decode cX4_join 0 = .ok (.aload_n 0, 1) := by decide +kernel
theorem dX4_join_1 : decode cX4_join 1 = .ok (.getfield 15, 3) := by decide +kernel
theorem dX4_join_4 : decode cX4_join 4 = .ok (.iload_n 1, 1) := by decide +kernel
theorem dX4_join_5 : decode cX4_join 5 = .ok (.baload, 1) := by decide +kernel
theorem dX4_join_6 : decode cX4_join 6 = .ok (.ifCond .ne 30, 3) := by decide +kernel
theorem dX4_join_9 : decode cX4_join 9 = .ok (.aload_n 0, 1) := by decide +kernel
theorem dX4_join_10 : decode cX4_join 10 = .ok (.getfield 15, 3) := by decide +kernel
theorem dX4_join_13 : decode cX4_join 13 = .ok (.iload_n 1, 1) := by decide +kernel
theorem dX4_join_14 : decode cX4_join 14 = .ok (.iconst 1, 1) := by decide +kernel
theorem dX4_join_15 : decode cX4_join 15 = .ok (.bastore, 1) := by decide +kernel
theorem dX4_join_16 : decode cX4_join 16 = .ok (.aload_n 0, 1) := by decide +kernel
theorem dX4_join_17 : decode cX4_join 17 = .ok (.getfield 28, 3) := by decide +kernel
theorem dX4_join_20 : decode cX4_join 20 = .ok (.aload_n 0, 1) := by decide +kernel
theorem dX4_join_21 : decode cX4_join 21 = .ok (.getfield 41, 3) := by decide +kernel
theorem dX4_join_24 : decode cX4_join 24 = .ok (.iload_n 1, 1) := by decide +kernel
theorem dX4_join_25 : decode cX4_join 25 = .ok (.iastore, 1) := by decide +kernel
theorem dX4_join_26 : decode cX4_join 26 = .ok (.aload_n 0, 1) := by decide +kernel
theorem dX4_join_27 : decode cX4_join 27 = .ok (.dup, 1) := by decide +kernel
theorem dX4_join_28 : decode cX4_join 28 = .ok (.getfield 41, 3) := by decide +kernel
theorem dX4_join_31 : decode cX4_join 31 = .ok (.iconst 1, 1) := by decide +kernel
theorem dX4_join_32 : decode cX4_join 32 = .ok (.iadd, 1) := by decide +kernel
theorem dX4_join_33 : decode cX4_join 33 = .ok (.putfield 41, 3) := by decide +kernel
theorem dX4_join_36 : decode cX4_join 36 = .ok (.return_, 1) := by decide +kernel
theorem dX5_init_0 : decode cX5_init 0 = .ok (.aload_n 0, 1) := by decide +kernel
theorem dX5_init_1 : decode cX5_init 1 = .ok (.invokespecial 3, 3) := by decide +kernel
theorem dX5_init_4 : decode cX5_init 4 = .ok (.aload_n 0, 1) := by decide +kernel
theorem dX5_init_5 : decode cX5_init 5 = .ok (.sipush 1024, 3) := by decide +kernel
theorem dX5_init_8 : decode cX5_init 8 = .ok (.newarray .int, 2) := by decide +kernel
theorem dX5_init_10 : decode cX5_init 10 = .ok (.putfield 9, 3) := by decide +kernel
theorem dX5_init_13 : decode cX5_init 13 = .ok (.return_, 1) := by decide +kernel
theorem dX5_learn_0 : decode cX5_learn 0 = .ok (.aload_n 0, 1) := by decide +kernel
theorem dX5_learn_1 : decode cX5_learn 1 = .ok (.getfield 9, 3) := by decide +kernel
theorem dX5_learn_4 : decode cX5_learn 4 = .ok (.sipush 10240, 3) := by decide +kernel
theorem dX5_learn_7 : decode cX5_learn 7 = .ok (.invokestatic 15, 3) := by decide +kernel
theorem dX5_learn_10 : decode cX5_learn 10 = .ok (.aload_n 0, 1) := by decide +kernel
theorem dX5_learn_11 : decode cX5_learn 11 = .ok (.getfield 9, 3) := by decide +kernel
theorem dX5_learn_14 : decode cX5_learn 14 = .ok (.iconst 0, 1) := by decide +kernel
theorem dX5_learn_15 : decode cX5_learn 15 = .ok (.iconst 0, 1) := by decide +kernel
theorem dX5_learn_16 : decode cX5_learn 16 = .ok (.iastore, 1) := by decide +kernel
theorem dX5_learn_17 : decode cX5_learn 17 = .ok (.iconst 1, 1) := by decide +kernel
theorem dX5_learn_18 : decode cX5_learn 18 = .ok (.istore_n 3, 1) := by decide +kernel
theorem dX5_learn_19 : decode cX5_learn 19 = .ok (.iconst 0, 1) := by decide +kernel
theorem dX5_learn_20 : decode cX5_learn 20 = .ok (.istore 4, 2) := by decide +kernel
theorem dX5_learn_22 : decode cX5_learn 22 = .ok (.iload 4, 2) := by decide +kernel
theorem dX5_learn_24 : decode cX5_learn 24 = .ok (.sipush 1024, 3) := by decide +kernel
theorem dX5_learn_27 : decode cX5_learn 27 = .ok (.if_icmp .ge 90, 3) := by decide +kernel
theorem dX5_learn_30 : decode cX5_learn 30 = .ok (.iload_n 3, 1) := by decide +kernel
theorem dX5_learn_31 : decode cX5_learn 31 = .ok (.ifCond .eq 86, 3) := by decide +kernel
theorem dX5_learn_34 : decode cX5_learn 34 = .ok (.iconst 0, 1) := by decide +kernel
theorem dX5_learn_35 : decode cX5_learn 35 = .ok (.istore_n 3, 1) := by decide +kernel
theorem dX5_learn_36 : decode cX5_learn 36 = .ok (.iconst 0, 1) := by decide +kernel
theorem dX5_learn_37 : decode cX5_learn 37 = .ok (.istore 5, 2) := by decide +kernel
theorem dX5_learn_39 : decode cX5_learn 39 = .ok (.iload 5, 2) := by decide +kernel
theorem dX5_learn_41 : decode cX5_learn 41 = .ok (.aload_n 1, 1) := by decide +kernel
theorem dX5_learn_42 : decode cX5_learn 42 = .ok (.getfield 21, 3) := by decide +kernel
theorem dX5_learn_45 : decode cX5_learn 45 = .ok (.if_icmp .ge 66, 3) := by decide +kernel
theorem dX5_learn_48 : decode cX5_learn 48 = .ok (.aload_n 0, 1) := by decide +kernel
theorem dX5_learn_49 : decode cX5_learn 49 = .ok (.getfield 9, 3) := by decide +kernel
theorem dX5_learn_52 : decode cX5_learn 52 = .ok (.aload_n 1, 1) := by decide +kernel
theorem dX5_learn_53 : decode cX5_learn 53 = .ok (.getfield 27, 3) := by decide +kernel
theorem dX5_learn_56 : decode cX5_learn 56 = .ok (.iload 5, 2) := by decide +kernel
theorem dX5_learn_58 : decode cX5_learn 58 = .ok (.iaload, 1) := by decide +kernel
theorem dX5_learn_59 : decode cX5_learn 59 = .ok (.iaload, 1) := by decide +kernel
theorem dX5_learn_60 : decode cX5_learn 60 = .ok (.aload_n 2, 1) := by decide +kernel
theorem dX5_learn_61 : decode cX5_learn 61 = .ok (.aload_n 1, 1) := by decide +kernel
theorem dX5_learn_62 : decode cX5_learn 62 = .ok (.getfield 30, 3) := by decide +kernel
theorem dX5_learn_65 : decode cX5_learn 65 = .ok (.iload 5, 2) := by decide +kernel
theorem dX5_learn_67 : decode cX5_learn 67 = .ok (.iaload, 1) := by decide +kernel
theorem dX5_learn_68 : decode cX5_learn 68 = .ok (.iaload, 1) := by decide +kernel
theorem dX5_learn_69 : decode cX5_learn 69 = .ok (.iadd, 1) := by decide +kernel
theorem dX5_learn_70 : decode cX5_learn 70 = .ok (.istore 6, 2) := by decide +kernel
theorem dX5_learn_72 : decode cX5_learn 72 = .ok (.iload 6, 2) := by decide +kernel
theorem dX5_learn_74 : decode cX5_learn 74 = .ok (.aload_n 0, 1) := by decide +kernel
theorem dX5_learn_75 : decode cX5_learn 75 = .ok (.getfield 9, 3) := by decide +kernel
theorem dX5_learn_78 : decode cX5_learn 78 = .ok (.aload_n 1, 1) := by decide +kernel
theorem dX5_learn_79 : decode cX5_learn 79 = .ok (.getfield 33, 3) := by decide +kernel
theorem dX5_learn_82 : decode cX5_learn 82 = .ok (.iload 5, 2) := by decide +kernel
theorem dX5_learn_84 : decode cX5_learn 84 = .ok (.iaload, 1) := by decide +kernel
theorem dX5_learn_85 : decode cX5_learn 85 = .ok (.iaload, 1) := by decide +kernel
theorem dX5_learn_86 : decode cX5_learn 86 = .ok (.if_icmp .ge 19, 3) := by decide +kernel
theorem dX5_learn_89 : decode cX5_learn 89 = .ok (.aload_n 0, 1) := by decide +kernel
theorem dX5_learn_90 : decode cX5_learn 90 = .ok (.getfield 9, 3) := by decide +kernel
theorem dX5_learn_93 : decode cX5_learn 93 = .ok (.aload_n 1, 1) := by decide +kernel
theorem dX5_learn_94 : decode cX5_learn 94 = .ok (.getfield 33, 3) := by decide +kernel
theorem dX5_learn_97 : decode cX5_learn 97 = .ok (.iload 5, 2) := by decide +kernel
theorem dX5_learn_99 : decode cX5_learn 99 = .ok (.iaload, 1) := by decide +kernel
theorem dX5_learn_100 : decode cX5_learn 100 = .ok (.iload 6, 2) := by decide +kernel
theorem dX5_learn_102 : decode cX5_learn 102 = .ok (.iastore, 1) := by decide +kernel
theorem dX5_learn_103 : decode cX5_learn 103 = .ok (.iconst 1, 1) := by decide +kernel
theorem dX5_learn_104 : decode cX5_learn 104 = .ok (.istore_n 3, 1) := by decide +kernel
theorem dX5_learn_105 : decode cX5_learn 105 = .ok (.iinc 5 1, 3) := by decide +kernel
theorem dX5_learn_108 : decode cX5_learn 108 = .ok (.goto (-69), 3) := by decide +kernel
theorem dX5_learn_111 : decode cX5_learn 111 = .ok (.iinc 4 1, 3) := by decide +kernel
theorem dX5_learn_114 : decode cX5_learn 114 = .ok (.goto (-92), 3) := by decide +kernel
theorem dX5_learn_117 : decode cX5_learn 117 = .ok (.return_, 1) := by decide +kernel
theorem dX5_cheapestOf_0 : decode cX5_cheapestOf 0 = .ok (.sipush 10240, 3) := by decide +kernel
theorem dX5_cheapestOf_3 : decode cX5_cheapestOf 3 = .ok (.istore_n 3, 1) := by decide +kernel
theorem dX5_cheapestOf_4 : decode cX5_cheapestOf 4 = .ok (.iconst 0, 1) := by decide +kernel
theorem dX5_cheapestOf_5 : decode cX5_cheapestOf 5 = .ok (.istore 4, 2) := by decide +kernel
theorem dX5_cheapestOf_7 : decode cX5_cheapestOf 7 = .ok (.iload 4, 2) := by decide +kernel
theorem dX5_cheapestOf_9 : decode cX5_cheapestOf 9 = .ok (.aload_n 1, 1) := by decide +kernel
theorem dX5_cheapestOf_10 : decode cX5_cheapestOf 10 = .ok (.getfield 36, 3) := by decide +kernel
theorem dX5_cheapestOf_13 : decode cX5_cheapestOf 13 = .ok (.if_icmp .ge 31, 3) := by decide +kernel
theorem dX5_cheapestOf_16 : decode cX5_cheapestOf 16 = .ok (.aload_n 1, 1) := by decide +kernel
theorem dX5_cheapestOf_17 : decode cX5_cheapestOf 17 = .ok (.iload 4, 2) := by decide +kernel
theorem dX5_cheapestOf_19 : decode cX5_cheapestOf 19 = .ok (.invokevirtual 39, 3) := by decide +kernel
theorem dX5_cheapestOf_22 : decode cX5_cheapestOf 22 = .ok (.iload_n 2, 1) := by decide +kernel
theorem dX5_cheapestOf_23 : decode cX5_cheapestOf 23 = .ok (.if_icmp .ne 15, 3) := by decide +kernel
theorem dX5_cheapestOf_26 : decode cX5_cheapestOf 26 = .ok (.iload_n 3, 1) := by decide +kernel
theorem dX5_cheapestOf_27 : decode cX5_cheapestOf 27 = .ok (.aload_n 0, 1) := by decide +kernel
theorem dX5_cheapestOf_28 : decode cX5_cheapestOf 28 = .ok (.getfield 9, 3) := by decide +kernel
theorem dX5_cheapestOf_31 : decode cX5_cheapestOf 31 = .ok (.iload 4, 2) := by decide +kernel
theorem dX5_cheapestOf_33 : decode cX5_cheapestOf 33 = .ok (.iaload, 1) := by decide +kernel
theorem dX5_cheapestOf_34 : decode cX5_cheapestOf 34 = .ok (.invokestatic 43, 3) := by decide +kernel
theorem dX5_cheapestOf_37 : decode cX5_cheapestOf 37 = .ok (.istore_n 3, 1) := by decide +kernel
theorem dX5_cheapestOf_38 : decode cX5_cheapestOf 38 = .ok (.iinc 4 1, 3) := by decide +kernel
theorem dX5_cheapestOf_41 : decode cX5_cheapestOf 41 = .ok (.goto (-34), 3) := by decide +kernel
theorem dX5_cheapestOf_44 : decode cX5_cheapestOf 44 = .ok (.iload_n 3, 1) := by decide +kernel
theorem dX5_cheapestOf_45 : decode cX5_cheapestOf 45 = .ok (.ireturn, 1) := by decide +kernel
theorem dX6_init_0 : decode cX6_init 0 = .ok (.aload_n 0, 1) := by decide +kernel
theorem dX6_init_1 : decode cX6_init 1 = .ok (.invokespecial 3, 3) := by decide +kernel
theorem dX6_init_4 : decode cX6_init 4 = .ok (.aload_n 0, 1) := by decide +kernel
theorem dX6_init_5 : decode cX6_init 5 = .ok (.sipush 200, 3) := by decide +kernel
theorem dX6_init_8 : decode cX6_init 8 = .ok (.newarray .int, 2) := by decide +kernel
theorem dX6_init_10 : decode cX6_init 10 = .ok (.putfield 9, 3) := by decide +kernel
theorem dX6_init_13 : decode cX6_init 13 = .ok (.return_, 1) := by decide +kernel
theorem dX6_append_0 : decode cX6_append 0 = .ok (.aload_n 0, 1) := by decide +kernel
theorem dX6_append_1 : decode cX6_append 1 = .ok (.getfield 15, 3) := by decide +kernel
theorem dX6_append_4 : decode cX6_append 4 = .ok (.sipush 200, 3) := by decide +kernel
theorem dX6_append_7 : decode cX6_append 7 = .ok (.if_icmp .lt 5, 3) := by decide +kernel
theorem dX6_append_10 : decode cX6_append 10 = .ok (.iconst 0, 1) := by decide +kernel
theorem dX6_append_11 : decode cX6_append 11 = .ok (.ireturn, 1) := by decide +kernel
theorem dX6_append_12 : decode cX6_append 12 = .ok (.aload_n 0, 1) := by decide +kernel
theorem dX6_append_13 : decode cX6_append 13 = .ok (.getfield 9, 3) := by decide +kernel
theorem dX6_append_16 : decode cX6_append 16 = .ok (.aload_n 0, 1) := by decide +kernel
theorem dX6_append_17 : decode cX6_append 17 = .ok (.getfield 15, 3) := by decide +kernel
theorem dX6_append_20 : decode cX6_append 20 = .ok (.iload_n 1, 1) := by decide +kernel
theorem dX6_append_21 : decode cX6_append 21 = .ok (.iastore, 1) := by decide +kernel
theorem dX6_append_22 : decode cX6_append 22 = .ok (.aload_n 0, 1) := by decide +kernel
theorem dX6_append_23 : decode cX6_append 23 = .ok (.dup, 1) := by decide +kernel
theorem dX6_append_24 : decode cX6_append 24 = .ok (.getfield 15, 3) := by decide +kernel
theorem dX6_append_27 : decode cX6_append 27 = .ok (.iconst 1, 1) := by decide +kernel
theorem dX6_append_28 : decode cX6_append 28 = .ok (.iadd, 1) := by decide +kernel
theorem dX6_append_29 : decode cX6_append 29 = .ok (.putfield 15, 3) := by decide +kernel
theorem dX6_append_32 : decode cX6_append 32 = .ok (.iconst 1, 1) := by decide +kernel
theorem dX6_append_33 : decode cX6_append 33 = .ok (.ireturn, 1) := by decide +kernel
theorem dX6_readInto_0 : decode cX6_readInto 0 = .ok (.aload_n 0, 1) := by decide +kernel
theorem dX6_readInto_1 : decode cX6_readInto 1 = .ok (.getfield 15, 3) := by decide +kernel
theorem dX6_readInto_4 : decode cX6_readInto 4 = .ok (.istore_n 2, 1) := by decide +kernel
theorem dX6_readInto_5 : decode cX6_readInto 5 = .ok (.aload_n 0, 1) := by decide +kernel
theorem dX6_readInto_6 : decode cX6_readInto 6 = .ok (.iconst 0, 1) := by decide +kernel
theorem dX6_readInto_7 : decode cX6_readInto 7 = .ok (.putfield 15, 3) := by decide +kernel
theorem dX6_readInto_10 : decode cX6_readInto 10 = .ok (.aload_n 1, 1) := by decide +kernel
theorem dX6_readInto_11 : decode cX6_readInto 11 = .ok (.invokevirtual 19, 3) := by decide +kernel
theorem dX6_readInto_14 : decode cX6_readInto 14 = .ok (.aload_n 0, 1) := by decide +kernel
theorem dX6_readInto_15 : decode cX6_readInto 15 = .ok (.iconst 0, 1) := by decide +kernel
theorem dX6_readInto_16 : decode cX6_readInto 16 = .ok (.putfield 24, 3) := by decide +kernel
theorem dX6_readInto_19 : decode cX6_readInto 19 = .ok (.iconst 0, 1) := by decide +kernel
theorem dX6_readInto_20 : decode cX6_readInto 20 = .ok (.istore_n 3, 1) := by decide +kernel
theorem dX6_readInto_21 : decode cX6_readInto 21 = .ok (.iload_n 3, 1) := by decide +kernel
theorem dX6_readInto_22 : decode cX6_readInto 22 = .ok (.iload_n 2, 1) := by decide +kernel
theorem dX6_readInto_23 : decode cX6_readInto 23 = .ok (.if_icmp .ge 48, 3) := by decide +kernel
theorem dX6_readInto_26 : decode cX6_readInto 26 = .ok (.aload_n 0, 1) := by decide +kernel
theorem dX6_readInto_27 : decode cX6_readInto 27 = .ok (.aload_n 0, 1) := by decide +kernel
theorem dX6_readInto_28 : decode cX6_readInto 28 = .ok (.getfield 9, 3) := by decide +kernel
theorem dX6_readInto_31 : decode cX6_readInto 31 = .ok (.iload_n 3, 1) := by decide +kernel
theorem dX6_readInto_32 : decode cX6_readInto 32 = .ok (.iaload, 1) := by decide +kernel
theorem dX6_readInto_33 : decode cX6_readInto 33 = .ok (.bipush 32, 2) := by decide +kernel
theorem dX6_readInto_35 : decode cX6_readInto 35 = .ok (.if_icmp .ne 7, 3) := by decide +kernel
theorem dX6_readInto_38 : decode cX6_readInto 38 = .ok (.iconst 0, 1) := by decide +kernel
theorem dX6_readInto_39 : decode cX6_readInto 39 = .ok (.goto 14, 3) := by decide +kernel
theorem dX6_readInto_42 : decode cX6_readInto 42 = .ok (.aload_n 0, 1) := by decide +kernel
theorem dX6_readInto_43 : decode cX6_readInto 43 = .ok (.aload_n 0, 1) := by decide +kernel
theorem dX6_readInto_44 : decode cX6_readInto 44 = .ok (.getfield 9, 3) := by decide +kernel
theorem dX6_readInto_47 : decode cX6_readInto 47 = .ok (.iload_n 3, 1) := by decide +kernel
theorem dX6_readInto_48 : decode cX6_readInto 48 = .ok (.iaload, 1) := by decide +kernel
theorem dX6_readInto_49 : decode cX6_readInto 49 = .ok (.aload_n 1, 1) := by decide +kernel
theorem dX6_readInto_50 : decode cX6_readInto 50 = .ok (.invokevirtual 27, 3) := by decide +kernel
theorem dX6_readInto_53 : decode cX6_readInto 53 = .ok (.putfield 31, 3) := by decide +kernel
theorem dX6_readInto_56 : decode cX6_readInto 56 = .ok (.aload_n 0, 1) := by decide +kernel
theorem dX6_readInto_57 : decode cX6_readInto 57 = .ok (.getfield 31, 3) := by decide +kernel
theorem dX6_readInto_60 : decode cX6_readInto 60 = .ok (.ifCond .eq 5, 3) := by decide +kernel
theorem dX6_readInto_63 : decode cX6_readInto 63 = .ok (.iload_n 3, 1) := by decide +kernel
theorem dX6_readInto_64 : decode cX6_readInto 64 = .ok (.ireturn, 1) := by decide +kernel
theorem dX6_readInto_65 : decode cX6_readInto 65 = .ok (.iinc 3 1, 3) := by decide +kernel
theorem dX6_readInto_68 : decode cX6_readInto 68 = .ok (.goto (-47), 3) := by decide +kernel
theorem dX6_readInto_71 : decode cX6_readInto 71 = .ok (.aload_n 0, 1) := by decide +kernel
theorem dX6_readInto_72 : decode cX6_readInto 72 = .ok (.getfield 24, 3) := by decide +kernel
theorem dX6_readInto_75 : decode cX6_readInto 75 = .ok (.ifCond .ne 10, 3) := by decide +kernel
theorem dX6_readInto_78 : decode cX6_readInto 78 = .ok (.aload_n 1, 1) := by decide +kernel
theorem dX6_readInto_79 : decode cX6_readInto 79 = .ok (.getfield 34, 3) := by decide +kernel
theorem dX6_readInto_82 : decode cX6_readInto 82 = .ok (.ifCond .ne 10, 3) := by decide +kernel
theorem dX6_readInto_85 : decode cX6_readInto 85 = .ok (.aload_n 0, 1) := by decide +kernel
theorem dX6_readInto_86 : decode cX6_readInto 86 = .ok (.iconst 1, 1) := by decide +kernel
theorem dX6_readInto_87 : decode cX6_readInto 87 = .ok (.putfield 31, 3) := by decide +kernel
theorem dX6_readInto_90 : decode cX6_readInto 90 = .ok (.iload_n 2, 1) := by decide +kernel
theorem dX6_readInto_91 : decode cX6_readInto 91 = .ok (.ireturn, 1) := by decide +kernel
theorem dX6_readInto_92 : decode cX6_readInto 92 = .ok (.aload_n 1, 1) := by decide +kernel
theorem dX6_readInto_93 : decode cX6_readInto 93 = .ok (.invokevirtual 37, 3) := by decide +kernel
theorem dX6_readInto_96 : decode cX6_readInto 96 = .ok (.iconst (-1), 1) := by decide +kernel
theorem dX6_readInto_97 : decode cX6_readInto 97 = .ok (.ireturn, 1) := by decide +kernel
theorem dX6_accept_0 : decode cX6_accept 0 = .ok (.aload_n 0, 1) := by decide +kernel
theorem dX6_accept_1 : decode cX6_accept 1 = .ok (.getfield 24, 3) := by decide +kernel
theorem dX6_accept_4 : decode cX6_accept 4 = .ok (.tableswitch 114 0 8 #[52, 59, 66, 72, 79, 86, 93, 100, 107], 52) := by decide +kernel
theorem dX6_accept_56 : decode cX6_accept 56 = .ok (.aload_n 0, 1) := by decide +kernel
theorem dX6_accept_57 : decode cX6_accept 57 = .ok (.iload_n 1, 1) := by decide +kernel
theorem dX6_accept_58 : decode cX6_accept 58 = .ok (.aload_n 2, 1) := by decide +kernel
theorem dX6_accept_59 : decode cX6_accept 59 = .ok (.invokevirtual 40, 3) := by decide +kernel
theorem dX6_accept_62 : decode cX6_accept 62 = .ok (.ireturn, 1) := by decide +kernel
theorem dX6_accept_63 : decode cX6_accept 63 = .ok (.aload_n 0, 1) := by decide +kernel
theorem dX6_accept_64 : decode cX6_accept 64 = .ok (.iload_n 1, 1) := by decide +kernel
theorem dX6_accept_65 : decode cX6_accept 65 = .ok (.aload_n 2, 1) := by decide +kernel
theorem dX6_accept_66 : decode cX6_accept 66 = .ok (.invokevirtual 43, 3) := by decide +kernel
theorem dX6_accept_69 : decode cX6_accept 69 = .ok (.ireturn, 1) := by decide +kernel
theorem dX6_accept_70 : decode cX6_accept 70 = .ok (.aload_n 0, 1) := by decide +kernel
theorem dX6_accept_71 : decode cX6_accept 71 = .ok (.iload_n 1, 1) := by decide +kernel
theorem dX6_accept_72 : decode cX6_accept 72 = .ok (.invokevirtual 46, 3) := by decide +kernel
theorem dX6_accept_75 : decode cX6_accept 75 = .ok (.ireturn, 1) := by decide +kernel
theorem dX6_accept_76 : decode cX6_accept 76 = .ok (.aload_n 0, 1) := by decide +kernel
theorem dX6_accept_77 : decode cX6_accept 77 = .ok (.iload_n 1, 1) := by decide +kernel
theorem dX6_accept_78 : decode cX6_accept 78 = .ok (.aload_n 2, 1) := by decide +kernel
theorem dX6_accept_79 : decode cX6_accept 79 = .ok (.invokevirtual 50, 3) := by decide +kernel
theorem dX6_accept_82 : decode cX6_accept 82 = .ok (.ireturn, 1) := by decide +kernel
theorem dX6_accept_83 : decode cX6_accept 83 = .ok (.aload_n 0, 1) := by decide +kernel
theorem dX6_accept_84 : decode cX6_accept 84 = .ok (.iload_n 1, 1) := by decide +kernel
theorem dX6_accept_85 : decode cX6_accept 85 = .ok (.aload_n 2, 1) := by decide +kernel
theorem dX6_accept_86 : decode cX6_accept 86 = .ok (.invokevirtual 53, 3) := by decide +kernel
theorem dX6_accept_89 : decode cX6_accept 89 = .ok (.ireturn, 1) := by decide +kernel
theorem dX6_accept_90 : decode cX6_accept 90 = .ok (.aload_n 0, 1) := by decide +kernel
theorem dX6_accept_91 : decode cX6_accept 91 = .ok (.iload_n 1, 1) := by decide +kernel
theorem dX6_accept_92 : decode cX6_accept 92 = .ok (.aload_n 2, 1) := by decide +kernel
theorem dX6_accept_93 : decode cX6_accept 93 = .ok (.invokevirtual 56, 3) := by decide +kernel
theorem dX6_accept_96 : decode cX6_accept 96 = .ok (.ireturn, 1) := by decide +kernel
theorem dX6_accept_97 : decode cX6_accept 97 = .ok (.aload_n 0, 1) := by decide +kernel
theorem dX6_accept_98 : decode cX6_accept 98 = .ok (.iload_n 1, 1) := by decide +kernel
theorem dX6_accept_99 : decode cX6_accept 99 = .ok (.aload_n 2, 1) := by decide +kernel
theorem dX6_accept_100 : decode cX6_accept 100 = .ok (.invokevirtual 59, 3) := by decide +kernel
theorem dX6_accept_103 : decode cX6_accept 103 = .ok (.ireturn, 1) := by decide +kernel
theorem dX6_accept_104 : decode cX6_accept 104 = .ok (.aload_n 0, 1) := by decide +kernel
theorem dX6_accept_105 : decode cX6_accept 105 = .ok (.iload_n 1, 1) := by decide +kernel
theorem dX6_accept_106 : decode cX6_accept 106 = .ok (.aload_n 2, 1) := by decide +kernel
theorem dX6_accept_107 : decode cX6_accept 107 = .ok (.invokevirtual 62, 3) := by decide +kernel
theorem dX6_accept_110 : decode cX6_accept 110 = .ok (.ireturn, 1) := by decide +kernel
theorem dX6_accept_111 : decode cX6_accept 111 = .ok (.aload_n 0, 1) := by decide +kernel
theorem dX6_accept_112 : decode cX6_accept 112 = .ok (.iload_n 1, 1) := by decide +kernel
theorem dX6_accept_113 : decode cX6_accept 113 = .ok (.aload_n 2, 1) := by decide +kernel
theorem dX6_accept_114 : decode cX6_accept 114 = .ok (.invokevirtual 65, 3) := by decide +kernel
theorem dX6_accept_117 : decode cX6_accept 117 = .ok (.ireturn, 1) := by decide +kernel
theorem dX6_accept_118 : decode cX6_accept 118 = .ok (.aload_n 0, 1) := by decide +kernel
theorem dX6_accept_119 : decode cX6_accept 119 = .ok (.iload_n 1, 1) := by decide +kernel
theorem dX6_accept_120 : decode cX6_accept 120 = .ok (.aload_n 2, 1) := by decide +kernel
theorem dX6_accept_121 : decode cX6_accept 121 = .ok (.invokevirtual 68, 3) := by decide +kernel
theorem dX6_accept_124 : decode cX6_accept 124 = .ok (.ireturn, 1) := by decide +kernel
theorem dX6_goOn_0 : decode cX6_goOn 0 = .ok (.aload_n 0, 1) := by decide +kernel
theorem dX6_goOn_1 : decode cX6_goOn 1 = .ok (.iload_n 1, 1) := by decide +kernel
theorem dX6_goOn_2 : decode cX6_goOn 2 = .ok (.putfield 24, 3) := by decide +kernel
theorem dX6_goOn_5 : decode cX6_goOn 5 = .ok (.iconst 0, 1) := by decide +kernel
theorem dX6_goOn_6 : decode cX6_goOn 6 = .ok (.ireturn, 1) := by decide +kernel
theorem dX6_acceptFirstLine_0 : decode cX6_acceptFirstLine 0 = .ok (.iload_n 1, 1) := by decide +kernel
theorem dX6_acceptFirstLine_1 : decode cX6_acceptFirstLine 1 = .ok (.bipush 97, 2) := by decide +kernel
theorem dX6_acceptFirstLine_3 : decode cX6_acceptFirstLine 3 = .ok (.if_icmp .lt 9, 3) := by decide +kernel
theorem dX6_acceptFirstLine_6 : decode cX6_acceptFirstLine 6 = .ok (.iload_n 1, 1) := by decide +kernel
theorem dX6_acceptFirstLine_7 : decode cX6_acceptFirstLine 7 = .ok (.bipush 112, 2) := by decide +kernel
theorem dX6_acceptFirstLine_9 : decode cX6_acceptFirstLine 9 = .ok (.if_icmp .le 5, 3) := by decide +kernel
theorem dX6_acceptFirstLine_12 : decode cX6_acceptFirstLine 12 = .ok (.iconst 1, 1) := by decide +kernel
theorem dX6_acceptFirstLine_13 : decode cX6_acceptFirstLine 13 = .ok (.ireturn, 1) := by decide +kernel
theorem dX6_acceptFirstLine_14 : decode cX6_acceptFirstLine 14 = .ok (.aload_n 0, 1) := by decide +kernel
theorem dX6_acceptFirstLine_15 : decode cX6_acceptFirstLine 15 = .ok (.iload_n 1, 1) := by decide +kernel
theorem dX6_acceptFirstLine_16 : decode cX6_acceptFirstLine 16 = .ok (.bipush 97, 2) := by decide +kernel
theorem dX6_acceptFirstLine_18 : decode cX6_acceptFirstLine 18 = .ok (.isub, 1) := by decide +kernel
theorem dX6_acceptFirstLine_19 : decode cX6_acceptFirstLine 19 = .ok (.putfield 71, 3) := by decide +kernel
theorem dX6_acceptFirstLine_22 : decode cX6_acceptFirstLine 22 = .ok (.aload_n 2, 1) := by decide +kernel
theorem dX6_acceptFirstLine_23 : decode cX6_acceptFirstLine 23 = .ok (.aload_n 0, 1) := by decide +kernel
theorem dX6_acceptFirstLine_24 : decode cX6_acceptFirstLine 24 = .ok (.getfield 71, 3) := by decide +kernel
theorem dX6_acceptFirstLine_27 : decode cX6_acceptFirstLine 27 = .ok (.invokevirtual 74, 3) := by decide +kernel
theorem dX6_acceptFirstLine_30 : decode cX6_acceptFirstLine 30 = .ok (.aload_n 0, 1) := by decide +kernel
theorem dX6_acceptFirstLine_31 : decode cX6_acceptFirstLine 31 = .ok (.iconst 1, 1) := by decide +kernel
theorem dX6_acceptFirstLine_32 : decode cX6_acceptFirstLine 32 = .ok (.invokevirtual 78, 3) := by decide +kernel
theorem dX6_acceptFirstLine_35 : decode cX6_acceptFirstLine 35 = .ok (.ireturn, 1) := by decide +kernel
theorem dX6_acceptArrowOrDot_0 : decode cX6_acceptArrowOrDot 0 = .ok (.iload_n 1, 1) := by decide +kernel
theorem dX6_acceptArrowOrDot_1 : decode cX6_acceptArrowOrDot 1 = .ok (.bipush 46, 2) := by decide +kernel
theorem dX6_acceptArrowOrDot_3 : decode cX6_acceptArrowOrDot 3 = .ok (.if_icmp .ne 24, 3) := by decide +kernel
theorem dX6_acceptArrowOrDot_6 : decode cX6_acceptArrowOrDot 6 = .ok (.aload_n 2, 1) := by decide +kernel
theorem dX6_acceptArrowOrDot_7 : decode cX6_acceptArrowOrDot 7 = .ok (.dup, 1) := by decide +kernel
theorem dX6_acceptArrowOrDot_8 : decode cX6_acceptArrowOrDot 8 = .ok (.getfield 81, 3) := by decide +kernel
theorem dX6_acceptArrowOrDot_11 : decode cX6_acceptArrowOrDot 11 = .ok (.iconst 1, 1) := by decide +kernel
theorem dX6_acceptArrowOrDot_12 : decode cX6_acceptArrowOrDot 12 = .ok (.aload_n 0, 1) := by decide +kernel
theorem dX6_acceptArrowOrDot_13 : decode cX6_acceptArrowOrDot 13 = .ok (.getfield 71, 3) := by decide +kernel
theorem dX6_acceptArrowOrDot_16 : decode cX6_acceptArrowOrDot 16 = .ok (.ishl, 1) := by decide +kernel
theorem dX6_acceptArrowOrDot_17 : decode cX6_acceptArrowOrDot 17 = .ok (.ior, 1) := by decide +kernel
theorem dX6_acceptArrowOrDot_18 : decode cX6_acceptArrowOrDot 18 = .ok (.putfield 81, 3) := by decide +kernel
theorem dX6_acceptArrowOrDot_21 : decode cX6_acceptArrowOrDot 21 = .ok (.aload_n 0, 1) := by decide +kernel
theorem dX6_acceptArrowOrDot_22 : decode cX6_acceptArrowOrDot 22 = .ok (.iconst 2, 1) := by decide +kernel
theorem dX6_acceptArrowOrDot_23 : decode cX6_acceptArrowOrDot 23 = .ok (.invokevirtual 78, 3) := by decide +kernel
theorem dX6_acceptArrowOrDot_26 : decode cX6_acceptArrowOrDot 26 = .ok (.ireturn, 1) := by decide +kernel
theorem dX6_acceptArrowOrDot_27 : decode cX6_acceptArrowOrDot 27 = .ok (.iload_n 1, 1) := by decide +kernel
theorem dX6_acceptArrowOrDot_28 : decode cX6_acceptArrowOrDot 28 = .ok (.bipush 62, 2) := by decide +kernel
theorem dX6_acceptArrowOrDot_30 : decode cX6_acceptArrowOrDot 30 = .ok (.if_icmp .eq 5, 3) := by decide +kernel
theorem dX6_acceptArrowOrDot_33 : decode cX6_acceptArrowOrDot 33 = .ok (.iconst 1, 1) := by decide +kernel
theorem dX6_acceptArrowOrDot_34 : decode cX6_acceptArrowOrDot 34 = .ok (.ireturn, 1) := by decide +kernel
theorem dX6_acceptArrowOrDot_35 : decode cX6_acceptArrowOrDot 35 = .ok (.aload_n 2, 1) := by decide +kernel
theorem dX6_acceptArrowOrDot_36 : decode cX6_acceptArrowOrDot 36 = .ok (.aload_n 0, 1) := by decide +kernel
theorem dX6_acceptArrowOrDot_37 : decode cX6_acceptArrowOrDot 37 = .ok (.getfield 71, 3) := by decide +kernel
theorem dX6_acceptArrowOrDot_40 : decode cX6_acceptArrowOrDot 40 = .ok (.invokevirtual 84, 3) := by decide +kernel
theorem dX6_acceptArrowOrDot_43 : decode cX6_acceptArrowOrDot 43 = .ok (.ifCond .eq 11, 3) := by decide +kernel
theorem dX6_acceptArrowOrDot_46 : decode cX6_acceptArrowOrDot 46 = .ok (.aload_n 0, 1) := by decide +kernel
theorem dX6_acceptArrowOrDot_47 : decode cX6_acceptArrowOrDot 47 = .ok (.iconst 3, 1) := by decide +kernel
theorem dX6_acceptArrowOrDot_48 : decode cX6_acceptArrowOrDot 48 = .ok (.invokevirtual 78, 3) := by decide +kernel
theorem dX6_acceptArrowOrDot_51 : decode cX6_acceptArrowOrDot 51 = .ok (.goto 4, 3) := by decide +kernel
theorem dX6_acceptArrowOrDot_54 : decode cX6_acceptArrowOrDot 54 = .ok (.iconst 3, 1) := by decide +kernel
theorem dX6_acceptArrowOrDot_55 : decode cX6_acceptArrowOrDot 55 = .ok (.ireturn, 1) := by decide +kernel
theorem dX6_acceptClauseEnd_0 : decode cX6_acceptClauseEnd 0 = .ok (.iload_n 1, 1) := by decide +kernel
theorem dX6_acceptClauseEnd_1 : decode cX6_acceptClauseEnd 1 = .ok (.bipush 59, 2) := by decide +kernel
theorem dX6_acceptClauseEnd_3 : decode cX6_acceptClauseEnd 3 = .ok (.if_icmp .ne 11, 3) := by decide +kernel
theorem dX6_acceptClauseEnd_6 : decode cX6_acceptClauseEnd 6 = .ok (.aload_n 0, 1) := by decide +kernel
theorem dX6_acceptClauseEnd_7 : decode cX6_acceptClauseEnd 7 = .ok (.iconst 0, 1) := by decide +kernel
theorem dX6_acceptClauseEnd_8 : decode cX6_acceptClauseEnd 8 = .ok (.invokevirtual 78, 3) := by decide +kernel
theorem dX6_acceptClauseEnd_11 : decode cX6_acceptClauseEnd 11 = .ok (.goto 4, 3) := by decide +kernel
theorem dX6_acceptClauseEnd_14 : decode cX6_acceptClauseEnd 14 = .ok (.iconst 1, 1) := by decide +kernel
theorem dX6_acceptClauseEnd_15 : decode cX6_acceptClauseEnd 15 = .ok (.ireturn, 1) := by decide +kernel
theorem dX6_acceptSecondLine_0 : decode cX6_acceptSecondLine 0 = .ok (.iload_n 1, 1) := by decide +kernel
theorem dX6_acceptSecondLine_1 : decode cX6_acceptSecondLine 1 = .ok (.bipush 97, 2) := by decide +kernel
theorem dX6_acceptSecondLine_3 : decode cX6_acceptSecondLine 3 = .ok (.if_icmp .lt 9, 3) := by decide +kernel
theorem dX6_acceptSecondLine_6 : decode cX6_acceptSecondLine 6 = .ok (.iload_n 1, 1) := by decide +kernel
theorem dX6_acceptSecondLine_7 : decode cX6_acceptSecondLine 7 = .ok (.bipush 112, 2) := by decide +kernel
theorem dX6_acceptSecondLine_9 : decode cX6_acceptSecondLine 9 = .ok (.if_icmp .le 5, 3) := by decide +kernel
theorem dX6_acceptSecondLine_12 : decode cX6_acceptSecondLine 12 = .ok (.iconst 1, 1) := by decide +kernel
theorem dX6_acceptSecondLine_13 : decode cX6_acceptSecondLine 13 = .ok (.ireturn, 1) := by decide +kernel
theorem dX6_acceptSecondLine_14 : decode cX6_acceptSecondLine 14 = .ok (.aload_n 2, 1) := by decide +kernel
theorem dX6_acceptSecondLine_15 : decode cX6_acceptSecondLine 15 = .ok (.iload_n 1, 1) := by decide +kernel
theorem dX6_acceptSecondLine_16 : decode cX6_acceptSecondLine 16 = .ok (.bipush 97, 2) := by decide +kernel
theorem dX6_acceptSecondLine_18 : decode cX6_acceptSecondLine 18 = .ok (.isub, 1) := by decide +kernel
theorem dX6_acceptSecondLine_19 : decode cX6_acceptSecondLine 19 = .ok (.invokevirtual 74, 3) := by decide +kernel
theorem dX6_acceptSecondLine_22 : decode cX6_acceptSecondLine 22 = .ok (.aload_n 2, 1) := by decide +kernel
theorem dX6_acceptSecondLine_23 : decode cX6_acceptSecondLine 23 = .ok (.getfield 88, 3) := by decide +kernel
theorem dX6_acceptSecondLine_26 : decode cX6_acceptSecondLine 26 = .ok (.aload_n 2, 1) := by decide +kernel
theorem dX6_acceptSecondLine_27 : decode cX6_acceptSecondLine 27 = .ok (.getfield 91, 3) := by decide +kernel
theorem dX6_acceptSecondLine_30 : decode cX6_acceptSecondLine 30 = .ok (.iconst 1, 1) := by decide +kernel
theorem dX6_acceptSecondLine_31 : decode cX6_acceptSecondLine 31 = .ok (.isub, 1) := by decide +kernel
theorem dX6_acceptSecondLine_32 : decode cX6_acceptSecondLine 32 = .ok (.iload_n 1, 1) := by decide +kernel
theorem dX6_acceptSecondLine_33 : decode cX6_acceptSecondLine 33 = .ok (.bipush 97, 2) := by decide +kernel
theorem dX6_acceptSecondLine_35 : decode cX6_acceptSecondLine 35 = .ok (.isub, 1) := by decide +kernel
theorem dX6_acceptSecondLine_36 : decode cX6_acceptSecondLine 36 = .ok (.iastore, 1) := by decide +kernel
theorem dX6_acceptSecondLine_37 : decode cX6_acceptSecondLine 37 = .ok (.aload_n 0, 1) := by decide +kernel
theorem dX6_acceptSecondLine_38 : decode cX6_acceptSecondLine 38 = .ok (.iconst 4, 1) := by decide +kernel
theorem dX6_acceptSecondLine_39 : decode cX6_acceptSecondLine 39 = .ok (.invokevirtual 78, 3) := by decide +kernel
theorem dX6_acceptSecondLine_42 : decode cX6_acceptSecondLine 42 = .ok (.ireturn, 1) := by decide +kernel
theorem dX6_acceptCost_0 : decode cX6_acceptCost 0 = .ok (.iload_n 1, 1) := by decide +kernel
theorem dX6_acceptCost_1 : decode cX6_acceptCost 1 = .ok (.bipush 48, 2) := by decide +kernel
theorem dX6_acceptCost_3 : decode cX6_acceptCost 3 = .ok (.if_icmp .lt 9, 3) := by decide +kernel
theorem dX6_acceptCost_6 : decode cX6_acceptCost 6 = .ok (.iload_n 1, 1) := by decide +kernel
theorem dX6_acceptCost_7 : decode cX6_acceptCost 7 = .ok (.bipush 57, 2) := by decide +kernel
theorem dX6_acceptCost_9 : decode cX6_acceptCost 9 = .ok (.if_icmp .le 10, 3) := by decide +kernel
theorem dX6_acceptCost_12 : decode cX6_acceptCost 12 = .ok (.aload_n 0, 1) := by decide +kernel
theorem dX6_acceptCost_13 : decode cX6_acceptCost 13 = .ok (.iload_n 1, 1) := by decide +kernel
theorem dX6_acceptCost_14 : decode cX6_acceptCost 14 = .ok (.aload_n 2, 1) := by decide +kernel
theorem dX6_acceptCost_15 : decode cX6_acceptCost 15 = .ok (.invokevirtual 56, 3) := by decide +kernel
theorem dX6_acceptCost_18 : decode cX6_acceptCost 18 = .ok (.ireturn, 1) := by decide +kernel
theorem dX6_acceptCost_19 : decode cX6_acceptCost 19 = .ok (.aload_n 2, 1) := by decide +kernel
theorem dX6_acceptCost_20 : decode cX6_acceptCost 20 = .ok (.getfield 94, 3) := by decide +kernel
theorem dX6_acceptCost_23 : decode cX6_acceptCost 23 = .ok (.aload_n 2, 1) := by decide +kernel
theorem dX6_acceptCost_24 : decode cX6_acceptCost 24 = .ok (.getfield 91, 3) := by decide +kernel
theorem dX6_acceptCost_27 : decode cX6_acceptCost 27 = .ok (.iconst 1, 1) := by decide +kernel
theorem dX6_acceptCost_28 : decode cX6_acceptCost 28 = .ok (.isub, 1) := by decide +kernel
theorem dX6_acceptCost_29 : decode cX6_acceptCost 29 = .ok (.iload_n 1, 1) := by decide +kernel
theorem dX6_acceptCost_30 : decode cX6_acceptCost 30 = .ok (.bipush 48, 2) := by decide +kernel
theorem dX6_acceptCost_32 : decode cX6_acceptCost 32 = .ok (.isub, 1) := by decide +kernel
theorem dX6_acceptCost_33 : decode cX6_acceptCost 33 = .ok (.iastore, 1) := by decide +kernel
theorem dX6_acceptCost_34 : decode cX6_acceptCost 34 = .ok (.aload_n 0, 1) := by decide +kernel
theorem dX6_acceptCost_35 : decode cX6_acceptCost 35 = .ok (.iconst 5, 1) := by decide +kernel
theorem dX6_acceptCost_36 : decode cX6_acceptCost 36 = .ok (.invokevirtual 78, 3) := by decide +kernel
theorem dX6_acceptCost_39 : decode cX6_acceptCost 39 = .ok (.ireturn, 1) := by decide +kernel
theorem dX6_acceptRest_0 : decode cX6_acceptRest 0 = .ok (.iload_n 1, 1) := by decide +kernel
theorem dX6_acceptRest_1 : decode cX6_acceptRest 1 = .ok (.bipush 63, 2) := by decide +kernel
theorem dX6_acceptRest_3 : decode cX6_acceptRest 3 = .ok (.if_icmp .ne 18, 3) := by decide +kernel
theorem dX6_acceptRest_6 : decode cX6_acceptRest 6 = .ok (.aload_n 0, 1) := by decide +kernel
theorem dX6_acceptRest_7 : decode cX6_acceptRest 7 = .ok (.getfield 24, 3) := by decide +kernel
theorem dX6_acceptRest_10 : decode cX6_acceptRest 10 = .ok (.bipush 7, 2) := by decide +kernel
theorem dX6_acceptRest_12 : decode cX6_acceptRest 12 = .ok (.if_icmp .eq 9, 3) := by decide +kernel
theorem dX6_acceptRest_15 : decode cX6_acceptRest 15 = .ok (.aload_n 0, 1) := by decide +kernel
theorem dX6_acceptRest_16 : decode cX6_acceptRest 16 = .ok (.aload_n 2, 1) := by decide +kernel
theorem dX6_acceptRest_17 : decode cX6_acceptRest 17 = .ok (.invokevirtual 97, 3) := by decide +kernel
theorem dX6_acceptRest_20 : decode cX6_acceptRest 20 = .ok (.ireturn, 1) := by decide +kernel
theorem dX6_acceptRest_21 : decode cX6_acceptRest 21 = .ok (.iload_n 1, 1) := by decide +kernel
theorem dX6_acceptRest_22 : decode cX6_acceptRest 22 = .ok (.bipush 33, 2) := by decide +kernel
theorem dX6_acceptRest_24 : decode cX6_acceptRest 24 = .ok (.if_icmp .ne 10, 3) := by decide +kernel
theorem dX6_acceptRest_27 : decode cX6_acceptRest 27 = .ok (.aload_n 0, 1) := by decide +kernel
theorem dX6_acceptRest_28 : decode cX6_acceptRest 28 = .ok (.bipush 8, 2) := by decide +kernel
theorem dX6_acceptRest_30 : decode cX6_acceptRest 30 = .ok (.invokevirtual 78, 3) := by decide +kernel
theorem dX6_acceptRest_33 : decode cX6_acceptRest 33 = .ok (.ireturn, 1) := by decide +kernel
theorem dX6_acceptRest_34 : decode cX6_acceptRest 34 = .ok (.aload_n 0, 1) := by decide +kernel
theorem dX6_acceptRest_35 : decode cX6_acceptRest 35 = .ok (.iload_n 1, 1) := by decide +kernel
theorem dX6_acceptRest_36 : decode cX6_acceptRest 36 = .ok (.invokevirtual 46, 3) := by decide +kernel
theorem dX6_acceptRest_39 : decode cX6_acceptRest 39 = .ok (.ireturn, 1) := by decide +kernel
theorem dX6_openAlternative_0 : decode cX6_openAlternative 0 = .ok (.aload_n 1, 1) := by decide +kernel
theorem dX6_openAlternative_1 : decode cX6_openAlternative 1 = .ok (.aload_n 1, 1) := by decide +kernel
theorem dX6_openAlternative_2 : decode cX6_openAlternative 2 = .ok (.getfield 91, 3) := by decide +kernel
theorem dX6_openAlternative_5 : decode cX6_openAlternative 5 = .ok (.iconst 1, 1) := by decide +kernel
theorem dX6_openAlternative_6 : decode cX6_openAlternative 6 = .ok (.isub, 1) := by decide +kernel
theorem dX6_openAlternative_7 : decode cX6_openAlternative 7 = .ok (.invokevirtual 101, 3) := by decide +kernel
theorem dX6_openAlternative_10 : decode cX6_openAlternative 10 = .ok (.ifCond .eq 12, 3) := by decide +kernel
theorem dX6_openAlternative_13 : decode cX6_openAlternative 13 = .ok (.aload_n 0, 1) := by decide +kernel
theorem dX6_openAlternative_14 : decode cX6_openAlternative 14 = .ok (.bipush 6, 2) := by decide +kernel
theorem dX6_openAlternative_16 : decode cX6_openAlternative 16 = .ok (.invokevirtual 78, 3) := by decide +kernel
theorem dX6_openAlternative_19 : decode cX6_openAlternative 19 = .ok (.goto 4, 3) := by decide +kernel
theorem dX6_openAlternative_22 : decode cX6_openAlternative 22 = .ok (.iconst 2, 1) := by decide +kernel
theorem dX6_openAlternative_23 : decode cX6_openAlternative 23 = .ok (.ireturn, 1) := by decide +kernel
theorem dX6_acceptAsked_0 : decode cX6_acceptAsked 0 = .ok (.iload_n 1, 1) := by decide +kernel
theorem dX6_acceptAsked_1 : decode cX6_acceptAsked 1 = .ok (.invokestatic 104, 3) := by decide +kernel
theorem dX6_acceptAsked_4 : decode cX6_acceptAsked 4 = .ok (.istore_n 3, 1) := by decide +kernel
theorem dX6_acceptAsked_5 : decode cX6_acceptAsked 5 = .ok (.iload_n 1, 1) := by decide +kernel
theorem dX6_acceptAsked_6 : decode cX6_acceptAsked 6 = .ok (.invokestatic 107, 3) := by decide +kernel
theorem dX6_acceptAsked_9 : decode cX6_acceptAsked 9 = .ok (.istore 4, 2) := by decide +kernel
theorem dX6_acceptAsked_11 : decode cX6_acceptAsked 11 = .ok (.iload_n 3, 1) := by decide +kernel
theorem dX6_acceptAsked_12 : decode cX6_acceptAsked 12 = .ok (.iload 4, 2) := by decide +kernel
theorem dX6_acceptAsked_14 : decode cX6_acceptAsked 14 = .ok (.ior, 1) := by decide +kernel
theorem dX6_acceptAsked_15 : decode cX6_acceptAsked 15 = .ok (.ifCond .ne 5, 3) := by decide +kernel
theorem dX6_acceptAsked_18 : decode cX6_acceptAsked 18 = .ok (.iconst 1, 1) := by decide +kernel
theorem dX6_acceptAsked_19 : decode cX6_acceptAsked 19 = .ok (.ireturn, 1) := by decide +kernel
theorem dX6_acceptAsked_20 : decode cX6_acceptAsked 20 = .ok (.aload_n 2, 1) := by decide +kernel
theorem dX6_acceptAsked_21 : decode cX6_acceptAsked 21 = .ok (.getfield 91, 3) := by decide +kernel
theorem dX6_acceptAsked_24 : decode cX6_acceptAsked 24 = .ok (.iconst 1, 1) := by decide +kernel
theorem dX6_acceptAsked_25 : decode cX6_acceptAsked 25 = .ok (.isub, 1) := by decide +kernel
theorem dX6_acceptAsked_26 : decode cX6_acceptAsked 26 = .ok (.istore 5, 2) := by decide +kernel
theorem dX6_acceptAsked_28 : decode cX6_acceptAsked 28 = .ok (.iload 5, 2) := by decide +kernel
theorem dX6_acceptAsked_30 : decode cX6_acceptAsked 30 = .ok (.iconst 3, 1) := by decide +kernel
theorem dX6_acceptAsked_31 : decode cX6_acceptAsked 31 = .ok (.imul, 1) := by decide +kernel
theorem dX6_acceptAsked_32 : decode cX6_acceptAsked 32 = .ok (.aload_n 2, 1) := by decide +kernel
theorem dX6_acceptAsked_33 : decode cX6_acceptAsked 33 = .ok (.getfield 110, 3) := by decide +kernel
theorem dX6_acceptAsked_36 : decode cX6_acceptAsked 36 = .ok (.iload 5, 2) := by decide +kernel
theorem dX6_acceptAsked_38 : decode cX6_acceptAsked 38 = .ok (.iaload, 1) := by decide +kernel
theorem dX6_acceptAsked_39 : decode cX6_acceptAsked 39 = .ok (.iadd, 1) := by decide +kernel
theorem dX6_acceptAsked_40 : decode cX6_acceptAsked 40 = .ok (.iconst 1, 1) := by decide +kernel
theorem dX6_acceptAsked_41 : decode cX6_acceptAsked 41 = .ok (.isub, 1) := by decide +kernel
theorem dX6_acceptAsked_42 : decode cX6_acceptAsked 42 = .ok (.istore 6, 2) := by decide +kernel
theorem dX6_acceptAsked_44 : decode cX6_acceptAsked 44 = .ok (.aload_n 2, 1) := by decide +kernel
theorem dX6_acceptAsked_45 : decode cX6_acceptAsked 45 = .ok (.getfield 113, 3) := by decide +kernel
theorem dX6_acceptAsked_48 : decode cX6_acceptAsked 48 = .ok (.iload 6, 2) := by decide +kernel
theorem dX6_acceptAsked_50 : decode cX6_acceptAsked 50 = .ok (.dup2, 1) := by decide +kernel
theorem dX6_acceptAsked_51 : decode cX6_acceptAsked 51 = .ok (.iaload, 1) := by decide +kernel
theorem dX6_acceptAsked_52 : decode cX6_acceptAsked 52 = .ok (.iload_n 3, 1) := by decide +kernel
theorem dX6_acceptAsked_53 : decode cX6_acceptAsked 53 = .ok (.ior, 1) := by decide +kernel
theorem dX6_acceptAsked_54 : decode cX6_acceptAsked 54 = .ok (.iastore, 1) := by decide +kernel
theorem dX6_acceptAsked_55 : decode cX6_acceptAsked 55 = .ok (.aload_n 2, 1) := by decide +kernel
theorem dX6_acceptAsked_56 : decode cX6_acceptAsked 56 = .ok (.getfield 116, 3) := by decide +kernel
theorem dX6_acceptAsked_59 : decode cX6_acceptAsked 59 = .ok (.iload 6, 2) := by decide +kernel
theorem dX6_acceptAsked_61 : decode cX6_acceptAsked 61 = .ok (.dup2, 1) := by decide +kernel
theorem dX6_acceptAsked_62 : decode cX6_acceptAsked 62 = .ok (.iaload, 1) := by decide +kernel
theorem dX6_acceptAsked_63 : decode cX6_acceptAsked 63 = .ok (.iload 4, 2) := by decide +kernel
theorem dX6_acceptAsked_65 : decode cX6_acceptAsked 65 = .ok (.ior, 1) := by decide +kernel
theorem dX6_acceptAsked_66 : decode cX6_acceptAsked 66 = .ok (.iastore, 1) := by decide +kernel
theorem dX6_acceptAsked_67 : decode cX6_acceptAsked 67 = .ok (.aload_n 0, 1) := by decide +kernel
theorem dX6_acceptAsked_68 : decode cX6_acceptAsked 68 = .ok (.bipush 7, 2) := by decide +kernel
theorem dX6_acceptAsked_70 : decode cX6_acceptAsked 70 = .ok (.invokevirtual 78, 3) := by decide +kernel
theorem dX6_acceptAsked_73 : decode cX6_acceptAsked 73 = .ok (.ireturn, 1) := by decide +kernel
theorem dX6_acceptMoreOfGuard_0 : decode cX6_acceptMoreOfGuard 0 = .ok (.iload_n 1, 1) := by decide +kernel
theorem dX6_acceptMoreOfGuard_1 : decode cX6_acceptMoreOfGuard 1 = .ok (.invokestatic 104, 3) := by decide +kernel
theorem dX6_acceptMoreOfGuard_4 : decode cX6_acceptMoreOfGuard 4 = .ok (.iload_n 1, 1) := by decide +kernel
theorem dX6_acceptMoreOfGuard_5 : decode cX6_acceptMoreOfGuard 5 = .ok (.invokestatic 107, 3) := by decide +kernel
theorem dX6_acceptMoreOfGuard_8 : decode cX6_acceptMoreOfGuard 8 = .ok (.ior, 1) := by decide +kernel
theorem dX6_acceptMoreOfGuard_9 : decode cX6_acceptMoreOfGuard 9 = .ok (.ifCond .eq 10, 3) := by decide +kernel
theorem dX6_acceptMoreOfGuard_12 : decode cX6_acceptMoreOfGuard 12 = .ok (.aload_n 0, 1) := by decide +kernel
theorem dX6_acceptMoreOfGuard_13 : decode cX6_acceptMoreOfGuard 13 = .ok (.iload_n 1, 1) := by decide +kernel
theorem dX6_acceptMoreOfGuard_14 : decode cX6_acceptMoreOfGuard 14 = .ok (.aload_n 2, 1) := by decide +kernel
theorem dX6_acceptMoreOfGuard_15 : decode cX6_acceptMoreOfGuard 15 = .ok (.invokevirtual 59, 3) := by decide +kernel
theorem dX6_acceptMoreOfGuard_18 : decode cX6_acceptMoreOfGuard 18 = .ok (.ireturn, 1) := by decide +kernel
theorem dX6_acceptMoreOfGuard_19 : decode cX6_acceptMoreOfGuard 19 = .ok (.iload_n 1, 1) := by decide +kernel
theorem dX6_acceptMoreOfGuard_20 : decode cX6_acceptMoreOfGuard 20 = .ok (.bipush 124, 2) := by decide +kernel
theorem dX6_acceptMoreOfGuard_22 : decode cX6_acceptMoreOfGuard 22 = .ok (.if_icmp .ne 11, 3) := by decide +kernel
theorem dX6_acceptMoreOfGuard_25 : decode cX6_acceptMoreOfGuard 25 = .ok (.aload_n 0, 1) := by decide +kernel
theorem dX6_acceptMoreOfGuard_26 : decode cX6_acceptMoreOfGuard 26 = .ok (.aload_n 2, 1) := by decide +kernel
theorem dX6_acceptMoreOfGuard_27 : decode cX6_acceptMoreOfGuard 27 = .ok (.invokevirtual 97, 3) := by decide +kernel
theorem dX6_acceptMoreOfGuard_30 : decode cX6_acceptMoreOfGuard 30 = .ok (.goto 9, 3) := by decide +kernel
theorem dX6_acceptMoreOfGuard_33 : decode cX6_acceptMoreOfGuard 33 = .ok (.aload_n 0, 1) := by decide +kernel
theorem dX6_acceptMoreOfGuard_34 : decode cX6_acceptMoreOfGuard 34 = .ok (.iload_n 1, 1) := by decide +kernel
theorem dX6_acceptMoreOfGuard_35 : decode cX6_acceptMoreOfGuard 35 = .ok (.aload_n 2, 1) := by decide +kernel
theorem dX6_acceptMoreOfGuard_36 : decode cX6_acceptMoreOfGuard 36 = .ok (.invokevirtual 56, 3) := by decide +kernel
theorem dX6_acceptMoreOfGuard_39 : decode cX6_acceptMoreOfGuard 39 = .ok (.ireturn, 1) := by decide +kernel
theorem dX6_acceptChanged_0 : decode cX6_acceptChanged 0 = .ok (.iload_n 1, 1) := by decide +kernel
theorem dX6_acceptChanged_1 : decode cX6_acceptChanged 1 = .ok (.invokestatic 104, 3) := by decide +kernel
theorem dX6_acceptChanged_4 : decode cX6_acceptChanged 4 = .ok (.istore_n 3, 1) := by decide +kernel
theorem dX6_acceptChanged_5 : decode cX6_acceptChanged 5 = .ok (.iload_n 1, 1) := by decide +kernel
theorem dX6_acceptChanged_6 : decode cX6_acceptChanged 6 = .ok (.invokestatic 107, 3) := by decide +kernel
theorem dX6_acceptChanged_9 : decode cX6_acceptChanged 9 = .ok (.istore 4, 2) := by decide +kernel
theorem dX6_acceptChanged_11 : decode cX6_acceptChanged 11 = .ok (.iload_n 3, 1) := by decide +kernel
theorem dX6_acceptChanged_12 : decode cX6_acceptChanged 12 = .ok (.iload 4, 2) := by decide +kernel
theorem dX6_acceptChanged_14 : decode cX6_acceptChanged 14 = .ok (.ior, 1) := by decide +kernel
theorem dX6_acceptChanged_15 : decode cX6_acceptChanged 15 = .ok (.ifCond .ne 5, 3) := by decide +kernel
theorem dX6_acceptChanged_18 : decode cX6_acceptChanged 18 = .ok (.iconst 1, 1) := by decide +kernel
theorem dX6_acceptChanged_19 : decode cX6_acceptChanged 19 = .ok (.ireturn, 1) := by decide +kernel
theorem dX6_acceptChanged_20 : decode cX6_acceptChanged 20 = .ok (.aload_n 2, 1) := by decide +kernel
theorem dX6_acceptChanged_21 : decode cX6_acceptChanged 21 = .ok (.getfield 91, 3) := by decide +kernel
theorem dX6_acceptChanged_24 : decode cX6_acceptChanged 24 = .ok (.iconst 1, 1) := by decide +kernel
theorem dX6_acceptChanged_25 : decode cX6_acceptChanged 25 = .ok (.isub, 1) := by decide +kernel
theorem dX6_acceptChanged_26 : decode cX6_acceptChanged 26 = .ok (.istore 5, 2) := by decide +kernel
theorem dX6_acceptChanged_28 : decode cX6_acceptChanged 28 = .ok (.aload_n 2, 1) := by decide +kernel
theorem dX6_acceptChanged_29 : decode cX6_acceptChanged 29 = .ok (.getfield 119, 3) := by decide +kernel
theorem dX6_acceptChanged_32 : decode cX6_acceptChanged 32 = .ok (.iload 5, 2) := by decide +kernel
theorem dX6_acceptChanged_34 : decode cX6_acceptChanged 34 = .ok (.iaload, 1) := by decide +kernel
theorem dX6_acceptChanged_35 : decode cX6_acceptChanged 35 = .ok (.aload_n 2, 1) := by decide +kernel
theorem dX6_acceptChanged_36 : decode cX6_acceptChanged 36 = .ok (.getfield 122, 3) := by decide +kernel
theorem dX6_acceptChanged_39 : decode cX6_acceptChanged 39 = .ok (.iload 5, 2) := by decide +kernel
theorem dX6_acceptChanged_41 : decode cX6_acceptChanged 41 = .ok (.iaload, 1) := by decide +kernel
theorem dX6_acceptChanged_42 : decode cX6_acceptChanged 42 = .ok (.ior, 1) := by decide +kernel
theorem dX6_acceptChanged_43 : decode cX6_acceptChanged 43 = .ok (.iload_n 3, 1) := by decide +kernel
theorem dX6_acceptChanged_44 : decode cX6_acceptChanged 44 = .ok (.iload 4, 2) := by decide +kernel
theorem dX6_acceptChanged_46 : decode cX6_acceptChanged 46 = .ok (.ior, 1) := by decide +kernel
theorem dX6_acceptChanged_47 : decode cX6_acceptChanged 47 = .ok (.iand, 1) := by decide +kernel
theorem dX6_acceptChanged_48 : decode cX6_acceptChanged 48 = .ok (.ifCond .eq 5, 3) := by decide +kernel
theorem dX6_acceptChanged_51 : decode cX6_acceptChanged 51 = .ok (.iconst 4, 1) := by decide +kernel
theorem dX6_acceptChanged_52 : decode cX6_acceptChanged 52 = .ok (.ireturn, 1) := by decide +kernel
theorem dX6_acceptChanged_53 : decode cX6_acceptChanged 53 = .ok (.aload_n 2, 1) := by decide +kernel
theorem dX6_acceptChanged_54 : decode cX6_acceptChanged 54 = .ok (.getfield 119, 3) := by decide +kernel
theorem dX6_acceptChanged_57 : decode cX6_acceptChanged 57 = .ok (.iload 5, 2) := by decide +kernel
theorem dX6_acceptChanged_59 : decode cX6_acceptChanged 59 = .ok (.dup2, 1) := by decide +kernel
theorem dX6_acceptChanged_60 : decode cX6_acceptChanged 60 = .ok (.iaload, 1) := by decide +kernel
theorem dX6_acceptChanged_61 : decode cX6_acceptChanged 61 = .ok (.iload_n 3, 1) := by decide +kernel
theorem dX6_acceptChanged_62 : decode cX6_acceptChanged 62 = .ok (.ior, 1) := by decide +kernel
theorem dX6_acceptChanged_63 : decode cX6_acceptChanged 63 = .ok (.iastore, 1) := by decide +kernel
theorem dX6_acceptChanged_64 : decode cX6_acceptChanged 64 = .ok (.aload_n 2, 1) := by decide +kernel
theorem dX6_acceptChanged_65 : decode cX6_acceptChanged 65 = .ok (.getfield 122, 3) := by decide +kernel
theorem dX6_acceptChanged_68 : decode cX6_acceptChanged 68 = .ok (.iload 5, 2) := by decide +kernel
theorem dX6_acceptChanged_70 : decode cX6_acceptChanged 70 = .ok (.dup2, 1) := by decide +kernel
theorem dX6_acceptChanged_71 : decode cX6_acceptChanged 71 = .ok (.iaload, 1) := by decide +kernel
theorem dX6_acceptChanged_72 : decode cX6_acceptChanged 72 = .ok (.iload 4, 2) := by decide +kernel
theorem dX6_acceptChanged_74 : decode cX6_acceptChanged 74 = .ok (.ior, 1) := by decide +kernel
theorem dX6_acceptChanged_75 : decode cX6_acceptChanged 75 = .ok (.iastore, 1) := by decide +kernel
theorem dX6_acceptChanged_76 : decode cX6_acceptChanged 76 = .ok (.aload_n 0, 1) := by decide +kernel
theorem dX6_acceptChanged_77 : decode cX6_acceptChanged 77 = .ok (.bipush 9, 2) := by decide +kernel
theorem dX6_acceptChanged_79 : decode cX6_acceptChanged 79 = .ok (.invokevirtual 78, 3) := by decide +kernel
theorem dX6_acceptChanged_82 : decode cX6_acceptChanged 82 = .ok (.ireturn, 1) := by decide +kernel
theorem dX6_acceptMoreOfEffect_0 : decode cX6_acceptMoreOfEffect 0 = .ok (.iload_n 1, 1) := by decide +kernel
theorem dX6_acceptMoreOfEffect_1 : decode cX6_acceptMoreOfEffect 1 = .ok (.bipush 59, 2) := by decide +kernel
theorem dX6_acceptMoreOfEffect_3 : decode cX6_acceptMoreOfEffect 3 = .ok (.if_icmp .ne 11, 3) := by decide +kernel
theorem dX6_acceptMoreOfEffect_6 : decode cX6_acceptMoreOfEffect 6 = .ok (.aload_n 0, 1) := by decide +kernel
theorem dX6_acceptMoreOfEffect_7 : decode cX6_acceptMoreOfEffect 7 = .ok (.iconst 0, 1) := by decide +kernel
theorem dX6_acceptMoreOfEffect_8 : decode cX6_acceptMoreOfEffect 8 = .ok (.invokevirtual 78, 3) := by decide +kernel
theorem dX6_acceptMoreOfEffect_11 : decode cX6_acceptMoreOfEffect 11 = .ok (.goto 9, 3) := by decide +kernel
theorem dX6_acceptMoreOfEffect_14 : decode cX6_acceptMoreOfEffect 14 = .ok (.aload_n 0, 1) := by decide +kernel
theorem dX6_acceptMoreOfEffect_15 : decode cX6_acceptMoreOfEffect 15 = .ok (.iload_n 1, 1) := by decide +kernel
theorem dX6_acceptMoreOfEffect_16 : decode cX6_acceptMoreOfEffect 16 = .ok (.aload_n 2, 1) := by decide +kernel
theorem dX6_acceptMoreOfEffect_17 : decode cX6_acceptMoreOfEffect 17 = .ok (.invokevirtual 65, 3) := by decide +kernel
theorem dX6_acceptMoreOfEffect_20 : decode cX6_acceptMoreOfEffect 20 = .ok (.ireturn, 1) := by decide +kernel
theorem dX6_smallMark_0 : decode cX6_smallMark 0 = .ok (.iload_n 0, 1) := by decide +kernel
theorem dX6_smallMark_1 : decode cX6_smallMark 1 = .ok (.bipush 113, 2) := by decide +kernel
theorem dX6_smallMark_3 : decode cX6_smallMark 3 = .ok (.if_icmp .lt 18, 3) := by decide +kernel
theorem dX6_smallMark_6 : decode cX6_smallMark 6 = .ok (.iload_n 0, 1) := by decide +kernel
theorem dX6_smallMark_7 : decode cX6_smallMark 7 = .ok (.bipush 118, 2) := by decide +kernel
theorem dX6_smallMark_9 : decode cX6_smallMark 9 = .ok (.if_icmp .gt 12, 3) := by decide +kernel
theorem dX6_smallMark_12 : decode cX6_smallMark 12 = .ok (.iconst 1, 1) := by decide +kernel
theorem dX6_smallMark_13 : decode cX6_smallMark 13 = .ok (.iload_n 0, 1) := by decide +kernel
theorem dX6_smallMark_14 : decode cX6_smallMark 14 = .ok (.bipush 113, 2) := by decide +kernel
theorem dX6_smallMark_16 : decode cX6_smallMark 16 = .ok (.isub, 1) := by decide +kernel
theorem dX6_smallMark_17 : decode cX6_smallMark 17 = .ok (.ishl, 1) := by decide +kernel
theorem dX6_smallMark_18 : decode cX6_smallMark 18 = .ok (.goto 4, 3) := by decide +kernel
theorem dX6_smallMark_21 : decode cX6_smallMark 21 = .ok (.iconst 0, 1) := by decide +kernel
theorem dX6_smallMark_22 : decode cX6_smallMark 22 = .ok (.ireturn, 1) := by decide +kernel
theorem dX6_greatMark_0 : decode cX6_greatMark 0 = .ok (.iload_n 0, 1) := by decide +kernel
theorem dX6_greatMark_1 : decode cX6_greatMark 1 = .ok (.bipush 81, 2) := by decide +kernel
theorem dX6_greatMark_3 : decode cX6_greatMark 3 = .ok (.if_icmp .lt 18, 3) := by decide +kernel
theorem dX6_greatMark_6 : decode cX6_greatMark 6 = .ok (.iload_n 0, 1) := by decide +kernel
theorem dX6_greatMark_7 : decode cX6_greatMark 7 = .ok (.bipush 86, 2) := by decide +kernel
theorem dX6_greatMark_9 : decode cX6_greatMark 9 = .ok (.if_icmp .gt 12, 3) := by decide +kernel
theorem dX6_greatMark_12 : decode cX6_greatMark 12 = .ok (.iconst 1, 1) := by decide +kernel
theorem dX6_greatMark_13 : decode cX6_greatMark 13 = .ok (.iload_n 0, 1) := by decide +kernel
theorem dX6_greatMark_14 : decode cX6_greatMark 14 = .ok (.bipush 81, 2) := by decide +kernel
theorem dX6_greatMark_16 : decode cX6_greatMark 16 = .ok (.isub, 1) := by decide +kernel
theorem dX6_greatMark_17 : decode cX6_greatMark 17 = .ok (.ishl, 1) := by decide +kernel
theorem dX6_greatMark_18 : decode cX6_greatMark 18 = .ok (.goto 4, 3) := by decide +kernel
theorem dX6_greatMark_21 : decode cX6_greatMark 21 = .ok (.iconst 0, 1) := by decide +kernel
theorem dX6_greatMark_22 : decode cX6_greatMark 22 = .ok (.ireturn, 1) := by decide +kernel
theorem dX7_init_0 : decode cX7_init 0 = .ok (.aload_n 0, 1) := by decide +kernel
theorem dX7_init_1 : decode cX7_init 1 = .ok (.invokespecial 3, 3) := by decide +kernel
theorem dX7_init_4 : decode cX7_init 4 = .ok (.aload_n 0, 1) := by decide +kernel
theorem dX7_init_5 : decode cX7_init 5 = .ok (.sipush 1024, 3) := by decide +kernel
theorem dX7_init_8 : decode cX7_init 8 = .ok (.newarray .long, 2) := by decide +kernel
theorem dX7_init_10 : decode cX7_init 10 = .ok (.putfield 9, 3) := by decide +kernel
theorem dX7_init_13 : decode cX7_init 13 = .ok (.aload_n 0, 1) := by decide +kernel
theorem dX7_init_14 : decode cX7_init 14 = .ok (.sipush 1024, 3) := by decide +kernel
theorem dX7_init_17 : decode cX7_init 17 = .ok (.newarray .long, 2) := by decide +kernel
theorem dX7_init_19 : decode cX7_init 19 = .ok (.putfield 15, 3) := by decide +kernel
theorem dX7_init_22 : decode cX7_init 22 = .ok (.return_, 1) := by decide +kernel
theorem dX7_rowsTo_0 : decode cX7_rowsTo 0 = .ok (.aload_n 0, 1) := by decide +kernel
theorem dX7_rowsTo_1 : decode cX7_rowsTo 1 = .ok (.getfield 9, 3) := by decide +kernel
theorem dX7_rowsTo_4 : decode cX7_rowsTo 4 = .ok (.lconst 0, 1) := by decide +kernel
theorem dX7_rowsTo_5 : decode cX7_rowsTo 5 = .ok (.invokestatic 18, 3) := by decide +kernel
theorem dX7_rowsTo_8 : decode cX7_rowsTo 8 = .ok (.aload_n 0, 1) := by decide +kernel
theorem dX7_rowsTo_9 : decode cX7_rowsTo 9 = .ok (.getfield 9, 3) := by decide +kernel
theorem dX7_rowsTo_12 : decode cX7_rowsTo 12 = .ok (.iconst 0, 1) := by decide +kernel
theorem dX7_rowsTo_13 : decode cX7_rowsTo 13 = .ok (.lconst 1, 1) := by decide +kernel
theorem dX7_rowsTo_14 : decode cX7_rowsTo 14 = .ok (.lastore, 1) := by decide +kernel
theorem dX7_rowsTo_15 : decode cX7_rowsTo 15 = .ok (.iconst 0, 1) := by decide +kernel
theorem dX7_rowsTo_16 : decode cX7_rowsTo 16 = .ok (.istore 4, 2) := by decide +kernel
theorem dX7_rowsTo_18 : decode cX7_rowsTo 18 = .ok (.iload 4, 2) := by decide +kernel
theorem dX7_rowsTo_20 : decode cX7_rowsTo 20 = .ok (.iload_n 3, 1) := by decide +kernel
theorem dX7_rowsTo_21 : decode cX7_rowsTo 21 = .ok (.if_icmp .ge 21, 3) := by decide +kernel
theorem dX7_rowsTo_24 : decode cX7_rowsTo 24 = .ok (.aload_n 0, 1) := by decide +kernel
theorem dX7_rowsTo_25 : decode cX7_rowsTo 25 = .ok (.aload_n 1, 1) := by decide +kernel
theorem dX7_rowsTo_26 : decode cX7_rowsTo 26 = .ok (.invokevirtual 24, 3) := by decide +kernel
theorem dX7_rowsTo_29 : decode cX7_rowsTo 29 = .ok (.ifCond .ne 7, 3) := by decide +kernel
theorem dX7_rowsTo_32 : decode cX7_rowsTo 32 = .ok (.ldc2_w 28, 3) := by decide +kernel
theorem dX7_rowsTo_35 : decode cX7_rowsTo 35 = .ok (.lreturn, 1) := by decide +kernel
theorem dX7_rowsTo_36 : decode cX7_rowsTo 36 = .ok (.iinc 4 1, 3) := by decide +kernel
theorem dX7_rowsTo_39 : decode cX7_rowsTo 39 = .ok (.goto (-21), 3) := by decide +kernel
theorem dX7_rowsTo_42 : decode cX7_rowsTo 42 = .ok (.lconst 0, 1) := by decide +kernel
theorem dX7_rowsTo_43 : decode cX7_rowsTo 43 = .ok (.lstore 4, 2) := by decide +kernel
theorem dX7_rowsTo_45 : decode cX7_rowsTo 45 = .ok (.iconst 0, 1) := by decide +kernel
theorem dX7_rowsTo_46 : decode cX7_rowsTo 46 = .ok (.istore 6, 2) := by decide +kernel
theorem dX7_rowsTo_48 : decode cX7_rowsTo 48 = .ok (.iload 6, 2) := by decide +kernel
theorem dX7_rowsTo_50 : decode cX7_rowsTo 50 = .ok (.aload_n 1, 1) := by decide +kernel
theorem dX7_rowsTo_51 : decode cX7_rowsTo 51 = .ok (.getfield 30, 3) := by decide +kernel
theorem dX7_rowsTo_54 : decode cX7_rowsTo 54 = .ok (.if_icmp .ge 52, 3) := by decide +kernel
theorem dX7_rowsTo_57 : decode cX7_rowsTo 57 = .ok (.aload_n 1, 1) := by decide +kernel
theorem dX7_rowsTo_58 : decode cX7_rowsTo 58 = .ok (.iload 6, 2) := by decide +kernel
theorem dX7_rowsTo_60 : decode cX7_rowsTo 60 = .ok (.invokevirtual 36, 3) := by decide +kernel
theorem dX7_rowsTo_63 : decode cX7_rowsTo 63 = .ok (.iload_n 2, 1) := by decide +kernel
theorem dX7_rowsTo_64 : decode cX7_rowsTo 64 = .ok (.if_icmp .ne 36, 3) := by decide +kernel
theorem dX7_rowsTo_67 : decode cX7_rowsTo 67 = .ok (.aload_n 0, 1) := by decide +kernel
theorem dX7_rowsTo_68 : decode cX7_rowsTo 68 = .ok (.getfield 9, 3) := by decide +kernel
theorem dX7_rowsTo_71 : decode cX7_rowsTo 71 = .ok (.iload 6, 2) := by decide +kernel
theorem dX7_rowsTo_73 : decode cX7_rowsTo 73 = .ok (.laload, 1) := by decide +kernel
theorem dX7_rowsTo_74 : decode cX7_rowsTo 74 = .ok (.ldc2_w 42, 3) := by decide +kernel
theorem dX7_rowsTo_77 : decode cX7_rowsTo 77 = .ok (.lload 4, 2) := by decide +kernel
theorem dX7_rowsTo_79 : decode cX7_rowsTo 79 = .ok (.lsub, 1) := by decide +kernel
theorem dX7_rowsTo_80 : decode cX7_rowsTo 80 = .ok (.lcmp, 1) := by decide +kernel
theorem dX7_rowsTo_81 : decode cX7_rowsTo 81 = .ok (.ifCond .le 7, 3) := by decide +kernel
theorem dX7_rowsTo_84 : decode cX7_rowsTo 84 = .ok (.ldc2_w 28, 3) := by decide +kernel
theorem dX7_rowsTo_87 : decode cX7_rowsTo 87 = .ok (.lreturn, 1) := by decide +kernel
theorem dX7_rowsTo_88 : decode cX7_rowsTo 88 = .ok (.lload 4, 2) := by decide +kernel
theorem dX7_rowsTo_90 : decode cX7_rowsTo 90 = .ok (.aload_n 0, 1) := by decide +kernel
theorem dX7_rowsTo_91 : decode cX7_rowsTo 91 = .ok (.getfield 9, 3) := by decide +kernel
theorem dX7_rowsTo_94 : decode cX7_rowsTo 94 = .ok (.iload 6, 2) := by decide +kernel
theorem dX7_rowsTo_96 : decode cX7_rowsTo 96 = .ok (.laload, 1) := by decide +kernel
theorem dX7_rowsTo_97 : decode cX7_rowsTo 97 = .ok (.ladd, 1) := by decide +kernel
theorem dX7_rowsTo_98 : decode cX7_rowsTo 98 = .ok (.lstore 4, 2) := by decide +kernel
theorem dX7_rowsTo_100 : decode cX7_rowsTo 100 = .ok (.iinc 6 1, 3) := by decide +kernel
theorem dX7_rowsTo_103 : decode cX7_rowsTo 103 = .ok (.goto (-55), 3) := by decide +kernel
theorem dX7_rowsTo_106 : decode cX7_rowsTo 106 = .ok (.lload 4, 2) := by decide +kernel
theorem dX7_rowsTo_108 : decode cX7_rowsTo 108 = .ok (.lreturn, 1) := by decide +kernel
theorem dX7_lengthen_0 : decode cX7_lengthen 0 = .ok (.aload_n 0, 1) := by decide +kernel
theorem dX7_lengthen_1 : decode cX7_lengthen 1 = .ok (.getfield 15, 3) := by decide +kernel
theorem dX7_lengthen_4 : decode cX7_lengthen 4 = .ok (.lconst 0, 1) := by decide +kernel
theorem dX7_lengthen_5 : decode cX7_lengthen 5 = .ok (.invokestatic 18, 3) := by decide +kernel
theorem dX7_lengthen_8 : decode cX7_lengthen 8 = .ok (.iconst 0, 1) := by decide +kernel
theorem dX7_lengthen_9 : decode cX7_lengthen 9 = .ok (.istore_n 2, 1) := by decide +kernel
theorem dX7_lengthen_10 : decode cX7_lengthen 10 = .ok (.iload_n 2, 1) := by decide +kernel
theorem dX7_lengthen_11 : decode cX7_lengthen 11 = .ok (.aload_n 1, 1) := by decide +kernel
theorem dX7_lengthen_12 : decode cX7_lengthen 12 = .ok (.getfield 44, 3) := by decide +kernel
theorem dX7_lengthen_15 : decode cX7_lengthen 15 = .ok (.if_icmp .ge 58, 3) := by decide +kernel
theorem dX7_lengthen_18 : decode cX7_lengthen 18 = .ok (.aload_n 0, 1) := by decide +kernel
theorem dX7_lengthen_19 : decode cX7_lengthen 19 = .ok (.getfield 9, 3) := by decide +kernel
theorem dX7_lengthen_22 : decode cX7_lengthen 22 = .ok (.aload_n 1, 1) := by decide +kernel
theorem dX7_lengthen_23 : decode cX7_lengthen 23 = .ok (.getfield 47, 3) := by decide +kernel
theorem dX7_lengthen_26 : decode cX7_lengthen 26 = .ok (.iload_n 2, 1) := by decide +kernel
theorem dX7_lengthen_27 : decode cX7_lengthen 27 = .ok (.iaload, 1) := by decide +kernel
theorem dX7_lengthen_28 : decode cX7_lengthen 28 = .ok (.laload, 1) := by decide +kernel
theorem dX7_lengthen_29 : decode cX7_lengthen 29 = .ok (.lstore_n 3, 1) := by decide +kernel
theorem dX7_lengthen_30 : decode cX7_lengthen 30 = .ok (.aload_n 1, 1) := by decide +kernel
theorem dX7_lengthen_31 : decode cX7_lengthen 31 = .ok (.getfield 51, 3) := by decide +kernel
theorem dX7_lengthen_34 : decode cX7_lengthen 34 = .ok (.iload_n 2, 1) := by decide +kernel
theorem dX7_lengthen_35 : decode cX7_lengthen 35 = .ok (.iaload, 1) := by decide +kernel
theorem dX7_lengthen_36 : decode cX7_lengthen 36 = .ok (.istore 5, 2) := by decide +kernel
theorem dX7_lengthen_38 : decode cX7_lengthen 38 = .ok (.lload_n 3, 1) := by decide +kernel
theorem dX7_lengthen_39 : decode cX7_lengthen 39 = .ok (.ldc2_w 42, 3) := by decide +kernel
theorem dX7_lengthen_42 : decode cX7_lengthen 42 = .ok (.aload_n 0, 1) := by decide +kernel
theorem dX7_lengthen_43 : decode cX7_lengthen 43 = .ok (.getfield 15, 3) := by decide +kernel
theorem dX7_lengthen_46 : decode cX7_lengthen 46 = .ok (.iload 5, 2) := by decide +kernel
theorem dX7_lengthen_48 : decode cX7_lengthen 48 = .ok (.laload, 1) := by decide +kernel
theorem dX7_lengthen_49 : decode cX7_lengthen 49 = .ok (.lsub, 1) := by decide +kernel
theorem dX7_lengthen_50 : decode cX7_lengthen 50 = .ok (.lcmp, 1) := by decide +kernel
theorem dX7_lengthen_51 : decode cX7_lengthen 51 = .ok (.ifCond .le 5, 3) := by decide +kernel
theorem dX7_lengthen_54 : decode cX7_lengthen 54 = .ok (.iconst 0, 1) := by decide +kernel
theorem dX7_lengthen_55 : decode cX7_lengthen 55 = .ok (.ireturn, 1) := by decide +kernel
theorem dX7_lengthen_56 : decode cX7_lengthen 56 = .ok (.aload_n 0, 1) := by decide +kernel
theorem dX7_lengthen_57 : decode cX7_lengthen 57 = .ok (.getfield 15, 3) := by decide +kernel
theorem dX7_lengthen_60 : decode cX7_lengthen 60 = .ok (.iload 5, 2) := by decide +kernel
theorem dX7_lengthen_62 : decode cX7_lengthen 62 = .ok (.dup2, 1) := by decide +kernel
theorem dX7_lengthen_63 : decode cX7_lengthen 63 = .ok (.laload, 1) := by decide +kernel
theorem dX7_lengthen_64 : decode cX7_lengthen 64 = .ok (.lload_n 3, 1) := by decide +kernel
theorem dX7_lengthen_65 : decode cX7_lengthen 65 = .ok (.ladd, 1) := by decide +kernel
theorem dX7_lengthen_66 : decode cX7_lengthen 66 = .ok (.lastore, 1) := by decide +kernel
theorem dX7_lengthen_67 : decode cX7_lengthen 67 = .ok (.iinc 2 1, 3) := by decide +kernel
theorem dX7_lengthen_70 : decode cX7_lengthen 70 = .ok (.goto (-60), 3) := by decide +kernel
theorem dX7_lengthen_73 : decode cX7_lengthen 73 = .ok (.aload_n 0, 1) := by decide +kernel
theorem dX7_lengthen_74 : decode cX7_lengthen 74 = .ok (.getfield 9, 3) := by decide +kernel
theorem dX7_lengthen_77 : decode cX7_lengthen 77 = .ok (.astore_n 2, 1) := by decide +kernel
theorem dX7_lengthen_78 : decode cX7_lengthen 78 = .ok (.aload_n 0, 1) := by decide +kernel
theorem dX7_lengthen_79 : decode cX7_lengthen 79 = .ok (.aload_n 0, 1) := by decide +kernel
theorem dX7_lengthen_80 : decode cX7_lengthen 80 = .ok (.getfield 15, 3) := by decide +kernel
theorem dX7_lengthen_83 : decode cX7_lengthen 83 = .ok (.putfield 9, 3) := by decide +kernel
theorem dX7_lengthen_86 : decode cX7_lengthen 86 = .ok (.aload_n 0, 1) := by decide +kernel
theorem dX7_lengthen_87 : decode cX7_lengthen 87 = .ok (.aload_n 2, 1) := by decide +kernel
theorem dX7_lengthen_88 : decode cX7_lengthen 88 = .ok (.putfield 15, 3) := by decide +kernel
theorem dX7_lengthen_91 : decode cX7_lengthen 91 = .ok (.iconst 1, 1) := by decide +kernel
theorem dX7_lengthen_92 : decode cX7_lengthen 92 = .ok (.ireturn, 1) := by decide +kernel
theorem dX8_init_0 : decode cX8_init 0 = .ok (.aload_n 0, 1) := by decide +kernel
theorem dX8_init_1 : decode cX8_init 1 = .ok (.invokespecial 3, 3) := by decide +kernel
theorem dX8_init_4 : decode cX8_init 4 = .ok (.aload_n 0, 1) := by decide +kernel
theorem dX8_init_5 : decode cX8_init 5 = .ok (.bipush 32, 2) := by decide +kernel
theorem dX8_init_7 : decode cX8_init 7 = .ok (.newarray .int, 2) := by decide +kernel
theorem dX8_init_9 : decode cX8_init 9 = .ok (.putfield 9, 3) := by decide +kernel
theorem dX8_init_12 : decode cX8_init 12 = .ok (.aload_n 0, 1) := by decide +kernel
theorem dX8_init_13 : decode cX8_init 13 = .ok (.bipush 32, 2) := by decide +kernel
theorem dX8_init_15 : decode cX8_init 15 = .ok (.newarray .int, 2) := by decide +kernel
theorem dX8_init_17 : decode cX8_init 17 = .ok (.putfield 15, 3) := by decide +kernel
theorem dX8_init_20 : decode cX8_init 20 = .ok (.aload_n 0, 1) := by decide +kernel
theorem dX8_init_21 : decode cX8_init 21 = .ok (.bipush 32, 2) := by decide +kernel
theorem dX8_init_23 : decode cX8_init 23 = .ok (.newarray .int, 2) := by decide +kernel
theorem dX8_init_25 : decode cX8_init 25 = .ok (.putfield 18, 3) := by decide +kernel
theorem dX8_init_28 : decode cX8_init 28 = .ok (.aload_n 0, 1) := by decide +kernel
theorem dX8_init_29 : decode cX8_init 29 = .ok (.bipush 32, 2) := by decide +kernel
theorem dX8_init_31 : decode cX8_init 31 = .ok (.newarray .int, 2) := by decide +kernel
theorem dX8_init_33 : decode cX8_init 33 = .ok (.putfield 21, 3) := by decide +kernel
theorem dX8_init_36 : decode cX8_init 36 = .ok (.aload_n 0, 1) := by decide +kernel
theorem dX8_init_37 : decode cX8_init 37 = .ok (.bipush 96, 2) := by decide +kernel
theorem dX8_init_39 : decode cX8_init 39 = .ok (.newarray .int, 2) := by decide +kernel
theorem dX8_init_41 : decode cX8_init 41 = .ok (.putfield 24, 3) := by decide +kernel
theorem dX8_init_44 : decode cX8_init 44 = .ok (.aload_n 0, 1) := by decide +kernel
theorem dX8_init_45 : decode cX8_init 45 = .ok (.bipush 96, 2) := by decide +kernel
theorem dX8_init_47 : decode cX8_init 47 = .ok (.newarray .int, 2) := by decide +kernel
theorem dX8_init_49 : decode cX8_init 49 = .ok (.putfield 27, 3) := by decide +kernel
theorem dX8_init_52 : decode cX8_init 52 = .ok (.aload_n 0, 1) := by decide +kernel
theorem dX8_init_53 : decode cX8_init 53 = .ok (.bipush 32, 2) := by decide +kernel
theorem dX8_init_55 : decode cX8_init 55 = .ok (.newarray .int, 2) := by decide +kernel
theorem dX8_init_57 : decode cX8_init 57 = .ok (.putfield 30, 3) := by decide +kernel
theorem dX8_init_60 : decode cX8_init 60 = .ok (.aload_n 0, 1) := by decide +kernel
theorem dX8_init_61 : decode cX8_init 61 = .ok (.bipush 32, 2) := by decide +kernel
theorem dX8_init_63 : decode cX8_init 63 = .ok (.newarray .int, 2) := by decide +kernel
theorem dX8_init_65 : decode cX8_init 65 = .ok (.putfield 33, 3) := by decide +kernel
theorem dX8_init_68 : decode cX8_init 68 = .ok (.aload_n 0, 1) := by decide +kernel
theorem dX8_init_69 : decode cX8_init 69 = .ok (.bipush 32, 2) := by decide +kernel
theorem dX8_init_71 : decode cX8_init 71 = .ok (.newarray .int, 2) := by decide +kernel
theorem dX8_init_73 : decode cX8_init 73 = .ok (.putfield 36, 3) := by decide +kernel
theorem dX8_init_76 : decode cX8_init 76 = .ok (.aload_n 0, 1) := by decide +kernel
theorem dX8_init_77 : decode cX8_init 77 = .ok (.bipush 17, 2) := by decide +kernel
theorem dX8_init_79 : decode cX8_init 79 = .ok (.newarray .int, 2) := by decide +kernel
theorem dX8_init_81 : decode cX8_init 81 = .ok (.putfield 39, 3) := by decide +kernel
theorem dX8_init_84 : decode cX8_init 84 = .ok (.return_, 1) := by decide +kernel
theorem dX8_clear_0 : decode cX8_clear 0 = .ok (.aload_n 0, 1) := by decide +kernel
theorem dX8_clear_1 : decode cX8_clear 1 = .ok (.iconst 0, 1) := by decide +kernel
theorem dX8_clear_2 : decode cX8_clear 2 = .ok (.putfield 42, 3) := by decide +kernel
theorem dX8_clear_5 : decode cX8_clear 5 = .ok (.aload_n 0, 1) := by decide +kernel
theorem dX8_clear_6 : decode cX8_clear 6 = .ok (.iconst 0, 1) := by decide +kernel
theorem dX8_clear_7 : decode cX8_clear 7 = .ok (.putfield 46, 3) := by decide +kernel
theorem dX8_clear_10 : decode cX8_clear 10 = .ok (.aload_n 0, 1) := by decide +kernel
theorem dX8_clear_11 : decode cX8_clear 11 = .ok (.iconst 0, 1) := by decide +kernel
theorem dX8_clear_12 : decode cX8_clear 12 = .ok (.putfield 49, 3) := by decide +kernel
theorem dX8_clear_15 : decode cX8_clear 15 = .ok (.aload_n 0, 1) := by decide +kernel
theorem dX8_clear_16 : decode cX8_clear 16 = .ok (.iconst 0, 1) := by decide +kernel
theorem dX8_clear_17 : decode cX8_clear 17 = .ok (.putfield 52, 3) := by decide +kernel
theorem dX8_clear_20 : decode cX8_clear 20 = .ok (.aload_n 0, 1) := by decide +kernel
theorem dX8_clear_21 : decode cX8_clear 21 = .ok (.iconst 0, 1) := by decide +kernel
theorem dX8_clear_22 : decode cX8_clear 22 = .ok (.putfield 55, 3) := by decide +kernel
theorem dX8_clear_25 : decode cX8_clear 25 = .ok (.return_, 1) := by decide +kernel
theorem dX8_nameLine_0 : decode cX8_nameLine 0 = .ok (.aload_n 0, 1) := by decide +kernel
theorem dX8_nameLine_1 : decode cX8_nameLine 1 = .ok (.getfield 46, 3) := by decide +kernel
theorem dX8_nameLine_4 : decode cX8_nameLine 4 = .ok (.ifCond .ne 8, 3) := by decide +kernel
theorem dX8_nameLine_7 : decode cX8_nameLine 7 = .ok (.aload_n 0, 1) := by decide +kernel
theorem dX8_nameLine_8 : decode cX8_nameLine 8 = .ok (.iload_n 1, 1) := by decide +kernel
theorem dX8_nameLine_9 : decode cX8_nameLine 9 = .ok (.putfield 52, 3) := by decide +kernel
theorem dX8_nameLine_12 : decode cX8_nameLine 12 = .ok (.aload_n 0, 1) := by decide +kernel
theorem dX8_nameLine_13 : decode cX8_nameLine 13 = .ok (.dup, 1) := by decide +kernel
theorem dX8_nameLine_14 : decode cX8_nameLine 14 = .ok (.getfield 46, 3) := by decide +kernel
theorem dX8_nameLine_17 : decode cX8_nameLine 17 = .ok (.iconst 1, 1) := by decide +kernel
theorem dX8_nameLine_18 : decode cX8_nameLine 18 = .ok (.iload_n 1, 1) := by decide +kernel
theorem dX8_nameLine_19 : decode cX8_nameLine 19 = .ok (.ishl, 1) := by decide +kernel
theorem dX8_nameLine_20 : decode cX8_nameLine 20 = .ok (.ior, 1) := by decide +kernel
theorem dX8_nameLine_21 : decode cX8_nameLine 21 = .ok (.putfield 46, 3) := by decide +kernel
theorem dX8_nameLine_24 : decode cX8_nameLine 24 = .ok (.return_, 1) := by decide +kernel
theorem dX8_addAnswer_0 : decode cX8_addAnswer 0 = .ok (.aload_n 0, 1) := by decide +kernel
theorem dX8_addAnswer_1 : decode cX8_addAnswer 1 = .ok (.getfield 42, 3) := by decide +kernel
theorem dX8_addAnswer_4 : decode cX8_addAnswer 4 = .ok (.bipush 32, 2) := by decide +kernel
theorem dX8_addAnswer_6 : decode cX8_addAnswer 6 = .ok (.if_icmp .lt 5, 3) := by decide +kernel
theorem dX8_addAnswer_9 : decode cX8_addAnswer 9 = .ok (.iconst 0, 1) := by decide +kernel
theorem dX8_addAnswer_10 : decode cX8_addAnswer 10 = .ok (.ireturn, 1) := by decide +kernel
theorem dX8_addAnswer_11 : decode cX8_addAnswer 11 = .ok (.aload_n 0, 1) := by decide +kernel
theorem dX8_addAnswer_12 : decode cX8_addAnswer 12 = .ok (.getfield 9, 3) := by decide +kernel
theorem dX8_addAnswer_15 : decode cX8_addAnswer 15 = .ok (.aload_n 0, 1) := by decide +kernel
theorem dX8_addAnswer_16 : decode cX8_addAnswer 16 = .ok (.getfield 42, 3) := by decide +kernel
theorem dX8_addAnswer_19 : decode cX8_addAnswer 19 = .ok (.iload_n 1, 1) := by decide +kernel
theorem dX8_addAnswer_20 : decode cX8_addAnswer 20 = .ok (.iastore, 1) := by decide +kernel
theorem dX8_addAnswer_21 : decode cX8_addAnswer 21 = .ok (.aload_n 0, 1) := by decide +kernel
theorem dX8_addAnswer_22 : decode cX8_addAnswer 22 = .ok (.getfield 15, 3) := by decide +kernel
theorem dX8_addAnswer_25 : decode cX8_addAnswer 25 = .ok (.aload_n 0, 1) := by decide +kernel
theorem dX8_addAnswer_26 : decode cX8_addAnswer 26 = .ok (.getfield 42, 3) := by decide +kernel
theorem dX8_addAnswer_29 : decode cX8_addAnswer 29 = .ok (.iload_n 1, 1) := by decide +kernel
theorem dX8_addAnswer_30 : decode cX8_addAnswer 30 = .ok (.iastore, 1) := by decide +kernel
theorem dX8_addAnswer_31 : decode cX8_addAnswer 31 = .ok (.aload_n 0, 1) := by decide +kernel
theorem dX8_addAnswer_32 : decode cX8_addAnswer 32 = .ok (.getfield 18, 3) := by decide +kernel
theorem dX8_addAnswer_35 : decode cX8_addAnswer 35 = .ok (.aload_n 0, 1) := by decide +kernel
theorem dX8_addAnswer_36 : decode cX8_addAnswer 36 = .ok (.getfield 42, 3) := by decide +kernel
theorem dX8_addAnswer_39 : decode cX8_addAnswer 39 = .ok (.iconst 0, 1) := by decide +kernel
theorem dX8_addAnswer_40 : decode cX8_addAnswer 40 = .ok (.iastore, 1) := by decide +kernel
theorem dX8_addAnswer_41 : decode cX8_addAnswer 41 = .ok (.aload_n 0, 1) := by decide +kernel
theorem dX8_addAnswer_42 : decode cX8_addAnswer 42 = .ok (.getfield 21, 3) := by decide +kernel
theorem dX8_addAnswer_45 : decode cX8_addAnswer 45 = .ok (.aload_n 0, 1) := by decide +kernel
theorem dX8_addAnswer_46 : decode cX8_addAnswer 46 = .ok (.getfield 42, 3) := by decide +kernel
theorem dX8_addAnswer_49 : decode cX8_addAnswer 49 = .ok (.iconst 0, 1) := by decide +kernel
theorem dX8_addAnswer_50 : decode cX8_addAnswer 50 = .ok (.iastore, 1) := by decide +kernel
theorem dX8_addAnswer_51 : decode cX8_addAnswer 51 = .ok (.aload_n 0, 1) := by decide +kernel
theorem dX8_addAnswer_52 : decode cX8_addAnswer 52 = .ok (.getfield 30, 3) := by decide +kernel
theorem dX8_addAnswer_55 : decode cX8_addAnswer 55 = .ok (.aload_n 0, 1) := by decide +kernel
theorem dX8_addAnswer_56 : decode cX8_addAnswer 56 = .ok (.getfield 42, 3) := by decide +kernel
theorem dX8_addAnswer_59 : decode cX8_addAnswer 59 = .ok (.iconst 0, 1) := by decide +kernel
theorem dX8_addAnswer_60 : decode cX8_addAnswer 60 = .ok (.iastore, 1) := by decide +kernel
theorem dX8_addAnswer_61 : decode cX8_addAnswer 61 = .ok (.aload_n 0, 1) := by decide +kernel
theorem dX8_addAnswer_62 : decode cX8_addAnswer 62 = .ok (.getfield 33, 3) := by decide +kernel
theorem dX8_addAnswer_65 : decode cX8_addAnswer 65 = .ok (.aload_n 0, 1) := by decide +kernel
theorem dX8_addAnswer_66 : decode cX8_addAnswer 66 = .ok (.getfield 42, 3) := by decide +kernel
theorem dX8_addAnswer_69 : decode cX8_addAnswer 69 = .ok (.iconst 0, 1) := by decide +kernel
theorem dX8_addAnswer_70 : decode cX8_addAnswer 70 = .ok (.iastore, 1) := by decide +kernel
theorem dX8_addAnswer_71 : decode cX8_addAnswer 71 = .ok (.aload_n 0, 1) := by decide +kernel
theorem dX8_addAnswer_72 : decode cX8_addAnswer 72 = .ok (.dup, 1) := by decide +kernel
theorem dX8_addAnswer_73 : decode cX8_addAnswer 73 = .ok (.getfield 42, 3) := by decide +kernel
theorem dX8_addAnswer_76 : decode cX8_addAnswer 76 = .ok (.iconst 1, 1) := by decide +kernel
theorem dX8_addAnswer_77 : decode cX8_addAnswer 77 = .ok (.iadd, 1) := by decide +kernel
theorem dX8_addAnswer_78 : decode cX8_addAnswer 78 = .ok (.putfield 42, 3) := by decide +kernel
end
section
-- printed by wip/whole/gen1.py
theorem dX8_addAnswer_81 : decode cX8_addAnswer 81 = .ok (.iconst 1, 1) := by decide +kernel
theorem dX8_addAnswer_82 : decode cX8_addAnswer 82 = .ok (.ireturn, 1) := by decide +kernel
theorem dX8_addAlternative_0 : decode cX8_addAlternative 0 = .ok (.aload_n 0, 1) := by decide +kernel
theorem dX8_addAlternative_1 : decode cX8_addAlternative 1 = .ok (.getfield 21, 3) := by decide +kernel
theorem dX8_addAlternative_4 : decode cX8_addAlternative 4 = .ok (.iload_n 1, 1) := by decide +kernel
theorem dX8_addAlternative_5 : decode cX8_addAlternative 5 = .ok (.iaload, 1) := by decide +kernel
theorem dX8_addAlternative_6 : decode cX8_addAlternative 6 = .ok (.iconst 3, 1) := by decide +kernel
theorem dX8_addAlternative_7 : decode cX8_addAlternative 7 = .ok (.if_icmp .lt 5, 3) := by decide +kernel
theorem dX8_addAlternative_10 : decode cX8_addAlternative 10 = .ok (.iconst 0, 1) := by decide +kernel
theorem dX8_addAlternative_11 : decode cX8_addAlternative 11 = .ok (.ireturn, 1) := by decide +kernel
theorem dX8_addAlternative_12 : decode cX8_addAlternative 12 = .ok (.iload_n 1, 1) := by decide +kernel
theorem dX8_addAlternative_13 : decode cX8_addAlternative 13 = .ok (.iconst 3, 1) := by decide +kernel
theorem dX8_addAlternative_14 : decode cX8_addAlternative 14 = .ok (.imul, 1) := by decide +kernel
theorem dX8_addAlternative_15 : decode cX8_addAlternative 15 = .ok (.aload_n 0, 1) := by decide +kernel
theorem dX8_addAlternative_16 : decode cX8_addAlternative 16 = .ok (.getfield 21, 3) := by decide +kernel
theorem dX8_addAlternative_19 : decode cX8_addAlternative 19 = .ok (.iload_n 1, 1) := by decide +kernel
theorem dX8_addAlternative_20 : decode cX8_addAlternative 20 = .ok (.iaload, 1) := by decide +kernel
theorem dX8_addAlternative_21 : decode cX8_addAlternative 21 = .ok (.iadd, 1) := by decide +kernel
theorem dX8_addAlternative_22 : decode cX8_addAlternative 22 = .ok (.istore_n 2, 1) := by decide +kernel
theorem dX8_addAlternative_23 : decode cX8_addAlternative 23 = .ok (.aload_n 0, 1) := by decide +kernel
theorem dX8_addAlternative_24 : decode cX8_addAlternative 24 = .ok (.getfield 24, 3) := by decide +kernel
theorem dX8_addAlternative_27 : decode cX8_addAlternative 27 = .ok (.iload_n 2, 1) := by decide +kernel
theorem dX8_addAlternative_28 : decode cX8_addAlternative 28 = .ok (.iconst 0, 1) := by decide +kernel
theorem dX8_addAlternative_29 : decode cX8_addAlternative 29 = .ok (.iastore, 1) := by decide +kernel
theorem dX8_addAlternative_30 : decode cX8_addAlternative 30 = .ok (.aload_n 0, 1) := by decide +kernel
theorem dX8_addAlternative_31 : decode cX8_addAlternative 31 = .ok (.getfield 27, 3) := by decide +kernel
theorem dX8_addAlternative_34 : decode cX8_addAlternative 34 = .ok (.iload_n 2, 1) := by decide +kernel
theorem dX8_addAlternative_35 : decode cX8_addAlternative 35 = .ok (.iconst 0, 1) := by decide +kernel
theorem dX8_addAlternative_36 : decode cX8_addAlternative 36 = .ok (.iastore, 1) := by decide +kernel
theorem dX8_addAlternative_37 : decode cX8_addAlternative 37 = .ok (.aload_n 0, 1) := by decide +kernel
theorem dX8_addAlternative_38 : decode cX8_addAlternative 38 = .ok (.getfield 21, 3) := by decide +kernel
theorem dX8_addAlternative_41 : decode cX8_addAlternative 41 = .ok (.iload_n 1, 1) := by decide +kernel
theorem dX8_addAlternative_42 : decode cX8_addAlternative 42 = .ok (.dup2, 1) := by decide +kernel
theorem dX8_addAlternative_43 : decode cX8_addAlternative 43 = .ok (.iaload, 1) := by decide +kernel
theorem dX8_addAlternative_44 : decode cX8_addAlternative 44 = .ok (.iconst 1, 1) := by decide +kernel
theorem dX8_addAlternative_45 : decode cX8_addAlternative 45 = .ok (.iadd, 1) := by decide +kernel
theorem dX8_addAlternative_46 : decode cX8_addAlternative 46 = .ok (.iastore, 1) := by decide +kernel
theorem dX8_addAlternative_47 : decode cX8_addAlternative 47 = .ok (.iconst 1, 1) := by decide +kernel
theorem dX8_addAlternative_48 : decode cX8_addAlternative 48 = .ok (.ireturn, 1) := by decide +kernel
theorem dX8_sortByLine_0 : decode cX8_sortByLine 0 = .ok (.iconst 0, 1) := by decide +kernel
theorem dX8_sortByLine_1 : decode cX8_sortByLine 1 = .ok (.istore_n 1, 1) := by decide +kernel
theorem dX8_sortByLine_2 : decode cX8_sortByLine 2 = .ok (.iconst 0, 1) := by decide +kernel
theorem dX8_sortByLine_3 : decode cX8_sortByLine 3 = .ok (.istore_n 2, 1) := by decide +kernel
theorem dX8_sortByLine_4 : decode cX8_sortByLine 4 = .ok (.iload_n 2, 1) := by decide +kernel
theorem dX8_sortByLine_5 : decode cX8_sortByLine 5 = .ok (.bipush 16, 2) := by decide +kernel
theorem dX8_sortByLine_7 : decode cX8_sortByLine 7 = .ok (.if_icmp .ge 52, 3) := by decide +kernel
theorem dX8_sortByLine_10 : decode cX8_sortByLine 10 = .ok (.aload_n 0, 1) := by decide +kernel
theorem dX8_sortByLine_11 : decode cX8_sortByLine 11 = .ok (.getfield 39, 3) := by decide +kernel
theorem dX8_sortByLine_14 : decode cX8_sortByLine 14 = .ok (.iload_n 2, 1) := by decide +kernel
theorem dX8_sortByLine_15 : decode cX8_sortByLine 15 = .ok (.iload_n 1, 1) := by decide +kernel
theorem dX8_sortByLine_16 : decode cX8_sortByLine 16 = .ok (.iastore, 1) := by decide +kernel
theorem dX8_sortByLine_17 : decode cX8_sortByLine 17 = .ok (.iconst 0, 1) := by decide +kernel
theorem dX8_sortByLine_18 : decode cX8_sortByLine 18 = .ok (.istore_n 3, 1) := by decide +kernel
theorem dX8_sortByLine_19 : decode cX8_sortByLine 19 = .ok (.iload_n 3, 1) := by decide +kernel
theorem dX8_sortByLine_20 : decode cX8_sortByLine 20 = .ok (.aload_n 0, 1) := by decide +kernel
theorem dX8_sortByLine_21 : decode cX8_sortByLine 21 = .ok (.getfield 42, 3) := by decide +kernel
theorem dX8_sortByLine_24 : decode cX8_sortByLine 24 = .ok (.if_icmp .ge 29, 3) := by decide +kernel
theorem dX8_sortByLine_27 : decode cX8_sortByLine 27 = .ok (.aload_n 0, 1) := by decide +kernel
theorem dX8_sortByLine_28 : decode cX8_sortByLine 28 = .ok (.getfield 9, 3) := by decide +kernel
theorem dX8_sortByLine_31 : decode cX8_sortByLine 31 = .ok (.iload_n 3, 1) := by decide +kernel
theorem dX8_sortByLine_32 : decode cX8_sortByLine 32 = .ok (.iaload, 1) := by decide +kernel
theorem dX8_sortByLine_33 : decode cX8_sortByLine 33 = .ok (.iload_n 2, 1) := by decide +kernel
theorem dX8_sortByLine_34 : decode cX8_sortByLine 34 = .ok (.if_icmp .ne 13, 3) := by decide +kernel
theorem dX8_sortByLine_37 : decode cX8_sortByLine 37 = .ok (.aload_n 0, 1) := by decide +kernel
theorem dX8_sortByLine_38 : decode cX8_sortByLine 38 = .ok (.getfield 36, 3) := by decide +kernel
theorem dX8_sortByLine_41 : decode cX8_sortByLine 41 = .ok (.iload_n 1, 1) := by decide +kernel
theorem dX8_sortByLine_42 : decode cX8_sortByLine 42 = .ok (.iload_n 3, 1) := by decide +kernel
theorem dX8_sortByLine_43 : decode cX8_sortByLine 43 = .ok (.iastore, 1) := by decide +kernel
theorem dX8_sortByLine_44 : decode cX8_sortByLine 44 = .ok (.iinc 1 1, 3) := by decide +kernel
theorem dX8_sortByLine_47 : decode cX8_sortByLine 47 = .ok (.iinc 3 1, 3) := by decide +kernel
theorem dX8_sortByLine_50 : decode cX8_sortByLine 50 = .ok (.goto (-31), 3) := by decide +kernel
theorem dX8_sortByLine_53 : decode cX8_sortByLine 53 = .ok (.iinc 2 1, 3) := by decide +kernel
theorem dX8_sortByLine_56 : decode cX8_sortByLine 56 = .ok (.goto (-52), 3) := by decide +kernel
theorem dX8_sortByLine_59 : decode cX8_sortByLine 59 = .ok (.aload_n 0, 1) := by decide +kernel
theorem dX8_sortByLine_60 : decode cX8_sortByLine 60 = .ok (.getfield 39, 3) := by decide +kernel
theorem dX8_sortByLine_63 : decode cX8_sortByLine 63 = .ok (.bipush 16, 2) := by decide +kernel
theorem dX8_sortByLine_65 : decode cX8_sortByLine 65 = .ok (.iload_n 1, 1) := by decide +kernel
theorem dX8_sortByLine_66 : decode cX8_sortByLine 66 = .ok (.iastore, 1) := by decide +kernel
theorem dX8_sortByLine_67 : decode cX8_sortByLine 67 = .ok (.return_, 1) := by decide +kernel
theorem dX8_setCut_0 : decode cX8_setCut 0 = .ok (.aload_n 0, 1) := by decide +kernel
theorem dX8_setCut_1 : decode cX8_setCut 1 = .ok (.iload_n 2, 1) := by decide +kernel
theorem dX8_setCut_2 : decode cX8_setCut 2 = .ok (.iconst 1, 1) := by decide +kernel
theorem dX8_setCut_3 : decode cX8_setCut 3 = .ok (.if_icmp .ne 14, 3) := by decide +kernel
theorem dX8_setCut_6 : decode cX8_setCut 6 = .ok (.aload_n 0, 1) := by decide +kernel
theorem dX8_setCut_7 : decode cX8_setCut 7 = .ok (.getfield 55, 3) := by decide +kernel
theorem dX8_setCut_10 : decode cX8_setCut 10 = .ok (.iconst 1, 1) := by decide +kernel
theorem dX8_setCut_11 : decode cX8_setCut 11 = .ok (.iload_n 1, 1) := by decide +kernel
theorem dX8_setCut_12 : decode cX8_setCut 12 = .ok (.ishl, 1) := by decide +kernel
theorem dX8_setCut_13 : decode cX8_setCut 13 = .ok (.ior, 1) := by decide +kernel
theorem dX8_setCut_14 : decode cX8_setCut 14 = .ok (.goto 13, 3) := by decide +kernel
theorem dX8_setCut_17 : decode cX8_setCut 17 = .ok (.aload_n 0, 1) := by decide +kernel
theorem dX8_setCut_18 : decode cX8_setCut 18 = .ok (.getfield 55, 3) := by decide +kernel
theorem dX8_setCut_21 : decode cX8_setCut 21 = .ok (.iconst 1, 1) := by decide +kernel
theorem dX8_setCut_22 : decode cX8_setCut 22 = .ok (.iload_n 1, 1) := by decide +kernel
theorem dX8_setCut_23 : decode cX8_setCut 23 = .ok (.ishl, 1) := by decide +kernel
theorem dX8_setCut_24 : decode cX8_setCut 24 = .ok (.iconst (-1), 1) := by decide +kernel
theorem dX8_setCut_25 : decode cX8_setCut 25 = .ok (.ixor, 1) := by decide +kernel
theorem dX8_setCut_26 : decode cX8_setCut 26 = .ok (.iand, 1) := by decide +kernel
theorem dX8_setCut_27 : decode cX8_setCut 27 = .ok (.putfield 55, 3) := by decide +kernel
theorem dX8_setCut_30 : decode cX8_setCut 30 = .ok (.return_, 1) := by decide +kernel
theorem dX8_isOpen_0 : decode cX8_isOpen 0 = .ok (.aload_n 0, 1) := by decide +kernel
theorem dX8_isOpen_1 : decode cX8_isOpen 1 = .ok (.getfield 9, 3) := by decide +kernel
theorem dX8_isOpen_4 : decode cX8_isOpen 4 = .ok (.iload_n 1, 1) := by decide +kernel
theorem dX8_isOpen_5 : decode cX8_isOpen 5 = .ok (.iaload, 1) := by decide +kernel
theorem dX8_isOpen_6 : decode cX8_isOpen 6 = .ok (.iload_n 2, 1) := by decide +kernel
theorem dX8_isOpen_7 : decode cX8_isOpen 7 = .ok (.if_icmp .ne 39, 3) := by decide +kernel
theorem dX8_isOpen_10 : decode cX8_isOpen 10 = .ok (.aload_n 0, 1) := by decide +kernel
theorem dX8_isOpen_11 : decode cX8_isOpen 11 = .ok (.getfield 55, 3) := by decide +kernel
theorem dX8_isOpen_14 : decode cX8_isOpen 14 = .ok (.iload_n 1, 1) := by decide +kernel
theorem dX8_isOpen_15 : decode cX8_isOpen 15 = .ok (.invokestatic 58, 3) := by decide +kernel
theorem dX8_isOpen_18 : decode cX8_isOpen 18 = .ok (.ifCond .ne 28, 3) := by decide +kernel
theorem dX8_isOpen_21 : decode cX8_isOpen 21 = .ok (.aload_n 0, 1) := by decide +kernel
theorem dX8_isOpen_22 : decode cX8_isOpen 22 = .ok (.getfield 49, 3) := by decide +kernel
theorem dX8_isOpen_25 : decode cX8_isOpen 25 = .ok (.iload_n 2, 1) := by decide +kernel
theorem dX8_isOpen_26 : decode cX8_isOpen 26 = .ok (.invokestatic 58, 3) := by decide +kernel
theorem dX8_isOpen_29 : decode cX8_isOpen 29 = .ok (.ifCond .ne 17, 3) := by decide +kernel
theorem dX8_isOpen_32 : decode cX8_isOpen 32 = .ok (.aload_n 0, 1) := by decide +kernel
theorem dX8_isOpen_33 : decode cX8_isOpen 33 = .ok (.iload_n 1, 1) := by decide +kernel
theorem dX8_isOpen_34 : decode cX8_isOpen 34 = .ok (.iload_n 3, 1) := by decide +kernel
theorem dX8_isOpen_35 : decode cX8_isOpen 35 = .ok (.iconst 0, 1) := by decide +kernel
theorem dX8_isOpen_36 : decode cX8_isOpen 36 = .ok (.invokevirtual 62, 3) := by decide +kernel
theorem dX8_isOpen_39 : decode cX8_isOpen 39 = .ok (.ifCond .eq 7, 3) := by decide +kernel
theorem dX8_isOpen_42 : decode cX8_isOpen 42 = .ok (.iconst 1, 1) := by decide +kernel
theorem dX8_isOpen_43 : decode cX8_isOpen 43 = .ok (.goto 4, 3) := by decide +kernel
theorem dX8_isOpen_46 : decode cX8_isOpen 46 = .ok (.iconst 0, 1) := by decide +kernel
theorem dX8_isOpen_47 : decode cX8_isOpen 47 = .ok (.ireturn, 1) := by decide +kernel
theorem dX8_guardHolds_0 : decode cX8_guardHolds 0 = .ok (.iload_n 1, 1) := by decide +kernel
theorem dX8_guardHolds_1 : decode cX8_guardHolds 1 = .ok (.iconst 3, 1) := by decide +kernel
theorem dX8_guardHolds_2 : decode cX8_guardHolds 2 = .ok (.imul, 1) := by decide +kernel
theorem dX8_guardHolds_3 : decode cX8_guardHolds 3 = .ok (.istore 4, 2) := by decide +kernel
theorem dX8_guardHolds_5 : decode cX8_guardHolds 5 = .ok (.iload 4, 2) := by decide +kernel
theorem dX8_guardHolds_7 : decode cX8_guardHolds 7 = .ok (.istore 5, 2) := by decide +kernel
theorem dX8_guardHolds_9 : decode cX8_guardHolds 9 = .ok (.iload 5, 2) := by decide +kernel
theorem dX8_guardHolds_11 : decode cX8_guardHolds 11 = .ok (.iload 4, 2) := by decide +kernel
theorem dX8_guardHolds_13 : decode cX8_guardHolds 13 = .ok (.aload_n 0, 1) := by decide +kernel
theorem dX8_guardHolds_14 : decode cX8_guardHolds 14 = .ok (.getfield 21, 3) := by decide +kernel
theorem dX8_guardHolds_17 : decode cX8_guardHolds 17 = .ok (.iload_n 1, 1) := by decide +kernel
theorem dX8_guardHolds_18 : decode cX8_guardHolds 18 = .ok (.iaload, 1) := by decide +kernel
theorem dX8_guardHolds_19 : decode cX8_guardHolds 19 = .ok (.iadd, 1) := by decide +kernel
theorem dX8_guardHolds_20 : decode cX8_guardHolds 20 = .ok (.if_icmp .ge 47, 3) := by decide +kernel
theorem dX8_guardHolds_23 : decode cX8_guardHolds 23 = .ok (.aload_n 0, 1) := by decide +kernel
theorem dX8_guardHolds_24 : decode cX8_guardHolds 24 = .ok (.getfield 24, 3) := by decide +kernel
theorem dX8_guardHolds_27 : decode cX8_guardHolds 27 = .ok (.iload 5, 2) := by decide +kernel
theorem dX8_guardHolds_29 : decode cX8_guardHolds 29 = .ok (.iaload, 1) := by decide +kernel
theorem dX8_guardHolds_30 : decode cX8_guardHolds 30 = .ok (.iload_n 2, 1) := by decide +kernel
theorem dX8_guardHolds_31 : decode cX8_guardHolds 31 = .ok (.iconst (-1), 1) := by decide +kernel
theorem dX8_guardHolds_32 : decode cX8_guardHolds 32 = .ok (.ixor, 1) := by decide +kernel
theorem dX8_guardHolds_33 : decode cX8_guardHolds 33 = .ok (.iand, 1) := by decide +kernel
theorem dX8_guardHolds_34 : decode cX8_guardHolds 34 = .ok (.istore 6, 2) := by decide +kernel
theorem dX8_guardHolds_36 : decode cX8_guardHolds 36 = .ok (.aload_n 0, 1) := by decide +kernel
theorem dX8_guardHolds_37 : decode cX8_guardHolds 37 = .ok (.getfield 27, 3) := by decide +kernel
theorem dX8_guardHolds_40 : decode cX8_guardHolds 40 = .ok (.iload 5, 2) := by decide +kernel
theorem dX8_guardHolds_42 : decode cX8_guardHolds 42 = .ok (.iaload, 1) := by decide +kernel
theorem dX8_guardHolds_43 : decode cX8_guardHolds 43 = .ok (.iload_n 2, 1) := by decide +kernel
theorem dX8_guardHolds_44 : decode cX8_guardHolds 44 = .ok (.iand, 1) := by decide +kernel
theorem dX8_guardHolds_45 : decode cX8_guardHolds 45 = .ok (.istore 7, 2) := by decide +kernel
theorem dX8_guardHolds_47 : decode cX8_guardHolds 47 = .ok (.iload 6, 2) := by decide +kernel
theorem dX8_guardHolds_49 : decode cX8_guardHolds 49 = .ok (.iload 7, 2) := by decide +kernel
theorem dX8_guardHolds_51 : decode cX8_guardHolds 51 = .ok (.ior, 1) := by decide +kernel
theorem dX8_guardHolds_52 : decode cX8_guardHolds 52 = .ok (.iload_n 3, 1) := by decide +kernel
theorem dX8_guardHolds_53 : decode cX8_guardHolds 53 = .ok (.iconst (-1), 1) := by decide +kernel
theorem dX8_guardHolds_54 : decode cX8_guardHolds 54 = .ok (.ixor, 1) := by decide +kernel
theorem dX8_guardHolds_55 : decode cX8_guardHolds 55 = .ok (.iand, 1) := by decide +kernel
theorem dX8_guardHolds_56 : decode cX8_guardHolds 56 = .ok (.ifCond .ne 5, 3) := by decide +kernel
theorem dX8_guardHolds_59 : decode cX8_guardHolds 59 = .ok (.iconst 1, 1) := by decide +kernel
theorem dX8_guardHolds_60 : decode cX8_guardHolds 60 = .ok (.ireturn, 1) := by decide +kernel
theorem dX8_guardHolds_61 : decode cX8_guardHolds 61 = .ok (.iinc 5 1, 3) := by decide +kernel
theorem dX8_guardHolds_64 : decode cX8_guardHolds 64 = .ok (.goto (-55), 3) := by decide +kernel
theorem dX8_guardHolds_67 : decode cX8_guardHolds 67 = .ok (.aload_n 0, 1) := by decide +kernel
theorem dX8_guardHolds_68 : decode cX8_guardHolds 68 = .ok (.getfield 21, 3) := by decide +kernel
theorem dX8_guardHolds_71 : decode cX8_guardHolds 71 = .ok (.iload_n 1, 1) := by decide +kernel
theorem dX8_guardHolds_72 : decode cX8_guardHolds 72 = .ok (.iaload, 1) := by decide +kernel
theorem dX8_guardHolds_73 : decode cX8_guardHolds 73 = .ok (.ifCond .ne 7, 3) := by decide +kernel
theorem dX8_guardHolds_76 : decode cX8_guardHolds 76 = .ok (.iconst 1, 1) := by decide +kernel
theorem dX8_guardHolds_77 : decode cX8_guardHolds 77 = .ok (.goto 4, 3) := by decide +kernel
theorem dX8_guardHolds_80 : decode cX8_guardHolds 80 = .ok (.iconst 0, 1) := by decide +kernel
theorem dX8_guardHolds_81 : decode cX8_guardHolds 81 = .ok (.ireturn, 1) := by decide +kernel
theorem dX8_guardContradictsItself_0 : decode cX8_guardContradictsItself 0 = .ok (.iload_n 1, 1) := by decide +kernel
theorem dX8_guardContradictsItself_1 : decode cX8_guardContradictsItself 1 = .ok (.iconst 3, 1) := by decide +kernel
theorem dX8_guardContradictsItself_2 : decode cX8_guardContradictsItself 2 = .ok (.imul, 1) := by decide +kernel
theorem dX8_guardContradictsItself_3 : decode cX8_guardContradictsItself 3 = .ok (.istore_n 2, 1) := by decide +kernel
theorem dX8_guardContradictsItself_4 : decode cX8_guardContradictsItself 4 = .ok (.iload_n 2, 1) := by decide +kernel
theorem dX8_guardContradictsItself_5 : decode cX8_guardContradictsItself 5 = .ok (.istore_n 3, 1) := by decide +kernel
theorem dX8_guardContradictsItself_6 : decode cX8_guardContradictsItself 6 = .ok (.iload_n 3, 1) := by decide +kernel
theorem dX8_guardContradictsItself_7 : decode cX8_guardContradictsItself 7 = .ok (.iload_n 2, 1) := by decide +kernel
theorem dX8_guardContradictsItself_8 : decode cX8_guardContradictsItself 8 = .ok (.aload_n 0, 1) := by decide +kernel
theorem dX8_guardContradictsItself_9 : decode cX8_guardContradictsItself 9 = .ok (.getfield 21, 3) := by decide +kernel
theorem dX8_guardContradictsItself_12 : decode cX8_guardContradictsItself 12 = .ok (.iload_n 1, 1) := by decide +kernel
theorem dX8_guardContradictsItself_13 : decode cX8_guardContradictsItself 13 = .ok (.iaload, 1) := by decide +kernel
theorem dX8_guardContradictsItself_14 : decode cX8_guardContradictsItself 14 = .ok (.iadd, 1) := by decide +kernel
theorem dX8_guardContradictsItself_15 : decode cX8_guardContradictsItself 15 = .ok (.if_icmp .ge 27, 3) := by decide +kernel
theorem dX8_guardContradictsItself_18 : decode cX8_guardContradictsItself 18 = .ok (.aload_n 0, 1) := by decide +kernel
theorem dX8_guardContradictsItself_19 : decode cX8_guardContradictsItself 19 = .ok (.getfield 24, 3) := by decide +kernel
theorem dX8_guardContradictsItself_22 : decode cX8_guardContradictsItself 22 = .ok (.iload_n 3, 1) := by decide +kernel
theorem dX8_guardContradictsItself_23 : decode cX8_guardContradictsItself 23 = .ok (.iaload, 1) := by decide +kernel
theorem dX8_guardContradictsItself_24 : decode cX8_guardContradictsItself 24 = .ok (.aload_n 0, 1) := by decide +kernel
theorem dX8_guardContradictsItself_25 : decode cX8_guardContradictsItself 25 = .ok (.getfield 27, 3) := by decide +kernel
theorem dX8_guardContradictsItself_28 : decode cX8_guardContradictsItself 28 = .ok (.iload_n 3, 1) := by decide +kernel
theorem dX8_guardContradictsItself_29 : decode cX8_guardContradictsItself 29 = .ok (.iaload, 1) := by decide +kernel
theorem dX8_guardContradictsItself_30 : decode cX8_guardContradictsItself 30 = .ok (.iand, 1) := by decide +kernel
theorem dX8_guardContradictsItself_31 : decode cX8_guardContradictsItself 31 = .ok (.ifCond .ne 5, 3) := by decide +kernel
theorem dX8_guardContradictsItself_34 : decode cX8_guardContradictsItself 34 = .ok (.iconst 0, 1) := by decide +kernel
theorem dX8_guardContradictsItself_35 : decode cX8_guardContradictsItself 35 = .ok (.ireturn, 1) := by decide +kernel
theorem dX8_guardContradictsItself_36 : decode cX8_guardContradictsItself 36 = .ok (.iinc 3 1, 3) := by decide +kernel
theorem dX8_guardContradictsItself_39 : decode cX8_guardContradictsItself 39 = .ok (.goto (-33), 3) := by decide +kernel
theorem dX8_guardContradictsItself_42 : decode cX8_guardContradictsItself 42 = .ok (.aload_n 0, 1) := by decide +kernel
theorem dX8_guardContradictsItself_43 : decode cX8_guardContradictsItself 43 = .ok (.getfield 21, 3) := by decide +kernel
theorem dX8_guardContradictsItself_46 : decode cX8_guardContradictsItself 46 = .ok (.iload_n 1, 1) := by decide +kernel
theorem dX8_guardContradictsItself_47 : decode cX8_guardContradictsItself 47 = .ok (.iaload, 1) := by decide +kernel
theorem dX8_guardContradictsItself_48 : decode cX8_guardContradictsItself 48 = .ok (.ifCond .le 7, 3) := by decide +kernel
theorem dX8_guardContradictsItself_51 : decode cX8_guardContradictsItself 51 = .ok (.iconst 1, 1) := by decide +kernel
theorem dX8_guardContradictsItself_52 : decode cX8_guardContradictsItself 52 = .ok (.goto 4, 3) := by decide +kernel
theorem dX8_guardContradictsItself_55 : decode cX8_guardContradictsItself 55 = .ok (.iconst 0, 1) := by decide +kernel
theorem dX8_guardContradictsItself_56 : decode cX8_guardContradictsItself 56 = .ok (.ireturn, 1) := by decide +kernel
theorem dX8_marksBehind_0 : decode cX8_marksBehind 0 = .ok (.iload_n 2, 1) := by decide +kernel
theorem dX8_marksBehind_1 : decode cX8_marksBehind 1 = .ok (.aload_n 0, 1) := by decide +kernel
theorem dX8_marksBehind_2 : decode cX8_marksBehind 2 = .ok (.getfield 30, 3) := by decide +kernel
theorem dX8_marksBehind_5 : decode cX8_marksBehind 5 = .ok (.iload_n 1, 1) := by decide +kernel
theorem dX8_marksBehind_6 : decode cX8_marksBehind 6 = .ok (.iaload, 1) := by decide +kernel
theorem dX8_marksBehind_7 : decode cX8_marksBehind 7 = .ok (.ior, 1) := by decide +kernel
theorem dX8_marksBehind_8 : decode cX8_marksBehind 8 = .ok (.aload_n 0, 1) := by decide +kernel
theorem dX8_marksBehind_9 : decode cX8_marksBehind 9 = .ok (.getfield 33, 3) := by decide +kernel
theorem dX8_marksBehind_12 : decode cX8_marksBehind 12 = .ok (.iload_n 1, 1) := by decide +kernel
theorem dX8_marksBehind_13 : decode cX8_marksBehind 13 = .ok (.iaload, 1) := by decide +kernel
theorem dX8_marksBehind_14 : decode cX8_marksBehind 14 = .ok (.iconst (-1), 1) := by decide +kernel
theorem dX8_marksBehind_15 : decode cX8_marksBehind 15 = .ok (.ixor, 1) := by decide +kernel
theorem dX8_marksBehind_16 : decode cX8_marksBehind 16 = .ok (.iand, 1) := by decide +kernel
theorem dX8_marksBehind_17 : decode cX8_marksBehind 17 = .ok (.ireturn, 1) := by decide +kernel
theorem dX8_stateBehind_0 : decode cX8_stateBehind 0 = .ok (.aload_n 0, 1) := by decide +kernel
theorem dX8_stateBehind_1 : decode cX8_stateBehind 1 = .ok (.getfield 15, 3) := by decide +kernel
theorem dX8_stateBehind_4 : decode cX8_stateBehind 4 = .ok (.iload_n 1, 1) := by decide +kernel
theorem dX8_stateBehind_5 : decode cX8_stateBehind 5 = .ok (.iaload, 1) := by decide +kernel
theorem dX8_stateBehind_6 : decode cX8_stateBehind 6 = .ok (.bipush 64, 2) := by decide +kernel
theorem dX8_stateBehind_8 : decode cX8_stateBehind 8 = .ok (.imul, 1) := by decide +kernel
theorem dX8_stateBehind_9 : decode cX8_stateBehind 9 = .ok (.aload_n 0, 1) := by decide +kernel
theorem dX8_stateBehind_10 : decode cX8_stateBehind 10 = .ok (.iload_n 1, 1) := by decide +kernel
theorem dX8_stateBehind_11 : decode cX8_stateBehind 11 = .ok (.iload_n 2, 1) := by decide +kernel
theorem dX8_stateBehind_12 : decode cX8_stateBehind 12 = .ok (.invokevirtual 66, 3) := by decide +kernel
theorem dX8_stateBehind_15 : decode cX8_stateBehind 15 = .ok (.iadd, 1) := by decide +kernel
theorem dX8_stateBehind_16 : decode cX8_stateBehind 16 = .ok (.ireturn, 1) := by decide +kernel
theorem dX8_answersThatLay_0 : decode cX8_answersThatLay 0 = .ok (.iconst 0, 1) := by decide +kernel
theorem dX8_answersThatLay_1 : decode cX8_answersThatLay 1 = .ok (.istore_n 2, 1) := by decide +kernel
theorem dX8_answersThatLay_2 : decode cX8_answersThatLay 2 = .ok (.iconst 0, 1) := by decide +kernel
theorem dX8_answersThatLay_3 : decode cX8_answersThatLay 3 = .ok (.istore_n 3, 1) := by decide +kernel
theorem dX8_answersThatLay_4 : decode cX8_answersThatLay 4 = .ok (.iload_n 3, 1) := by decide +kernel
theorem dX8_answersThatLay_5 : decode cX8_answersThatLay 5 = .ok (.aload_n 0, 1) := by decide +kernel
theorem dX8_answersThatLay_6 : decode cX8_answersThatLay 6 = .ok (.getfield 42, 3) := by decide +kernel
theorem dX8_answersThatLay_9 : decode cX8_answersThatLay 9 = .ok (.if_icmp .ge 24, 3) := by decide +kernel
theorem dX8_answersThatLay_12 : decode cX8_answersThatLay 12 = .ok (.iload_n 2, 1) := by decide +kernel
theorem dX8_answersThatLay_13 : decode cX8_answersThatLay 13 = .ok (.aload_n 0, 1) := by decide +kernel
theorem dX8_answersThatLay_14 : decode cX8_answersThatLay 14 = .ok (.getfield 30, 3) := by decide +kernel
theorem dX8_answersThatLay_17 : decode cX8_answersThatLay 17 = .ok (.iload_n 3, 1) := by decide +kernel
theorem dX8_answersThatLay_18 : decode cX8_answersThatLay 18 = .ok (.iaload, 1) := by decide +kernel
theorem dX8_answersThatLay_19 : decode cX8_answersThatLay 19 = .ok (.iload_n 1, 1) := by decide +kernel
theorem dX8_answersThatLay_20 : decode cX8_answersThatLay 20 = .ok (.invokestatic 58, 3) := by decide +kernel
theorem dX8_answersThatLay_23 : decode cX8_answersThatLay 23 = .ok (.iload_n 3, 1) := by decide +kernel
theorem dX8_answersThatLay_24 : decode cX8_answersThatLay 24 = .ok (.ishl, 1) := by decide +kernel
theorem dX8_answersThatLay_25 : decode cX8_answersThatLay 25 = .ok (.ior, 1) := by decide +kernel
theorem dX8_answersThatLay_26 : decode cX8_answersThatLay 26 = .ok (.istore_n 2, 1) := by decide +kernel
theorem dX8_answersThatLay_27 : decode cX8_answersThatLay 27 = .ok (.iinc 3 1, 3) := by decide +kernel
theorem dX8_answersThatLay_30 : decode cX8_answersThatLay 30 = .ok (.goto (-26), 3) := by decide +kernel
theorem dX8_answersThatLay_33 : decode cX8_answersThatLay 33 = .ok (.iload_n 2, 1) := by decide +kernel
theorem dX8_answersThatLay_34 : decode cX8_answersThatLay 34 = .ok (.ireturn, 1) := by decide +kernel
theorem dX8_guardsThatName_0 : decode cX8_guardsThatName 0 = .ok (.iconst 0, 1) := by decide +kernel
theorem dX8_guardsThatName_1 : decode cX8_guardsThatName 1 = .ok (.istore_n 2, 1) := by decide +kernel
theorem dX8_guardsThatName_2 : decode cX8_guardsThatName 2 = .ok (.iconst 0, 1) := by decide +kernel
theorem dX8_guardsThatName_3 : decode cX8_guardsThatName 3 = .ok (.istore_n 3, 1) := by decide +kernel
theorem dX8_guardsThatName_4 : decode cX8_guardsThatName 4 = .ok (.iload_n 3, 1) := by decide +kernel
theorem dX8_guardsThatName_5 : decode cX8_guardsThatName 5 = .ok (.aload_n 0, 1) := by decide +kernel
theorem dX8_guardsThatName_6 : decode cX8_guardsThatName 6 = .ok (.getfield 42, 3) := by decide +kernel
theorem dX8_guardsThatName_9 : decode cX8_guardsThatName 9 = .ok (.if_icmp .ge 21, 3) := by decide +kernel
theorem dX8_guardsThatName_12 : decode cX8_guardsThatName 12 = .ok (.iload_n 2, 1) := by decide +kernel
theorem dX8_guardsThatName_13 : decode cX8_guardsThatName 13 = .ok (.aload_n 0, 1) := by decide +kernel
theorem dX8_guardsThatName_14 : decode cX8_guardsThatName 14 = .ok (.iload_n 3, 1) := by decide +kernel
theorem dX8_guardsThatName_15 : decode cX8_guardsThatName 15 = .ok (.invokevirtual 69, 3) := by decide +kernel
theorem dX8_guardsThatName_18 : decode cX8_guardsThatName 18 = .ok (.iload_n 1, 1) := by decide +kernel
theorem dX8_guardsThatName_19 : decode cX8_guardsThatName 19 = .ok (.invokestatic 58, 3) := by decide +kernel
theorem dX8_guardsThatName_22 : decode cX8_guardsThatName 22 = .ok (.iadd, 1) := by decide +kernel
theorem dX8_guardsThatName_23 : decode cX8_guardsThatName 23 = .ok (.istore_n 2, 1) := by decide +kernel
theorem dX8_guardsThatName_24 : decode cX8_guardsThatName 24 = .ok (.iinc 3 1, 3) := by decide +kernel
theorem dX8_guardsThatName_27 : decode cX8_guardsThatName 27 = .ok (.goto (-23), 3) := by decide +kernel
theorem dX8_guardsThatName_30 : decode cX8_guardsThatName 30 = .ok (.iload_n 2, 1) := by decide +kernel
theorem dX8_guardsThatName_31 : decode cX8_guardsThatName 31 = .ok (.ireturn, 1) := by decide +kernel
theorem dX8_effectsThatName_0 : decode cX8_effectsThatName 0 = .ok (.iconst 0, 1) := by decide +kernel
theorem dX8_effectsThatName_1 : decode cX8_effectsThatName 1 = .ok (.istore_n 2, 1) := by decide +kernel
theorem dX8_effectsThatName_2 : decode cX8_effectsThatName 2 = .ok (.iconst 0, 1) := by decide +kernel
theorem dX8_effectsThatName_3 : decode cX8_effectsThatName 3 = .ok (.istore_n 3, 1) := by decide +kernel
theorem dX8_effectsThatName_4 : decode cX8_effectsThatName 4 = .ok (.iload_n 3, 1) := by decide +kernel
theorem dX8_effectsThatName_5 : decode cX8_effectsThatName 5 = .ok (.aload_n 0, 1) := by decide +kernel
theorem dX8_effectsThatName_6 : decode cX8_effectsThatName 6 = .ok (.getfield 42, 3) := by decide +kernel
theorem dX8_effectsThatName_9 : decode cX8_effectsThatName 9 = .ok (.if_icmp .ge 29, 3) := by decide +kernel
theorem dX8_effectsThatName_12 : decode cX8_effectsThatName 12 = .ok (.iload_n 2, 1) := by decide +kernel
theorem dX8_effectsThatName_13 : decode cX8_effectsThatName 13 = .ok (.aload_n 0, 1) := by decide +kernel
theorem dX8_effectsThatName_14 : decode cX8_effectsThatName 14 = .ok (.getfield 30, 3) := by decide +kernel
theorem dX8_effectsThatName_17 : decode cX8_effectsThatName 17 = .ok (.iload_n 3, 1) := by decide +kernel
theorem dX8_effectsThatName_18 : decode cX8_effectsThatName 18 = .ok (.iaload, 1) := by decide +kernel
theorem dX8_effectsThatName_19 : decode cX8_effectsThatName 19 = .ok (.aload_n 0, 1) := by decide +kernel
theorem dX8_effectsThatName_20 : decode cX8_effectsThatName 20 = .ok (.getfield 33, 3) := by decide +kernel
theorem dX8_effectsThatName_23 : decode cX8_effectsThatName 23 = .ok (.iload_n 3, 1) := by decide +kernel
theorem dX8_effectsThatName_24 : decode cX8_effectsThatName 24 = .ok (.iaload, 1) := by decide +kernel
theorem dX8_effectsThatName_25 : decode cX8_effectsThatName 25 = .ok (.ior, 1) := by decide +kernel
theorem dX8_effectsThatName_26 : decode cX8_effectsThatName 26 = .ok (.iload_n 1, 1) := by decide +kernel
theorem dX8_effectsThatName_27 : decode cX8_effectsThatName 27 = .ok (.invokestatic 58, 3) := by decide +kernel
theorem dX8_effectsThatName_30 : decode cX8_effectsThatName 30 = .ok (.iadd, 1) := by decide +kernel
theorem dX8_effectsThatName_31 : decode cX8_effectsThatName 31 = .ok (.istore_n 2, 1) := by decide +kernel
theorem dX8_effectsThatName_32 : decode cX8_effectsThatName 32 = .ok (.iinc 3 1, 3) := by decide +kernel
theorem dX8_effectsThatName_35 : decode cX8_effectsThatName 35 = .ok (.goto (-31), 3) := by decide +kernel
theorem dX8_effectsThatName_38 : decode cX8_effectsThatName 38 = .ok (.iload_n 2, 1) := by decide +kernel
theorem dX8_effectsThatName_39 : decode cX8_effectsThatName 39 = .ok (.ireturn, 1) := by decide +kernel
theorem dX8_marksOfGuard_0 : decode cX8_marksOfGuard 0 = .ok (.iconst 0, 1) := by decide +kernel
theorem dX8_marksOfGuard_1 : decode cX8_marksOfGuard 1 = .ok (.istore_n 2, 1) := by decide +kernel
theorem dX8_marksOfGuard_2 : decode cX8_marksOfGuard 2 = .ok (.iload_n 1, 1) := by decide +kernel
theorem dX8_marksOfGuard_3 : decode cX8_marksOfGuard 3 = .ok (.iconst 3, 1) := by decide +kernel
theorem dX8_marksOfGuard_4 : decode cX8_marksOfGuard 4 = .ok (.imul, 1) := by decide +kernel
theorem dX8_marksOfGuard_5 : decode cX8_marksOfGuard 5 = .ok (.istore_n 3, 1) := by decide +kernel
theorem dX8_marksOfGuard_6 : decode cX8_marksOfGuard 6 = .ok (.iload_n 3, 1) := by decide +kernel
theorem dX8_marksOfGuard_7 : decode cX8_marksOfGuard 7 = .ok (.istore 4, 2) := by decide +kernel
theorem dX8_marksOfGuard_9 : decode cX8_marksOfGuard 9 = .ok (.iload 4, 2) := by decide +kernel
theorem dX8_marksOfGuard_11 : decode cX8_marksOfGuard 11 = .ok (.iload_n 3, 1) := by decide +kernel
theorem dX8_marksOfGuard_12 : decode cX8_marksOfGuard 12 = .ok (.aload_n 0, 1) := by decide +kernel
theorem dX8_marksOfGuard_13 : decode cX8_marksOfGuard 13 = .ok (.getfield 21, 3) := by decide +kernel
theorem dX8_marksOfGuard_16 : decode cX8_marksOfGuard 16 = .ok (.iload_n 1, 1) := by decide +kernel
theorem dX8_marksOfGuard_17 : decode cX8_marksOfGuard 17 = .ok (.iaload, 1) := by decide +kernel
theorem dX8_marksOfGuard_18 : decode cX8_marksOfGuard 18 = .ok (.iadd, 1) := by decide +kernel
theorem dX8_marksOfGuard_19 : decode cX8_marksOfGuard 19 = .ok (.if_icmp .ge 27, 3) := by decide +kernel
theorem dX8_marksOfGuard_22 : decode cX8_marksOfGuard 22 = .ok (.iload_n 2, 1) := by decide +kernel
theorem dX8_marksOfGuard_23 : decode cX8_marksOfGuard 23 = .ok (.aload_n 0, 1) := by decide +kernel
theorem dX8_marksOfGuard_24 : decode cX8_marksOfGuard 24 = .ok (.getfield 24, 3) := by decide +kernel
theorem dX8_marksOfGuard_27 : decode cX8_marksOfGuard 27 = .ok (.iload 4, 2) := by decide +kernel
theorem dX8_marksOfGuard_29 : decode cX8_marksOfGuard 29 = .ok (.iaload, 1) := by decide +kernel
theorem dX8_marksOfGuard_30 : decode cX8_marksOfGuard 30 = .ok (.aload_n 0, 1) := by decide +kernel
theorem dX8_marksOfGuard_31 : decode cX8_marksOfGuard 31 = .ok (.getfield 27, 3) := by decide +kernel
theorem dX8_marksOfGuard_34 : decode cX8_marksOfGuard 34 = .ok (.iload 4, 2) := by decide +kernel
theorem dX8_marksOfGuard_36 : decode cX8_marksOfGuard 36 = .ok (.iaload, 1) := by decide +kernel
theorem dX8_marksOfGuard_37 : decode cX8_marksOfGuard 37 = .ok (.ior, 1) := by decide +kernel
theorem dX8_marksOfGuard_38 : decode cX8_marksOfGuard 38 = .ok (.ior, 1) := by decide +kernel
theorem dX8_marksOfGuard_39 : decode cX8_marksOfGuard 39 = .ok (.istore_n 2, 1) := by decide +kernel
theorem dX8_marksOfGuard_40 : decode cX8_marksOfGuard 40 = .ok (.iinc 4 1, 3) := by decide +kernel
theorem dX8_marksOfGuard_43 : decode cX8_marksOfGuard 43 = .ok (.goto (-34), 3) := by decide +kernel
theorem dX8_marksOfGuard_46 : decode cX8_marksOfGuard 46 = .ok (.iload_n 2, 1) := by decide +kernel
theorem dX8_marksOfGuard_47 : decode cX8_marksOfGuard 47 = .ok (.ireturn, 1) := by decide +kernel
theorem dX9_init_0 : decode cX9_init 0 = .ok (.aload_n 0, 1) := by decide +kernel
theorem dX9_init_1 : decode cX9_init 1 = .ok (.invokespecial 3, 3) := by decide +kernel
theorem dX9_init_4 : decode cX9_init 4 = .ok (.aload_n 0, 1) := by decide +kernel
theorem dX9_init_5 : decode cX9_init 5 = .ok (.sipush 1024, 3) := by decide +kernel
theorem dX9_init_8 : decode cX9_init 8 = .ok (.newarray .int, 2) := by decide +kernel
theorem dX9_init_10 : decode cX9_init 10 = .ok (.putfield 9, 3) := by decide +kernel
theorem dX9_init_13 : decode cX9_init 13 = .ok (.aload_n 0, 1) := by decide +kernel
theorem dX9_init_14 : decode cX9_init 14 = .ok (.sipush 1024, 3) := by decide +kernel
theorem dX9_init_17 : decode cX9_init 17 = .ok (.newarray .int, 2) := by decide +kernel
theorem dX9_init_19 : decode cX9_init 19 = .ok (.putfield 15, 3) := by decide +kernel
theorem dX9_init_22 : decode cX9_init 22 = .ok (.return_, 1) := by decide +kernel
theorem dX9_startAt_0 : decode cX9_startAt 0 = .ok (.aload_n 0, 1) := by decide +kernel
theorem dX9_startAt_1 : decode cX9_startAt 1 = .ok (.getfield 15, 3) := by decide +kernel
theorem dX9_startAt_4 : decode cX9_startAt 4 = .ok (.iconst (-1), 1) := by decide +kernel
theorem dX9_startAt_5 : decode cX9_startAt 5 = .ok (.invokestatic 18, 3) := by decide +kernel
theorem dX9_startAt_8 : decode cX9_startAt 8 = .ok (.aload_n 0, 1) := by decide +kernel
theorem dX9_startAt_9 : decode cX9_startAt 9 = .ok (.iconst 0, 1) := by decide +kernel
theorem dX9_startAt_10 : decode cX9_startAt 10 = .ok (.putfield 24, 3) := by decide +kernel
theorem dX9_startAt_13 : decode cX9_startAt 13 = .ok (.aload_n 0, 1) := by decide +kernel
theorem dX9_startAt_14 : decode cX9_startAt 14 = .ok (.iload_n 1, 1) := by decide +kernel
theorem dX9_startAt_15 : decode cX9_startAt 15 = .ok (.iconst 0, 1) := by decide +kernel
theorem dX9_startAt_16 : decode cX9_startAt 16 = .ok (.invokevirtual 28, 3) := by decide +kernel
theorem dX9_startAt_19 : decode cX9_startAt 19 = .ok (.return_, 1) := by decide +kernel
theorem dX9_enqueue_0 : decode cX9_enqueue 0 = .ok (.aload_n 0, 1) := by decide +kernel
theorem dX9_enqueue_1 : decode cX9_enqueue 1 = .ok (.getfield 15, 3) := by decide +kernel
theorem dX9_enqueue_4 : decode cX9_enqueue 4 = .ok (.iload_n 1, 1) := by decide +kernel
theorem dX9_enqueue_5 : decode cX9_enqueue 5 = .ok (.iaload, 1) := by decide +kernel
theorem dX9_enqueue_6 : decode cX9_enqueue 6 = .ok (.iconst (-1), 1) := by decide +kernel
theorem dX9_enqueue_7 : decode cX9_enqueue 7 = .ok (.if_icmp .ne 30, 3) := by decide +kernel
theorem dX9_enqueue_10 : decode cX9_enqueue 10 = .ok (.aload_n 0, 1) := by decide +kernel
theorem dX9_enqueue_11 : decode cX9_enqueue 11 = .ok (.getfield 15, 3) := by decide +kernel
theorem dX9_enqueue_14 : decode cX9_enqueue 14 = .ok (.iload_n 1, 1) := by decide +kernel
theorem dX9_enqueue_15 : decode cX9_enqueue 15 = .ok (.iload_n 2, 1) := by decide +kernel
theorem dX9_enqueue_16 : decode cX9_enqueue 16 = .ok (.iastore, 1) := by decide +kernel
theorem dX9_enqueue_17 : decode cX9_enqueue 17 = .ok (.aload_n 0, 1) := by decide +kernel
theorem dX9_enqueue_18 : decode cX9_enqueue 18 = .ok (.getfield 9, 3) := by decide +kernel
theorem dX9_enqueue_21 : decode cX9_enqueue 21 = .ok (.aload_n 0, 1) := by decide +kernel
theorem dX9_enqueue_22 : decode cX9_enqueue 22 = .ok (.getfield 24, 3) := by decide +kernel
theorem dX9_enqueue_25 : decode cX9_enqueue 25 = .ok (.iload_n 1, 1) := by decide +kernel
theorem dX9_enqueue_26 : decode cX9_enqueue 26 = .ok (.iastore, 1) := by decide +kernel
theorem dX9_enqueue_27 : decode cX9_enqueue 27 = .ok (.aload_n 0, 1) := by decide +kernel
theorem dX9_enqueue_28 : decode cX9_enqueue 28 = .ok (.dup, 1) := by decide +kernel
theorem dX9_enqueue_29 : decode cX9_enqueue 29 = .ok (.getfield 24, 3) := by decide +kernel
theorem dX9_enqueue_32 : decode cX9_enqueue 32 = .ok (.iconst 1, 1) := by decide +kernel
theorem dX9_enqueue_33 : decode cX9_enqueue 33 = .ok (.iadd, 1) := by decide +kernel
theorem dX9_enqueue_34 : decode cX9_enqueue 34 = .ok (.putfield 24, 3) := by decide +kernel
theorem dX9_enqueue_37 : decode cX9_enqueue 37 = .ok (.return_, 1) := by decide +kernel
theorem dX9_comesTo_0 : decode cX9_comesTo 0 = .ok (.aload_n 0, 1) := by decide +kernel
theorem dX9_comesTo_1 : decode cX9_comesTo 1 = .ok (.iconst 0, 1) := by decide +kernel
theorem dX9_comesTo_2 : decode cX9_comesTo 2 = .ok (.invokevirtual 32, 3) := by decide +kernel
theorem dX9_comesTo_5 : decode cX9_comesTo 5 = .ok (.iconst 0, 1) := by decide +kernel
theorem dX9_comesTo_6 : decode cX9_comesTo 6 = .ok (.istore 4, 2) := by decide +kernel
theorem dX9_comesTo_8 : decode cX9_comesTo 8 = .ok (.iload 4, 2) := by decide +kernel
theorem dX9_comesTo_10 : decode cX9_comesTo 10 = .ok (.sipush 1024, 3) := by decide +kernel
theorem dX9_comesTo_13 : decode cX9_comesTo 13 = .ok (.if_icmp .ge 102, 3) := by decide +kernel
theorem dX9_comesTo_16 : decode cX9_comesTo 16 = .ok (.iload 4, 2) := by decide +kernel
theorem dX9_comesTo_18 : decode cX9_comesTo 18 = .ok (.aload_n 0, 1) := by decide +kernel
theorem dX9_comesTo_19 : decode cX9_comesTo 19 = .ok (.getfield 24, 3) := by decide +kernel
theorem dX9_comesTo_22 : decode cX9_comesTo 22 = .ok (.if_icmp .ge 93, 3) := by decide +kernel
theorem dX9_comesTo_25 : decode cX9_comesTo 25 = .ok (.aload_n 0, 1) := by decide +kernel
theorem dX9_comesTo_26 : decode cX9_comesTo 26 = .ok (.getfield 9, 3) := by decide +kernel
theorem dX9_comesTo_29 : decode cX9_comesTo 29 = .ok (.iload 4, 2) := by decide +kernel
theorem dX9_comesTo_31 : decode cX9_comesTo 31 = .ok (.iaload, 1) := by decide +kernel
theorem dX9_comesTo_32 : decode cX9_comesTo 32 = .ok (.istore 5, 2) := by decide +kernel
theorem dX9_comesTo_34 : decode cX9_comesTo 34 = .ok (.aload_n 1, 1) := by decide +kernel
theorem dX9_comesTo_35 : decode cX9_comesTo 35 = .ok (.iload 5, 2) := by decide +kernel
theorem dX9_comesTo_37 : decode cX9_comesTo 37 = .ok (.invokevirtual 36, 3) := by decide +kernel
theorem dX9_comesTo_40 : decode cX9_comesTo 40 = .ok (.iload_n 2, 1) := by decide +kernel
theorem dX9_comesTo_41 : decode cX9_comesTo 41 = .ok (.if_icmp .ne 5, 3) := by decide +kernel
theorem dX9_comesTo_44 : decode cX9_comesTo 44 = .ok (.iconst 1, 1) := by decide +kernel
theorem dX9_comesTo_45 : decode cX9_comesTo 45 = .ok (.ireturn, 1) := by decide +kernel
theorem dX9_comesTo_46 : decode cX9_comesTo 46 = .ok (.aload_n 1, 1) := by decide +kernel
theorem dX9_comesTo_47 : decode cX9_comesTo 47 = .ok (.getfield 42, 3) := by decide +kernel
theorem dX9_comesTo_50 : decode cX9_comesTo 50 = .ok (.iload 5, 2) := by decide +kernel
theorem dX9_comesTo_52 : decode cX9_comesTo 52 = .ok (.iaload, 1) := by decide +kernel
theorem dX9_comesTo_53 : decode cX9_comesTo 53 = .ok (.istore 6, 2) := by decide +kernel
theorem dX9_comesTo_55 : decode cX9_comesTo 55 = .ok (.iload 6, 2) := by decide +kernel
theorem dX9_comesTo_57 : decode cX9_comesTo 57 = .ok (.aload_n 1, 1) := by decide +kernel
theorem dX9_comesTo_58 : decode cX9_comesTo 58 = .ok (.getfield 42, 3) := by decide +kernel
theorem dX9_comesTo_61 : decode cX9_comesTo 61 = .ok (.iload 5, 2) := by decide +kernel
theorem dX9_comesTo_63 : decode cX9_comesTo 63 = .ok (.iconst 1, 1) := by decide +kernel
theorem dX9_comesTo_64 : decode cX9_comesTo 64 = .ok (.iadd, 1) := by decide +kernel
theorem dX9_comesTo_65 : decode cX9_comesTo 65 = .ok (.iaload, 1) := by decide +kernel
theorem dX9_comesTo_66 : decode cX9_comesTo 66 = .ok (.if_icmp .ge 43, 3) := by decide +kernel
theorem dX9_comesTo_69 : decode cX9_comesTo 69 = .ok (.iload_n 3, 1) := by decide +kernel
theorem dX9_comesTo_70 : decode cX9_comesTo 70 = .ok (.aload_n 1, 1) := by decide +kernel
theorem dX9_comesTo_71 : decode cX9_comesTo 71 = .ok (.getfield 45, 3) := by decide +kernel
theorem dX9_comesTo_74 : decode cX9_comesTo 74 = .ok (.iload 6, 2) := by decide +kernel
theorem dX9_comesTo_76 : decode cX9_comesTo 76 = .ok (.iaload, 1) := by decide +kernel
theorem dX9_comesTo_77 : decode cX9_comesTo 77 = .ok (.invokestatic 48, 3) := by decide +kernel
theorem dX9_comesTo_80 : decode cX9_comesTo 80 = .ok (.ifCond .ne 23, 3) := by decide +kernel
theorem dX9_comesTo_83 : decode cX9_comesTo 83 = .ok (.aload_n 0, 1) := by decide +kernel
theorem dX9_comesTo_84 : decode cX9_comesTo 84 = .ok (.aload_n 1, 1) := by decide +kernel
theorem dX9_comesTo_85 : decode cX9_comesTo 85 = .ok (.getfield 52, 3) := by decide +kernel
theorem dX9_comesTo_88 : decode cX9_comesTo 88 = .ok (.iload 6, 2) := by decide +kernel
theorem dX9_comesTo_90 : decode cX9_comesTo 90 = .ok (.iaload, 1) := by decide +kernel
theorem dX9_comesTo_91 : decode cX9_comesTo 91 = .ok (.aload_n 0, 1) := by decide +kernel
theorem dX9_comesTo_92 : decode cX9_comesTo 92 = .ok (.getfield 15, 3) := by decide +kernel
theorem dX9_comesTo_95 : decode cX9_comesTo 95 = .ok (.iload 5, 2) := by decide +kernel
theorem dX9_comesTo_97 : decode cX9_comesTo 97 = .ok (.iaload, 1) := by decide +kernel
theorem dX9_comesTo_98 : decode cX9_comesTo 98 = .ok (.iconst 1, 1) := by decide +kernel
theorem dX9_comesTo_99 : decode cX9_comesTo 99 = .ok (.iadd, 1) := by decide +kernel
theorem dX9_comesTo_100 : decode cX9_comesTo 100 = .ok (.invokevirtual 28, 3) := by decide +kernel
theorem dX9_comesTo_103 : decode cX9_comesTo 103 = .ok (.iinc 6 1, 3) := by decide +kernel
theorem dX9_comesTo_106 : decode cX9_comesTo 106 = .ok (.goto (-51), 3) := by decide +kernel
theorem dX9_comesTo_109 : decode cX9_comesTo 109 = .ok (.iinc 4 1, 3) := by decide +kernel
theorem dX9_comesTo_112 : decode cX9_comesTo 112 = .ok (.goto (-104), 3) := by decide +kernel
theorem dX9_comesTo_115 : decode cX9_comesTo 115 = .ok (.iconst 0, 1) := by decide +kernel
theorem dX9_comesTo_116 : decode cX9_comesTo 116 = .ok (.ireturn, 1) := by decide +kernel
theorem dX9_shortestLoop_0 : decode cX9_shortestLoop 0 = .ok (.aload_n 0, 1) := by decide +kernel
theorem dX9_shortestLoop_1 : decode cX9_shortestLoop 1 = .ok (.iload_n 2, 1) := by decide +kernel
theorem dX9_shortestLoop_2 : decode cX9_shortestLoop 2 = .ok (.invokevirtual 32, 3) := by decide +kernel
theorem dX9_shortestLoop_5 : decode cX9_shortestLoop 5 = .ok (.iconst 0, 1) := by decide +kernel
theorem dX9_shortestLoop_6 : decode cX9_shortestLoop 6 = .ok (.istore 4, 2) := by decide +kernel
theorem dX9_shortestLoop_8 : decode cX9_shortestLoop 8 = .ok (.iload 4, 2) := by decide +kernel
theorem dX9_shortestLoop_10 : decode cX9_shortestLoop 10 = .ok (.sipush 1024, 3) := by decide +kernel
theorem dX9_shortestLoop_13 : decode cX9_shortestLoop 13 = .ok (.if_icmp .ge 102, 3) := by decide +kernel
theorem dX9_shortestLoop_16 : decode cX9_shortestLoop 16 = .ok (.iload 4, 2) := by decide +kernel
theorem dX9_shortestLoop_18 : decode cX9_shortestLoop 18 = .ok (.aload_n 0, 1) := by decide +kernel
theorem dX9_shortestLoop_19 : decode cX9_shortestLoop 19 = .ok (.getfield 24, 3) := by decide +kernel
theorem dX9_shortestLoop_22 : decode cX9_shortestLoop 22 = .ok (.if_icmp .ge 93, 3) := by decide +kernel
theorem dX9_shortestLoop_25 : decode cX9_shortestLoop 25 = .ok (.aload_n 0, 1) := by decide +kernel
theorem dX9_shortestLoop_26 : decode cX9_shortestLoop 26 = .ok (.getfield 9, 3) := by decide +kernel
theorem dX9_shortestLoop_29 : decode cX9_shortestLoop 29 = .ok (.iload 4, 2) := by decide +kernel
theorem dX9_shortestLoop_31 : decode cX9_shortestLoop 31 = .ok (.iaload, 1) := by decide +kernel
theorem dX9_shortestLoop_32 : decode cX9_shortestLoop 32 = .ok (.istore 5, 2) := by decide +kernel
theorem dX9_shortestLoop_34 : decode cX9_shortestLoop 34 = .ok (.aload_n 0, 1) := by decide +kernel
theorem dX9_shortestLoop_35 : decode cX9_shortestLoop 35 = .ok (.getfield 15, 3) := by decide +kernel
theorem dX9_shortestLoop_38 : decode cX9_shortestLoop 38 = .ok (.iload 5, 2) := by decide +kernel
theorem dX9_shortestLoop_40 : decode cX9_shortestLoop 40 = .ok (.iaload, 1) := by decide +kernel
theorem dX9_shortestLoop_41 : decode cX9_shortestLoop 41 = .ok (.iconst 1, 1) := by decide +kernel
theorem dX9_shortestLoop_42 : decode cX9_shortestLoop 42 = .ok (.iadd, 1) := by decide +kernel
theorem dX9_shortestLoop_43 : decode cX9_shortestLoop 43 = .ok (.istore 6, 2) := by decide +kernel
theorem dX9_shortestLoop_45 : decode cX9_shortestLoop 45 = .ok (.iload 6, 2) := by decide +kernel
theorem dX9_shortestLoop_47 : decode cX9_shortestLoop 47 = .ok (.iload_n 3, 1) := by decide +kernel
theorem dX9_shortestLoop_48 : decode cX9_shortestLoop 48 = .ok (.if_icmp .lt 5, 3) := by decide +kernel
theorem dX9_shortestLoop_51 : decode cX9_shortestLoop 51 = .ok (.iload_n 3, 1) := by decide +kernel
theorem dX9_shortestLoop_52 : decode cX9_shortestLoop 52 = .ok (.ireturn, 1) := by decide +kernel
theorem dX9_shortestLoop_53 : decode cX9_shortestLoop 53 = .ok (.aload_n 1, 1) := by decide +kernel
theorem dX9_shortestLoop_54 : decode cX9_shortestLoop 54 = .ok (.getfield 42, 3) := by decide +kernel
theorem dX9_shortestLoop_57 : decode cX9_shortestLoop 57 = .ok (.iload 5, 2) := by decide +kernel
theorem dX9_shortestLoop_59 : decode cX9_shortestLoop 59 = .ok (.iaload, 1) := by decide +kernel
theorem dX9_shortestLoop_60 : decode cX9_shortestLoop 60 = .ok (.istore 7, 2) := by decide +kernel
theorem dX9_shortestLoop_62 : decode cX9_shortestLoop 62 = .ok (.iload 7, 2) := by decide +kernel
theorem dX9_shortestLoop_64 : decode cX9_shortestLoop 64 = .ok (.aload_n 1, 1) := by decide +kernel
theorem dX9_shortestLoop_65 : decode cX9_shortestLoop 65 = .ok (.getfield 42, 3) := by decide +kernel
theorem dX9_shortestLoop_68 : decode cX9_shortestLoop 68 = .ok (.iload 5, 2) := by decide +kernel
theorem dX9_shortestLoop_70 : decode cX9_shortestLoop 70 = .ok (.iconst 1, 1) := by decide +kernel
theorem dX9_shortestLoop_71 : decode cX9_shortestLoop 71 = .ok (.iadd, 1) := by decide +kernel
theorem dX9_shortestLoop_72 : decode cX9_shortestLoop 72 = .ok (.iaload, 1) := by decide +kernel
theorem dX9_shortestLoop_73 : decode cX9_shortestLoop 73 = .ok (.if_icmp .ge 36, 3) := by decide +kernel
theorem dX9_shortestLoop_76 : decode cX9_shortestLoop 76 = .ok (.aload_n 1, 1) := by decide +kernel
theorem dX9_shortestLoop_77 : decode cX9_shortestLoop 77 = .ok (.getfield 52, 3) := by decide +kernel
theorem dX9_shortestLoop_80 : decode cX9_shortestLoop 80 = .ok (.iload 7, 2) := by decide +kernel
theorem dX9_shortestLoop_82 : decode cX9_shortestLoop 82 = .ok (.iaload, 1) := by decide +kernel
theorem dX9_shortestLoop_83 : decode cX9_shortestLoop 83 = .ok (.iload_n 2, 1) := by decide +kernel
theorem dX9_shortestLoop_84 : decode cX9_shortestLoop 84 = .ok (.if_icmp .ne 6, 3) := by decide +kernel
theorem dX9_shortestLoop_87 : decode cX9_shortestLoop 87 = .ok (.iload 6, 2) := by decide +kernel
theorem dX9_shortestLoop_89 : decode cX9_shortestLoop 89 = .ok (.ireturn, 1) := by decide +kernel
theorem dX9_shortestLoop_90 : decode cX9_shortestLoop 90 = .ok (.aload_n 0, 1) := by decide +kernel
theorem dX9_shortestLoop_91 : decode cX9_shortestLoop 91 = .ok (.aload_n 1, 1) := by decide +kernel
theorem dX9_shortestLoop_92 : decode cX9_shortestLoop 92 = .ok (.getfield 52, 3) := by decide +kernel
theorem dX9_shortestLoop_95 : decode cX9_shortestLoop 95 = .ok (.iload 7, 2) := by decide +kernel
theorem dX9_shortestLoop_97 : decode cX9_shortestLoop 97 = .ok (.iaload, 1) := by decide +kernel
theorem dX9_shortestLoop_98 : decode cX9_shortestLoop 98 = .ok (.iload 6, 2) := by decide +kernel
theorem dX9_shortestLoop_100 : decode cX9_shortestLoop 100 = .ok (.invokevirtual 28, 3) := by decide +kernel
theorem dX9_shortestLoop_103 : decode cX9_shortestLoop 103 = .ok (.iinc 7 1, 3) := by decide +kernel
theorem dX9_shortestLoop_106 : decode cX9_shortestLoop 106 = .ok (.goto (-44), 3) := by decide +kernel
theorem dX9_shortestLoop_109 : decode cX9_shortestLoop 109 = .ok (.iinc 4 1, 3) := by decide +kernel
theorem dX9_shortestLoop_112 : decode cX9_shortestLoop 112 = .ok (.goto (-104), 3) := by decide +kernel
theorem dX9_shortestLoop_115 : decode cX9_shortestLoop 115 = .ok (.iload_n 3, 1) := by decide +kernel
theorem dX9_shortestLoop_116 : decode cX9_shortestLoop 116 = .ok (.ireturn, 1) := by decide +kernel
theorem dX10_init_0 : decode cX10_init 0 = .ok (.aload_n 0, 1) := by decide +kernel
theorem dX10_init_1 : decode cX10_init 1 = .ok (.invokespecial 1, 3) := by decide +kernel
theorem dX10_init_4 : decode cX10_init 4 = .ok (.aload_n 0, 1) := by decide +kernel
theorem dX10_init_5 : decode cX10_init 5 = .ok (.new 7, 3) := by decide +kernel
theorem dX10_init_8 : decode cX10_init 8 = .ok (.dup, 1) := by decide +kernel
theorem dX10_init_9 : decode cX10_init 9 = .ok (.invokespecial 9, 3) := by decide +kernel
theorem dX10_init_12 : decode cX10_init 12 = .ok (.putfield 10, 3) := by decide +kernel
theorem dX10_init_15 : decode cX10_init 15 = .ok (.aload_n 0, 1) := by decide +kernel
theorem dX10_init_16 : decode cX10_init 16 = .ok (.new 16, 3) := by decide +kernel
theorem dX10_init_19 : decode cX10_init 19 = .ok (.dup, 1) := by decide +kernel
theorem dX10_init_20 : decode cX10_init 20 = .ok (.invokespecial 18, 3) := by decide +kernel
theorem dX10_init_23 : decode cX10_init 23 = .ok (.putfield 19, 3) := by decide +kernel
theorem dX10_init_26 : decode cX10_init 26 = .ok (.aload_n 0, 1) := by decide +kernel
theorem dX10_init_27 : decode cX10_init 27 = .ok (.new 23, 3) := by decide +kernel
theorem dX10_init_30 : decode cX10_init 30 = .ok (.dup, 1) := by decide +kernel
theorem dX10_init_31 : decode cX10_init 31 = .ok (.invokespecial 25, 3) := by decide +kernel
theorem dX10_init_34 : decode cX10_init 34 = .ok (.putfield 26, 3) := by decide +kernel
theorem dX10_init_37 : decode cX10_init 37 = .ok (.aload_n 0, 1) := by decide +kernel
theorem dX10_init_38 : decode cX10_init 38 = .ok (.new 30, 3) := by decide +kernel
theorem dX10_init_41 : decode cX10_init 41 = .ok (.dup, 1) := by decide +kernel
theorem dX10_init_42 : decode cX10_init 42 = .ok (.invokespecial 32, 3) := by decide +kernel
theorem dX10_init_45 : decode cX10_init 45 = .ok (.putfield 33, 3) := by decide +kernel
theorem dX10_init_48 : decode cX10_init 48 = .ok (.aload_n 0, 1) := by decide +kernel
theorem dX10_init_49 : decode cX10_init 49 = .ok (.new 37, 3) := by decide +kernel
theorem dX10_init_52 : decode cX10_init 52 = .ok (.dup, 1) := by decide +kernel
theorem dX10_init_53 : decode cX10_init 53 = .ok (.invokespecial 39, 3) := by decide +kernel
theorem dX10_init_56 : decode cX10_init 56 = .ok (.putfield 40, 3) := by decide +kernel
theorem dX10_init_59 : decode cX10_init 59 = .ok (.aload_n 0, 1) := by decide +kernel
theorem dX10_init_60 : decode cX10_init 60 = .ok (.new 44, 3) := by decide +kernel
theorem dX10_init_63 : decode cX10_init 63 = .ok (.dup, 1) := by decide +kernel
theorem dX10_init_64 : decode cX10_init 64 = .ok (.invokespecial 46, 3) := by decide +kernel
theorem dX10_init_67 : decode cX10_init 67 = .ok (.putfield 47, 3) := by decide +kernel
theorem dX10_init_70 : decode cX10_init 70 = .ok (.aload_n 0, 1) := by decide +kernel
theorem dX10_init_71 : decode cX10_init 71 = .ok (.new 51, 3) := by decide +kernel
theorem dX10_init_74 : decode cX10_init 74 = .ok (.dup, 1) := by decide +kernel
theorem dX10_init_75 : decode cX10_init 75 = .ok (.invokespecial 53, 3) := by decide +kernel
theorem dX10_init_78 : decode cX10_init 78 = .ok (.putfield 54, 3) := by decide +kernel
theorem dX10_init_81 : decode cX10_init 81 = .ok (.aload_n 0, 1) := by decide +kernel
theorem dX10_init_82 : decode cX10_init 82 = .ok (.new 58, 3) := by decide +kernel
theorem dX10_init_85 : decode cX10_init 85 = .ok (.dup, 1) := by decide +kernel
theorem dX10_init_86 : decode cX10_init 86 = .ok (.invokespecial 60, 3) := by decide +kernel
theorem dX10_init_89 : decode cX10_init 89 = .ok (.putfield 61, 3) := by decide +kernel
theorem dX10_init_92 : decode cX10_init 92 = .ok (.aload_n 0, 1) := by decide +kernel
theorem dX10_init_93 : decode cX10_init 93 = .ok (.new 65, 3) := by decide +kernel
theorem dX10_init_96 : decode cX10_init 96 = .ok (.dup, 1) := by decide +kernel
theorem dX10_init_97 : decode cX10_init 97 = .ok (.invokespecial 67, 3) := by decide +kernel
theorem dX10_init_100 : decode cX10_init 100 = .ok (.putfield 68, 3) := by decide +kernel
theorem dX10_init_103 : decode cX10_init 103 = .ok (.aload_n 0, 1) := by decide +kernel
theorem dX10_init_104 : decode cX10_init 104 = .ok (.new 72, 3) := by decide +kernel
theorem dX10_init_107 : decode cX10_init 107 = .ok (.dup, 1) := by decide +kernel
theorem dX10_init_108 : decode cX10_init 108 = .ok (.invokespecial 74, 3) := by decide +kernel
theorem dX10_init_111 : decode cX10_init 111 = .ok (.putfield 75, 3) := by decide +kernel
theorem dX10_init_114 : decode cX10_init 114 = .ok (.aload_n 0, 1) := by decide +kernel
theorem dX10_init_115 : decode cX10_init 115 = .ok (.new 72, 3) := by decide +kernel
theorem dX10_init_118 : decode cX10_init 118 = .ok (.dup, 1) := by decide +kernel
theorem dX10_init_119 : decode cX10_init 119 = .ok (.invokespecial 74, 3) := by decide +kernel
theorem dX10_init_122 : decode cX10_init 122 = .ok (.putfield 79, 3) := by decide +kernel
theorem dX10_init_125 : decode cX10_init 125 = .ok (.return_, 1) := by decide +kernel
theorem dX10_write_0 : decode cX10_write 0 = .ok (.iload_n 1, 1) := by decide +kernel
theorem dX10_write_1 : decode cX10_write 1 = .ok (.ifCond .lt 10, 3) := by decide +kernel
theorem dX10_write_4 : decode cX10_write 4 = .ok (.iload_n 1, 1) := by decide +kernel
theorem dX10_write_5 : decode cX10_write 5 = .ok (.sipush 255, 3) := by decide +kernel
theorem dX10_write_8 : decode cX10_write 8 = .ok (.if_icmp .le 6, 3) := by decide +kernel
theorem dX10_write_11 : decode cX10_write 11 = .ok (.ldc 82, 2) := by decide +kernel
theorem dX10_write_13 : decode cX10_write 13 = .ok (.ireturn, 1) := by decide +kernel
theorem dX10_write_14 : decode cX10_write 14 = .ok (.aload_n 0, 1) := by decide +kernel
theorem dX10_write_15 : decode cX10_write 15 = .ok (.getfield 10, 3) := by decide +kernel
theorem dX10_write_18 : decode cX10_write 18 = .ok (.iload_n 1, 1) := by decide +kernel
theorem dX10_write_19 : decode cX10_write 19 = .ok (.invokevirtual 83, 3) := by decide +kernel
theorem dX10_write_22 : decode cX10_write 22 = .ok (.ifCond .eq 13, 3) := by decide +kernel
theorem dX10_write_25 : decode cX10_write 25 = .ok (.aload_n 0, 1) := by decide +kernel
theorem dX10_write_26 : decode cX10_write 26 = .ok (.getfield 10, 3) := by decide +kernel
theorem dX10_write_29 : decode cX10_write 29 = .ok (.getfield 87, 3) := by decide +kernel
theorem dX10_write_32 : decode cX10_write 32 = .ok (.goto 5, 3) := by decide +kernel
theorem dX10_write_35 : decode cX10_write 35 = .ok (.ldc 91, 2) := by decide +kernel
theorem dX10_write_37 : decode cX10_write 37 = .ok (.ireturn, 1) := by decide +kernel
theorem dX10_talk_0 : decode cX10_talk 0 = .ok (.aload_n 0, 1) := by decide +kernel
theorem dX10_talk_1 : decode cX10_talk 1 = .ok (.getfield 10, 3) := by decide +kernel
theorem dX10_talk_4 : decode cX10_talk 4 = .ok (.aload_n 0, 1) := by decide +kernel
theorem dX10_talk_5 : decode cX10_talk 5 = .ok (.getfield 79, 3) := by decide +kernel
theorem dX10_talk_8 : decode cX10_talk 8 = .ok (.invokevirtual 92, 3) := by decide +kernel
theorem dX10_talk_11 : decode cX10_talk 11 = .ok (.istore_n 1, 1) := by decide +kernel
theorem dX10_talk_12 : decode cX10_talk 12 = .ok (.iload_n 1, 1) := by decide +kernel
theorem dX10_talk_13 : decode cX10_talk 13 = .ok (.iconst (-1), 1) := by decide +kernel
theorem dX10_talk_14 : decode cX10_talk 14 = .ok (.if_icmp .eq 8, 3) := by decide +kernel
theorem dX10_talk_17 : decode cX10_talk 17 = .ok (.bipush (-100), 2) := by decide +kernel
theorem dX10_talk_19 : decode cX10_talk 19 = .ok (.iload_n 1, 1) := by decide +kernel
theorem dX10_talk_20 : decode cX10_talk 20 = .ok (.isub, 1) := by decide +kernel
theorem dX10_talk_21 : decode cX10_talk 21 = .ok (.ireturn, 1) := by decide +kernel
theorem dX10_talk_22 : decode cX10_talk 22 = .ok (.aload_n 0, 1) := by decide +kernel
theorem dX10_talk_23 : decode cX10_talk 23 = .ok (.getfield 75, 3) := by decide +kernel
theorem dX10_talk_26 : decode cX10_talk 26 = .ok (.astore_n 2, 1) := by decide +kernel
theorem dX10_talk_27 : decode cX10_talk 27 = .ok (.aload_n 0, 1) := by decide +kernel
theorem dX10_talk_28 : decode cX10_talk 28 = .ok (.aload_n 0, 1) := by decide +kernel
theorem dX10_talk_29 : decode cX10_talk 29 = .ok (.getfield 79, 3) := by decide +kernel
theorem dX10_talk_32 : decode cX10_talk 32 = .ok (.putfield 75, 3) := by decide +kernel
theorem dX10_talk_35 : decode cX10_talk 35 = .ok (.aload_n 0, 1) := by decide +kernel
theorem dX10_talk_36 : decode cX10_talk 36 = .ok (.aload_n 2, 1) := by decide +kernel
theorem dX10_talk_37 : decode cX10_talk 37 = .ok (.putfield 79, 3) := by decide +kernel
theorem dX10_talk_40 : decode cX10_talk 40 = .ok (.aload_n 0, 1) := by decide +kernel
theorem dX10_talk_41 : decode cX10_talk 41 = .ok (.iconst 1, 1) := by decide +kernel
theorem dX10_talk_42 : decode cX10_talk 42 = .ok (.putfield 96, 3) := by decide +kernel
theorem dX10_talk_45 : decode cX10_talk 45 = .ok (.aload_n 0, 1) := by decide +kernel
theorem dX10_talk_46 : decode cX10_talk 46 = .ok (.getfield 26, 3) := by decide +kernel
theorem dX10_talk_49 : decode cX10_talk 49 = .ok (.iconst 0, 1) := by decide +kernel
theorem dX10_talk_50 : decode cX10_talk 50 = .ok (.putfield 100, 3) := by decide +kernel
theorem dX10_talk_53 : decode cX10_talk 53 = .ok (.aload_n 0, 1) := by decide +kernel
theorem dX10_talk_54 : decode cX10_talk 54 = .ok (.getfield 19, 3) := by decide +kernel
theorem dX10_talk_57 : decode cX10_talk 57 = .ok (.iconst 0, 1) := by decide +kernel
theorem dX10_talk_58 : decode cX10_talk 58 = .ok (.invokevirtual 101, 3) := by decide +kernel
theorem dX10_talk_61 : decode cX10_talk 61 = .ok (.aload_n 0, 1) := by decide +kernel
theorem dX10_talk_62 : decode cX10_talk 62 = .ok (.iconst 0, 1) := by decide +kernel
theorem dX10_talk_63 : decode cX10_talk 63 = .ok (.putfield 105, 3) := by decide +kernel
theorem dX10_talk_66 : decode cX10_talk 66 = .ok (.aload_n 0, 1) := by decide +kernel
theorem dX10_talk_67 : decode cX10_talk 67 = .ok (.getfield 75, 3) := by decide +kernel
theorem dX10_talk_70 : decode cX10_talk 70 = .ok (.getfield 108, 3) := by decide +kernel
theorem dX10_talk_73 : decode cX10_talk 73 = .ok (.ireturn, 1) := by decide +kernel
theorem dX10_fault_0 : decode cX10_fault 0 = .ok (.aload_n 0, 1) := by decide +kernel
theorem dX10_fault_1 : decode cX10_fault 1 = .ok (.getfield 10, 3) := by decide +kernel
theorem dX10_fault_4 : decode cX10_fault 4 = .ok (.getfield 111, 3) := by decide +kernel
theorem dX10_fault_7 : decode cX10_fault 7 = .ok (.ireturn, 1) := by decide +kernel
theorem dX10_begin_0 : decode cX10_begin 0 = .ok (.aload_n 0, 1) := by decide +kernel
theorem dX10_begin_1 : decode cX10_begin 1 = .ok (.getfield 96, 3) := by decide +kernel
theorem dX10_begin_4 : decode cX10_begin 4 = .ok (.ifCond .ne 6, 3) := by decide +kernel
theorem dX10_begin_7 : decode cX10_begin 7 = .ok (.ldc 114, 2) := by decide +kernel
theorem dX10_begin_9 : decode cX10_begin 9 = .ok (.ireturn, 1) := by decide +kernel
theorem dX10_begin_10 : decode cX10_begin 10 = .ok (.iload_n 1, 1) := by decide +kernel
theorem dX10_begin_11 : decode cX10_begin 11 = .ok (.ifCond .lt 9, 3) := by decide +kernel
theorem dX10_begin_14 : decode cX10_begin 14 = .ok (.iload_n 1, 1) := by decide +kernel
theorem dX10_begin_15 : decode cX10_begin 15 = .ok (.bipush 64, 2) := by decide +kernel
theorem dX10_begin_17 : decode cX10_begin 17 = .ok (.if_icmp .lt 6, 3) := by decide +kernel
theorem dX10_begin_20 : decode cX10_begin 20 = .ok (.ldc 82, 2) := by decide +kernel
theorem dX10_begin_22 : decode cX10_begin 22 = .ok (.ireturn, 1) := by decide +kernel
theorem dX10_begin_23 : decode cX10_begin 23 = .ok (.aload_n 0, 1) := by decide +kernel
theorem dX10_begin_24 : decode cX10_begin 24 = .ok (.getfield 19, 3) := by decide +kernel
theorem dX10_begin_27 : decode cX10_begin 27 = .ok (.iload_n 1, 1) := by decide +kernel
theorem dX10_begin_28 : decode cX10_begin 28 = .ok (.invokevirtual 101, 3) := by decide +kernel
theorem dX10_begin_31 : decode cX10_begin 31 = .ok (.aload_n 0, 1) := by decide +kernel
theorem dX10_begin_32 : decode cX10_begin 32 = .ok (.iconst 0, 1) := by decide +kernel
theorem dX10_begin_33 : decode cX10_begin 33 = .ok (.putfield 105, 3) := by decide +kernel
theorem dX10_begin_36 : decode cX10_begin 36 = .ok (.aload_n 0, 1) := by decide +kernel
theorem dX10_begin_37 : decode cX10_begin 37 = .ok (.getfield 75, 3) := by decide +kernel
theorem dX10_begin_40 : decode cX10_begin 40 = .ok (.getfield 115, 3) := by decide +kernel
theorem dX10_begin_43 : decode cX10_begin 43 = .ok (.ireturn, 1) := by decide +kernel
theorem dX10_take_0 : decode cX10_take 0 = .ok (.aload_n 0, 1) := by decide +kernel
theorem dX10_take_1 : decode cX10_take 1 = .ok (.iload_n 1, 1) := by decide +kernel
theorem dX10_take_2 : decode cX10_take 2 = .ok (.invokevirtual 118, 3) := by decide +kernel
theorem dX10_take_5 : decode cX10_take 5 = .ok (.ifCond .ne 6, 3) := by decide +kernel
theorem dX10_take_8 : decode cX10_take 8 = .ok (.ldc 114, 2) := by decide +kernel
theorem dX10_take_10 : decode cX10_take 10 = .ok (.ireturn, 1) := by decide +kernel
theorem dX10_take_11 : decode cX10_take 11 = .ok (.aload_n 0, 1) := by decide +kernel
theorem dX10_take_12 : decode cX10_take 12 = .ok (.iload_n 1, 1) := by decide +kernel
theorem dX10_take_13 : decode cX10_take 13 = .ok (.invokevirtual 121, 3) := by decide +kernel
theorem dX10_take_16 : decode cX10_take 16 = .ok (.ifCond .ne 6, 3) := by decide +kernel
theorem dX10_take_19 : decode cX10_take 19 = .ok (.ldc 124, 2) := by decide +kernel
theorem dX10_take_21 : decode cX10_take 21 = .ok (.ireturn, 1) := by decide +kernel
theorem dX10_take_22 : decode cX10_take 22 = .ok (.aload_n 0, 1) := by decide +kernel
theorem dX10_take_23 : decode cX10_take 23 = .ok (.getfield 19, 3) := by decide +kernel
theorem dX10_take_26 : decode cX10_take 26 = .ok (.iload_n 1, 1) := by decide +kernel
theorem dX10_take_27 : decode cX10_take 27 = .ok (.invokevirtual 125, 3) := by decide +kernel
theorem dX10_take_30 : decode cX10_take 30 = .ok (.ifCond .eq 17, 3) := by decide +kernel
theorem dX10_take_33 : decode cX10_take 33 = .ok (.aload_n 0, 1) := by decide +kernel
theorem dX10_take_34 : decode cX10_take 34 = .ok (.getfield 19, 3) := by decide +kernel
theorem dX10_take_37 : decode cX10_take 37 = .ok (.aload_n 0, 1) := by decide +kernel
theorem dX10_take_38 : decode cX10_take 38 = .ok (.getfield 75, 3) := by decide +kernel
theorem dX10_take_41 : decode cX10_take 41 = .ok (.invokevirtual 128, 3) := by decide +kernel
theorem dX10_take_44 : decode cX10_take 44 = .ok (.goto 5, 3) := by decide +kernel
theorem dX10_take_47 : decode cX10_take 47 = .ok (.ldc 91, 2) := by decide +kernel
theorem dX10_take_49 : decode cX10_take 49 = .ok (.ireturn, 1) := by decide +kernel
theorem dX10_back_0 : decode cX10_back 0 = .ok (.aload_n 0, 1) := by decide +kernel
theorem dX10_back_1 : decode cX10_back 1 = .ok (.getfield 96, 3) := by decide +kernel
theorem dX10_back_4 : decode cX10_back 4 = .ok (.ifCond .ne 6, 3) := by decide +kernel
theorem dX10_back_7 : decode cX10_back 7 = .ok (.ldc 114, 2) := by decide +kernel
theorem dX10_back_9 : decode cX10_back 9 = .ok (.ireturn, 1) := by decide +kernel
theorem dX10_back_10 : decode cX10_back 10 = .ok (.iload_n 1, 1) := by decide +kernel
theorem dX10_back_11 : decode cX10_back 11 = .ok (.iconst 1, 1) := by decide +kernel
theorem dX10_back_12 : decode cX10_back 12 = .ok (.if_icmp .lt 9, 3) := by decide +kernel
theorem dX10_back_15 : decode cX10_back 15 = .ok (.iload_n 1, 1) := by decide +kernel
theorem dX10_back_16 : decode cX10_back 16 = .ok (.bipush 60, 2) := by decide +kernel
theorem dX10_back_18 : decode cX10_back 18 = .ok (.if_icmp .le 6, 3) := by decide +kernel
theorem dX10_back_21 : decode cX10_back 21 = .ok (.ldc 82, 2) := by decide +kernel
theorem dX10_back_23 : decode cX10_back 23 = .ok (.ireturn, 1) := by decide +kernel
theorem dX10_back_24 : decode cX10_back 24 = .ok (.iload_n 1, 1) := by decide +kernel
theorem dX10_back_25 : decode cX10_back 25 = .ok (.aload_n 0, 1) := by decide +kernel
theorem dX10_back_26 : decode cX10_back 26 = .ok (.getfield 19, 3) := by decide +kernel
theorem dX10_back_29 : decode cX10_back 29 = .ok (.getfield 131, 3) := by decide +kernel
theorem dX10_back_32 : decode cX10_back 32 = .ok (.if_icmp .le 6, 3) := by decide +kernel
theorem dX10_back_35 : decode cX10_back 35 = .ok (.ldc 124, 2) := by decide +kernel
theorem dX10_back_37 : decode cX10_back 37 = .ok (.ireturn, 1) := by decide +kernel
theorem dX10_back_38 : decode cX10_back 38 = .ok (.aload_n 0, 1) := by decide +kernel
theorem dX10_back_39 : decode cX10_back 39 = .ok (.getfield 19, 3) := by decide +kernel
theorem dX10_back_42 : decode cX10_back 42 = .ok (.dup, 1) := by decide +kernel
theorem dX10_back_43 : decode cX10_back 43 = .ok (.getfield 131, 3) := by decide +kernel
theorem dX10_back_46 : decode cX10_back 46 = .ok (.iload_n 1, 1) := by decide +kernel
theorem dX10_back_47 : decode cX10_back 47 = .ok (.isub, 1) := by decide +kernel
theorem dX10_back_48 : decode cX10_back 48 = .ok (.putfield 131, 3) := by decide +kernel
theorem dX10_back_51 : decode cX10_back 51 = .ok (.aload_n 0, 1) := by decide +kernel
theorem dX10_back_52 : decode cX10_back 52 = .ok (.getfield 19, 3) := by decide +kernel
theorem dX10_back_55 : decode cX10_back 55 = .ok (.aload_n 0, 1) := by decide +kernel
theorem dX10_back_56 : decode cX10_back 56 = .ok (.getfield 75, 3) := by decide +kernel
theorem dX10_back_59 : decode cX10_back 59 = .ok (.invokevirtual 128, 3) := by decide +kernel
theorem dX10_back_62 : decode cX10_back 62 = .ok (.ireturn, 1) := by decide +kernel
theorem dX10_cut_0 : decode cX10_cut 0 = .ok (.aload_n 0, 1) := by decide +kernel
theorem dX10_cut_1 : decode cX10_cut 1 = .ok (.iload_n 1, 1) := by decide +kernel
theorem dX10_cut_2 : decode cX10_cut 2 = .ok (.invokevirtual 118, 3) := by decide +kernel
theorem dX10_cut_5 : decode cX10_cut 5 = .ok (.ifCond .ne 6, 3) := by decide +kernel
theorem dX10_cut_8 : decode cX10_cut 8 = .ok (.ldc 114, 2) := by decide +kernel
theorem dX10_cut_10 : decode cX10_cut 10 = .ok (.ireturn, 1) := by decide +kernel
theorem dX10_cut_11 : decode cX10_cut 11 = .ok (.iload_n 2, 1) := by decide +kernel
theorem dX10_cut_12 : decode cX10_cut 12 = .ok (.ifCond .eq 11, 3) := by decide +kernel
theorem dX10_cut_15 : decode cX10_cut 15 = .ok (.iload_n 2, 1) := by decide +kernel
theorem dX10_cut_16 : decode cX10_cut 16 = .ok (.iconst 1, 1) := by decide +kernel
theorem dX10_cut_17 : decode cX10_cut 17 = .ok (.if_icmp .eq 6, 3) := by decide +kernel
theorem dX10_cut_20 : decode cX10_cut 20 = .ok (.ldc 82, 2) := by decide +kernel
theorem dX10_cut_22 : decode cX10_cut 22 = .ok (.ireturn, 1) := by decide +kernel
theorem dX10_cut_23 : decode cX10_cut 23 = .ok (.aload_n 0, 1) := by decide +kernel
theorem dX10_cut_24 : decode cX10_cut 24 = .ok (.getfield 75, 3) := by decide +kernel
theorem dX10_cut_27 : decode cX10_cut 27 = .ok (.getfield 132, 3) := by decide +kernel
theorem dX10_cut_30 : decode cX10_cut 30 = .ok (.iload_n 1, 1) := by decide +kernel
theorem dX10_cut_31 : decode cX10_cut 31 = .ok (.invokestatic 135, 3) := by decide +kernel
theorem dX10_cut_34 : decode cX10_cut 34 = .ok (.iload_n 2, 1) := by decide +kernel
theorem dX10_cut_35 : decode cX10_cut 35 = .ok (.if_icmp .ne 6, 3) := by decide +kernel
theorem dX10_cut_38 : decode cX10_cut 38 = .ok (.ldc 124, 2) := by decide +kernel
theorem dX10_cut_40 : decode cX10_cut 40 = .ok (.ireturn, 1) := by decide +kernel
theorem dX10_cut_41 : decode cX10_cut 41 = .ok (.aload_n 0, 1) := by decide +kernel
theorem dX10_cut_42 : decode cX10_cut 42 = .ok (.getfield 26, 3) := by decide +kernel
theorem dX10_cut_45 : decode cX10_cut 45 = .ok (.iload_n 1, 1) := by decide +kernel
theorem dX10_cut_46 : decode cX10_cut 46 = .ok (.iconst 0, 1) := by decide +kernel
theorem dX10_cut_47 : decode cX10_cut 47 = .ok (.iconst 1, 1) := by decide +kernel
theorem dX10_cut_48 : decode cX10_cut 48 = .ok (.iload_n 2, 1) := by decide +kernel
theorem dX10_cut_49 : decode cX10_cut 49 = .ok (.isub, 1) := by decide +kernel
theorem dX10_cut_50 : decode cX10_cut 50 = .ok (.invokevirtual 139, 3) := by decide +kernel
theorem dX10_cut_53 : decode cX10_cut 53 = .ok (.aload_n 0, 1) := by decide +kernel
theorem dX10_cut_54 : decode cX10_cut 54 = .ok (.getfield 75, 3) := by decide +kernel
theorem dX10_cut_57 : decode cX10_cut 57 = .ok (.iload_n 1, 1) := by decide +kernel
theorem dX10_cut_58 : decode cX10_cut 58 = .ok (.iload_n 2, 1) := by decide +kernel
theorem dX10_cut_59 : decode cX10_cut 59 = .ok (.invokevirtual 143, 3) := by decide +kernel
theorem dX10_cut_62 : decode cX10_cut 62 = .ok (.aload_n 0, 1) := by decide +kernel
theorem dX10_cut_63 : decode cX10_cut 63 = .ok (.iconst 0, 1) := by decide +kernel
theorem dX10_cut_64 : decode cX10_cut 64 = .ok (.putfield 105, 3) := by decide +kernel
theorem dX10_cut_67 : decode cX10_cut 67 = .ok (.aload_n 0, 1) := by decide +kernel
theorem dX10_cut_68 : decode cX10_cut 68 = .ok (.getfield 75, 3) := by decide +kernel
theorem dX10_cut_71 : decode cX10_cut 71 = .ok (.getfield 108, 3) := by decide +kernel
theorem dX10_cut_74 : decode cX10_cut 74 = .ok (.aload_n 0, 1) := by decide +kernel
theorem dX10_cut_75 : decode cX10_cut 75 = .ok (.getfield 75, 3) := by decide +kernel
theorem dX10_cut_78 : decode cX10_cut 78 = .ok (.getfield 132, 3) := by decide +kernel
theorem dX10_cut_81 : decode cX10_cut 81 = .ok (.invokestatic 147, 3) := by decide +kernel
theorem dX10_cut_84 : decode cX10_cut 84 = .ok (.isub, 1) := by decide +kernel
theorem dX10_cut_85 : decode cX10_cut 85 = .ok (.ireturn, 1) := by decide +kernel
theorem dX10_cost_0 : decode cX10_cost 0 = .ok (.aload_n 0, 1) := by decide +kernel
theorem dX10_cost_1 : decode cX10_cost 1 = .ok (.iload_n 1, 1) := by decide +kernel
theorem dX10_cost_2 : decode cX10_cost 2 = .ok (.invokevirtual 118, 3) := by decide +kernel
theorem dX10_cost_5 : decode cX10_cost 5 = .ok (.ifCond .ne 6, 3) := by decide +kernel
theorem dX10_cost_8 : decode cX10_cost 8 = .ok (.ldc 114, 2) := by decide +kernel
theorem dX10_cost_10 : decode cX10_cost 10 = .ok (.ireturn, 1) := by decide +kernel
theorem dX10_cost_11 : decode cX10_cost 11 = .ok (.iload_n 2, 1) := by decide +kernel
theorem dX10_cost_12 : decode cX10_cost 12 = .ok (.ifCond .lt 9, 3) := by decide +kernel
theorem dX10_cost_15 : decode cX10_cost 15 = .ok (.iload_n 2, 1) := by decide +kernel
theorem dX10_cost_16 : decode cX10_cost 16 = .ok (.bipush 9, 2) := by decide +kernel
theorem dX10_cost_18 : decode cX10_cost 18 = .ok (.if_icmp .le 6, 3) := by decide +kernel
theorem dX10_cost_21 : decode cX10_cost 21 = .ok (.ldc 82, 2) := by decide +kernel
theorem dX10_cost_23 : decode cX10_cost 23 = .ok (.ireturn, 1) := by decide +kernel
theorem dX10_cost_24 : decode cX10_cost 24 = .ok (.aload_n 0, 1) := by decide +kernel
theorem dX10_cost_25 : decode cX10_cost 25 = .ok (.getfield 75, 3) := by decide +kernel
theorem dX10_cost_28 : decode cX10_cost 28 = .ok (.getfield 153, 3) := by decide +kernel
theorem dX10_cost_31 : decode cX10_cost 31 = .ok (.iload_n 1, 1) := by decide +kernel
theorem dX10_cost_32 : decode cX10_cost 32 = .ok (.iaload, 1) := by decide +kernel
theorem dX10_cost_33 : decode cX10_cost 33 = .ok (.istore_n 3, 1) := by decide +kernel
theorem dX10_cost_34 : decode cX10_cost 34 = .ok (.aload_n 0, 1) := by decide +kernel
theorem dX10_cost_35 : decode cX10_cost 35 = .ok (.getfield 26, 3) := by decide +kernel
theorem dX10_cost_38 : decode cX10_cost 38 = .ok (.iload_n 1, 1) := by decide +kernel
theorem dX10_cost_39 : decode cX10_cost 39 = .ok (.iconst 1, 1) := by decide +kernel
theorem dX10_cost_40 : decode cX10_cost 40 = .ok (.iload_n 3, 1) := by decide +kernel
theorem dX10_cost_41 : decode cX10_cost 41 = .ok (.invokevirtual 139, 3) := by decide +kernel
theorem dX10_cost_44 : decode cX10_cost 44 = .ok (.aload_n 0, 1) := by decide +kernel
theorem dX10_cost_45 : decode cX10_cost 45 = .ok (.getfield 75, 3) := by decide +kernel
theorem dX10_cost_48 : decode cX10_cost 48 = .ok (.getfield 153, 3) := by decide +kernel
theorem dX10_cost_51 : decode cX10_cost 51 = .ok (.iload_n 1, 1) := by decide +kernel
theorem dX10_cost_52 : decode cX10_cost 52 = .ok (.iload_n 2, 1) := by decide +kernel
theorem dX10_cost_53 : decode cX10_cost 53 = .ok (.iastore, 1) := by decide +kernel
theorem dX10_cost_54 : decode cX10_cost 54 = .ok (.aload_n 0, 1) := by decide +kernel
theorem dX10_cost_55 : decode cX10_cost 55 = .ok (.iconst 0, 1) := by decide +kernel
theorem dX10_cost_56 : decode cX10_cost 56 = .ok (.putfield 157, 3) := by decide +kernel
theorem dX10_cost_59 : decode cX10_cost 59 = .ok (.iload_n 3, 1) := by decide +kernel
theorem dX10_cost_60 : decode cX10_cost 60 = .ok (.ireturn, 1) := by decide +kernel
theorem dX10_undo_0 : decode cX10_undo 0 = .ok (.aload_n 0, 1) := by decide +kernel
theorem dX10_undo_1 : decode cX10_undo 1 = .ok (.getfield 96, 3) := by decide +kernel
theorem dX10_undo_4 : decode cX10_undo 4 = .ok (.ifCond .ne 6, 3) := by decide +kernel
theorem dX10_undo_7 : decode cX10_undo 7 = .ok (.ldc 114, 2) := by decide +kernel
theorem dX10_undo_9 : decode cX10_undo 9 = .ok (.ireturn, 1) := by decide +kernel
theorem dX10_undo_10 : decode cX10_undo 10 = .ok (.aload_n 0, 1) := by decide +kernel
theorem dX10_undo_11 : decode cX10_undo 11 = .ok (.getfield 26, 3) := by decide +kernel
theorem dX10_undo_14 : decode cX10_undo 14 = .ok (.getfield 100, 3) := by decide +kernel
theorem dX10_undo_17 : decode cX10_undo 17 = .ok (.ifCond .ne 6, 3) := by decide +kernel
theorem dX10_undo_20 : decode cX10_undo 20 = .ok (.ldc 124, 2) := by decide +kernel
theorem dX10_undo_22 : decode cX10_undo 22 = .ok (.ireturn, 1) := by decide +kernel
theorem dX10_undo_23 : decode cX10_undo 23 = .ok (.aload_n 0, 1) := by decide +kernel
theorem dX10_undo_24 : decode cX10_undo 24 = .ok (.getfield 26, 3) := by decide +kernel
theorem dX10_undo_27 : decode cX10_undo 27 = .ok (.dup, 1) := by decide +kernel
theorem dX10_undo_28 : decode cX10_undo 28 = .ok (.getfield 100, 3) := by decide +kernel
theorem dX10_undo_31 : decode cX10_undo 31 = .ok (.iconst 1, 1) := by decide +kernel
theorem dX10_undo_32 : decode cX10_undo 32 = .ok (.isub, 1) := by decide +kernel
theorem dX10_undo_33 : decode cX10_undo 33 = .ok (.putfield 100, 3) := by decide +kernel
theorem dX10_undo_36 : decode cX10_undo 36 = .ok (.aload_n 0, 1) := by decide +kernel
theorem dX10_undo_37 : decode cX10_undo 37 = .ok (.getfield 26, 3) := by decide +kernel
theorem dX10_undo_40 : decode cX10_undo 40 = .ok (.getfield 160, 3) := by decide +kernel
theorem dX10_undo_43 : decode cX10_undo 43 = .ok (.aload_n 0, 1) := by decide +kernel
theorem dX10_undo_44 : decode cX10_undo 44 = .ok (.getfield 26, 3) := by decide +kernel
theorem dX10_undo_47 : decode cX10_undo 47 = .ok (.getfield 100, 3) := by decide +kernel
theorem dX10_undo_50 : decode cX10_undo 50 = .ok (.iaload, 1) := by decide +kernel
theorem dX10_undo_51 : decode cX10_undo 51 = .ok (.istore_n 1, 1) := by decide +kernel
theorem dX10_undo_52 : decode cX10_undo 52 = .ok (.aload_n 0, 1) := by decide +kernel
theorem dX10_undo_53 : decode cX10_undo 53 = .ok (.getfield 26, 3) := by decide +kernel
theorem dX10_undo_56 : decode cX10_undo 56 = .ok (.getfield 163, 3) := by decide +kernel
theorem dX10_undo_59 : decode cX10_undo 59 = .ok (.aload_n 0, 1) := by decide +kernel
theorem dX10_undo_60 : decode cX10_undo 60 = .ok (.getfield 26, 3) := by decide +kernel
theorem dX10_undo_63 : decode cX10_undo 63 = .ok (.getfield 100, 3) := by decide +kernel
theorem dX10_undo_66 : decode cX10_undo 66 = .ok (.iaload, 1) := by decide +kernel
theorem dX10_undo_67 : decode cX10_undo 67 = .ok (.istore_n 2, 1) := by decide +kernel
theorem dX10_undo_68 : decode cX10_undo 68 = .ok (.aload_n 0, 1) := by decide +kernel
theorem dX10_undo_69 : decode cX10_undo 69 = .ok (.getfield 26, 3) := by decide +kernel
theorem dX10_undo_72 : decode cX10_undo 72 = .ok (.getfield 166, 3) := by decide +kernel
theorem dX10_undo_75 : decode cX10_undo 75 = .ok (.aload_n 0, 1) := by decide +kernel
theorem dX10_undo_76 : decode cX10_undo 76 = .ok (.getfield 26, 3) := by decide +kernel
theorem dX10_undo_79 : decode cX10_undo 79 = .ok (.getfield 100, 3) := by decide +kernel
theorem dX10_undo_82 : decode cX10_undo 82 = .ok (.iaload, 1) := by decide +kernel
theorem dX10_undo_83 : decode cX10_undo 83 = .ok (.ifCond .ne 20, 3) := by decide +kernel
theorem dX10_undo_86 : decode cX10_undo 86 = .ok (.aload_n 0, 1) := by decide +kernel
theorem dX10_undo_87 : decode cX10_undo 87 = .ok (.getfield 75, 3) := by decide +kernel
theorem dX10_undo_90 : decode cX10_undo 90 = .ok (.iload_n 1, 1) := by decide +kernel
theorem dX10_undo_91 : decode cX10_undo 91 = .ok (.iload_n 2, 1) := by decide +kernel
theorem dX10_undo_92 : decode cX10_undo 92 = .ok (.invokevirtual 143, 3) := by decide +kernel
theorem dX10_undo_95 : decode cX10_undo 95 = .ok (.aload_n 0, 1) := by decide +kernel
theorem dX10_undo_96 : decode cX10_undo 96 = .ok (.iconst 0, 1) := by decide +kernel
theorem dX10_undo_97 : decode cX10_undo 97 = .ok (.putfield 105, 3) := by decide +kernel
theorem dX10_undo_100 : decode cX10_undo 100 = .ok (.goto 18, 3) := by decide +kernel
theorem dX10_undo_103 : decode cX10_undo 103 = .ok (.aload_n 0, 1) := by decide +kernel
theorem dX10_undo_104 : decode cX10_undo 104 = .ok (.getfield 75, 3) := by decide +kernel
theorem dX10_undo_107 : decode cX10_undo 107 = .ok (.getfield 153, 3) := by decide +kernel
theorem dX10_undo_110 : decode cX10_undo 110 = .ok (.iload_n 1, 1) := by decide +kernel
theorem dX10_undo_111 : decode cX10_undo 111 = .ok (.iload_n 2, 1) := by decide +kernel
theorem dX10_undo_112 : decode cX10_undo 112 = .ok (.iastore, 1) := by decide +kernel
theorem dX10_undo_113 : decode cX10_undo 113 = .ok (.aload_n 0, 1) := by decide +kernel
theorem dX10_undo_114 : decode cX10_undo 114 = .ok (.iconst 0, 1) := by decide +kernel
theorem dX10_undo_115 : decode cX10_undo 115 = .ok (.putfield 157, 3) := by decide +kernel
theorem dX10_undo_118 : decode cX10_undo 118 = .ok (.aload_n 0, 1) := by decide +kernel
theorem dX10_undo_119 : decode cX10_undo 119 = .ok (.getfield 26, 3) := by decide +kernel
theorem dX10_undo_122 : decode cX10_undo 122 = .ok (.getfield 100, 3) := by decide +kernel
theorem dX10_undo_125 : decode cX10_undo 125 = .ok (.ireturn, 1) := by decide +kernel
theorem dX10_answer_0 : decode cX10_answer 0 = .ok (.aload_n 0, 1) := by decide +kernel
theorem dX10_answer_1 : decode cX10_answer 1 = .ok (.iload_n 1, 1) := by decide +kernel
theorem dX10_answer_2 : decode cX10_answer 2 = .ok (.invokevirtual 118, 3) := by decide +kernel
theorem dX10_answer_5 : decode cX10_answer 5 = .ok (.ifCond .ne 6, 3) := by decide +kernel
theorem dX10_answer_8 : decode cX10_answer 8 = .ok (.ldc 114, 2) := by decide +kernel
theorem dX10_answer_10 : decode cX10_answer 10 = .ok (.ireturn, 1) := by decide +kernel
theorem dX10_answer_11 : decode cX10_answer 11 = .ok (.iload_n 2, 1) := by decide +kernel
theorem dX10_answer_12 : decode cX10_answer 12 = .ok (.tableswitch 155 0 8 #[52, 62, 72, 82, 92, 102, 112, 124, 138], 52) := by decide +kernel
theorem dX10_answer_64 : decode cX10_answer 64 = .ok (.aload_n 0, 1) := by decide +kernel
theorem dX10_answer_65 : decode cX10_answer 65 = .ok (.getfield 75, 3) := by decide +kernel
theorem dX10_answer_68 : decode cX10_answer 68 = .ok (.getfield 169, 3) := by decide +kernel
theorem dX10_answer_71 : decode cX10_answer 71 = .ok (.iload_n 1, 1) := by decide +kernel
theorem dX10_answer_72 : decode cX10_answer 72 = .ok (.iaload, 1) := by decide +kernel
theorem dX10_answer_73 : decode cX10_answer 73 = .ok (.ireturn, 1) := by decide +kernel
theorem dX10_answer_74 : decode cX10_answer 74 = .ok (.aload_n 0, 1) := by decide +kernel
theorem dX10_answer_75 : decode cX10_answer 75 = .ok (.getfield 75, 3) := by decide +kernel
theorem dX10_answer_78 : decode cX10_answer 78 = .ok (.getfield 172, 3) := by decide +kernel
theorem dX10_answer_81 : decode cX10_answer 81 = .ok (.iload_n 1, 1) := by decide +kernel
theorem dX10_answer_82 : decode cX10_answer 82 = .ok (.iaload, 1) := by decide +kernel
theorem dX10_answer_83 : decode cX10_answer 83 = .ok (.ireturn, 1) := by decide +kernel
theorem dX10_answer_84 : decode cX10_answer 84 = .ok (.aload_n 0, 1) := by decide +kernel
theorem dX10_answer_85 : decode cX10_answer 85 = .ok (.getfield 75, 3) := by decide +kernel
theorem dX10_answer_88 : decode cX10_answer 88 = .ok (.getfield 153, 3) := by decide +kernel
theorem dX10_answer_91 : decode cX10_answer 91 = .ok (.iload_n 1, 1) := by decide +kernel
theorem dX10_answer_92 : decode cX10_answer 92 = .ok (.iaload, 1) := by decide +kernel
theorem dX10_answer_93 : decode cX10_answer 93 = .ok (.ireturn, 1) := by decide +kernel
theorem dX10_answer_94 : decode cX10_answer 94 = .ok (.aload_n 0, 1) := by decide +kernel
theorem dX10_answer_95 : decode cX10_answer 95 = .ok (.getfield 75, 3) := by decide +kernel
theorem dX10_answer_98 : decode cX10_answer 98 = .ok (.getfield 175, 3) := by decide +kernel
theorem dX10_answer_101 : decode cX10_answer 101 = .ok (.iload_n 1, 1) := by decide +kernel
theorem dX10_answer_102 : decode cX10_answer 102 = .ok (.iaload, 1) := by decide +kernel
theorem dX10_answer_103 : decode cX10_answer 103 = .ok (.ireturn, 1) := by decide +kernel
theorem dX10_answer_104 : decode cX10_answer 104 = .ok (.aload_n 0, 1) := by decide +kernel
theorem dX10_answer_105 : decode cX10_answer 105 = .ok (.getfield 75, 3) := by decide +kernel
theorem dX10_answer_108 : decode cX10_answer 108 = .ok (.getfield 178, 3) := by decide +kernel
theorem dX10_answer_111 : decode cX10_answer 111 = .ok (.iload_n 1, 1) := by decide +kernel
theorem dX10_answer_112 : decode cX10_answer 112 = .ok (.iaload, 1) := by decide +kernel
theorem dX10_answer_113 : decode cX10_answer 113 = .ok (.ireturn, 1) := by decide +kernel
theorem dX10_answer_114 : decode cX10_answer 114 = .ok (.aload_n 0, 1) := by decide +kernel
theorem dX10_answer_115 : decode cX10_answer 115 = .ok (.getfield 75, 3) := by decide +kernel
theorem dX10_answer_118 : decode cX10_answer 118 = .ok (.getfield 181, 3) := by decide +kernel
theorem dX10_answer_121 : decode cX10_answer 121 = .ok (.iload_n 1, 1) := by decide +kernel
theorem dX10_answer_122 : decode cX10_answer 122 = .ok (.iaload, 1) := by decide +kernel
theorem dX10_answer_123 : decode cX10_answer 123 = .ok (.ireturn, 1) := by decide +kernel
theorem dX10_answer_124 : decode cX10_answer 124 = .ok (.aload_n 0, 1) := by decide +kernel
theorem dX10_answer_125 : decode cX10_answer 125 = .ok (.getfield 75, 3) := by decide +kernel
theorem dX10_answer_128 : decode cX10_answer 128 = .ok (.getfield 132, 3) := by decide +kernel
theorem dX10_answer_131 : decode cX10_answer 131 = .ok (.iload_n 1, 1) := by decide +kernel
theorem dX10_answer_132 : decode cX10_answer 132 = .ok (.invokestatic 135, 3) := by decide +kernel
theorem dX10_answer_135 : decode cX10_answer 135 = .ok (.ireturn, 1) := by decide +kernel
theorem dX10_answer_136 : decode cX10_answer 136 = .ok (.aload_n 0, 1) := by decide +kernel
theorem dX10_answer_137 : decode cX10_answer 137 = .ok (.iload_n 1, 1) := by decide +kernel
theorem dX10_answer_138 : decode cX10_answer 138 = .ok (.invokevirtual 121, 3) := by decide +kernel
theorem dX10_answer_141 : decode cX10_answer 141 = .ok (.ifCond .eq 7, 3) := by decide +kernel
theorem dX10_answer_144 : decode cX10_answer 144 = .ok (.iconst 1, 1) := by decide +kernel
theorem dX10_answer_145 : decode cX10_answer 145 = .ok (.goto 4, 3) := by decide +kernel
theorem dX10_answer_148 : decode cX10_answer 148 = .ok (.iconst 0, 1) := by decide +kernel
theorem dX10_answer_149 : decode cX10_answer 149 = .ok (.ireturn, 1) := by decide +kernel
theorem dX10_answer_150 : decode cX10_answer 150 = .ok (.aload_n 0, 1) := by decide +kernel
theorem dX10_answer_151 : decode cX10_answer 151 = .ok (.getfield 75, 3) := by decide +kernel
theorem dX10_answer_154 : decode cX10_answer 154 = .ok (.iload_n 1, 1) := by decide +kernel
theorem dX10_answer_155 : decode cX10_answer 155 = .ok (.invokevirtual 184, 3) := by decide +kernel
theorem dX10_answer_158 : decode cX10_answer 158 = .ok (.ifCond .eq 7, 3) := by decide +kernel
theorem dX10_answer_161 : decode cX10_answer 161 = .ok (.iconst 1, 1) := by decide +kernel
theorem dX10_answer_162 : decode cX10_answer 162 = .ok (.goto 4, 3) := by decide +kernel
theorem dX10_answer_165 : decode cX10_answer 165 = .ok (.iconst 0, 1) := by decide +kernel
theorem dX10_answer_166 : decode cX10_answer 166 = .ok (.ireturn, 1) := by decide +kernel
theorem dX10_answer_167 : decode cX10_answer 167 = .ok (.aload_n 0, 1) := by decide +kernel
theorem dX10_answer_168 : decode cX10_answer 168 = .ok (.iload_n 1, 1) := by decide +kernel
theorem dX10_answer_169 : decode cX10_answer 169 = .ok (.iload_n 2, 1) := by decide +kernel
theorem dX10_answer_170 : decode cX10_answer 170 = .ok (.invokevirtual 187, 3) := by decide +kernel
theorem dX10_answer_173 : decode cX10_answer 173 = .ok (.ireturn, 1) := by decide +kernel
theorem dX10_count_0 : decode cX10_count 0 = .ok (.iload_n 1, 1) := by decide +kernel
theorem dX10_count_1 : decode cX10_count 1 = .ok (.bipush 10, 2) := by decide +kernel
theorem dX10_count_3 : decode cX10_count 3 = .ok (.if_icmp .ne 11, 3) := by decide +kernel
theorem dX10_count_6 : decode cX10_count 6 = .ok (.aload_n 0, 1) := by decide +kernel
theorem dX10_count_7 : decode cX10_count 7 = .ok (.getfield 10, 3) := by decide +kernel
theorem dX10_count_10 : decode cX10_count 10 = .ok (.getfield 87, 3) := by decide +kernel
theorem dX10_count_13 : decode cX10_count 13 = .ok (.ireturn, 1) := by decide +kernel
theorem dX10_count_14 : decode cX10_count 14 = .ok (.aload_n 0, 1) := by decide +kernel
theorem dX10_count_15 : decode cX10_count 15 = .ok (.getfield 96, 3) := by decide +kernel
theorem dX10_count_18 : decode cX10_count 18 = .ok (.ifCond .ne 6, 3) := by decide +kernel
theorem dX10_count_21 : decode cX10_count 21 = .ok (.ldc 114, 2) := by decide +kernel
theorem dX10_count_23 : decode cX10_count 23 = .ok (.ireturn, 1) := by decide +kernel
theorem dX10_count_24 : decode cX10_count 24 = .ok (.iload_n 1, 1) := by decide +kernel
theorem dX10_count_25 : decode cX10_count 25 = .ok (.tableswitch 144 0 9 #[55, 67, 79, 87, 92, 104, 112, 120, 128, 136], 55) := by decide +kernel
theorem dX10_count_80 : decode cX10_count 80 = .ok (.aload_n 0, 1) := by decide +kernel
theorem dX10_count_81 : decode cX10_count 81 = .ok (.getfield 19, 3) := by decide +kernel
theorem dX10_count_84 : decode cX10_count 84 = .ok (.aload_n 0, 1) := by decide +kernel
theorem dX10_count_85 : decode cX10_count 85 = .ok (.getfield 75, 3) := by decide +kernel
theorem dX10_count_88 : decode cX10_count 88 = .ok (.invokevirtual 128, 3) := by decide +kernel
theorem dX10_count_91 : decode cX10_count 91 = .ok (.ireturn, 1) := by decide +kernel
theorem dX10_count_92 : decode cX10_count 92 = .ok (.aload_n 0, 1) := by decide +kernel
theorem dX10_count_93 : decode cX10_count 93 = .ok (.getfield 19, 3) := by decide +kernel
theorem dX10_count_96 : decode cX10_count 96 = .ok (.aload_n 0, 1) := by decide +kernel
theorem dX10_count_97 : decode cX10_count 97 = .ok (.getfield 75, 3) := by decide +kernel
theorem dX10_count_100 : decode cX10_count 100 = .ok (.invokevirtual 190, 3) := by decide +kernel
theorem dX10_count_103 : decode cX10_count 103 = .ok (.ireturn, 1) := by decide +kernel
theorem dX10_count_104 : decode cX10_count 104 = .ok (.aload_n 0, 1) := by decide +kernel
theorem dX10_count_105 : decode cX10_count 105 = .ok (.getfield 19, 3) := by decide +kernel
theorem dX10_count_108 : decode cX10_count 108 = .ok (.getfield 131, 3) := by decide +kernel
theorem dX10_count_111 : decode cX10_count 111 = .ok (.ireturn, 1) := by decide +kernel
theorem dX10_count_112 : decode cX10_count 112 = .ok (.aload_n 0, 1) := by decide +kernel
theorem dX10_count_113 : decode cX10_count 113 = .ok (.invokevirtual 193, 3) := by decide +kernel
theorem dX10_count_116 : decode cX10_count 116 = .ok (.ireturn, 1) := by decide +kernel
theorem dX10_count_117 : decode cX10_count 117 = .ok (.aload_n 0, 1) := by decide +kernel
theorem dX10_count_118 : decode cX10_count 118 = .ok (.getfield 19, 3) := by decide +kernel
theorem dX10_count_121 : decode cX10_count 121 = .ok (.aload_n 0, 1) := by decide +kernel
theorem dX10_count_122 : decode cX10_count 122 = .ok (.getfield 75, 3) := by decide +kernel
theorem dX10_count_125 : decode cX10_count 125 = .ok (.invokevirtual 197, 3) := by decide +kernel
theorem dX10_count_128 : decode cX10_count 128 = .ok (.ireturn, 1) := by decide +kernel
theorem dX10_count_129 : decode cX10_count 129 = .ok (.aload_n 0, 1) := by decide +kernel
theorem dX10_count_130 : decode cX10_count 130 = .ok (.getfield 75, 3) := by decide +kernel
theorem dX10_count_133 : decode cX10_count 133 = .ok (.getfield 115, 3) := by decide +kernel
theorem dX10_count_136 : decode cX10_count 136 = .ok (.ireturn, 1) := by decide +kernel
theorem dX10_count_137 : decode cX10_count 137 = .ok (.aload_n 0, 1) := by decide +kernel
theorem dX10_count_138 : decode cX10_count 138 = .ok (.getfield 75, 3) := by decide +kernel
theorem dX10_count_141 : decode cX10_count 141 = .ok (.getfield 200, 3) := by decide +kernel
theorem dX10_count_144 : decode cX10_count 144 = .ok (.ireturn, 1) := by decide +kernel
theorem dX10_count_145 : decode cX10_count 145 = .ok (.aload_n 0, 1) := by decide +kernel
theorem dX10_count_146 : decode cX10_count 146 = .ok (.getfield 75, 3) := by decide +kernel
theorem dX10_count_149 : decode cX10_count 149 = .ok (.getfield 203, 3) := by decide +kernel
theorem dX10_count_152 : decode cX10_count 152 = .ok (.ireturn, 1) := by decide +kernel
theorem dX10_count_153 : decode cX10_count 153 = .ok (.aload_n 0, 1) := by decide +kernel
theorem dX10_count_154 : decode cX10_count 154 = .ok (.getfield 75, 3) := by decide +kernel
theorem dX10_count_157 : decode cX10_count 157 = .ok (.getfield 108, 3) := by decide +kernel
theorem dX10_count_160 : decode cX10_count 160 = .ok (.ireturn, 1) := by decide +kernel
theorem dX10_count_161 : decode cX10_count 161 = .ok (.aload_n 0, 1) := by decide +kernel
theorem dX10_count_162 : decode cX10_count 162 = .ok (.getfield 26, 3) := by decide +kernel
theorem dX10_count_165 : decode cX10_count 165 = .ok (.getfield 100, 3) := by decide +kernel
theorem dX10_count_168 : decode cX10_count 168 = .ok (.ireturn, 1) := by decide +kernel
theorem dX10_count_169 : decode cX10_count 169 = .ok (.ldc 82, 2) := by decide +kernel
theorem dX10_count_171 : decode cX10_count 171 = .ok (.ireturn, 1) := by decide +kernel
theorem dX10_step_0 : decode cX10_step 0 = .ok (.aload_n 0, 1) := by decide +kernel
theorem dX10_step_1 : decode cX10_step 1 = .ok (.getfield 96, 3) := by decide +kernel
theorem dX10_step_4 : decode cX10_step 4 = .ok (.ifCond .ne 6, 3) := by decide +kernel
theorem dX10_step_7 : decode cX10_step 7 = .ok (.ldc 114, 2) := by decide +kernel
theorem dX10_step_9 : decode cX10_step 9 = .ok (.ireturn, 1) := by decide +kernel
theorem dX10_step_10 : decode cX10_step 10 = .ok (.iload_n 1, 1) := by decide +kernel
theorem dX10_step_11 : decode cX10_step 11 = .ok (.ifCond .ge 6, 3) := by decide +kernel
theorem dX10_step_14 : decode cX10_step 14 = .ok (.ldc 82, 2) := by decide +kernel
theorem dX10_step_16 : decode cX10_step 16 = .ok (.ireturn, 1) := by decide +kernel
theorem dX10_step_17 : decode cX10_step 17 = .ok (.iload_n 1, 1) := by decide +kernel
theorem dX10_step_18 : decode cX10_step 18 = .ok (.aload_n 0, 1) := by decide +kernel
theorem dX10_step_19 : decode cX10_step 19 = .ok (.getfield 19, 3) := by decide +kernel
theorem dX10_step_22 : decode cX10_step 22 = .ok (.getfield 131, 3) := by decide +kernel
theorem dX10_step_25 : decode cX10_step 25 = .ok (.if_icmp .ge 15, 3) := by decide +kernel
theorem dX10_step_28 : decode cX10_step 28 = .ok (.aload_n 0, 1) := by decide +kernel
theorem dX10_step_29 : decode cX10_step 29 = .ok (.getfield 19, 3) := by decide +kernel
theorem dX10_step_32 : decode cX10_step 32 = .ok (.getfield 206, 3) := by decide +kernel
theorem dX10_step_35 : decode cX10_step 35 = .ok (.iload_n 1, 1) := by decide +kernel
theorem dX10_step_36 : decode cX10_step 36 = .ok (.iaload, 1) := by decide +kernel
theorem dX10_step_37 : decode cX10_step 37 = .ok (.goto 4, 3) := by decide +kernel
theorem dX10_step_40 : decode cX10_step 40 = .ok (.iconst (-1), 1) := by decide +kernel
theorem dX10_step_41 : decode cX10_step 41 = .ok (.ireturn, 1) := by decide +kernel
theorem dX10_line_0 : decode cX10_line 0 = .ok (.aload_n 0, 1) := by decide +kernel
theorem dX10_line_1 : decode cX10_line 1 = .ok (.iload_n 1, 1) := by decide +kernel
theorem dX10_line_2 : decode cX10_line 2 = .ok (.invokevirtual 209, 3) := by decide +kernel
theorem dX10_line_5 : decode cX10_line 5 = .ok (.ifCond .ne 6, 3) := by decide +kernel
theorem dX10_line_8 : decode cX10_line 8 = .ok (.ldc 114, 2) := by decide +kernel
theorem dX10_line_10 : decode cX10_line 10 = .ok (.ireturn, 1) := by decide +kernel
theorem dX10_line_11 : decode cX10_line 11 = .ok (.aload_n 0, 1) := by decide +kernel
theorem dX10_line_12 : decode cX10_line 12 = .ok (.invokevirtual 212, 3) := by decide +kernel
theorem dX10_line_15 : decode cX10_line 15 = .ok (.iload_n 2, 1) := by decide +kernel
theorem dX10_line_16 : decode cX10_line 16 = .ok (.tableswitch 91 0 5 #[40, 49, 58, 67, 73, 79], 40) := by decide +kernel
theorem dX10_line_56 : decode cX10_line 56 = .ok (.aload_n 0, 1) := by decide +kernel
theorem dX10_line_57 : decode cX10_line 57 = .ok (.getfield 33, 3) := by decide +kernel
theorem dX10_line_60 : decode cX10_line 60 = .ok (.iload_n 1, 1) := by decide +kernel
theorem dX10_line_61 : decode cX10_line 61 = .ok (.invokevirtual 215, 3) := by decide +kernel
theorem dX10_line_64 : decode cX10_line 64 = .ok (.ireturn, 1) := by decide +kernel
theorem dX10_line_65 : decode cX10_line 65 = .ok (.aload_n 0, 1) := by decide +kernel
theorem dX10_line_66 : decode cX10_line 66 = .ok (.getfield 33, 3) := by decide +kernel
theorem dX10_line_69 : decode cX10_line 69 = .ok (.iload_n 1, 1) := by decide +kernel
theorem dX10_line_70 : decode cX10_line 70 = .ok (.invokevirtual 218, 3) := by decide +kernel
theorem dX10_line_73 : decode cX10_line 73 = .ok (.ireturn, 1) := by decide +kernel
theorem dX10_line_74 : decode cX10_line 74 = .ok (.aload_n 0, 1) := by decide +kernel
theorem dX10_line_75 : decode cX10_line 75 = .ok (.getfield 33, 3) := by decide +kernel
theorem dX10_line_78 : decode cX10_line 78 = .ok (.iload_n 1, 1) := by decide +kernel
theorem dX10_line_79 : decode cX10_line 79 = .ok (.invokevirtual 221, 3) := by decide +kernel
theorem dX10_line_82 : decode cX10_line 82 = .ok (.ireturn, 1) := by decide +kernel
theorem dX10_line_83 : decode cX10_line 83 = .ok (.aload_n 0, 1) := by decide +kernel
theorem dX10_line_84 : decode cX10_line 84 = .ok (.iload_n 1, 1) := by decide +kernel
theorem dX10_line_85 : decode cX10_line 85 = .ok (.invokevirtual 224, 3) := by decide +kernel
theorem dX10_line_88 : decode cX10_line 88 = .ok (.ireturn, 1) := by decide +kernel
theorem dX10_line_89 : decode cX10_line 89 = .ok (.aload_n 0, 1) := by decide +kernel
theorem dX10_line_90 : decode cX10_line 90 = .ok (.iload_n 1, 1) := by decide +kernel
theorem dX10_line_91 : decode cX10_line 91 = .ok (.invokevirtual 227, 3) := by decide +kernel
theorem dX10_line_94 : decode cX10_line 94 = .ok (.ireturn, 1) := by decide +kernel
theorem dX10_line_95 : decode cX10_line 95 = .ok (.aload_n 0, 1) := by decide +kernel
theorem dX10_line_96 : decode cX10_line 96 = .ok (.getfield 75, 3) := by decide +kernel
theorem dX10_line_99 : decode cX10_line 99 = .ok (.getfield 203, 3) := by decide +kernel
theorem dX10_line_102 : decode cX10_line 102 = .ok (.iload_n 1, 1) := by decide +kernel
theorem dX10_line_103 : decode cX10_line 103 = .ok (.invokestatic 135, 3) := by decide +kernel
theorem dX10_line_106 : decode cX10_line 106 = .ok (.ireturn, 1) := by decide +kernel
theorem dX10_line_107 : decode cX10_line 107 = .ok (.ldc 82, 2) := by decide +kernel
theorem dX10_line_109 : decode cX10_line 109 = .ok (.ireturn, 1) := by decide +kernel
theorem dX10_least_0 : decode cX10_least 0 = .ok (.aload_n 0, 1) := by decide +kernel
theorem dX10_least_1 : decode cX10_least 1 = .ok (.iload_n 1, 1) := by decide +kernel
theorem dX10_least_2 : decode cX10_least 2 = .ok (.invokevirtual 209, 3) := by decide +kernel
theorem dX10_least_5 : decode cX10_least 5 = .ok (.ifCond .ne 6, 3) := by decide +kernel
theorem dX10_least_8 : decode cX10_least 8 = .ok (.ldc 114, 2) := by decide +kernel
theorem dX10_least_10 : decode cX10_least 10 = .ok (.ireturn, 1) := by decide +kernel
theorem dX10_least_11 : decode cX10_least 11 = .ok (.iload_n 2, 1) := by decide +kernel
theorem dX10_least_12 : decode cX10_least 12 = .ok (.ifCond .eq 11, 3) := by decide +kernel
theorem dX10_least_15 : decode cX10_least 15 = .ok (.iload_n 2, 1) := by decide +kernel
theorem dX10_least_16 : decode cX10_least 16 = .ok (.iconst 1, 1) := by decide +kernel
theorem dX10_least_17 : decode cX10_least 17 = .ok (.if_icmp .eq 6, 3) := by decide +kernel
theorem dX10_least_20 : decode cX10_least 20 = .ok (.ldc 82, 2) := by decide +kernel
theorem dX10_least_22 : decode cX10_least 22 = .ok (.ireturn, 1) := by decide +kernel
theorem dX10_least_23 : decode cX10_least 23 = .ok (.aload_n 0, 1) := by decide +kernel
theorem dX10_least_24 : decode cX10_least 24 = .ok (.invokevirtual 212, 3) := by decide +kernel
theorem dX10_least_27 : decode cX10_least 27 = .ok (.aload_n 0, 1) := by decide +kernel
theorem dX10_least_28 : decode cX10_least 28 = .ok (.getfield 33, 3) := by decide +kernel
theorem dX10_least_31 : decode cX10_least 31 = .ok (.getfield 230, 3) := by decide +kernel
theorem dX10_least_34 : decode cX10_least 34 = .ok (.iload_n 1, 1) := by decide +kernel
theorem dX10_least_35 : decode cX10_least 35 = .ok (.iaload, 1) := by decide +kernel
theorem dX10_least_36 : decode cX10_least 36 = .ok (.istore_n 3, 1) := by decide +kernel
theorem dX10_least_37 : decode cX10_least 37 = .ok (.iload_n 3, 1) := by decide +kernel
theorem dX10_least_38 : decode cX10_least 38 = .ok (.iconst (-1), 1) := by decide +kernel
theorem dX10_least_39 : decode cX10_least 39 = .ok (.if_icmp .ne 5, 3) := by decide +kernel
theorem dX10_least_42 : decode cX10_least 42 = .ok (.iconst (-1), 1) := by decide +kernel
theorem dX10_least_43 : decode cX10_least 43 = .ok (.ireturn, 1) := by decide +kernel
theorem dX10_least_44 : decode cX10_least 44 = .ok (.iload_n 2, 1) := by decide +kernel
theorem dX10_least_45 : decode cX10_least 45 = .ok (.ifCond .ne 13, 3) := by decide +kernel
theorem dX10_least_48 : decode cX10_least 48 = .ok (.aload_n 0, 1) := by decide +kernel
theorem dX10_least_49 : decode cX10_least 49 = .ok (.getfield 33, 3) := by decide +kernel
theorem dX10_least_52 : decode cX10_least 52 = .ok (.getfield 233, 3) := by decide +kernel
theorem dX10_least_55 : decode cX10_least 55 = .ok (.iload_n 3, 1) := by decide +kernel
theorem dX10_least_56 : decode cX10_least 56 = .ok (.iaload, 1) := by decide +kernel
theorem dX10_least_57 : decode cX10_least 57 = .ok (.ireturn, 1) := by decide +kernel
theorem dX10_least_58 : decode cX10_least 58 = .ok (.aload_n 0, 1) := by decide +kernel
theorem dX10_least_59 : decode cX10_least 59 = .ok (.invokevirtual 236, 3) := by decide +kernel
theorem dX10_least_62 : decode cX10_least 62 = .ok (.aload_n 0, 1) := by decide +kernel
theorem dX10_least_63 : decode cX10_least 63 = .ok (.getfield 61, 3) := by decide +kernel
theorem dX10_least_66 : decode cX10_least 66 = .ok (.aload_n 0, 1) := by decide +kernel
theorem dX10_least_67 : decode cX10_least 67 = .ok (.getfield 33, 3) := by decide +kernel
theorem dX10_least_70 : decode cX10_least 70 = .ok (.iload_n 1, 1) := by decide +kernel
theorem dX10_least_71 : decode cX10_least 71 = .ok (.invokevirtual 239, 3) := by decide +kernel
theorem dX10_least_74 : decode cX10_least 74 = .ok (.ireturn, 1) := by decide +kernel
theorem dX10_row_0 : decode cX10_row 0 = .ok (.aload_n 0, 1) := by decide +kernel
theorem dX10_row_1 : decode cX10_row 1 = .ok (.iload_n 1, 1) := by decide +kernel
theorem dX10_row_2 : decode cX10_row 2 = .ok (.invokevirtual 209, 3) := by decide +kernel
theorem dX10_row_5 : decode cX10_row 5 = .ok (.ifCond .ne 6, 3) := by decide +kernel
theorem dX10_row_8 : decode cX10_row 8 = .ok (.ldc 114, 2) := by decide +kernel
theorem dX10_row_10 : decode cX10_row 10 = .ok (.ireturn, 1) := by decide +kernel
theorem dX10_row_11 : decode cX10_row 11 = .ok (.iload_n 2, 1) := by decide +kernel
theorem dX10_row_12 : decode cX10_row 12 = .ok (.ifCond .ge 6, 3) := by decide +kernel
theorem dX10_row_15 : decode cX10_row 15 = .ok (.ldc 82, 2) := by decide +kernel
theorem dX10_row_17 : decode cX10_row 17 = .ok (.ireturn, 1) := by decide +kernel
theorem dX10_row_18 : decode cX10_row 18 = .ok (.aload_n 0, 1) := by decide +kernel
theorem dX10_row_19 : decode cX10_row 19 = .ok (.invokevirtual 212, 3) := by decide +kernel
theorem dX10_row_22 : decode cX10_row 22 = .ok (.aload_n 0, 1) := by decide +kernel
theorem dX10_row_23 : decode cX10_row 23 = .ok (.getfield 33, 3) := by decide +kernel
theorem dX10_row_26 : decode cX10_row 26 = .ok (.aload_n 0, 1) := by decide +kernel
theorem dX10_row_27 : decode cX10_row 27 = .ok (.getfield 33, 3) := by decide +kernel
theorem dX10_row_30 : decode cX10_row 30 = .ok (.getfield 230, 3) := by decide +kernel
theorem dX10_row_33 : decode cX10_row 33 = .ok (.iload_n 1, 1) := by decide +kernel
theorem dX10_row_34 : decode cX10_row 34 = .ok (.iaload, 1) := by decide +kernel
theorem dX10_row_35 : decode cX10_row 35 = .ok (.iload_n 2, 1) := by decide +kernel
theorem dX10_row_36 : decode cX10_row 36 = .ok (.invokevirtual 243, 3) := by decide +kernel
theorem dX10_row_39 : decode cX10_row 39 = .ok (.ireturn, 1) := by decide +kernel
theorem dX10_needs_0 : decode cX10_needs 0 = .ok (.aload_n 0, 1) := by decide +kernel
theorem dX10_needs_1 : decode cX10_needs 1 = .ok (.iload_n 1, 1) := by decide +kernel
theorem dX10_needs_2 : decode cX10_needs 2 = .ok (.invokevirtual 209, 3) := by decide +kernel
theorem dX10_needs_5 : decode cX10_needs 5 = .ok (.ifCond .ne 6, 3) := by decide +kernel
theorem dX10_needs_8 : decode cX10_needs 8 = .ok (.ldc 114, 2) := by decide +kernel
theorem dX10_needs_10 : decode cX10_needs 10 = .ok (.ireturn, 1) := by decide +kernel
theorem dX10_needs_11 : decode cX10_needs 11 = .ok (.aload_n 0, 1) := by decide +kernel
theorem dX10_needs_12 : decode cX10_needs 12 = .ok (.invokevirtual 212, 3) := by decide +kernel
theorem dX10_needs_15 : decode cX10_needs 15 = .ok (.aload_n 0, 1) := by decide +kernel
theorem dX10_needs_16 : decode cX10_needs 16 = .ok (.getfield 33, 3) := by decide +kernel
theorem dX10_needs_19 : decode cX10_needs 19 = .ok (.getfield 230, 3) := by decide +kernel
theorem dX10_needs_22 : decode cX10_needs 22 = .ok (.iload_n 1, 1) := by decide +kernel
theorem dX10_needs_23 : decode cX10_needs 23 = .ok (.iaload, 1) := by decide +kernel
theorem dX10_needs_24 : decode cX10_needs 24 = .ok (.iconst (-1), 1) := by decide +kernel
theorem dX10_needs_25 : decode cX10_needs 25 = .ok (.if_icmp .ne 5, 3) := by decide +kernel
theorem dX10_needs_28 : decode cX10_needs 28 = .ok (.iconst (-1), 1) := by decide +kernel
theorem dX10_needs_29 : decode cX10_needs 29 = .ok (.ireturn, 1) := by decide +kernel
theorem dX10_needs_30 : decode cX10_needs 30 = .ok (.iconst 0, 1) := by decide +kernel
theorem dX10_needs_31 : decode cX10_needs 31 = .ok (.istore_n 2, 1) := by decide +kernel
theorem dX10_needs_32 : decode cX10_needs 32 = .ok (.iconst 0, 1) := by decide +kernel
theorem dX10_needs_33 : decode cX10_needs 33 = .ok (.istore_n 3, 1) := by decide +kernel
theorem dX10_needs_34 : decode cX10_needs 34 = .ok (.iload_n 3, 1) := by decide +kernel
theorem dX10_needs_35 : decode cX10_needs 35 = .ok (.bipush 6, 2) := by decide +kernel
theorem dX10_needs_37 : decode cX10_needs 37 = .ok (.if_icmp .ge 52, 3) := by decide +kernel
theorem dX10_needs_40 : decode cX10_needs 40 = .ok (.aload_n 0, 1) := by decide +kernel
theorem dX10_needs_41 : decode cX10_needs 41 = .ok (.getfield 19, 3) := by decide +kernel
theorem dX10_needs_44 : decode cX10_needs 44 = .ok (.getfield 246, 3) := by decide +kernel
theorem dX10_needs_47 : decode cX10_needs 47 = .ok (.iload_n 3, 1) := by decide +kernel
theorem dX10_needs_48 : decode cX10_needs 48 = .ok (.invokestatic 135, 3) := by decide +kernel
theorem dX10_needs_51 : decode cX10_needs 51 = .ok (.ifCond .ne 32, 3) := by decide +kernel
theorem dX10_needs_54 : decode cX10_needs 54 = .ok (.aload_n 0, 1) := by decide +kernel
theorem dX10_needs_55 : decode cX10_needs 55 = .ok (.getfield 40, 3) := by decide +kernel
theorem dX10_needs_58 : decode cX10_needs 58 = .ok (.aload_n 0, 1) := by decide +kernel
theorem dX10_needs_59 : decode cX10_needs 59 = .ok (.getfield 33, 3) := by decide +kernel
theorem dX10_needs_62 : decode cX10_needs 62 = .ok (.iload_n 1, 1) := by decide +kernel
theorem dX10_needs_63 : decode cX10_needs 63 = .ok (.aload_n 0, 1) := by decide +kernel
theorem dX10_needs_64 : decode cX10_needs 64 = .ok (.getfield 75, 3) := by decide +kernel
theorem dX10_needs_67 : decode cX10_needs 67 = .ok (.iload_n 3, 1) := by decide +kernel
theorem dX10_needs_68 : decode cX10_needs 68 = .ok (.invokevirtual 249, 3) := by decide +kernel
theorem dX10_needs_71 : decode cX10_needs 71 = .ok (.invokevirtual 252, 3) := by decide +kernel
theorem dX10_needs_74 : decode cX10_needs 74 = .ok (.ifCond .ne 9, 3) := by decide +kernel
theorem dX10_needs_77 : decode cX10_needs 77 = .ok (.iload_n 2, 1) := by decide +kernel
theorem dX10_needs_78 : decode cX10_needs 78 = .ok (.iconst 1, 1) := by decide +kernel
theorem dX10_needs_79 : decode cX10_needs 79 = .ok (.iload_n 3, 1) := by decide +kernel
theorem dX10_needs_80 : decode cX10_needs 80 = .ok (.ishl, 1) := by decide +kernel
theorem dX10_needs_81 : decode cX10_needs 81 = .ok (.ior, 1) := by decide +kernel
theorem dX10_needs_82 : decode cX10_needs 82 = .ok (.istore_n 2, 1) := by decide +kernel
theorem dX10_needs_83 : decode cX10_needs 83 = .ok (.iinc 3 1, 3) := by decide +kernel
theorem dX10_needs_86 : decode cX10_needs 86 = .ok (.goto (-52), 3) := by decide +kernel
theorem dX10_needs_89 : decode cX10_needs 89 = .ok (.iload_n 2, 1) := by decide +kernel
theorem dX10_needs_90 : decode cX10_needs 90 = .ok (.ireturn, 1) := by decide +kernel
theorem dX10_must_0 : decode cX10_must 0 = .ok (.aload_n 0, 1) := by decide +kernel
theorem dX10_must_1 : decode cX10_must 1 = .ok (.iload_n 1, 1) := by decide +kernel
theorem dX10_must_2 : decode cX10_must 2 = .ok (.invokevirtual 209, 3) := by decide +kernel
theorem dX10_must_5 : decode cX10_must 5 = .ok (.ifCond .ne 6, 3) := by decide +kernel
theorem dX10_must_8 : decode cX10_must 8 = .ok (.ldc 114, 2) := by decide +kernel
theorem dX10_must_10 : decode cX10_must 10 = .ok (.ireturn, 1) := by decide +kernel
theorem dX10_must_11 : decode cX10_must 11 = .ok (.iload_n 2, 1) := by decide +kernel
theorem dX10_must_12 : decode cX10_must 12 = .ok (.ifCond .ge 6, 3) := by decide +kernel
theorem dX10_must_15 : decode cX10_must 15 = .ok (.ldc 82, 2) := by decide +kernel
theorem dX10_must_17 : decode cX10_must 17 = .ok (.ireturn, 1) := by decide +kernel
theorem dX10_must_18 : decode cX10_must 18 = .ok (.aload_n 0, 1) := by decide +kernel
theorem dX10_must_19 : decode cX10_must 19 = .ok (.invokevirtual 212, 3) := by decide +kernel
theorem dX10_must_22 : decode cX10_must 22 = .ok (.aload_n 0, 1) := by decide +kernel
theorem dX10_must_23 : decode cX10_must 23 = .ok (.getfield 33, 3) := by decide +kernel
theorem dX10_must_26 : decode cX10_must 26 = .ok (.aload_n 0, 1) := by decide +kernel
theorem dX10_must_27 : decode cX10_must 27 = .ok (.getfield 33, 3) := by decide +kernel
theorem dX10_must_30 : decode cX10_must 30 = .ok (.getfield 230, 3) := by decide +kernel
theorem dX10_must_33 : decode cX10_must 33 = .ok (.iload_n 1, 1) := by decide +kernel
theorem dX10_must_34 : decode cX10_must 34 = .ok (.iaload, 1) := by decide +kernel
theorem dX10_must_35 : decode cX10_must 35 = .ok (.invokevirtual 256, 3) := by decide +kernel
theorem dX10_must_38 : decode cX10_must 38 = .ok (.istore_n 3, 1) := by decide +kernel
theorem dX10_must_39 : decode cX10_must 39 = .ok (.iconst 0, 1) := by decide +kernel
theorem dX10_must_40 : decode cX10_must 40 = .ok (.istore 4, 2) := by decide +kernel
theorem dX10_must_42 : decode cX10_must 42 = .ok (.iconst 0, 1) := by decide +kernel
theorem dX10_must_43 : decode cX10_must 43 = .ok (.istore 5, 2) := by decide +kernel
theorem dX10_must_45 : decode cX10_must 45 = .ok (.iload 5, 2) := by decide +kernel
theorem dX10_must_47 : decode cX10_must 47 = .ok (.aload_n 0, 1) := by decide +kernel
theorem dX10_must_48 : decode cX10_must 48 = .ok (.getfield 75, 3) := by decide +kernel
theorem dX10_must_51 : decode cX10_must 51 = .ok (.getfield 108, 3) := by decide +kernel
theorem dX10_must_54 : decode cX10_must 54 = .ok (.if_icmp .ge 50, 3) := by decide +kernel
theorem dX10_must_57 : decode cX10_must 57 = .ok (.iload_n 3, 1) := by decide +kernel
theorem dX10_must_58 : decode cX10_must 58 = .ok (.iload 5, 2) := by decide +kernel
theorem dX10_must_60 : decode cX10_must 60 = .ok (.invokestatic 135, 3) := by decide +kernel
theorem dX10_must_63 : decode cX10_must 63 = .ok (.iconst 1, 1) := by decide +kernel
theorem dX10_must_64 : decode cX10_must 64 = .ok (.if_icmp .ne 34, 3) := by decide +kernel
theorem dX10_must_67 : decode cX10_must 67 = .ok (.aload_n 0, 1) := by decide +kernel
theorem dX10_must_68 : decode cX10_must 68 = .ok (.getfield 40, 3) := by decide +kernel
theorem dX10_must_71 : decode cX10_must 71 = .ok (.aload_n 0, 1) := by decide +kernel
theorem dX10_must_72 : decode cX10_must 72 = .ok (.getfield 33, 3) := by decide +kernel
theorem dX10_must_75 : decode cX10_must 75 = .ok (.iload_n 1, 1) := by decide +kernel
theorem dX10_must_76 : decode cX10_must 76 = .ok (.iconst 1, 1) := by decide +kernel
theorem dX10_must_77 : decode cX10_must 77 = .ok (.iload 5, 2) := by decide +kernel
theorem dX10_must_79 : decode cX10_must 79 = .ok (.ishl, 1) := by decide +kernel
theorem dX10_must_80 : decode cX10_must 80 = .ok (.invokevirtual 252, 3) := by decide +kernel
theorem dX10_must_83 : decode cX10_must 83 = .ok (.ifCond .ne 15, 3) := by decide +kernel
theorem dX10_must_86 : decode cX10_must 86 = .ok (.iload 4, 2) := by decide +kernel
theorem dX10_must_88 : decode cX10_must 88 = .ok (.iload_n 2, 1) := by decide +kernel
theorem dX10_must_89 : decode cX10_must 89 = .ok (.if_icmp .ne 6, 3) := by decide +kernel
theorem dX10_must_92 : decode cX10_must 92 = .ok (.iload 5, 2) := by decide +kernel
theorem dX10_must_94 : decode cX10_must 94 = .ok (.ireturn, 1) := by decide +kernel
theorem dX10_must_95 : decode cX10_must 95 = .ok (.iinc 4 1, 3) := by decide +kernel
theorem dX10_must_98 : decode cX10_must 98 = .ok (.iinc 5 1, 3) := by decide +kernel
theorem dX10_must_101 : decode cX10_must 101 = .ok (.goto (-56), 3) := by decide +kernel
theorem dX10_must_104 : decode cX10_must 104 = .ok (.iconst (-1), 1) := by decide +kernel
theorem dX10_must_105 : decode cX10_must 105 = .ok (.ireturn, 1) := by decide +kernel
theorem dX10_loop_0 : decode cX10_loop 0 = .ok (.aload_n 0, 1) := by decide +kernel
theorem dX10_loop_1 : decode cX10_loop 1 = .ok (.iload_n 1, 1) := by decide +kernel
theorem dX10_loop_2 : decode cX10_loop 2 = .ok (.invokevirtual 209, 3) := by decide +kernel
theorem dX10_loop_5 : decode cX10_loop 5 = .ok (.ifCond .ne 6, 3) := by decide +kernel
theorem dX10_loop_8 : decode cX10_loop 8 = .ok (.ldc 114, 2) := by decide +kernel
theorem dX10_loop_10 : decode cX10_loop 10 = .ok (.ireturn, 1) := by decide +kernel
theorem dX10_loop_11 : decode cX10_loop 11 = .ok (.aload_n 0, 1) := by decide +kernel
theorem dX10_loop_12 : decode cX10_loop 12 = .ok (.invokevirtual 212, 3) := by decide +kernel
theorem dX10_loop_15 : decode cX10_loop 15 = .ok (.aload_n 0, 1) := by decide +kernel
theorem dX10_loop_16 : decode cX10_loop 16 = .ok (.invokevirtual 259, 3) := by decide +kernel
theorem dX10_loop_19 : decode cX10_loop 19 = .ok (.aload_n 0, 1) := by decide +kernel
theorem dX10_loop_20 : decode cX10_loop 20 = .ok (.getfield 33, 3) := by decide +kernel
theorem dX10_loop_23 : decode cX10_loop 23 = .ok (.getfield 262, 3) := by decide +kernel
theorem dX10_loop_26 : decode cX10_loop 26 = .ok (.iconst 1, 1) := by decide +kernel
theorem dX10_loop_27 : decode cX10_loop 27 = .ok (.iadd, 1) := by decide +kernel
theorem dX10_loop_28 : decode cX10_loop 28 = .ok (.istore_n 2, 1) := by decide +kernel
theorem dX10_loop_29 : decode cX10_loop 29 = .ok (.iload_n 2, 1) := by decide +kernel
theorem dX10_loop_30 : decode cX10_loop 30 = .ok (.istore_n 3, 1) := by decide +kernel
theorem dX10_loop_31 : decode cX10_loop 31 = .ok (.iconst 0, 1) := by decide +kernel
theorem dX10_loop_32 : decode cX10_loop 32 = .ok (.istore 4, 2) := by decide +kernel
theorem dX10_loop_34 : decode cX10_loop 34 = .ok (.iload 4, 2) := by decide +kernel
theorem dX10_loop_36 : decode cX10_loop 36 = .ok (.aload_n 0, 1) := by decide +kernel
theorem dX10_loop_37 : decode cX10_loop 37 = .ok (.getfield 33, 3) := by decide +kernel
theorem dX10_loop_40 : decode cX10_loop 40 = .ok (.getfield 262, 3) := by decide +kernel
theorem dX10_loop_43 : decode cX10_loop 43 = .ok (.if_icmp .ge 50, 3) := by decide +kernel
theorem dX10_loop_46 : decode cX10_loop 46 = .ok (.aload_n 0, 1) := by decide +kernel
theorem dX10_loop_47 : decode cX10_loop 47 = .ok (.getfield 33, 3) := by decide +kernel
theorem dX10_loop_50 : decode cX10_loop 50 = .ok (.iload 4, 2) := by decide +kernel
theorem dX10_loop_52 : decode cX10_loop 52 = .ok (.invokevirtual 265, 3) := by decide +kernel
theorem dX10_loop_55 : decode cX10_loop 55 = .ok (.iload_n 1, 1) := by decide +kernel
theorem dX10_loop_56 : decode cX10_loop 56 = .ok (.if_icmp .ne 31, 3) := by decide +kernel
theorem dX10_loop_59 : decode cX10_loop 59 = .ok (.aload_n 0, 1) := by decide +kernel
theorem dX10_loop_60 : decode cX10_loop 60 = .ok (.getfield 54, 3) := by decide +kernel
theorem dX10_loop_63 : decode cX10_loop 63 = .ok (.getfield 268, 3) := by decide +kernel
theorem dX10_loop_66 : decode cX10_loop 66 = .ok (.iload 4, 2) := by decide +kernel
theorem dX10_loop_68 : decode cX10_loop 68 = .ok (.baload, 1) := by decide +kernel
theorem dX10_loop_69 : decode cX10_loop 69 = .ok (.ifCond .eq 18, 3) := by decide +kernel
theorem dX10_loop_72 : decode cX10_loop 72 = .ok (.aload_n 0, 1) := by decide +kernel
theorem dX10_loop_73 : decode cX10_loop 73 = .ok (.getfield 40, 3) := by decide +kernel
theorem dX10_loop_76 : decode cX10_loop 76 = .ok (.aload_n 0, 1) := by decide +kernel
theorem dX10_loop_77 : decode cX10_loop 77 = .ok (.getfield 33, 3) := by decide +kernel
theorem dX10_loop_80 : decode cX10_loop 80 = .ok (.iload 4, 2) := by decide +kernel
theorem dX10_loop_82 : decode cX10_loop 82 = .ok (.iload_n 3, 1) := by decide +kernel
theorem dX10_loop_83 : decode cX10_loop 83 = .ok (.invokevirtual 272, 3) := by decide +kernel
theorem dX10_loop_86 : decode cX10_loop 86 = .ok (.istore_n 3, 1) := by decide +kernel
theorem dX10_loop_87 : decode cX10_loop 87 = .ok (.iinc 4 1, 3) := by decide +kernel
theorem dX10_loop_90 : decode cX10_loop 90 = .ok (.goto (-56), 3) := by decide +kernel
theorem dX10_loop_93 : decode cX10_loop 93 = .ok (.iload_n 3, 1) := by decide +kernel
theorem dX10_loop_94 : decode cX10_loop 94 = .ok (.iload_n 2, 1) := by decide +kernel
theorem dX10_loop_95 : decode cX10_loop 95 = .ok (.if_icmp .ge 7, 3) := by decide +kernel
theorem dX10_loop_98 : decode cX10_loop 98 = .ok (.iload_n 3, 1) := by decide +kernel
theorem dX10_loop_99 : decode cX10_loop 99 = .ok (.goto 4, 3) := by decide +kernel
theorem dX10_loop_102 : decode cX10_loop 102 = .ok (.iconst (-1), 1) := by decide +kernel
theorem dX10_loop_103 : decode cX10_loop 103 = .ok (.ireturn, 1) := by decide +kernel
theorem dX10_use_0 : decode cX10_use 0 = .ok (.aload_n 0, 1) := by decide +kernel
theorem dX10_use_1 : decode cX10_use 1 = .ok (.iload_n 1, 1) := by decide +kernel
theorem dX10_use_2 : decode cX10_use 2 = .ok (.invokevirtual 118, 3) := by decide +kernel
theorem dX10_use_5 : decode cX10_use 5 = .ok (.ifCond .ne 6, 3) := by decide +kernel
theorem dX10_use_8 : decode cX10_use 8 = .ok (.ldc 114, 2) := by decide +kernel
theorem dX10_use_10 : decode cX10_use 10 = .ok (.ireturn, 1) := by decide +kernel
theorem dX10_use_11 : decode cX10_use 11 = .ok (.aload_n 0, 1) := by decide +kernel
theorem dX10_use_12 : decode cX10_use 12 = .ok (.invokevirtual 212, 3) := by decide +kernel
theorem dX10_use_15 : decode cX10_use 15 = .ok (.aload_n 0, 1) := by decide +kernel
theorem dX10_use_16 : decode cX10_use 16 = .ok (.getfield 33, 3) := by decide +kernel
theorem dX10_use_19 : decode cX10_use 19 = .ok (.iload_n 1, 1) := by decide +kernel
theorem dX10_use_20 : decode cX10_use 20 = .ok (.invokevirtual 276, 3) := by decide +kernel
theorem dX10_use_23 : decode cX10_use 23 = .ok (.istore_n 2, 1) := by decide +kernel
theorem dX10_use_24 : decode cX10_use 24 = .ok (.iload_n 2, 1) := by decide +kernel
theorem dX10_use_25 : decode cX10_use 25 = .ok (.ifCond .ne 5, 3) := by decide +kernel
theorem dX10_use_28 : decode cX10_use 28 = .ok (.iconst 0, 1) := by decide +kernel
theorem dX10_use_29 : decode cX10_use 29 = .ok (.ireturn, 1) := by decide +kernel
theorem dX10_use_30 : decode cX10_use 30 = .ok (.iload_n 2, 1) := by decide +kernel
theorem dX10_use_31 : decode cX10_use 31 = .ok (.aload_n 0, 1) := by decide +kernel
theorem dX10_use_32 : decode cX10_use 32 = .ok (.getfield 33, 3) := by decide +kernel
theorem dX10_use_35 : decode cX10_use 35 = .ok (.aload_n 0, 1) := by decide +kernel
theorem dX10_use_36 : decode cX10_use 36 = .ok (.getfield 75, 3) := by decide +kernel
theorem dX10_use_39 : decode cX10_use 39 = .ok (.getfield 169, 3) := by decide +kernel
theorem dX10_use_42 : decode cX10_use 42 = .ok (.iload_n 1, 1) := by decide +kernel
theorem dX10_use_43 : decode cX10_use 43 = .ok (.iaload, 1) := by decide +kernel
theorem dX10_use_44 : decode cX10_use 44 = .ok (.invokevirtual 215, 3) := by decide +kernel
theorem dX10_use_47 : decode cX10_use 47 = .ok (.if_icmp .ne 7, 3) := by decide +kernel
theorem dX10_use_50 : decode cX10_use 50 = .ok (.iconst 2, 1) := by decide +kernel
theorem dX10_use_51 : decode cX10_use 51 = .ok (.goto 4, 3) := by decide +kernel
theorem dX10_use_54 : decode cX10_use 54 = .ok (.iconst 1, 1) := by decide +kernel
theorem dX10_use_55 : decode cX10_use 55 = .ok (.ireturn, 1) := by decide +kernel
theorem dX10_mark_0 : decode cX10_mark 0 = .ok (.aload_n 0, 1) := by decide +kernel
theorem dX10_mark_1 : decode cX10_mark 1 = .ok (.getfield 96, 3) := by decide +kernel
theorem dX10_mark_4 : decode cX10_mark 4 = .ok (.ifCond .eq 13, 3) := by decide +kernel
theorem dX10_mark_7 : decode cX10_mark 7 = .ok (.iload_n 1, 1) := by decide +kernel
theorem dX10_mark_8 : decode cX10_mark 8 = .ok (.ifCond .lt 9, 3) := by decide +kernel
theorem dX10_mark_11 : decode cX10_mark 11 = .ok (.iload_n 1, 1) := by decide +kernel
theorem dX10_mark_12 : decode cX10_mark 12 = .ok (.bipush 6, 2) := by decide +kernel
theorem dX10_mark_14 : decode cX10_mark 14 = .ok (.if_icmp .lt 6, 3) := by decide +kernel
theorem dX10_mark_17 : decode cX10_mark 17 = .ok (.ldc 114, 2) := by decide +kernel
theorem dX10_mark_19 : decode cX10_mark 19 = .ok (.ireturn, 1) := by decide +kernel
theorem dX10_mark_20 : decode cX10_mark 20 = .ok (.iload_n 2, 1) := by decide +kernel
theorem dX10_mark_21 : decode cX10_mark 21 = .ok (.tableswitch 77 0 3 #[31, 40, 49, 63], 31) := by decide +kernel
theorem dX10_mark_52 : decode cX10_mark 52 = .ok (.aload_n 0, 1) := by decide +kernel
theorem dX10_mark_53 : decode cX10_mark 53 = .ok (.getfield 75, 3) := by decide +kernel
theorem dX10_mark_56 : decode cX10_mark 56 = .ok (.iload_n 1, 1) := by decide +kernel
theorem dX10_mark_57 : decode cX10_mark 57 = .ok (.invokevirtual 279, 3) := by decide +kernel
theorem dX10_mark_60 : decode cX10_mark 60 = .ok (.ireturn, 1) := by decide +kernel
theorem dX10_mark_61 : decode cX10_mark 61 = .ok (.aload_n 0, 1) := by decide +kernel
theorem dX10_mark_62 : decode cX10_mark 62 = .ok (.getfield 75, 3) := by decide +kernel
theorem dX10_mark_65 : decode cX10_mark 65 = .ok (.iload_n 1, 1) := by decide +kernel
theorem dX10_mark_66 : decode cX10_mark 66 = .ok (.invokevirtual 282, 3) := by decide +kernel
theorem dX10_mark_69 : decode cX10_mark 69 = .ok (.ireturn, 1) := by decide +kernel
theorem dX10_mark_70 : decode cX10_mark 70 = .ok (.aload_n 0, 1) := by decide +kernel
theorem dX10_mark_71 : decode cX10_mark 71 = .ok (.iload_n 1, 1) := by decide +kernel
theorem dX10_mark_72 : decode cX10_mark 72 = .ok (.invokevirtual 285, 3) := by decide +kernel
theorem dX10_mark_75 : decode cX10_mark 75 = .ok (.ifCond .eq 7, 3) := by decide +kernel
theorem dX10_mark_78 : decode cX10_mark 78 = .ok (.iconst 1, 1) := by decide +kernel
theorem dX10_mark_79 : decode cX10_mark 79 = .ok (.goto 4, 3) := by decide +kernel
theorem dX10_mark_82 : decode cX10_mark 82 = .ok (.iconst 0, 1) := by decide +kernel
theorem dX10_mark_83 : decode cX10_mark 83 = .ok (.ireturn, 1) := by decide +kernel
theorem dX10_mark_84 : decode cX10_mark 84 = .ok (.aload_n 0, 1) := by decide +kernel
theorem dX10_mark_85 : decode cX10_mark 85 = .ok (.iload_n 1, 1) := by decide +kernel
theorem dX10_mark_86 : decode cX10_mark 86 = .ok (.invokevirtual 288, 3) := by decide +kernel
theorem dX10_mark_89 : decode cX10_mark 89 = .ok (.ifCond .eq 7, 3) := by decide +kernel
theorem dX10_mark_92 : decode cX10_mark 92 = .ok (.iconst 1, 1) := by decide +kernel
theorem dX10_mark_93 : decode cX10_mark 93 = .ok (.goto 4, 3) := by decide +kernel
theorem dX10_mark_96 : decode cX10_mark 96 = .ok (.iconst 0, 1) := by decide +kernel
theorem dX10_mark_97 : decode cX10_mark 97 = .ok (.ireturn, 1) := by decide +kernel
theorem dX10_mark_98 : decode cX10_mark 98 = .ok (.ldc 82, 2) := by decide +kernel
theorem dX10_mark_100 : decode cX10_mark 100 = .ok (.ireturn, 1) := by decide +kernel
theorem dX10_whole_0 : decode cX10_whole 0 = .ok (.aload_n 0, 1) := by decide +kernel
theorem dX10_whole_1 : decode cX10_whole 1 = .ok (.getfield 96, 3) := by decide +kernel
theorem dX10_whole_4 : decode cX10_whole 4 = .ok (.ifCond .ne 6, 3) := by decide +kernel
theorem dX10_whole_7 : decode cX10_whole 7 = .ok (.ldc 114, 2) := by decide +kernel
theorem dX10_whole_9 : decode cX10_whole 9 = .ok (.ireturn, 1) := by decide +kernel
theorem dX10_whole_10 : decode cX10_whole 10 = .ok (.aload_n 0, 1) := by decide +kernel
theorem dX10_whole_11 : decode cX10_whole 11 = .ok (.invokevirtual 212, 3) := by decide +kernel
theorem dX10_whole_14 : decode cX10_whole 14 = .ok (.iload_n 1, 1) := by decide +kernel
theorem dX10_whole_15 : decode cX10_whole 15 = .ok (.tableswitch 107 0 7 #[45, 53, 71, 76, 81, 86, 94, 99], 45) := by decide +kernel
theorem dX10_whole_60 : decode cX10_whole 60 = .ok (.aload_n 0, 1) := by decide +kernel
theorem dX10_whole_61 : decode cX10_whole 61 = .ok (.getfield 33, 3) := by decide +kernel
theorem dX10_whole_64 : decode cX10_whole 64 = .ok (.getfield 262, 3) := by decide +kernel
theorem dX10_whole_67 : decode cX10_whole 67 = .ok (.ireturn, 1) := by decide +kernel
theorem dX10_whole_68 : decode cX10_whole 68 = .ok (.aload_n 0, 1) := by decide +kernel
theorem dX10_whole_69 : decode cX10_whole 69 = .ok (.getfield 75, 3) := by decide +kernel
theorem dX10_whole_72 : decode cX10_whole 72 = .ok (.getfield 200, 3) := by decide +kernel
theorem dX10_whole_75 : decode cX10_whole 75 = .ok (.aload_n 0, 1) := by decide +kernel
theorem dX10_whole_76 : decode cX10_whole 76 = .ok (.getfield 33, 3) := by decide +kernel
theorem dX10_whole_79 : decode cX10_whole 79 = .ok (.invokevirtual 291, 3) := by decide +kernel
theorem dX10_whole_82 : decode cX10_whole 82 = .ok (.iconst (-1), 1) := by decide +kernel
theorem dX10_whole_83 : decode cX10_whole 83 = .ok (.ixor, 1) := by decide +kernel
theorem dX10_whole_84 : decode cX10_whole 84 = .ok (.iand, 1) := by decide +kernel
theorem dX10_whole_85 : decode cX10_whole 85 = .ok (.ireturn, 1) := by decide +kernel
theorem dX10_whole_86 : decode cX10_whole 86 = .ok (.aload_n 0, 1) := by decide +kernel
theorem dX10_whole_87 : decode cX10_whole 87 = .ok (.invokevirtual 294, 3) := by decide +kernel
theorem dX10_whole_90 : decode cX10_whole 90 = .ok (.ireturn, 1) := by decide +kernel
theorem dX10_whole_91 : decode cX10_whole 91 = .ok (.aload_n 0, 1) := by decide +kernel
theorem dX10_whole_92 : decode cX10_whole 92 = .ok (.invokevirtual 297, 3) := by decide +kernel
theorem dX10_whole_95 : decode cX10_whole 95 = .ok (.ireturn, 1) := by decide +kernel
theorem dX10_whole_96 : decode cX10_whole 96 = .ok (.aload_n 0, 1) := by decide +kernel
theorem dX10_whole_97 : decode cX10_whole 97 = .ok (.invokevirtual 300, 3) := by decide +kernel
theorem dX10_whole_100 : decode cX10_whole 100 = .ok (.ireturn, 1) := by decide +kernel
theorem dX10_whole_101 : decode cX10_whole 101 = .ok (.aload_n 0, 1) := by decide +kernel
theorem dX10_whole_102 : decode cX10_whole 102 = .ok (.getfield 33, 3) := by decide +kernel
theorem dX10_whole_105 : decode cX10_whole 105 = .ok (.invokevirtual 303, 3) := by decide +kernel
theorem dX10_whole_108 : decode cX10_whole 108 = .ok (.ireturn, 1) := by decide +kernel
theorem dX10_whole_109 : decode cX10_whole 109 = .ok (.aload_n 0, 1) := by decide +kernel
theorem dX10_whole_110 : decode cX10_whole 110 = .ok (.invokevirtual 306, 3) := by decide +kernel
theorem dX10_whole_113 : decode cX10_whole 113 = .ok (.ireturn, 1) := by decide +kernel
theorem dX10_whole_114 : decode cX10_whole 114 = .ok (.aload_n 0, 1) := by decide +kernel
theorem dX10_whole_115 : decode cX10_whole 115 = .ok (.getfield 33, 3) := by decide +kernel
theorem dX10_whole_118 : decode cX10_whole 118 = .ok (.invokevirtual 309, 3) := by decide +kernel
theorem dX10_whole_121 : decode cX10_whole 121 = .ok (.ireturn, 1) := by decide +kernel
theorem dX10_whole_122 : decode cX10_whole 122 = .ok (.ldc 82, 2) := by decide +kernel
theorem dX10_whole_124 : decode cX10_whole 124 = .ok (.ireturn, 1) := by decide +kernel
theorem dX10_rows_0 : decode cX10_rows 0 = .ok (.aload_n 0, 1) := by decide +kernel
theorem dX10_rows_1 : decode cX10_rows 1 = .ok (.iload_n 1, 1) := by decide +kernel
theorem dX10_rows_2 : decode cX10_rows 2 = .ok (.invokevirtual 209, 3) := by decide +kernel
theorem dX10_rows_5 : decode cX10_rows 5 = .ok (.ifCond .ne 7, 3) := by decide +kernel
theorem dX10_rows_8 : decode cX10_rows 8 = .ok (.ldc2_w 312, 3) := by decide +kernel
theorem dX10_rows_11 : decode cX10_rows 11 = .ok (.lreturn, 1) := by decide +kernel
theorem dX10_rows_12 : decode cX10_rows 12 = .ok (.iload_n 2, 1) := by decide +kernel
theorem dX10_rows_13 : decode cX10_rows 13 = .ok (.ifCond .lt 9, 3) := by decide +kernel
theorem dX10_rows_16 : decode cX10_rows 16 = .ok (.iload_n 2, 1) := by decide +kernel
theorem dX10_rows_17 : decode cX10_rows 17 = .ok (.bipush 80, 2) := by decide +kernel
theorem dX10_rows_19 : decode cX10_rows 19 = .ok (.if_icmp .le 7, 3) := by decide +kernel
theorem dX10_rows_22 : decode cX10_rows 22 = .ok (.ldc2_w 314, 3) := by decide +kernel
theorem dX10_rows_25 : decode cX10_rows 25 = .ok (.lreturn, 1) := by decide +kernel
theorem dX10_rows_26 : decode cX10_rows 26 = .ok (.aload_n 0, 1) := by decide +kernel
theorem dX10_rows_27 : decode cX10_rows 27 = .ok (.invokevirtual 212, 3) := by decide +kernel
theorem dX10_rows_30 : decode cX10_rows 30 = .ok (.aload_n 0, 1) := by decide +kernel
theorem dX10_rows_31 : decode cX10_rows 31 = .ok (.getfield 68, 3) := by decide +kernel
theorem dX10_rows_34 : decode cX10_rows 34 = .ok (.aload_n 0, 1) := by decide +kernel
theorem dX10_rows_35 : decode cX10_rows 35 = .ok (.getfield 33, 3) := by decide +kernel
theorem dX10_rows_38 : decode cX10_rows 38 = .ok (.iload_n 1, 1) := by decide +kernel
theorem dX10_rows_39 : decode cX10_rows 39 = .ok (.iload_n 2, 1) := by decide +kernel
theorem dX10_rows_40 : decode cX10_rows 40 = .ok (.invokevirtual 316, 3) := by decide +kernel
theorem dX10_rows_43 : decode cX10_rows 43 = .ok (.lreturn, 1) := by decide +kernel
theorem dX10_bit_0 : decode cX10_bit 0 = .ok (.iload_n 0, 1) := by decide +kernel
theorem dX10_bit_1 : decode cX10_bit 1 = .ok (.iload_n 1, 1) := by decide +kernel
theorem dX10_bit_2 : decode cX10_bit 2 = .ok (.ishr, 1) := by decide +kernel
theorem dX10_bit_3 : decode cX10_bit 3 = .ok (.iconst 1, 1) := by decide +kernel
theorem dX10_bit_4 : decode cX10_bit 4 = .ok (.iand, 1) := by decide +kernel
theorem dX10_bit_5 : decode cX10_bit 5 = .ok (.ireturn, 1) := by decide +kernel
theorem dX10_isLine_0 : decode cX10_isLine 0 = .ok (.aload_n 0, 1) := by decide +kernel
theorem dX10_isLine_1 : decode cX10_isLine 1 = .ok (.getfield 96, 3) := by decide +kernel
theorem dX10_isLine_4 : decode cX10_isLine 4 = .ok (.ifCond .eq 32, 3) := by decide +kernel
theorem dX10_isLine_7 : decode cX10_isLine 7 = .ok (.iload_n 1, 1) := by decide +kernel
theorem dX10_isLine_8 : decode cX10_isLine 8 = .ok (.ifCond .lt 28, 3) := by decide +kernel
theorem dX10_isLine_11 : decode cX10_isLine 11 = .ok (.iload_n 1, 1) := by decide +kernel
theorem dX10_isLine_12 : decode cX10_isLine 12 = .ok (.bipush 16, 2) := by decide +kernel
theorem dX10_isLine_14 : decode cX10_isLine 14 = .ok (.if_icmp .ge 22, 3) := by decide +kernel
theorem dX10_isLine_17 : decode cX10_isLine 17 = .ok (.aload_n 0, 1) := by decide +kernel
theorem dX10_isLine_18 : decode cX10_isLine 18 = .ok (.getfield 75, 3) := by decide +kernel
theorem dX10_isLine_21 : decode cX10_isLine 21 = .ok (.getfield 200, 3) := by decide +kernel
theorem dX10_isLine_24 : decode cX10_isLine 24 = .ok (.iload_n 1, 1) := by decide +kernel
theorem dX10_isLine_25 : decode cX10_isLine 25 = .ok (.invokestatic 135, 3) := by decide +kernel
theorem dX10_isLine_28 : decode cX10_isLine 28 = .ok (.iconst 1, 1) := by decide +kernel
theorem dX10_isLine_29 : decode cX10_isLine 29 = .ok (.if_icmp .ne 7, 3) := by decide +kernel
theorem dX10_isLine_32 : decode cX10_isLine 32 = .ok (.iconst 1, 1) := by decide +kernel
theorem dX10_isLine_33 : decode cX10_isLine 33 = .ok (.goto 4, 3) := by decide +kernel
theorem dX10_isLine_36 : decode cX10_isLine 36 = .ok (.iconst 0, 1) := by decide +kernel
theorem dX10_isLine_37 : decode cX10_isLine 37 = .ok (.ireturn, 1) := by decide +kernel
theorem dX10_isAnswer_0 : decode cX10_isAnswer 0 = .ok (.aload_n 0, 1) := by decide +kernel
theorem dX10_isAnswer_1 : decode cX10_isAnswer 1 = .ok (.getfield 96, 3) := by decide +kernel
theorem dX10_isAnswer_4 : decode cX10_isAnswer 4 = .ok (.ifCond .eq 22, 3) := by decide +kernel
theorem dX10_isAnswer_7 : decode cX10_isAnswer 7 = .ok (.iload_n 1, 1) := by decide +kernel
theorem dX10_isAnswer_8 : decode cX10_isAnswer 8 = .ok (.ifCond .lt 18, 3) := by decide +kernel
theorem dX10_isAnswer_11 : decode cX10_isAnswer 11 = .ok (.iload_n 1, 1) := by decide +kernel
theorem dX10_isAnswer_12 : decode cX10_isAnswer 12 = .ok (.aload_n 0, 1) := by decide +kernel
theorem dX10_isAnswer_13 : decode cX10_isAnswer 13 = .ok (.getfield 75, 3) := by decide +kernel
theorem dX10_isAnswer_16 : decode cX10_isAnswer 16 = .ok (.getfield 108, 3) := by decide +kernel
theorem dX10_isAnswer_19 : decode cX10_isAnswer 19 = .ok (.if_icmp .ge 7, 3) := by decide +kernel
theorem dX10_isAnswer_22 : decode cX10_isAnswer 22 = .ok (.iconst 1, 1) := by decide +kernel
theorem dX10_isAnswer_23 : decode cX10_isAnswer 23 = .ok (.goto 4, 3) := by decide +kernel
theorem dX10_isAnswer_26 : decode cX10_isAnswer 26 = .ok (.iconst 0, 1) := by decide +kernel
theorem dX10_isAnswer_27 : decode cX10_isAnswer 27 = .ok (.ireturn, 1) := by decide +kernel
theorem dX10_isOpenHere_0 : decode cX10_isOpenHere 0 = .ok (.aload_n 0, 1) := by decide +kernel
theorem dX10_isOpenHere_1 : decode cX10_isOpenHere 1 = .ok (.getfield 75, 3) := by decide +kernel
theorem dX10_isOpenHere_4 : decode cX10_isOpenHere 4 = .ok (.iload_n 1, 1) := by decide +kernel
theorem dX10_isOpenHere_5 : decode cX10_isOpenHere 5 = .ok (.aload_n 0, 1) := by decide +kernel
theorem dX10_isOpenHere_6 : decode cX10_isOpenHere 6 = .ok (.getfield 19, 3) := by decide +kernel
theorem dX10_isOpenHere_9 : decode cX10_isOpenHere 9 = .ok (.aload_n 0, 1) := by decide +kernel
theorem dX10_isOpenHere_10 : decode cX10_isOpenHere 10 = .ok (.getfield 75, 3) := by decide +kernel
theorem dX10_isOpenHere_13 : decode cX10_isOpenHere 13 = .ok (.invokevirtual 128, 3) := by decide +kernel
theorem dX10_isOpenHere_16 : decode cX10_isOpenHere 16 = .ok (.aload_n 0, 1) := by decide +kernel
theorem dX10_isOpenHere_17 : decode cX10_isOpenHere 17 = .ok (.getfield 19, 3) := by decide +kernel
theorem dX10_isOpenHere_20 : decode cX10_isOpenHere 20 = .ok (.aload_n 0, 1) := by decide +kernel
theorem dX10_isOpenHere_21 : decode cX10_isOpenHere 21 = .ok (.getfield 75, 3) := by decide +kernel
theorem dX10_isOpenHere_24 : decode cX10_isOpenHere 24 = .ok (.invokevirtual 190, 3) := by decide +kernel
theorem dX10_isOpenHere_27 : decode cX10_isOpenHere 27 = .ok (.invokevirtual 320, 3) := by decide +kernel
theorem dX10_isOpenHere_30 : decode cX10_isOpenHere 30 = .ok (.ireturn, 1) := by decide +kernel
theorem dX10_openHere_0 : decode cX10_openHere 0 = .ok (.iconst 0, 1) := by decide +kernel
theorem dX10_openHere_1 : decode cX10_openHere 1 = .ok (.istore_n 1, 1) := by decide +kernel
theorem dX10_openHere_2 : decode cX10_openHere 2 = .ok (.iconst 0, 1) := by decide +kernel
theorem dX10_openHere_3 : decode cX10_openHere 3 = .ok (.istore_n 2, 1) := by decide +kernel
theorem dX10_openHere_4 : decode cX10_openHere 4 = .ok (.iload_n 2, 1) := by decide +kernel
theorem dX10_openHere_5 : decode cX10_openHere 5 = .ok (.aload_n 0, 1) := by decide +kernel
theorem dX10_openHere_6 : decode cX10_openHere 6 = .ok (.getfield 75, 3) := by decide +kernel
theorem dX10_openHere_9 : decode cX10_openHere 9 = .ok (.getfield 108, 3) := by decide +kernel
theorem dX10_openHere_12 : decode cX10_openHere 12 = .ok (.if_icmp .ge 20, 3) := by decide +kernel
theorem dX10_openHere_15 : decode cX10_openHere 15 = .ok (.aload_n 0, 1) := by decide +kernel
theorem dX10_openHere_16 : decode cX10_openHere 16 = .ok (.iload_n 2, 1) := by decide +kernel
theorem dX10_openHere_17 : decode cX10_openHere 17 = .ok (.invokevirtual 121, 3) := by decide +kernel
theorem dX10_openHere_20 : decode cX10_openHere 20 = .ok (.ifCond .eq 6, 3) := by decide +kernel
theorem dX10_openHere_23 : decode cX10_openHere 23 = .ok (.iinc 1 1, 3) := by decide +kernel
theorem dX10_openHere_26 : decode cX10_openHere 26 = .ok (.iinc 2 1, 3) := by decide +kernel
theorem dX10_openHere_29 : decode cX10_openHere 29 = .ok (.goto (-25), 3) := by decide +kernel
theorem dX10_openHere_32 : decode cX10_openHere 32 = .ok (.iload_n 1, 1) := by decide +kernel
theorem dX10_openHere_33 : decode cX10_openHere 33 = .ok (.ireturn, 1) := by decide +kernel
theorem dX10_alternativeSet_0 : decode cX10_alternativeSet 0 = .ok (.iload_n 2, 1) := by decide +kernel
theorem dX10_alternativeSet_1 : decode cX10_alternativeSet 1 = .ok (.bipush 10, 2) := by decide +kernel
theorem dX10_alternativeSet_3 : decode cX10_alternativeSet 3 = .ok (.if_icmp .lt 21, 3) := by decide +kernel
theorem dX10_alternativeSet_6 : decode cX10_alternativeSet 6 = .ok (.iload_n 2, 1) := by decide +kernel
theorem dX10_alternativeSet_7 : decode cX10_alternativeSet 7 = .ok (.bipush 10, 2) := by decide +kernel
theorem dX10_alternativeSet_9 : decode cX10_alternativeSet 9 = .ok (.iconst 2, 1) := by decide +kernel
theorem dX10_alternativeSet_10 : decode cX10_alternativeSet 10 = .ok (.aload_n 0, 1) := by decide +kernel
theorem dX10_alternativeSet_11 : decode cX10_alternativeSet 11 = .ok (.getfield 75, 3) := by decide +kernel
theorem dX10_alternativeSet_14 : decode cX10_alternativeSet 14 = .ok (.getfield 175, 3) := by decide +kernel
theorem dX10_alternativeSet_17 : decode cX10_alternativeSet 17 = .ok (.iload_n 1, 1) := by decide +kernel
theorem dX10_alternativeSet_18 : decode cX10_alternativeSet 18 = .ok (.iaload, 1) := by decide +kernel
theorem dX10_alternativeSet_19 : decode cX10_alternativeSet 19 = .ok (.imul, 1) := by decide +kernel
theorem dX10_alternativeSet_20 : decode cX10_alternativeSet 20 = .ok (.iadd, 1) := by decide +kernel
theorem dX10_alternativeSet_21 : decode cX10_alternativeSet 21 = .ok (.if_icmp .lt 6, 3) := by decide +kernel
theorem dX10_alternativeSet_24 : decode cX10_alternativeSet 24 = .ok (.ldc 82, 2) := by decide +kernel
theorem dX10_alternativeSet_26 : decode cX10_alternativeSet 26 = .ok (.ireturn, 1) := by decide +kernel
theorem dX10_alternativeSet_27 : decode cX10_alternativeSet 27 = .ok (.iload_n 1, 1) := by decide +kernel
theorem dX10_alternativeSet_28 : decode cX10_alternativeSet 28 = .ok (.iconst 3, 1) := by decide +kernel
theorem dX10_alternativeSet_29 : decode cX10_alternativeSet 29 = .ok (.imul, 1) := by decide +kernel
theorem dX10_alternativeSet_30 : decode cX10_alternativeSet 30 = .ok (.iload_n 2, 1) := by decide +kernel
theorem dX10_alternativeSet_31 : decode cX10_alternativeSet 31 = .ok (.bipush 10, 2) := by decide +kernel
theorem dX10_alternativeSet_33 : decode cX10_alternativeSet 33 = .ok (.isub, 1) := by decide +kernel
theorem dX10_alternativeSet_34 : decode cX10_alternativeSet 34 = .ok (.iconst 2, 1) := by decide +kernel
theorem dX10_alternativeSet_35 : decode cX10_alternativeSet 35 = .ok (.idiv, 1) := by decide +kernel
theorem dX10_alternativeSet_36 : decode cX10_alternativeSet 36 = .ok (.iadd, 1) := by decide +kernel
theorem dX10_alternativeSet_37 : decode cX10_alternativeSet 37 = .ok (.istore_n 3, 1) := by decide +kernel
theorem dX10_alternativeSet_38 : decode cX10_alternativeSet 38 = .ok (.iload_n 2, 1) := by decide +kernel
theorem dX10_alternativeSet_39 : decode cX10_alternativeSet 39 = .ok (.bipush 10, 2) := by decide +kernel
theorem dX10_alternativeSet_41 : decode cX10_alternativeSet 41 = .ok (.isub, 1) := by decide +kernel
theorem dX10_alternativeSet_42 : decode cX10_alternativeSet 42 = .ok (.iconst 2, 1) := by decide +kernel
theorem dX10_alternativeSet_43 : decode cX10_alternativeSet 43 = .ok (.irem, 1) := by decide +kernel
theorem dX10_alternativeSet_44 : decode cX10_alternativeSet 44 = .ok (.ifCond .ne 15, 3) := by decide +kernel
theorem dX10_alternativeSet_47 : decode cX10_alternativeSet 47 = .ok (.aload_n 0, 1) := by decide +kernel
theorem dX10_alternativeSet_48 : decode cX10_alternativeSet 48 = .ok (.getfield 75, 3) := by decide +kernel
theorem dX10_alternativeSet_51 : decode cX10_alternativeSet 51 = .ok (.getfield 324, 3) := by decide +kernel
theorem dX10_alternativeSet_54 : decode cX10_alternativeSet 54 = .ok (.iload_n 3, 1) := by decide +kernel
theorem dX10_alternativeSet_55 : decode cX10_alternativeSet 55 = .ok (.iaload, 1) := by decide +kernel
theorem dX10_alternativeSet_56 : decode cX10_alternativeSet 56 = .ok (.goto 12, 3) := by decide +kernel
theorem dX10_alternativeSet_59 : decode cX10_alternativeSet 59 = .ok (.aload_n 0, 1) := by decide +kernel
theorem dX10_alternativeSet_60 : decode cX10_alternativeSet 60 = .ok (.getfield 75, 3) := by decide +kernel
theorem dX10_alternativeSet_63 : decode cX10_alternativeSet 63 = .ok (.getfield 327, 3) := by decide +kernel
theorem dX10_alternativeSet_66 : decode cX10_alternativeSet 66 = .ok (.iload_n 3, 1) := by decide +kernel
theorem dX10_alternativeSet_67 : decode cX10_alternativeSet 67 = .ok (.iaload, 1) := by decide +kernel
theorem dX10_alternativeSet_68 : decode cX10_alternativeSet 68 = .ok (.ireturn, 1) := by decide +kernel
theorem dX10_refreshGraph_0 : decode cX10_refreshGraph 0 = .ok (.aload_n 0, 1) := by decide +kernel
theorem dX10_refreshGraph_1 : decode cX10_refreshGraph 1 = .ok (.getfield 105, 3) := by decide +kernel
theorem dX10_refreshGraph_4 : decode cX10_refreshGraph 4 = .ok (.ifCond .ne 41, 3) := by decide +kernel
theorem dX10_refreshGraph_7 : decode cX10_refreshGraph 7 = .ok (.aload_n 0, 1) := by decide +kernel
theorem dX10_refreshGraph_8 : decode cX10_refreshGraph 8 = .ok (.getfield 33, 3) := by decide +kernel
theorem dX10_refreshGraph_11 : decode cX10_refreshGraph 11 = .ok (.aload_n 0, 1) := by decide +kernel
theorem dX10_refreshGraph_12 : decode cX10_refreshGraph 12 = .ok (.getfield 75, 3) := by decide +kernel
theorem dX10_refreshGraph_15 : decode cX10_refreshGraph 15 = .ok (.aload_n 0, 1) := by decide +kernel
theorem dX10_refreshGraph_16 : decode cX10_refreshGraph 16 = .ok (.getfield 19, 3) := by decide +kernel
theorem dX10_refreshGraph_19 : decode cX10_refreshGraph 19 = .ok (.getfield 246, 3) := by decide +kernel
theorem dX10_refreshGraph_22 : decode cX10_refreshGraph 22 = .ok (.invokevirtual 330, 3) := by decide +kernel
theorem dX10_refreshGraph_25 : decode cX10_refreshGraph 25 = .ok (.aload_n 0, 1) := by decide +kernel
theorem dX10_refreshGraph_26 : decode cX10_refreshGraph 26 = .ok (.iconst 1, 1) := by decide +kernel
theorem dX10_refreshGraph_27 : decode cX10_refreshGraph 27 = .ok (.putfield 105, 3) := by decide +kernel
theorem dX10_refreshGraph_30 : decode cX10_refreshGraph 30 = .ok (.aload_n 0, 1) := by decide +kernel
theorem dX10_refreshGraph_31 : decode cX10_refreshGraph 31 = .ok (.iconst 0, 1) := by decide +kernel
theorem dX10_refreshGraph_32 : decode cX10_refreshGraph 32 = .ok (.putfield 334, 3) := by decide +kernel
theorem dX10_refreshGraph_35 : decode cX10_refreshGraph 35 = .ok (.aload_n 0, 1) := by decide +kernel
theorem dX10_refreshGraph_36 : decode cX10_refreshGraph 36 = .ok (.iconst 0, 1) := by decide +kernel
theorem dX10_refreshGraph_37 : decode cX10_refreshGraph 37 = .ok (.putfield 337, 3) := by decide +kernel
theorem dX10_refreshGraph_40 : decode cX10_refreshGraph 40 = .ok (.aload_n 0, 1) := by decide +kernel
theorem dX10_refreshGraph_41 : decode cX10_refreshGraph 41 = .ok (.iconst 0, 1) := by decide +kernel
theorem dX10_refreshGraph_42 : decode cX10_refreshGraph 42 = .ok (.putfield 157, 3) := by decide +kernel
theorem dX10_refreshGraph_45 : decode cX10_refreshGraph 45 = .ok (.return_, 1) := by decide +kernel
theorem dX10_refreshHopes_0 : decode cX10_refreshHopes 0 = .ok (.aload_n 0, 1) := by decide +kernel
theorem dX10_refreshHopes_1 : decode cX10_refreshHopes 1 = .ok (.getfield 334, 3) := by decide +kernel
theorem dX10_refreshHopes_4 : decode cX10_refreshHopes 4 = .ok (.ifCond .ne 26, 3) := by decide +kernel
theorem dX10_refreshHopes_7 : decode cX10_refreshHopes 7 = .ok (.aload_n 0, 1) := by decide +kernel
theorem dX10_refreshHopes_8 : decode cX10_refreshHopes 8 = .ok (.getfield 47, 3) := by decide +kernel
theorem dX10_refreshHopes_11 : decode cX10_refreshHopes 11 = .ok (.aload_n 0, 1) := by decide +kernel
theorem dX10_refreshHopes_12 : decode cX10_refreshHopes 12 = .ok (.getfield 33, 3) := by decide +kernel
theorem dX10_refreshHopes_15 : decode cX10_refreshHopes 15 = .ok (.aload_n 0, 1) := by decide +kernel
theorem dX10_refreshHopes_16 : decode cX10_refreshHopes 16 = .ok (.getfield 75, 3) := by decide +kernel
theorem dX10_refreshHopes_19 : decode cX10_refreshHopes 19 = .ok (.getfield 203, 3) := by decide +kernel
theorem dX10_refreshHopes_22 : decode cX10_refreshHopes 22 = .ok (.invokevirtual 340, 3) := by decide +kernel
theorem dX10_refreshHopes_25 : decode cX10_refreshHopes 25 = .ok (.aload_n 0, 1) := by decide +kernel
theorem dX10_refreshHopes_26 : decode cX10_refreshHopes 26 = .ok (.iconst 1, 1) := by decide +kernel
theorem dX10_refreshHopes_27 : decode cX10_refreshHopes 27 = .ok (.putfield 334, 3) := by decide +kernel
theorem dX10_refreshHopes_30 : decode cX10_refreshHopes 30 = .ok (.return_, 1) := by decide +kernel
theorem dX10_refreshLoops_0 : decode cX10_refreshLoops 0 = .ok (.aload_n 0, 1) := by decide +kernel
theorem dX10_refreshLoops_1 : decode cX10_refreshLoops 1 = .ok (.getfield 337, 3) := by decide +kernel
theorem dX10_refreshLoops_4 : decode cX10_refreshLoops 4 = .ok (.ifCond .ne 19, 3) := by decide +kernel
theorem dX10_refreshLoops_7 : decode cX10_refreshLoops 7 = .ok (.aload_n 0, 1) := by decide +kernel
theorem dX10_refreshLoops_8 : decode cX10_refreshLoops 8 = .ok (.getfield 54, 3) := by decide +kernel
theorem dX10_refreshLoops_11 : decode cX10_refreshLoops 11 = .ok (.aload_n 0, 1) := by decide +kernel
theorem dX10_refreshLoops_12 : decode cX10_refreshLoops 12 = .ok (.getfield 33, 3) := by decide +kernel
theorem dX10_refreshLoops_15 : decode cX10_refreshLoops 15 = .ok (.invokevirtual 344, 3) := by decide +kernel
theorem dX10_refreshLoops_18 : decode cX10_refreshLoops 18 = .ok (.aload_n 0, 1) := by decide +kernel
theorem dX10_refreshLoops_19 : decode cX10_refreshLoops 19 = .ok (.iconst 1, 1) := by decide +kernel
theorem dX10_refreshLoops_20 : decode cX10_refreshLoops 20 = .ok (.putfield 337, 3) := by decide +kernel
theorem dX10_refreshLoops_23 : decode cX10_refreshLoops 23 = .ok (.return_, 1) := by decide +kernel
theorem dX10_refreshPrices_0 : decode cX10_refreshPrices 0 = .ok (.aload_n 0, 1) := by decide +kernel
theorem dX10_refreshPrices_1 : decode cX10_refreshPrices 1 = .ok (.getfield 157, 3) := by decide +kernel
theorem dX10_refreshPrices_4 : decode cX10_refreshPrices 4 = .ok (.ifCond .ne 26, 3) := by decide +kernel
theorem dX10_refreshPrices_7 : decode cX10_refreshPrices 7 = .ok (.aload_n 0, 1) := by decide +kernel
theorem dX10_refreshPrices_8 : decode cX10_refreshPrices 8 = .ok (.getfield 61, 3) := by decide +kernel
theorem dX10_refreshPrices_11 : decode cX10_refreshPrices 11 = .ok (.aload_n 0, 1) := by decide +kernel
theorem dX10_refreshPrices_12 : decode cX10_refreshPrices 12 = .ok (.getfield 33, 3) := by decide +kernel
theorem dX10_refreshPrices_15 : decode cX10_refreshPrices 15 = .ok (.aload_n 0, 1) := by decide +kernel
theorem dX10_refreshPrices_16 : decode cX10_refreshPrices 16 = .ok (.getfield 75, 3) := by decide +kernel
theorem dX10_refreshPrices_19 : decode cX10_refreshPrices 19 = .ok (.getfield 153, 3) := by decide +kernel
theorem dX10_refreshPrices_22 : decode cX10_refreshPrices 22 = .ok (.invokevirtual 347, 3) := by decide +kernel
theorem dX10_refreshPrices_25 : decode cX10_refreshPrices 25 = .ok (.aload_n 0, 1) := by decide +kernel
theorem dX10_refreshPrices_26 : decode cX10_refreshPrices 26 = .ok (.iconst 1, 1) := by decide +kernel
theorem dX10_refreshPrices_27 : decode cX10_refreshPrices 27 = .ok (.putfield 157, 3) := by decide +kernel
theorem dX10_refreshPrices_30 : decode cX10_refreshPrices 30 = .ok (.return_, 1) := by decide +kernel
theorem dX10_isStuck_0 : decode cX10_isStuck 0 = .ok (.aload_n 0, 1) := by decide +kernel
theorem dX10_isStuck_1 : decode cX10_isStuck 1 = .ok (.getfield 33, 3) := by decide +kernel
theorem dX10_isStuck_4 : decode cX10_isStuck 4 = .ok (.iload_n 1, 1) := by decide +kernel
theorem dX10_isStuck_5 : decode cX10_isStuck 5 = .ok (.invokevirtual 350, 3) := by decide +kernel
theorem dX10_isStuck_8 : decode cX10_isStuck 8 = .ok (.ifCond .ne 28, 3) := by decide +kernel
theorem dX10_isStuck_11 : decode cX10_isStuck 11 = .ok (.aload_n 0, 1) := by decide +kernel
theorem dX10_isStuck_12 : decode cX10_isStuck 12 = .ok (.getfield 75, 3) := by decide +kernel
theorem dX10_isStuck_15 : decode cX10_isStuck 15 = .ok (.getfield 203, 3) := by decide +kernel
theorem dX10_isStuck_18 : decode cX10_isStuck 18 = .ok (.aload_n 0, 1) := by decide +kernel
theorem dX10_isStuck_19 : decode cX10_isStuck 19 = .ok (.getfield 33, 3) := by decide +kernel
theorem dX10_isStuck_22 : decode cX10_isStuck 22 = .ok (.iload_n 1, 1) := by decide +kernel
theorem dX10_isStuck_23 : decode cX10_isStuck 23 = .ok (.invokevirtual 265, 3) := by decide +kernel
theorem dX10_isStuck_26 : decode cX10_isStuck 26 = .ok (.invokestatic 135, 3) := by decide +kernel
theorem dX10_isStuck_29 : decode cX10_isStuck 29 = .ok (.ifCond .ne 7, 3) := by decide +kernel
theorem dX10_isStuck_32 : decode cX10_isStuck 32 = .ok (.iconst 1, 1) := by decide +kernel
theorem dX10_isStuck_33 : decode cX10_isStuck 33 = .ok (.goto 4, 3) := by decide +kernel
theorem dX10_isStuck_36 : decode cX10_isStuck 36 = .ok (.iconst 0, 1) := by decide +kernel
theorem dX10_isStuck_37 : decode cX10_isStuck 37 = .ok (.ireturn, 1) := by decide +kernel
theorem dX10_stuckStates_0 : decode cX10_stuckStates 0 = .ok (.iconst 0, 1) := by decide +kernel
theorem dX10_stuckStates_1 : decode cX10_stuckStates 1 = .ok (.istore_n 2, 1) := by decide +kernel
theorem dX10_stuckStates_2 : decode cX10_stuckStates 2 = .ok (.iconst 0, 1) := by decide +kernel
theorem dX10_stuckStates_3 : decode cX10_stuckStates 3 = .ok (.istore_n 3, 1) := by decide +kernel
theorem dX10_stuckStates_4 : decode cX10_stuckStates 4 = .ok (.iload_n 3, 1) := by decide +kernel
theorem dX10_stuckStates_5 : decode cX10_stuckStates 5 = .ok (.aload_n 0, 1) := by decide +kernel
theorem dX10_stuckStates_6 : decode cX10_stuckStates 6 = .ok (.getfield 33, 3) := by decide +kernel
theorem dX10_stuckStates_9 : decode cX10_stuckStates 9 = .ok (.getfield 262, 3) := by decide +kernel
theorem dX10_stuckStates_12 : decode cX10_stuckStates 12 = .ok (.if_icmp .ge 32, 3) := by decide +kernel
theorem dX10_stuckStates_15 : decode cX10_stuckStates 15 = .ok (.aload_n 0, 1) := by decide +kernel
theorem dX10_stuckStates_16 : decode cX10_stuckStates 16 = .ok (.getfield 33, 3) := by decide +kernel
theorem dX10_stuckStates_19 : decode cX10_stuckStates 19 = .ok (.iload_n 3, 1) := by decide +kernel
theorem dX10_stuckStates_20 : decode cX10_stuckStates 20 = .ok (.invokevirtual 265, 3) := by decide +kernel
theorem dX10_stuckStates_23 : decode cX10_stuckStates 23 = .ok (.iload_n 1, 1) := by decide +kernel
theorem dX10_stuckStates_24 : decode cX10_stuckStates 24 = .ok (.if_icmp .ne 14, 3) := by decide +kernel
theorem dX10_stuckStates_27 : decode cX10_stuckStates 27 = .ok (.aload_n 0, 1) := by decide +kernel
theorem dX10_stuckStates_28 : decode cX10_stuckStates 28 = .ok (.iload_n 3, 1) := by decide +kernel
theorem dX10_stuckStates_29 : decode cX10_stuckStates 29 = .ok (.invokevirtual 353, 3) := by decide +kernel
theorem dX10_stuckStates_32 : decode cX10_stuckStates 32 = .ok (.ifCond .eq 6, 3) := by decide +kernel
theorem dX10_stuckStates_35 : decode cX10_stuckStates 35 = .ok (.iinc 2 1, 3) := by decide +kernel
theorem dX10_stuckStates_38 : decode cX10_stuckStates 38 = .ok (.iinc 3 1, 3) := by decide +kernel
theorem dX10_stuckStates_41 : decode cX10_stuckStates 41 = .ok (.goto (-37), 3) := by decide +kernel
theorem dX10_stuckStates_44 : decode cX10_stuckStates 44 = .ok (.iload_n 2, 1) := by decide +kernel
theorem dX10_stuckStates_45 : decode cX10_stuckStates 45 = .ok (.ireturn, 1) := by decide +kernel
theorem dX10_stuckLines_0 : decode cX10_stuckLines 0 = .ok (.iconst 0, 1) := by decide +kernel
theorem dX10_stuckLines_1 : decode cX10_stuckLines 1 = .ok (.istore_n 1, 1) := by decide +kernel
theorem dX10_stuckLines_2 : decode cX10_stuckLines 2 = .ok (.iconst 0, 1) := by decide +kernel
theorem dX10_stuckLines_3 : decode cX10_stuckLines 3 = .ok (.istore_n 2, 1) := by decide +kernel
theorem dX10_stuckLines_4 : decode cX10_stuckLines 4 = .ok (.iload_n 2, 1) := by decide +kernel
theorem dX10_stuckLines_5 : decode cX10_stuckLines 5 = .ok (.aload_n 0, 1) := by decide +kernel
theorem dX10_stuckLines_6 : decode cX10_stuckLines 6 = .ok (.getfield 33, 3) := by decide +kernel
theorem dX10_stuckLines_9 : decode cX10_stuckLines 9 = .ok (.getfield 262, 3) := by decide +kernel
theorem dX10_stuckLines_12 : decode cX10_stuckLines 12 = .ok (.if_icmp .ge 30, 3) := by decide +kernel
theorem dX10_stuckLines_15 : decode cX10_stuckLines 15 = .ok (.aload_n 0, 1) := by decide +kernel
theorem dX10_stuckLines_16 : decode cX10_stuckLines 16 = .ok (.iload_n 2, 1) := by decide +kernel
theorem dX10_stuckLines_17 : decode cX10_stuckLines 17 = .ok (.invokevirtual 353, 3) := by decide +kernel
theorem dX10_stuckLines_20 : decode cX10_stuckLines 20 = .ok (.ifCond .eq 16, 3) := by decide +kernel
theorem dX10_stuckLines_23 : decode cX10_stuckLines 23 = .ok (.iload_n 1, 1) := by decide +kernel
theorem dX10_stuckLines_24 : decode cX10_stuckLines 24 = .ok (.iconst 1, 1) := by decide +kernel
theorem dX10_stuckLines_25 : decode cX10_stuckLines 25 = .ok (.aload_n 0, 1) := by decide +kernel
theorem dX10_stuckLines_26 : decode cX10_stuckLines 26 = .ok (.getfield 33, 3) := by decide +kernel
theorem dX10_stuckLines_29 : decode cX10_stuckLines 29 = .ok (.iload_n 2, 1) := by decide +kernel
theorem dX10_stuckLines_30 : decode cX10_stuckLines 30 = .ok (.invokevirtual 265, 3) := by decide +kernel
theorem dX10_stuckLines_33 : decode cX10_stuckLines 33 = .ok (.ishl, 1) := by decide +kernel
theorem dX10_stuckLines_34 : decode cX10_stuckLines 34 = .ok (.ior, 1) := by decide +kernel
theorem dX10_stuckLines_35 : decode cX10_stuckLines 35 = .ok (.istore_n 1, 1) := by decide +kernel
theorem dX10_stuckLines_36 : decode cX10_stuckLines 36 = .ok (.iinc 2 1, 3) := by decide +kernel
theorem dX10_stuckLines_39 : decode cX10_stuckLines 39 = .ok (.goto (-35), 3) := by decide +kernel
theorem dX10_stuckLines_42 : decode cX10_stuckLines 42 = .ok (.iload_n 1, 1) := by decide +kernel
theorem dX10_stuckLines_43 : decode cX10_stuckLines 43 = .ok (.ireturn, 1) := by decide +kernel
theorem dX10_lostStates_0 : decode cX10_lostStates 0 = .ok (.aload_n 0, 1) := by decide +kernel
theorem dX10_lostStates_1 : decode cX10_lostStates 1 = .ok (.invokevirtual 356, 3) := by decide +kernel
theorem dX10_lostStates_4 : decode cX10_lostStates 4 = .ok (.iconst 0, 1) := by decide +kernel
theorem dX10_lostStates_5 : decode cX10_lostStates 5 = .ok (.istore_n 2, 1) := by decide +kernel
theorem dX10_lostStates_6 : decode cX10_lostStates 6 = .ok (.iconst 0, 1) := by decide +kernel
theorem dX10_lostStates_7 : decode cX10_lostStates 7 = .ok (.istore_n 3, 1) := by decide +kernel
theorem dX10_lostStates_8 : decode cX10_lostStates 8 = .ok (.iload_n 3, 1) := by decide +kernel
theorem dX10_lostStates_9 : decode cX10_lostStates 9 = .ok (.aload_n 0, 1) := by decide +kernel
theorem dX10_lostStates_10 : decode cX10_lostStates 10 = .ok (.getfield 33, 3) := by decide +kernel
theorem dX10_lostStates_13 : decode cX10_lostStates 13 = .ok (.getfield 262, 3) := by decide +kernel
theorem dX10_lostStates_16 : decode cX10_lostStates 16 = .ok (.if_icmp .ge 36, 3) := by decide +kernel
theorem dX10_lostStates_19 : decode cX10_lostStates 19 = .ok (.aload_n 0, 1) := by decide +kernel
theorem dX10_lostStates_20 : decode cX10_lostStates 20 = .ok (.getfield 33, 3) := by decide +kernel
theorem dX10_lostStates_23 : decode cX10_lostStates 23 = .ok (.iload_n 3, 1) := by decide +kernel
theorem dX10_lostStates_24 : decode cX10_lostStates 24 = .ok (.invokevirtual 265, 3) := by decide +kernel
theorem dX10_lostStates_27 : decode cX10_lostStates 27 = .ok (.iload_n 1, 1) := by decide +kernel
theorem dX10_lostStates_28 : decode cX10_lostStates 28 = .ok (.if_icmp .ne 18, 3) := by decide +kernel
theorem dX10_lostStates_31 : decode cX10_lostStates 31 = .ok (.aload_n 0, 1) := by decide +kernel
theorem dX10_lostStates_32 : decode cX10_lostStates 32 = .ok (.getfield 47, 3) := by decide +kernel
theorem dX10_lostStates_35 : decode cX10_lostStates 35 = .ok (.getfield 359, 3) := by decide +kernel
theorem dX10_lostStates_38 : decode cX10_lostStates 38 = .ok (.iload_n 3, 1) := by decide +kernel
theorem dX10_lostStates_39 : decode cX10_lostStates 39 = .ok (.baload, 1) := by decide +kernel
theorem dX10_lostStates_40 : decode cX10_lostStates 40 = .ok (.ifCond .ne 6, 3) := by decide +kernel
theorem dX10_lostStates_43 : decode cX10_lostStates 43 = .ok (.iinc 2 1, 3) := by decide +kernel
theorem dX10_lostStates_46 : decode cX10_lostStates 46 = .ok (.iinc 3 1, 3) := by decide +kernel
theorem dX10_lostStates_49 : decode cX10_lostStates 49 = .ok (.goto (-41), 3) := by decide +kernel
theorem dX10_lostStates_52 : decode cX10_lostStates 52 = .ok (.iload_n 2, 1) := by decide +kernel
theorem dX10_lostStates_53 : decode cX10_lostStates 53 = .ok (.ireturn, 1) := by decide +kernel
theorem dX10_lostLines_0 : decode cX10_lostLines 0 = .ok (.aload_n 0, 1) := by decide +kernel
theorem dX10_lostLines_1 : decode cX10_lostLines 1 = .ok (.invokevirtual 356, 3) := by decide +kernel
theorem dX10_lostLines_4 : decode cX10_lostLines 4 = .ok (.iconst 0, 1) := by decide +kernel
theorem dX10_lostLines_5 : decode cX10_lostLines 5 = .ok (.istore_n 1, 1) := by decide +kernel
theorem dX10_lostLines_6 : decode cX10_lostLines 6 = .ok (.iconst 0, 1) := by decide +kernel
theorem dX10_lostLines_7 : decode cX10_lostLines 7 = .ok (.istore_n 2, 1) := by decide +kernel
theorem dX10_lostLines_8 : decode cX10_lostLines 8 = .ok (.iload_n 2, 1) := by decide +kernel
theorem dX10_lostLines_9 : decode cX10_lostLines 9 = .ok (.aload_n 0, 1) := by decide +kernel
theorem dX10_lostLines_10 : decode cX10_lostLines 10 = .ok (.getfield 33, 3) := by decide +kernel
theorem dX10_lostLines_13 : decode cX10_lostLines 13 = .ok (.getfield 262, 3) := by decide +kernel
theorem dX10_lostLines_16 : decode cX10_lostLines 16 = .ok (.if_icmp .ge 34, 3) := by decide +kernel
theorem dX10_lostLines_19 : decode cX10_lostLines 19 = .ok (.aload_n 0, 1) := by decide +kernel
theorem dX10_lostLines_20 : decode cX10_lostLines 20 = .ok (.getfield 47, 3) := by decide +kernel
theorem dX10_lostLines_23 : decode cX10_lostLines 23 = .ok (.getfield 359, 3) := by decide +kernel
theorem dX10_lostLines_26 : decode cX10_lostLines 26 = .ok (.iload_n 2, 1) := by decide +kernel
theorem dX10_lostLines_27 : decode cX10_lostLines 27 = .ok (.baload, 1) := by decide +kernel
theorem dX10_lostLines_28 : decode cX10_lostLines 28 = .ok (.ifCond .ne 16, 3) := by decide +kernel
theorem dX10_lostLines_31 : decode cX10_lostLines 31 = .ok (.iload_n 1, 1) := by decide +kernel
theorem dX10_lostLines_32 : decode cX10_lostLines 32 = .ok (.iconst 1, 1) := by decide +kernel
theorem dX10_lostLines_33 : decode cX10_lostLines 33 = .ok (.aload_n 0, 1) := by decide +kernel
theorem dX10_lostLines_34 : decode cX10_lostLines 34 = .ok (.getfield 33, 3) := by decide +kernel
theorem dX10_lostLines_37 : decode cX10_lostLines 37 = .ok (.iload_n 2, 1) := by decide +kernel
theorem dX10_lostLines_38 : decode cX10_lostLines 38 = .ok (.invokevirtual 265, 3) := by decide +kernel
theorem dX10_lostLines_41 : decode cX10_lostLines 41 = .ok (.ishl, 1) := by decide +kernel
theorem dX10_lostLines_42 : decode cX10_lostLines 42 = .ok (.ior, 1) := by decide +kernel
theorem dX10_lostLines_43 : decode cX10_lostLines 43 = .ok (.istore_n 1, 1) := by decide +kernel
theorem dX10_lostLines_44 : decode cX10_lostLines 44 = .ok (.iinc 2 1, 3) := by decide +kernel
theorem dX10_lostLines_47 : decode cX10_lostLines 47 = .ok (.goto (-39), 3) := by decide +kernel
theorem dX10_lostLines_50 : decode cX10_lostLines 50 = .ok (.iload_n 1, 1) := by decide +kernel
theorem dX10_lostLines_51 : decode cX10_lostLines 51 = .ok (.ireturn, 1) := by decide +kernel
theorem dX10_loopingLines_0 : decode cX10_loopingLines 0 = .ok (.aload_n 0, 1) := by decide +kernel
theorem dX10_loopingLines_1 : decode cX10_loopingLines 1 = .ok (.invokevirtual 259, 3) := by decide +kernel
theorem dX10_loopingLines_4 : decode cX10_loopingLines 4 = .ok (.iconst 0, 1) := by decide +kernel
theorem dX10_loopingLines_5 : decode cX10_loopingLines 5 = .ok (.istore_n 1, 1) := by decide +kernel
theorem dX10_loopingLines_6 : decode cX10_loopingLines 6 = .ok (.iconst 0, 1) := by decide +kernel
theorem dX10_loopingLines_7 : decode cX10_loopingLines 7 = .ok (.istore_n 2, 1) := by decide +kernel
theorem dX10_loopingLines_8 : decode cX10_loopingLines 8 = .ok (.iload_n 2, 1) := by decide +kernel
theorem dX10_loopingLines_9 : decode cX10_loopingLines 9 = .ok (.aload_n 0, 1) := by decide +kernel
theorem dX10_loopingLines_10 : decode cX10_loopingLines 10 = .ok (.getfield 33, 3) := by decide +kernel
theorem dX10_loopingLines_13 : decode cX10_loopingLines 13 = .ok (.getfield 262, 3) := by decide +kernel
theorem dX10_loopingLines_16 : decode cX10_loopingLines 16 = .ok (.if_icmp .ge 34, 3) := by decide +kernel
theorem dX10_loopingLines_19 : decode cX10_loopingLines 19 = .ok (.aload_n 0, 1) := by decide +kernel
theorem dX10_loopingLines_20 : decode cX10_loopingLines 20 = .ok (.getfield 54, 3) := by decide +kernel
theorem dX10_loopingLines_23 : decode cX10_loopingLines 23 = .ok (.getfield 268, 3) := by decide +kernel
theorem dX10_loopingLines_26 : decode cX10_loopingLines 26 = .ok (.iload_n 2, 1) := by decide +kernel
theorem dX10_loopingLines_27 : decode cX10_loopingLines 27 = .ok (.baload, 1) := by decide +kernel
theorem dX10_loopingLines_28 : decode cX10_loopingLines 28 = .ok (.ifCond .eq 16, 3) := by decide +kernel
theorem dX10_loopingLines_31 : decode cX10_loopingLines 31 = .ok (.iload_n 1, 1) := by decide +kernel
theorem dX10_loopingLines_32 : decode cX10_loopingLines 32 = .ok (.iconst 1, 1) := by decide +kernel
theorem dX10_loopingLines_33 : decode cX10_loopingLines 33 = .ok (.aload_n 0, 1) := by decide +kernel
theorem dX10_loopingLines_34 : decode cX10_loopingLines 34 = .ok (.getfield 33, 3) := by decide +kernel
theorem dX10_loopingLines_37 : decode cX10_loopingLines 37 = .ok (.iload_n 2, 1) := by decide +kernel
theorem dX10_loopingLines_38 : decode cX10_loopingLines 38 = .ok (.invokevirtual 265, 3) := by decide +kernel
theorem dX10_loopingLines_41 : decode cX10_loopingLines 41 = .ok (.ishl, 1) := by decide +kernel
theorem dX10_loopingLines_42 : decode cX10_loopingLines 42 = .ok (.ior, 1) := by decide +kernel
theorem dX10_loopingLines_43 : decode cX10_loopingLines 43 = .ok (.istore_n 1, 1) := by decide +kernel
theorem dX10_loopingLines_44 : decode cX10_loopingLines 44 = .ok (.iinc 2 1, 3) := by decide +kernel
theorem dX10_loopingLines_47 : decode cX10_loopingLines 47 = .ok (.goto (-39), 3) := by decide +kernel
theorem dX10_loopingLines_50 : decode cX10_loopingLines 50 = .ok (.iload_n 1, 1) := by decide +kernel
theorem dX10_loopingLines_51 : decode cX10_loopingLines 51 = .ok (.ireturn, 1) := by decide +kernel
theorem dX10_statesAtEndings_0 : decode cX10_statesAtEndings 0 = .ok (.iconst 0, 1) := by decide +kernel
theorem dX10_statesAtEndings_1 : decode cX10_statesAtEndings 1 = .ok (.istore_n 1, 1) := by decide +kernel
theorem dX10_statesAtEndings_2 : decode cX10_statesAtEndings 2 = .ok (.iconst 0, 1) := by decide +kernel
theorem dX10_statesAtEndings_3 : decode cX10_statesAtEndings 3 = .ok (.istore_n 2, 1) := by decide +kernel
theorem dX10_statesAtEndings_4 : decode cX10_statesAtEndings 4 = .ok (.iload_n 2, 1) := by decide +kernel
theorem dX10_statesAtEndings_5 : decode cX10_statesAtEndings 5 = .ok (.aload_n 0, 1) := by decide +kernel
theorem dX10_statesAtEndings_6 : decode cX10_statesAtEndings 6 = .ok (.getfield 33, 3) := by decide +kernel
theorem dX10_statesAtEndings_9 : decode cX10_statesAtEndings 9 = .ok (.getfield 262, 3) := by decide +kernel
theorem dX10_statesAtEndings_12 : decode cX10_statesAtEndings 12 = .ok (.if_icmp .ge 30, 3) := by decide +kernel
theorem dX10_statesAtEndings_15 : decode cX10_statesAtEndings 15 = .ok (.iload_n 1, 1) := by decide +kernel
theorem dX10_statesAtEndings_16 : decode cX10_statesAtEndings 16 = .ok (.aload_n 0, 1) := by decide +kernel
theorem dX10_statesAtEndings_17 : decode cX10_statesAtEndings 17 = .ok (.getfield 75, 3) := by decide +kernel
theorem dX10_statesAtEndings_20 : decode cX10_statesAtEndings 20 = .ok (.getfield 203, 3) := by decide +kernel
theorem dX10_statesAtEndings_23 : decode cX10_statesAtEndings 23 = .ok (.aload_n 0, 1) := by decide +kernel
theorem dX10_statesAtEndings_24 : decode cX10_statesAtEndings 24 = .ok (.getfield 33, 3) := by decide +kernel
theorem dX10_statesAtEndings_27 : decode cX10_statesAtEndings 27 = .ok (.iload_n 2, 1) := by decide +kernel
theorem dX10_statesAtEndings_28 : decode cX10_statesAtEndings 28 = .ok (.invokevirtual 265, 3) := by decide +kernel
theorem dX10_statesAtEndings_31 : decode cX10_statesAtEndings 31 = .ok (.invokestatic 135, 3) := by decide +kernel
theorem dX10_statesAtEndings_34 : decode cX10_statesAtEndings 34 = .ok (.iadd, 1) := by decide +kernel
theorem dX10_statesAtEndings_35 : decode cX10_statesAtEndings 35 = .ok (.istore_n 1, 1) := by decide +kernel
theorem dX10_statesAtEndings_36 : decode cX10_statesAtEndings 36 = .ok (.iinc 2 1, 3) := by decide +kernel
theorem dX10_statesAtEndings_39 : decode cX10_statesAtEndings 39 = .ok (.goto (-35), 3) := by decide +kernel
theorem dX10_statesAtEndings_42 : decode cX10_statesAtEndings 42 = .ok (.iload_n 1, 1) := by decide +kernel
theorem dX10_statesAtEndings_43 : decode cX10_statesAtEndings 43 = .ok (.ireturn, 1) := by decide +kernel
theorem dX10_isMarkReached_0 : decode cX10_isMarkReached 0 = .ok (.aload_n 0, 1) := by decide +kernel
theorem dX10_isMarkReached_1 : decode cX10_isMarkReached 1 = .ok (.invokevirtual 212, 3) := by decide +kernel
theorem dX10_isMarkReached_4 : decode cX10_isMarkReached 4 = .ok (.iconst 0, 1) := by decide +kernel
theorem dX10_isMarkReached_5 : decode cX10_isMarkReached 5 = .ok (.istore_n 2, 1) := by decide +kernel
theorem dX10_isMarkReached_6 : decode cX10_isMarkReached 6 = .ok (.iload_n 2, 1) := by decide +kernel
theorem dX10_isMarkReached_7 : decode cX10_isMarkReached 7 = .ok (.aload_n 0, 1) := by decide +kernel
theorem dX10_isMarkReached_8 : decode cX10_isMarkReached 8 = .ok (.getfield 33, 3) := by decide +kernel
theorem dX10_isMarkReached_11 : decode cX10_isMarkReached 11 = .ok (.getfield 262, 3) := by decide +kernel
theorem dX10_isMarkReached_14 : decode cX10_isMarkReached 14 = .ok (.if_icmp .ge 27, 3) := by decide +kernel
theorem dX10_isMarkReached_17 : decode cX10_isMarkReached 17 = .ok (.aload_n 0, 1) := by decide +kernel
theorem dX10_isMarkReached_18 : decode cX10_isMarkReached 18 = .ok (.getfield 33, 3) := by decide +kernel
theorem dX10_isMarkReached_21 : decode cX10_isMarkReached 21 = .ok (.iload_n 2, 1) := by decide +kernel
theorem dX10_isMarkReached_22 : decode cX10_isMarkReached 22 = .ok (.invokevirtual 362, 3) := by decide +kernel
theorem dX10_isMarkReached_25 : decode cX10_isMarkReached 25 = .ok (.iload_n 1, 1) := by decide +kernel
theorem dX10_isMarkReached_26 : decode cX10_isMarkReached 26 = .ok (.invokestatic 135, 3) := by decide +kernel
theorem dX10_isMarkReached_29 : decode cX10_isMarkReached 29 = .ok (.iconst 1, 1) := by decide +kernel
theorem dX10_isMarkReached_30 : decode cX10_isMarkReached 30 = .ok (.if_icmp .ne 5, 3) := by decide +kernel
theorem dX10_isMarkReached_33 : decode cX10_isMarkReached 33 = .ok (.iconst 1, 1) := by decide +kernel
theorem dX10_isMarkReached_34 : decode cX10_isMarkReached 34 = .ok (.ireturn, 1) := by decide +kernel
theorem dX10_isMarkReached_35 : decode cX10_isMarkReached 35 = .ok (.iinc 2 1, 3) := by decide +kernel
theorem dX10_isMarkReached_38 : decode cX10_isMarkReached 38 = .ok (.goto (-32), 3) := by decide +kernel
theorem dX10_isMarkReached_41 : decode cX10_isMarkReached 41 = .ok (.iconst 0, 1) := by decide +kernel
theorem dX10_isMarkReached_42 : decode cX10_isMarkReached 42 = .ok (.ireturn, 1) := by decide +kernel
theorem dX10_isAskedForInVain_0 : decode cX10_isAskedForInVain 0 = .ok (.aload_n 0, 1) := by decide +kernel
theorem dX10_isAskedForInVain_1 : decode cX10_isAskedForInVain 1 = .ok (.getfield 75, 3) := by decide +kernel
theorem dX10_isAskedForInVain_4 : decode cX10_isAskedForInVain 4 = .ok (.iload_n 1, 1) := by decide +kernel
theorem dX10_isAskedForInVain_5 : decode cX10_isAskedForInVain 5 = .ok (.invokevirtual 279, 3) := by decide +kernel
theorem dX10_isAskedForInVain_8 : decode cX10_isAskedForInVain 8 = .ok (.ifCond .ne 5, 3) := by decide +kernel
theorem dX10_isAskedForInVain_11 : decode cX10_isAskedForInVain 11 = .ok (.iconst 0, 1) := by decide +kernel
theorem dX10_isAskedForInVain_12 : decode cX10_isAskedForInVain 12 = .ok (.ireturn, 1) := by decide +kernel
theorem dX10_isAskedForInVain_13 : decode cX10_isAskedForInVain 13 = .ok (.aload_n 0, 1) := by decide +kernel
theorem dX10_isAskedForInVain_14 : decode cX10_isAskedForInVain 14 = .ok (.invokevirtual 212, 3) := by decide +kernel
theorem dX10_isAskedForInVain_17 : decode cX10_isAskedForInVain 17 = .ok (.iconst 0, 1) := by decide +kernel
theorem dX10_isAskedForInVain_18 : decode cX10_isAskedForInVain 18 = .ok (.istore_n 2, 1) := by decide +kernel
theorem dX10_isAskedForInVain_19 : decode cX10_isAskedForInVain 19 = .ok (.iload_n 2, 1) := by decide +kernel
theorem dX10_isAskedForInVain_20 : decode cX10_isAskedForInVain 20 = .ok (.aload_n 0, 1) := by decide +kernel
theorem dX10_isAskedForInVain_21 : decode cX10_isAskedForInVain 21 = .ok (.getfield 33, 3) := by decide +kernel
theorem dX10_isAskedForInVain_24 : decode cX10_isAskedForInVain 24 = .ok (.getfield 262, 3) := by decide +kernel
theorem dX10_isAskedForInVain_27 : decode cX10_isAskedForInVain 27 = .ok (.if_icmp .ge 35, 3) := by decide +kernel
theorem dX10_isAskedForInVain_30 : decode cX10_isAskedForInVain 30 = .ok (.aload_n 0, 1) := by decide +kernel
theorem dX10_isAskedForInVain_31 : decode cX10_isAskedForInVain 31 = .ok (.iload_n 1, 1) := by decide +kernel
theorem dX10_isAskedForInVain_32 : decode cX10_isAskedForInVain 32 = .ok (.aload_n 0, 1) := by decide +kernel
theorem dX10_isAskedForInVain_33 : decode cX10_isAskedForInVain 33 = .ok (.getfield 33, 3) := by decide +kernel
theorem dX10_isAskedForInVain_36 : decode cX10_isAskedForInVain 36 = .ok (.iload_n 2, 1) := by decide +kernel
theorem dX10_isAskedForInVain_37 : decode cX10_isAskedForInVain 37 = .ok (.invokevirtual 265, 3) := by decide +kernel
theorem dX10_isAskedForInVain_40 : decode cX10_isAskedForInVain 40 = .ok (.aload_n 0, 1) := by decide +kernel
theorem dX10_isAskedForInVain_41 : decode cX10_isAskedForInVain 41 = .ok (.getfield 33, 3) := by decide +kernel
theorem dX10_isAskedForInVain_44 : decode cX10_isAskedForInVain 44 = .ok (.iload_n 2, 1) := by decide +kernel
theorem dX10_isAskedForInVain_45 : decode cX10_isAskedForInVain 45 = .ok (.invokevirtual 362, 3) := by decide +kernel
theorem dX10_isAskedForInVain_48 : decode cX10_isAskedForInVain 48 = .ok (.invokevirtual 365, 3) := by decide +kernel
theorem dX10_isAskedForInVain_51 : decode cX10_isAskedForInVain 51 = .ok (.ifCond .eq 5, 3) := by decide +kernel
theorem dX10_isAskedForInVain_54 : decode cX10_isAskedForInVain 54 = .ok (.iconst 0, 1) := by decide +kernel
theorem dX10_isAskedForInVain_55 : decode cX10_isAskedForInVain 55 = .ok (.ireturn, 1) := by decide +kernel
theorem dX10_isAskedForInVain_56 : decode cX10_isAskedForInVain 56 = .ok (.iinc 2 1, 3) := by decide +kernel
theorem dX10_isAskedForInVain_59 : decode cX10_isAskedForInVain 59 = .ok (.goto (-40), 3) := by decide +kernel
theorem dX10_isAskedForInVain_62 : decode cX10_isAskedForInVain 62 = .ok (.iconst 1, 1) := by decide +kernel
theorem dX10_isAskedForInVain_63 : decode cX10_isAskedForInVain 63 = .ok (.ireturn, 1) := by decide +kernel
theorem dX10_leadsOutWithout_0 : decode cX10_leadsOutWithout 0 = .ok (.aload_n 0, 1) := by decide +kernel
theorem dX10_leadsOutWithout_1 : decode cX10_leadsOutWithout 1 = .ok (.getfield 75, 3) := by decide +kernel
theorem dX10_leadsOutWithout_4 : decode cX10_leadsOutWithout 4 = .ok (.getfield 203, 3) := by decide +kernel
theorem dX10_leadsOutWithout_7 : decode cX10_leadsOutWithout 7 = .ok (.iload_n 2, 1) := by decide +kernel
theorem dX10_leadsOutWithout_8 : decode cX10_leadsOutWithout 8 = .ok (.invokestatic 135, 3) := by decide +kernel
theorem dX10_leadsOutWithout_11 : decode cX10_leadsOutWithout 11 = .ok (.iconst 1, 1) := by decide +kernel
theorem dX10_leadsOutWithout_12 : decode cX10_leadsOutWithout 12 = .ok (.if_icmp .ne 5, 3) := by decide +kernel
theorem dX10_leadsOutWithout_15 : decode cX10_leadsOutWithout 15 = .ok (.iconst 0, 1) := by decide +kernel
theorem dX10_leadsOutWithout_16 : decode cX10_leadsOutWithout 16 = .ok (.ireturn, 1) := by decide +kernel
theorem dX10_leadsOutWithout_17 : decode cX10_leadsOutWithout 17 = .ok (.aload_n 0, 1) := by decide +kernel
theorem dX10_leadsOutWithout_18 : decode cX10_leadsOutWithout 18 = .ok (.getfield 75, 3) := by decide +kernel
theorem dX10_leadsOutWithout_21 : decode cX10_leadsOutWithout 21 = .ok (.getfield 368, 3) := by decide +kernel
theorem dX10_leadsOutWithout_24 : decode cX10_leadsOutWithout 24 = .ok (.iload_n 2, 1) := by decide +kernel
theorem dX10_leadsOutWithout_25 : decode cX10_leadsOutWithout 25 = .ok (.iaload, 1) := by decide +kernel
theorem dX10_leadsOutWithout_26 : decode cX10_leadsOutWithout 26 = .ok (.istore 4, 2) := by decide +kernel
theorem dX10_leadsOutWithout_28 : decode cX10_leadsOutWithout 28 = .ok (.iload 4, 2) := by decide +kernel
theorem dX10_leadsOutWithout_30 : decode cX10_leadsOutWithout 30 = .ok (.aload_n 0, 1) := by decide +kernel
theorem dX10_leadsOutWithout_31 : decode cX10_leadsOutWithout 31 = .ok (.getfield 75, 3) := by decide +kernel
theorem dX10_leadsOutWithout_34 : decode cX10_leadsOutWithout 34 = .ok (.getfield 368, 3) := by decide +kernel
theorem dX10_leadsOutWithout_37 : decode cX10_leadsOutWithout 37 = .ok (.iload_n 2, 1) := by decide +kernel
theorem dX10_leadsOutWithout_38 : decode cX10_leadsOutWithout 38 = .ok (.iconst 1, 1) := by decide +kernel
theorem dX10_leadsOutWithout_39 : decode cX10_leadsOutWithout 39 = .ok (.iadd, 1) := by decide +kernel
theorem dX10_leadsOutWithout_40 : decode cX10_leadsOutWithout 40 = .ok (.iaload, 1) := by decide +kernel
theorem dX10_leadsOutWithout_41 : decode cX10_leadsOutWithout 41 = .ok (.if_icmp .ge 76, 3) := by decide +kernel
theorem dX10_leadsOutWithout_44 : decode cX10_leadsOutWithout 44 = .ok (.aload_n 0, 1) := by decide +kernel
theorem dX10_leadsOutWithout_45 : decode cX10_leadsOutWithout 45 = .ok (.getfield 75, 3) := by decide +kernel
theorem dX10_leadsOutWithout_48 : decode cX10_leadsOutWithout 48 = .ok (.getfield 371, 3) := by decide +kernel
theorem dX10_leadsOutWithout_51 : decode cX10_leadsOutWithout 51 = .ok (.iload 4, 2) := by decide +kernel
theorem dX10_leadsOutWithout_53 : decode cX10_leadsOutWithout 53 = .ok (.iaload, 1) := by decide +kernel
theorem dX10_leadsOutWithout_54 : decode cX10_leadsOutWithout 54 = .ok (.istore 5, 2) := by decide +kernel
theorem dX10_leadsOutWithout_56 : decode cX10_leadsOutWithout 56 = .ok (.aload_n 0, 1) := by decide +kernel
theorem dX10_leadsOutWithout_57 : decode cX10_leadsOutWithout 57 = .ok (.getfield 75, 3) := by decide +kernel
theorem dX10_leadsOutWithout_60 : decode cX10_leadsOutWithout 60 = .ok (.getfield 132, 3) := by decide +kernel
theorem dX10_leadsOutWithout_63 : decode cX10_leadsOutWithout 63 = .ok (.iload 5, 2) := by decide +kernel
theorem dX10_leadsOutWithout_65 : decode cX10_leadsOutWithout 65 = .ok (.invokestatic 135, 3) := by decide +kernel
theorem dX10_leadsOutWithout_68 : decode cX10_leadsOutWithout 68 = .ok (.ifCond .ne 43, 3) := by decide +kernel
theorem dX10_leadsOutWithout_71 : decode cX10_leadsOutWithout 71 = .ok (.aload_n 0, 1) := by decide +kernel
theorem dX10_leadsOutWithout_72 : decode cX10_leadsOutWithout 72 = .ok (.getfield 75, 3) := by decide +kernel
theorem dX10_leadsOutWithout_75 : decode cX10_leadsOutWithout 75 = .ok (.iload 5, 2) := by decide +kernel
theorem dX10_leadsOutWithout_77 : decode cX10_leadsOutWithout 77 = .ok (.iload_n 3, 1) := by decide +kernel
theorem dX10_leadsOutWithout_78 : decode cX10_leadsOutWithout 78 = .ok (.iconst 1, 1) := by decide +kernel
theorem dX10_leadsOutWithout_79 : decode cX10_leadsOutWithout 79 = .ok (.iload_n 1, 1) := by decide +kernel
theorem dX10_leadsOutWithout_80 : decode cX10_leadsOutWithout 80 = .ok (.ishl, 1) := by decide +kernel
theorem dX10_leadsOutWithout_81 : decode cX10_leadsOutWithout 81 = .ok (.invokevirtual 374, 3) := by decide +kernel
theorem dX10_leadsOutWithout_84 : decode cX10_leadsOutWithout 84 = .ok (.ifCond .eq 27, 3) := by decide +kernel
theorem dX10_leadsOutWithout_87 : decode cX10_leadsOutWithout 87 = .ok (.aload_n 0, 1) := by decide +kernel
theorem dX10_leadsOutWithout_88 : decode cX10_leadsOutWithout 88 = .ok (.getfield 33, 3) := by decide +kernel
theorem dX10_leadsOutWithout_91 : decode cX10_leadsOutWithout 91 = .ok (.getfield 377, 3) := by decide +kernel
theorem dX10_leadsOutWithout_94 : decode cX10_leadsOutWithout 94 = .ok (.aload_n 0, 1) := by decide +kernel
theorem dX10_leadsOutWithout_95 : decode cX10_leadsOutWithout 95 = .ok (.getfield 75, 3) := by decide +kernel
theorem dX10_leadsOutWithout_98 : decode cX10_leadsOutWithout 98 = .ok (.iload 5, 2) := by decide +kernel
theorem dX10_leadsOutWithout_100 : decode cX10_leadsOutWithout 100 = .ok (.iload_n 3, 1) := by decide +kernel
theorem dX10_leadsOutWithout_101 : decode cX10_leadsOutWithout 101 = .ok (.invokevirtual 380, 3) := by decide +kernel
theorem dX10_leadsOutWithout_104 : decode cX10_leadsOutWithout 104 = .ok (.iaload, 1) := by decide +kernel
theorem dX10_leadsOutWithout_105 : decode cX10_leadsOutWithout 105 = .ok (.iconst (-1), 1) := by decide +kernel
theorem dX10_leadsOutWithout_106 : decode cX10_leadsOutWithout 106 = .ok (.if_icmp .ne 5, 3) := by decide +kernel
theorem dX10_leadsOutWithout_109 : decode cX10_leadsOutWithout 109 = .ok (.iconst 1, 1) := by decide +kernel
theorem dX10_leadsOutWithout_110 : decode cX10_leadsOutWithout 110 = .ok (.ireturn, 1) := by decide +kernel
theorem dX10_leadsOutWithout_111 : decode cX10_leadsOutWithout 111 = .ok (.iinc 4 1, 3) := by decide +kernel
end
section
-- printed by wip/whole/gen1.py
theorem dX10_leadsOutWithout_114 : decode cX10_leadsOutWithout 114 = .ok (.goto (-86), 3) := by decide +kernel
theorem dX10_leadsOutWithout_117 : decode cX10_leadsOutWithout 117 = .ok (.iconst 0, 1) := by decide +kernel
theorem dX10_leadsOutWithout_118 : decode cX10_leadsOutWithout 118 = .ok (.ireturn, 1) := by decide +kernel
theorem dX11_init_0 : decode cX11_init 0 = .ok (.aload_n 0, 1) := by decide +kernel
theorem dX11_init_1 : decode cX11_init 1 = .ok (.invokespecial 1, 3) := by decide +kernel
theorem dX11_init_4 : decode cX11_init 4 = .ok (.aload_n 0, 1) := by decide +kernel
theorem dX11_init_5 : decode cX11_init 5 = .ok (.bipush 32, 2) := by decide +kernel
theorem dX11_init_7 : decode cX11_init 7 = .ok (.newarray .int, 2) := by decide +kernel
theorem dX11_init_9 : decode cX11_init 9 = .ok (.putfield 7, 3) := by decide +kernel
theorem dX11_init_12 : decode cX11_init 12 = .ok (.aload_n 0, 1) := by decide +kernel
theorem dX11_init_13 : decode cX11_init 13 = .ok (.bipush 32, 2) := by decide +kernel
theorem dX11_init_15 : decode cX11_init 15 = .ok (.newarray .int, 2) := by decide +kernel
theorem dX11_init_17 : decode cX11_init 17 = .ok (.putfield 13, 3) := by decide +kernel
theorem dX11_init_20 : decode cX11_init 20 = .ok (.aload_n 0, 1) := by decide +kernel
theorem dX11_init_21 : decode cX11_init 21 = .ok (.bipush 32, 2) := by decide +kernel
theorem dX11_init_23 : decode cX11_init 23 = .ok (.newarray .int, 2) := by decide +kernel
theorem dX11_init_25 : decode cX11_init 25 = .ok (.putfield 16, 3) := by decide +kernel
theorem dX11_init_28 : decode cX11_init 28 = .ok (.aload_n 0, 1) := by decide +kernel
theorem dX11_init_29 : decode cX11_init 29 = .ok (.bipush 32, 2) := by decide +kernel
theorem dX11_init_31 : decode cX11_init 31 = .ok (.newarray .int, 2) := by decide +kernel
theorem dX11_init_33 : decode cX11_init 33 = .ok (.putfield 19, 3) := by decide +kernel
theorem dX11_init_36 : decode cX11_init 36 = .ok (.aload_n 0, 1) := by decide +kernel
theorem dX11_init_37 : decode cX11_init 37 = .ok (.bipush 96, 2) := by decide +kernel
theorem dX11_init_39 : decode cX11_init 39 = .ok (.newarray .int, 2) := by decide +kernel
theorem dX11_init_41 : decode cX11_init 41 = .ok (.putfield 22, 3) := by decide +kernel
theorem dX11_init_44 : decode cX11_init 44 = .ok (.aload_n 0, 1) := by decide +kernel
theorem dX11_init_45 : decode cX11_init 45 = .ok (.bipush 96, 2) := by decide +kernel
theorem dX11_init_47 : decode cX11_init 47 = .ok (.newarray .int, 2) := by decide +kernel
theorem dX11_init_49 : decode cX11_init 49 = .ok (.putfield 25, 3) := by decide +kernel
theorem dX11_init_52 : decode cX11_init 52 = .ok (.aload_n 0, 1) := by decide +kernel
theorem dX11_init_53 : decode cX11_init 53 = .ok (.bipush 32, 2) := by decide +kernel
theorem dX11_init_55 : decode cX11_init 55 = .ok (.newarray .int, 2) := by decide +kernel
theorem dX11_init_57 : decode cX11_init 57 = .ok (.putfield 28, 3) := by decide +kernel
theorem dX11_init_60 : decode cX11_init 60 = .ok (.aload_n 0, 1) := by decide +kernel
theorem dX11_init_61 : decode cX11_init 61 = .ok (.bipush 32, 2) := by decide +kernel
theorem dX11_init_63 : decode cX11_init 63 = .ok (.newarray .int, 2) := by decide +kernel
theorem dX11_init_65 : decode cX11_init 65 = .ok (.putfield 31, 3) := by decide +kernel
theorem dX11_init_68 : decode cX11_init 68 = .ok (.aload_n 0, 1) := by decide +kernel
theorem dX11_init_69 : decode cX11_init 69 = .ok (.bipush 32, 2) := by decide +kernel
theorem dX11_init_71 : decode cX11_init 71 = .ok (.newarray .boolean, 2) := by decide +kernel
theorem dX11_init_73 : decode cX11_init 73 = .ok (.putfield 34, 3) := by decide +kernel
theorem dX11_init_76 : decode cX11_init 76 = .ok (.aload_n 0, 1) := by decide +kernel
theorem dX11_init_77 : decode cX11_init 77 = .ok (.bipush 60, 2) := by decide +kernel
theorem dX11_init_79 : decode cX11_init 79 = .ok (.newarray .int, 2) := by decide +kernel
theorem dX11_init_81 : decode cX11_init 81 = .ok (.putfield 38, 3) := by decide +kernel
theorem dX11_init_84 : decode cX11_init 84 = .ok (.aload_n 0, 1) := by decide +kernel
theorem dX11_init_85 : decode cX11_init 85 = .ok (.sipush 384, 3) := by decide +kernel
theorem dX11_init_88 : decode cX11_init 88 = .ok (.newarray .int, 2) := by decide +kernel
theorem dX11_init_90 : decode cX11_init 90 = .ok (.putfield 41, 3) := by decide +kernel
theorem dX11_init_93 : decode cX11_init 93 = .ok (.aload_n 0, 1) := by decide +kernel
theorem dX11_init_94 : decode cX11_init 94 = .ok (.sipush 1024, 3) := by decide +kernel
theorem dX11_init_97 : decode cX11_init 97 = .ok (.newarray .int, 2) := by decide +kernel
theorem dX11_init_99 : decode cX11_init 99 = .ok (.putfield 44, 3) := by decide +kernel
theorem dX11_init_102 : decode cX11_init 102 = .ok (.aload_n 0, 1) := by decide +kernel
theorem dX11_init_103 : decode cX11_init 103 = .ok (.sipush 1024, 3) := by decide +kernel
theorem dX11_init_106 : decode cX11_init 106 = .ok (.newarray .int, 2) := by decide +kernel
theorem dX11_init_108 : decode cX11_init 108 = .ok (.putfield 47, 3) := by decide +kernel
theorem dX11_init_111 : decode cX11_init 111 = .ok (.aload_n 0, 1) := by decide +kernel
theorem dX11_init_112 : decode cX11_init 112 = .ok (.sipush 200, 3) := by decide +kernel
theorem dX11_init_115 : decode cX11_init 115 = .ok (.newarray .int, 2) := by decide +kernel
theorem dX11_init_117 : decode cX11_init 117 = .ok (.putfield 50, 3) := by decide +kernel
theorem dX11_init_120 : decode cX11_init 120 = .ok (.aload_n 0, 1) := by decide +kernel
theorem dX11_init_121 : decode cX11_init 121 = .ok (.sipush 192, 3) := by decide +kernel
theorem dX11_init_124 : decode cX11_init 124 = .ok (.newarray .int, 2) := by decide +kernel
theorem dX11_init_126 : decode cX11_init 126 = .ok (.putfield 53, 3) := by decide +kernel
theorem dX11_init_129 : decode cX11_init 129 = .ok (.aload_n 0, 1) := by decide +kernel
theorem dX11_init_130 : decode cX11_init 130 = .ok (.bipush 96, 2) := by decide +kernel
theorem dX11_init_132 : decode cX11_init 132 = .ok (.newarray .int, 2) := by decide +kernel
theorem dX11_init_134 : decode cX11_init 134 = .ok (.putfield 56, 3) := by decide +kernel
theorem dX11_init_137 : decode cX11_init 137 = .ok (.aload_n 0, 1) := by decide +kernel
theorem dX11_init_138 : decode cX11_init 138 = .ok (.bipush 96, 2) := by decide +kernel
theorem dX11_init_140 : decode cX11_init 140 = .ok (.newarray .int, 2) := by decide +kernel
theorem dX11_init_142 : decode cX11_init 142 = .ok (.putfield 59, 3) := by decide +kernel
theorem dX11_init_145 : decode cX11_init 145 = .ok (.aload_n 0, 1) := by decide +kernel
theorem dX11_init_146 : decode cX11_init 146 = .ok (.sipush 1024, 3) := by decide +kernel
theorem dX11_init_149 : decode cX11_init 149 = .ok (.newarray .boolean, 2) := by decide +kernel
theorem dX11_init_151 : decode cX11_init 151 = .ok (.putfield 62, 3) := by decide +kernel
theorem dX11_init_154 : decode cX11_init 154 = .ok (.aload_n 0, 1) := by decide +kernel
theorem dX11_init_155 : decode cX11_init 155 = .ok (.sipush 1024, 3) := by decide +kernel
theorem dX11_init_158 : decode cX11_init 158 = .ok (.newarray .int, 2) := by decide +kernel
theorem dX11_init_160 : decode cX11_init 160 = .ok (.putfield 65, 3) := by decide +kernel
theorem dX11_init_163 : decode cX11_init 163 = .ok (.aload_n 0, 1) := by decide +kernel
theorem dX11_init_164 : decode cX11_init 164 = .ok (.sipush 1024, 3) := by decide +kernel
theorem dX11_init_167 : decode cX11_init 167 = .ok (.newarray .boolean, 2) := by decide +kernel
theorem dX11_init_169 : decode cX11_init 169 = .ok (.putfield 68, 3) := by decide +kernel
theorem dX11_init_172 : decode cX11_init 172 = .ok (.aload_n 0, 1) := by decide +kernel
theorem dX11_init_173 : decode cX11_init 173 = .ok (.sipush 1024, 3) := by decide +kernel
theorem dX11_init_176 : decode cX11_init 176 = .ok (.newarray .boolean, 2) := by decide +kernel
theorem dX11_init_178 : decode cX11_init 178 = .ok (.putfield 71, 3) := by decide +kernel
theorem dX11_init_181 : decode cX11_init 181 = .ok (.aload_n 0, 1) := by decide +kernel
theorem dX11_init_182 : decode cX11_init 182 = .ok (.sipush 1024, 3) := by decide +kernel
theorem dX11_init_185 : decode cX11_init 185 = .ok (.newarray .long, 2) := by decide +kernel
theorem dX11_init_187 : decode cX11_init 187 = .ok (.putfield 74, 3) := by decide +kernel
theorem dX11_init_190 : decode cX11_init 190 = .ok (.aload_n 0, 1) := by decide +kernel
theorem dX11_init_191 : decode cX11_init 191 = .ok (.sipush 1024, 3) := by decide +kernel
theorem dX11_init_194 : decode cX11_init 194 = .ok (.newarray .long, 2) := by decide +kernel
theorem dX11_init_196 : decode cX11_init 196 = .ok (.putfield 78, 3) := by decide +kernel
theorem dX11_init_199 : decode cX11_init 199 = .ok (.return_, 1) := by decide +kernel
theorem dX11_in_0 : decode cX11_in 0 = .ok (.lload_n 0, 1) := by decide +kernel
theorem dX11_in_1 : decode cX11_in 1 = .ok (.lload_n 2, 1) := by decide +kernel
theorem dX11_in_2 : decode cX11_in 2 = .ok (.lcmp, 1) := by decide +kernel
theorem dX11_in_3 : decode cX11_in 3 = .ok (.ifCond .lt 14, 3) := by decide +kernel
theorem dX11_in_6 : decode cX11_in 6 = .ok (.lload_n 0, 1) := by decide +kernel
theorem dX11_in_7 : decode cX11_in 7 = .ok (.lload 4, 2) := by decide +kernel
theorem dX11_in_9 : decode cX11_in 9 = .ok (.lcmp, 1) := by decide +kernel
theorem dX11_in_10 : decode cX11_in 10 = .ok (.ifCond .gt 7, 3) := by decide +kernel
theorem dX11_in_13 : decode cX11_in 13 = .ok (.iconst 1, 1) := by decide +kernel
theorem dX11_in_14 : decode cX11_in 14 = .ok (.goto 4, 3) := by decide +kernel
theorem dX11_in_17 : decode cX11_in 17 = .ok (.iconst 0, 1) := by decide +kernel
theorem dX11_in_18 : decode cX11_in 18 = .ok (.ireturn, 1) := by decide +kernel
theorem dX11_has_0 : decode cX11_has 0 = .ok (.iload_n 0, 1) := by decide +kernel
theorem dX11_has_1 : decode cX11_has 1 = .ok (.iload_n 1, 1) := by decide +kernel
theorem dX11_has_2 : decode cX11_has 2 = .ok (.ishr, 1) := by decide +kernel
theorem dX11_has_3 : decode cX11_has 3 = .ok (.iconst 1, 1) := by decide +kernel
theorem dX11_has_4 : decode cX11_has 4 = .ok (.iand, 1) := by decide +kernel
theorem dX11_has_5 : decode cX11_has 5 = .ok (.iconst 1, 1) := by decide +kernel
theorem dX11_has_6 : decode cX11_has 6 = .ok (.if_icmp .ne 7, 3) := by decide +kernel
theorem dX11_has_9 : decode cX11_has 9 = .ok (.iconst 1, 1) := by decide +kernel
theorem dX11_has_10 : decode cX11_has 10 = .ok (.goto 4, 3) := by decide +kernel
theorem dX11_has_13 : decode cX11_has 13 = .ok (.iconst 0, 1) := by decide +kernel
theorem dX11_has_14 : decode cX11_has 14 = .ok (.ireturn, 1) := by decide +kernel
theorem dX11_isTalk_0 : decode cX11_isTalk 0 = .ok (.aload_n 0, 1) := by decide +kernel
theorem dX11_isTalk_1 : decode cX11_isTalk 1 = .ok (.getfield 81, 3) := by decide +kernel
theorem dX11_isTalk_4 : decode cX11_isTalk 4 = .ok (.ifCond .eq 7, 3) := by decide +kernel
theorem dX11_isTalk_7 : decode cX11_isTalk 7 = .ok (.iconst 1, 1) := by decide +kernel
theorem dX11_isTalk_8 : decode cX11_isTalk 8 = .ok (.goto 4, 3) := by decide +kernel
theorem dX11_isTalk_11 : decode cX11_isTalk 11 = .ok (.iconst 0, 1) := by decide +kernel
theorem dX11_isTalk_12 : decode cX11_isTalk 12 = .ok (.ireturn, 1) := by decide +kernel
theorem dX11_isAnswer_0 : decode cX11_isAnswer 0 = .ok (.iload_n 1, 1) := by decide +kernel
theorem dX11_isAnswer_1 : decode cX11_isAnswer 1 = .ok (.i2l, 1) := by decide +kernel
theorem dX11_isAnswer_2 : decode cX11_isAnswer 2 = .ok (.lconst 0, 1) := by decide +kernel
theorem dX11_isAnswer_3 : decode cX11_isAnswer 3 = .ok (.aload_n 0, 1) := by decide +kernel
theorem dX11_isAnswer_4 : decode cX11_isAnswer 4 = .ok (.getfield 85, 3) := by decide +kernel
theorem dX11_isAnswer_7 : decode cX11_isAnswer 7 = .ok (.iconst 1, 1) := by decide +kernel
theorem dX11_isAnswer_8 : decode cX11_isAnswer 8 = .ok (.isub, 1) := by decide +kernel
theorem dX11_isAnswer_9 : decode cX11_isAnswer 9 = .ok (.i2l, 1) := by decide +kernel
theorem dX11_isAnswer_10 : decode cX11_isAnswer 10 = .ok (.invokestatic 88, 3) := by decide +kernel
theorem dX11_isAnswer_13 : decode cX11_isAnswer 13 = .ok (.ireturn, 1) := by decide +kernel
theorem dX11_isLine_0 : decode cX11_isLine 0 = .ok (.iload_n 1, 1) := by decide +kernel
theorem dX11_isLine_1 : decode cX11_isLine 1 = .ok (.i2l, 1) := by decide +kernel
theorem dX11_isLine_2 : decode cX11_isLine 2 = .ok (.lconst 0, 1) := by decide +kernel
theorem dX11_isLine_3 : decode cX11_isLine 3 = .ok (.ldc2_w 92, 3) := by decide +kernel
theorem dX11_isLine_6 : decode cX11_isLine 6 = .ok (.invokestatic 88, 3) := by decide +kernel
theorem dX11_isLine_9 : decode cX11_isLine 9 = .ok (.ifCond .eq 18, 3) := by decide +kernel
theorem dX11_isLine_12 : decode cX11_isLine 12 = .ok (.aload_n 0, 1) := by decide +kernel
theorem dX11_isLine_13 : decode cX11_isLine 13 = .ok (.getfield 81, 3) := by decide +kernel
theorem dX11_isLine_16 : decode cX11_isLine 16 = .ok (.iload_n 1, 1) := by decide +kernel
theorem dX11_isLine_17 : decode cX11_isLine 17 = .ok (.invokestatic 94, 3) := by decide +kernel
theorem dX11_isLine_20 : decode cX11_isLine 20 = .ok (.ifCond .eq 7, 3) := by decide +kernel
theorem dX11_isLine_23 : decode cX11_isLine 23 = .ok (.iconst 1, 1) := by decide +kernel
theorem dX11_isLine_24 : decode cX11_isLine 24 = .ok (.goto 4, 3) := by decide +kernel
theorem dX11_isLine_27 : decode cX11_isLine 27 = .ok (.iconst 0, 1) := by decide +kernel
theorem dX11_isLine_28 : decode cX11_isLine 28 = .ok (.ireturn, 1) := by decide +kernel
theorem dX11_holds_0 : decode cX11_holds 0 = .ok (.iload_n 3, 1) := by decide +kernel
theorem dX11_holds_1 : decode cX11_holds 1 = .ok (.ifCond .ge 7, 3) := by decide +kernel
theorem dX11_holds_4 : decode cX11_holds 4 = .ok (.iconst 0, 1) := by decide +kernel
theorem dX11_holds_5 : decode cX11_holds 5 = .ok (.goto 6, 3) := by decide +kernel
theorem dX11_holds_8 : decode cX11_holds 8 = .ok (.iconst 1, 1) := by decide +kernel
theorem dX11_holds_9 : decode cX11_holds 9 = .ok (.iload_n 3, 1) := by decide +kernel
theorem dX11_holds_10 : decode cX11_holds 10 = .ok (.ishl, 1) := by decide +kernel
theorem dX11_holds_11 : decode cX11_holds 11 = .ok (.istore 4, 2) := by decide +kernel
theorem dX11_holds_13 : decode cX11_holds 13 = .ok (.aload_n 0, 1) := by decide +kernel
theorem dX11_holds_14 : decode cX11_holds 14 = .ok (.getfield 19, 3) := by decide +kernel
theorem dX11_holds_17 : decode cX11_holds 17 = .ok (.iload_n 1, 1) := by decide +kernel
theorem dX11_holds_18 : decode cX11_holds 18 = .ok (.iaload, 1) := by decide +kernel
theorem dX11_holds_19 : decode cX11_holds 19 = .ok (.ifCond .ne 7, 3) := by decide +kernel
theorem dX11_holds_22 : decode cX11_holds 22 = .ok (.iconst 1, 1) := by decide +kernel
theorem dX11_holds_23 : decode cX11_holds 23 = .ok (.goto 4, 3) := by decide +kernel
theorem dX11_holds_26 : decode cX11_holds 26 = .ok (.iconst 0, 1) := by decide +kernel
theorem dX11_holds_27 : decode cX11_holds 27 = .ok (.istore 5, 2) := by decide +kernel
theorem dX11_holds_29 : decode cX11_holds 29 = .ok (.iconst 0, 1) := by decide +kernel
theorem dX11_holds_30 : decode cX11_holds 30 = .ok (.istore 6, 2) := by decide +kernel
theorem dX11_holds_32 : decode cX11_holds 32 = .ok (.iload 6, 2) := by decide +kernel
theorem dX11_holds_34 : decode cX11_holds 34 = .ok (.aload_n 0, 1) := by decide +kernel
theorem dX11_holds_35 : decode cX11_holds 35 = .ok (.getfield 19, 3) := by decide +kernel
theorem dX11_holds_38 : decode cX11_holds 38 = .ok (.iload_n 1, 1) := by decide +kernel
theorem dX11_holds_39 : decode cX11_holds 39 = .ok (.iaload, 1) := by decide +kernel
theorem dX11_holds_40 : decode cX11_holds 40 = .ok (.if_icmp .ge 73, 3) := by decide +kernel
theorem dX11_holds_43 : decode cX11_holds 43 = .ok (.aload_n 0, 1) := by decide +kernel
theorem dX11_holds_44 : decode cX11_holds 44 = .ok (.getfield 22, 3) := by decide +kernel
theorem dX11_holds_47 : decode cX11_holds 47 = .ok (.iconst 3, 1) := by decide +kernel
theorem dX11_holds_48 : decode cX11_holds 48 = .ok (.iload_n 1, 1) := by decide +kernel
theorem dX11_holds_49 : decode cX11_holds 49 = .ok (.imul, 1) := by decide +kernel
theorem dX11_holds_50 : decode cX11_holds 50 = .ok (.iload 6, 2) := by decide +kernel
theorem dX11_holds_52 : decode cX11_holds 52 = .ok (.iadd, 1) := by decide +kernel
theorem dX11_holds_53 : decode cX11_holds 53 = .ok (.iaload, 1) := by decide +kernel
theorem dX11_holds_54 : decode cX11_holds 54 = .ok (.iload 4, 2) := by decide +kernel
theorem dX11_holds_56 : decode cX11_holds 56 = .ok (.iconst (-1), 1) := by decide +kernel
theorem dX11_holds_57 : decode cX11_holds 57 = .ok (.ixor, 1) := by decide +kernel
theorem dX11_holds_58 : decode cX11_holds 58 = .ok (.iand, 1) := by decide +kernel
theorem dX11_holds_59 : decode cX11_holds 59 = .ok (.istore 7, 2) := by decide +kernel
theorem dX11_holds_61 : decode cX11_holds 61 = .ok (.aload_n 0, 1) := by decide +kernel
theorem dX11_holds_62 : decode cX11_holds 62 = .ok (.getfield 25, 3) := by decide +kernel
theorem dX11_holds_65 : decode cX11_holds 65 = .ok (.iconst 3, 1) := by decide +kernel
theorem dX11_holds_66 : decode cX11_holds 66 = .ok (.iload_n 1, 1) := by decide +kernel
theorem dX11_holds_67 : decode cX11_holds 67 = .ok (.imul, 1) := by decide +kernel
theorem dX11_holds_68 : decode cX11_holds 68 = .ok (.iload 6, 2) := by decide +kernel
theorem dX11_holds_70 : decode cX11_holds 70 = .ok (.iadd, 1) := by decide +kernel
theorem dX11_holds_71 : decode cX11_holds 71 = .ok (.iaload, 1) := by decide +kernel
theorem dX11_holds_72 : decode cX11_holds 72 = .ok (.iload 4, 2) := by decide +kernel
theorem dX11_holds_74 : decode cX11_holds 74 = .ok (.iconst (-1), 1) := by decide +kernel
theorem dX11_holds_75 : decode cX11_holds 75 = .ok (.ixor, 1) := by decide +kernel
theorem dX11_holds_76 : decode cX11_holds 76 = .ok (.iand, 1) := by decide +kernel
theorem dX11_holds_77 : decode cX11_holds 77 = .ok (.istore 8, 2) := by decide +kernel
theorem dX11_holds_79 : decode cX11_holds 79 = .ok (.iload 5, 2) := by decide +kernel
theorem dX11_holds_81 : decode cX11_holds 81 = .ok (.ifCond .ne 19, 3) := by decide +kernel
theorem dX11_holds_84 : decode cX11_holds 84 = .ok (.iload_n 2, 1) := by decide +kernel
theorem dX11_holds_85 : decode cX11_holds 85 = .ok (.iload 7, 2) := by decide +kernel
theorem dX11_holds_87 : decode cX11_holds 87 = .ok (.iand, 1) := by decide +kernel
theorem dX11_holds_88 : decode cX11_holds 88 = .ok (.iload 7, 2) := by decide +kernel
theorem dX11_holds_90 : decode cX11_holds 90 = .ok (.if_icmp .ne 14, 3) := by decide +kernel
theorem dX11_holds_93 : decode cX11_holds 93 = .ok (.iload_n 2, 1) := by decide +kernel
theorem dX11_holds_94 : decode cX11_holds 94 = .ok (.iload 8, 2) := by decide +kernel
theorem dX11_holds_96 : decode cX11_holds 96 = .ok (.iand, 1) := by decide +kernel
theorem dX11_holds_97 : decode cX11_holds 97 = .ok (.ifCond .ne 7, 3) := by decide +kernel
theorem dX11_holds_100 : decode cX11_holds 100 = .ok (.iconst 1, 1) := by decide +kernel
theorem dX11_holds_101 : decode cX11_holds 101 = .ok (.goto 4, 3) := by decide +kernel
theorem dX11_holds_104 : decode cX11_holds 104 = .ok (.iconst 0, 1) := by decide +kernel
theorem dX11_holds_105 : decode cX11_holds 105 = .ok (.istore 5, 2) := by decide +kernel
theorem dX11_holds_107 : decode cX11_holds 107 = .ok (.iinc 6 1, 3) := by decide +kernel
theorem dX11_holds_110 : decode cX11_holds 110 = .ok (.goto (-78), 3) := by decide +kernel
theorem dX11_holds_113 : decode cX11_holds 113 = .ok (.iload 5, 2) := by decide +kernel
theorem dX11_holds_115 : decode cX11_holds 115 = .ok (.ireturn, 1) := by decide +kernel
theorem dX11_isOpen_0 : decode cX11_isOpen 0 = .ok (.iload_n 2, 1) := by decide +kernel
theorem dX11_isOpen_1 : decode cX11_isOpen 1 = .ok (.bipush 64, 2) := by decide +kernel
theorem dX11_isOpen_3 : decode cX11_isOpen 3 = .ok (.idiv, 1) := by decide +kernel
theorem dX11_isOpen_4 : decode cX11_isOpen 4 = .ok (.istore 4, 2) := by decide +kernel
theorem dX11_isOpen_6 : decode cX11_isOpen 6 = .ok (.aload_n 0, 1) := by decide +kernel
theorem dX11_isOpen_7 : decode cX11_isOpen 7 = .ok (.getfield 34, 3) := by decide +kernel
theorem dX11_isOpen_10 : decode cX11_isOpen 10 = .ok (.iload_n 1, 1) := by decide +kernel
theorem dX11_isOpen_11 : decode cX11_isOpen 11 = .ok (.baload, 1) := by decide +kernel
theorem dX11_isOpen_12 : decode cX11_isOpen 12 = .ok (.ifCond .ne 43, 3) := by decide +kernel
theorem dX11_isOpen_15 : decode cX11_isOpen 15 = .ok (.aload_n 0, 1) := by decide +kernel
theorem dX11_isOpen_16 : decode cX11_isOpen 16 = .ok (.getfield 7, 3) := by decide +kernel
theorem dX11_isOpen_19 : decode cX11_isOpen 19 = .ok (.iload_n 1, 1) := by decide +kernel
theorem dX11_isOpen_20 : decode cX11_isOpen 20 = .ok (.iaload, 1) := by decide +kernel
theorem dX11_isOpen_21 : decode cX11_isOpen 21 = .ok (.iload 4, 2) := by decide +kernel
theorem dX11_isOpen_23 : decode cX11_isOpen 23 = .ok (.if_icmp .ne 32, 3) := by decide +kernel
theorem dX11_isOpen_26 : decode cX11_isOpen 26 = .ok (.aload_n 0, 1) := by decide +kernel
theorem dX11_isOpen_27 : decode cX11_isOpen 27 = .ok (.getfield 98, 3) := by decide +kernel
theorem dX11_isOpen_30 : decode cX11_isOpen 30 = .ok (.iload 4, 2) := by decide +kernel
theorem dX11_isOpen_32 : decode cX11_isOpen 32 = .ok (.invokestatic 94, 3) := by decide +kernel
theorem dX11_isOpen_35 : decode cX11_isOpen 35 = .ok (.ifCond .ne 20, 3) := by decide +kernel
theorem dX11_isOpen_38 : decode cX11_isOpen 38 = .ok (.aload_n 0, 1) := by decide +kernel
theorem dX11_isOpen_39 : decode cX11_isOpen 39 = .ok (.iload_n 1, 1) := by decide +kernel
theorem dX11_isOpen_40 : decode cX11_isOpen 40 = .ok (.iload_n 2, 1) := by decide +kernel
theorem dX11_isOpen_41 : decode cX11_isOpen 41 = .ok (.bipush 64, 2) := by decide +kernel
theorem dX11_isOpen_43 : decode cX11_isOpen 43 = .ok (.irem, 1) := by decide +kernel
theorem dX11_isOpen_44 : decode cX11_isOpen 44 = .ok (.iload_n 3, 1) := by decide +kernel
theorem dX11_isOpen_45 : decode cX11_isOpen 45 = .ok (.invokevirtual 101, 3) := by decide +kernel
theorem dX11_isOpen_48 : decode cX11_isOpen 48 = .ok (.ifCond .eq 7, 3) := by decide +kernel
theorem dX11_isOpen_51 : decode cX11_isOpen 51 = .ok (.iconst 1, 1) := by decide +kernel
theorem dX11_isOpen_52 : decode cX11_isOpen 52 = .ok (.goto 4, 3) := by decide +kernel
theorem dX11_isOpen_55 : decode cX11_isOpen 55 = .ok (.iconst 0, 1) := by decide +kernel
theorem dX11_isOpen_56 : decode cX11_isOpen 56 = .ok (.ireturn, 1) := by decide +kernel
theorem dX11_next_0 : decode cX11_next 0 = .ok (.bipush 64, 2) := by decide +kernel
theorem dX11_next_2 : decode cX11_next 2 = .ok (.aload_n 0, 1) := by decide +kernel
theorem dX11_next_3 : decode cX11_next 3 = .ok (.getfield 13, 3) := by decide +kernel
theorem dX11_next_6 : decode cX11_next 6 = .ok (.iload_n 1, 1) := by decide +kernel
theorem dX11_next_7 : decode cX11_next 7 = .ok (.iaload, 1) := by decide +kernel
theorem dX11_next_8 : decode cX11_next 8 = .ok (.imul, 1) := by decide +kernel
theorem dX11_next_9 : decode cX11_next 9 = .ok (.iload_n 2, 1) := by decide +kernel
theorem dX11_next_10 : decode cX11_next 10 = .ok (.bipush 64, 2) := by decide +kernel
theorem dX11_next_12 : decode cX11_next 12 = .ok (.irem, 1) := by decide +kernel
theorem dX11_next_13 : decode cX11_next 13 = .ok (.aload_n 0, 1) := by decide +kernel
theorem dX11_next_14 : decode cX11_next 14 = .ok (.getfield 31, 3) := by decide +kernel
theorem dX11_next_17 : decode cX11_next 17 = .ok (.iload_n 1, 1) := by decide +kernel
theorem dX11_next_18 : decode cX11_next 18 = .ok (.iaload, 1) := by decide +kernel
theorem dX11_next_19 : decode cX11_next 19 = .ok (.iconst (-1), 1) := by decide +kernel
theorem dX11_next_20 : decode cX11_next 20 = .ok (.ixor, 1) := by decide +kernel
theorem dX11_next_21 : decode cX11_next 21 = .ok (.iand, 1) := by decide +kernel
theorem dX11_next_22 : decode cX11_next 22 = .ok (.aload_n 0, 1) := by decide +kernel
theorem dX11_next_23 : decode cX11_next 23 = .ok (.getfield 28, 3) := by decide +kernel
theorem dX11_next_26 : decode cX11_next 26 = .ok (.iload_n 1, 1) := by decide +kernel
theorem dX11_next_27 : decode cX11_next 27 = .ok (.iaload, 1) := by decide +kernel
theorem dX11_next_28 : decode cX11_next 28 = .ok (.ior, 1) := by decide +kernel
theorem dX11_next_29 : decode cX11_next 29 = .ok (.iadd, 1) := by decide +kernel
theorem dX11_next_30 : decode cX11_next 30 = .ok (.ireturn, 1) := by decide +kernel
theorem dX11_reaches_0 : decode cX11_reaches 0 = .ok (.iconst 0, 1) := by decide +kernel
theorem dX11_reaches_1 : decode cX11_reaches 1 = .ok (.istore 5, 2) := by decide +kernel
theorem dX11_reaches_3 : decode cX11_reaches 3 = .ok (.iload 5, 2) := by decide +kernel
theorem dX11_reaches_5 : decode cX11_reaches 5 = .ok (.sipush 1024, 3) := by decide +kernel
theorem dX11_reaches_8 : decode cX11_reaches 8 = .ok (.if_icmp .ge 17, 3) := by decide +kernel
theorem dX11_reaches_11 : decode cX11_reaches 11 = .ok (.aload_n 0, 1) := by decide +kernel
theorem dX11_reaches_12 : decode cX11_reaches 12 = .ok (.getfield 44, 3) := by decide +kernel
theorem dX11_reaches_15 : decode cX11_reaches 15 = .ok (.iload 5, 2) := by decide +kernel
theorem dX11_reaches_17 : decode cX11_reaches 17 = .ok (.iconst (-1), 1) := by decide +kernel
theorem dX11_reaches_18 : decode cX11_reaches 18 = .ok (.iastore, 1) := by decide +kernel
theorem dX11_reaches_19 : decode cX11_reaches 19 = .ok (.iinc 5 1, 3) := by decide +kernel
theorem dX11_reaches_22 : decode cX11_reaches 22 = .ok (.goto (-19), 3) := by decide +kernel
theorem dX11_reaches_25 : decode cX11_reaches 25 = .ok (.aload_n 0, 1) := by decide +kernel
theorem dX11_reaches_26 : decode cX11_reaches 26 = .ok (.getfield 44, 3) := by decide +kernel
theorem dX11_reaches_29 : decode cX11_reaches 29 = .ok (.iload_n 1, 1) := by decide +kernel
theorem dX11_reaches_30 : decode cX11_reaches 30 = .ok (.iconst 0, 1) := by decide +kernel
theorem dX11_reaches_31 : decode cX11_reaches 31 = .ok (.iastore, 1) := by decide +kernel
theorem dX11_reaches_32 : decode cX11_reaches 32 = .ok (.aload_n 0, 1) := by decide +kernel
theorem dX11_reaches_33 : decode cX11_reaches 33 = .ok (.getfield 47, 3) := by decide +kernel
theorem dX11_reaches_36 : decode cX11_reaches 36 = .ok (.iconst 0, 1) := by decide +kernel
theorem dX11_reaches_37 : decode cX11_reaches 37 = .ok (.iload_n 1, 1) := by decide +kernel
theorem dX11_reaches_38 : decode cX11_reaches 38 = .ok (.iastore, 1) := by decide +kernel
theorem dX11_reaches_39 : decode cX11_reaches 39 = .ok (.iconst 1, 1) := by decide +kernel
theorem dX11_reaches_40 : decode cX11_reaches 40 = .ok (.istore 5, 2) := by decide +kernel
theorem dX11_reaches_42 : decode cX11_reaches 42 = .ok (.iconst 0, 1) := by decide +kernel
theorem dX11_reaches_43 : decode cX11_reaches 43 = .ok (.istore 6, 2) := by decide +kernel
theorem dX11_reaches_45 : decode cX11_reaches 45 = .ok (.iload 6, 2) := by decide +kernel
theorem dX11_reaches_47 : decode cX11_reaches 47 = .ok (.iload 5, 2) := by decide +kernel
theorem dX11_reaches_49 : decode cX11_reaches 49 = .ok (.if_icmp .ge 133, 3) := by decide +kernel
theorem dX11_reaches_52 : decode cX11_reaches 52 = .ok (.aload_n 0, 1) := by decide +kernel
theorem dX11_reaches_53 : decode cX11_reaches 53 = .ok (.getfield 47, 3) := by decide +kernel
theorem dX11_reaches_56 : decode cX11_reaches 56 = .ok (.iload 6, 2) := by decide +kernel
theorem dX11_reaches_58 : decode cX11_reaches 58 = .ok (.iaload, 1) := by decide +kernel
theorem dX11_reaches_59 : decode cX11_reaches 59 = .ok (.istore 7, 2) := by decide +kernel
theorem dX11_reaches_61 : decode cX11_reaches 61 = .ok (.iconst 0, 1) := by decide +kernel
theorem dX11_reaches_62 : decode cX11_reaches 62 = .ok (.istore 8, 2) := by decide +kernel
theorem dX11_reaches_64 : decode cX11_reaches 64 = .ok (.iload 8, 2) := by decide +kernel
theorem dX11_reaches_66 : decode cX11_reaches 66 = .ok (.aload_n 0, 1) := by decide +kernel
theorem dX11_reaches_67 : decode cX11_reaches 67 = .ok (.getfield 85, 3) := by decide +kernel
theorem dX11_reaches_70 : decode cX11_reaches 70 = .ok (.if_icmp .ge 106, 3) := by decide +kernel
theorem dX11_reaches_73 : decode cX11_reaches 73 = .ok (.iload 8, 2) := by decide +kernel
theorem dX11_reaches_75 : decode cX11_reaches 75 = .ok (.iload_n 2, 1) := by decide +kernel
theorem dX11_reaches_76 : decode cX11_reaches 76 = .ok (.if_icmp .eq 38, 3) := by decide +kernel
theorem dX11_reaches_79 : decode cX11_reaches 79 = .ok (.iload_n 3, 1) := by decide +kernel
theorem dX11_reaches_80 : decode cX11_reaches 80 = .ok (.ifCond .lt 17, 3) := by decide +kernel
theorem dX11_reaches_83 : decode cX11_reaches 83 = .ok (.aload_n 0, 1) := by decide +kernel
theorem dX11_reaches_84 : decode cX11_reaches 84 = .ok (.getfield 28, 3) := by decide +kernel
theorem dX11_reaches_87 : decode cX11_reaches 87 = .ok (.iload 8, 2) := by decide +kernel
theorem dX11_reaches_89 : decode cX11_reaches 89 = .ok (.iaload, 1) := by decide +kernel
theorem dX11_reaches_90 : decode cX11_reaches 90 = .ok (.iload_n 3, 1) := by decide +kernel
theorem dX11_reaches_91 : decode cX11_reaches 91 = .ok (.invokestatic 94, 3) := by decide +kernel
theorem dX11_reaches_94 : decode cX11_reaches 94 = .ok (.ifCond .ne 20, 3) := by decide +kernel
theorem dX11_reaches_97 : decode cX11_reaches 97 = .ok (.aload_n 0, 1) := by decide +kernel
theorem dX11_reaches_98 : decode cX11_reaches 98 = .ok (.iload 8, 2) := by decide +kernel
theorem dX11_reaches_100 : decode cX11_reaches 100 = .ok (.iload 7, 2) := by decide +kernel
theorem dX11_reaches_102 : decode cX11_reaches 102 = .ok (.iload 4, 2) := by decide +kernel
theorem dX11_reaches_104 : decode cX11_reaches 104 = .ok (.invokevirtual 105, 3) := by decide +kernel
theorem dX11_reaches_107 : decode cX11_reaches 107 = .ok (.ifCond .eq 7, 3) := by decide +kernel
theorem dX11_reaches_110 : decode cX11_reaches 110 = .ok (.iconst 1, 1) := by decide +kernel
theorem dX11_reaches_111 : decode cX11_reaches 111 = .ok (.goto 4, 3) := by decide +kernel
theorem dX11_reaches_114 : decode cX11_reaches 114 = .ok (.iconst 0, 1) := by decide +kernel
theorem dX11_reaches_115 : decode cX11_reaches 115 = .ok (.istore 9, 2) := by decide +kernel
theorem dX11_reaches_117 : decode cX11_reaches 117 = .ok (.aload_n 0, 1) := by decide +kernel
theorem dX11_reaches_118 : decode cX11_reaches 118 = .ok (.iload 8, 2) := by decide +kernel
theorem dX11_reaches_120 : decode cX11_reaches 120 = .ok (.iload 7, 2) := by decide +kernel
theorem dX11_reaches_122 : decode cX11_reaches 122 = .ok (.invokevirtual 108, 3) := by decide +kernel
theorem dX11_reaches_125 : decode cX11_reaches 125 = .ok (.istore 10, 2) := by decide +kernel
theorem dX11_reaches_127 : decode cX11_reaches 127 = .ok (.iload 9, 2) := by decide +kernel
theorem dX11_reaches_129 : decode cX11_reaches 129 = .ok (.ifCond .eq 41, 3) := by decide +kernel
theorem dX11_reaches_132 : decode cX11_reaches 132 = .ok (.aload_n 0, 1) := by decide +kernel
theorem dX11_reaches_133 : decode cX11_reaches 133 = .ok (.getfield 44, 3) := by decide +kernel
theorem dX11_reaches_136 : decode cX11_reaches 136 = .ok (.iload 10, 2) := by decide +kernel
theorem dX11_reaches_138 : decode cX11_reaches 138 = .ok (.iaload, 1) := by decide +kernel
theorem dX11_reaches_139 : decode cX11_reaches 139 = .ok (.ifCond .ge 31, 3) := by decide +kernel
theorem dX11_reaches_142 : decode cX11_reaches 142 = .ok (.aload_n 0, 1) := by decide +kernel
theorem dX11_reaches_143 : decode cX11_reaches 143 = .ok (.getfield 44, 3) := by decide +kernel
theorem dX11_reaches_146 : decode cX11_reaches 146 = .ok (.iload 10, 2) := by decide +kernel
theorem dX11_reaches_148 : decode cX11_reaches 148 = .ok (.aload_n 0, 1) := by decide +kernel
theorem dX11_reaches_149 : decode cX11_reaches 149 = .ok (.getfield 44, 3) := by decide +kernel
theorem dX11_reaches_152 : decode cX11_reaches 152 = .ok (.iload 7, 2) := by decide +kernel
theorem dX11_reaches_154 : decode cX11_reaches 154 = .ok (.iaload, 1) := by decide +kernel
theorem dX11_reaches_155 : decode cX11_reaches 155 = .ok (.iconst 1, 1) := by decide +kernel
theorem dX11_reaches_156 : decode cX11_reaches 156 = .ok (.iadd, 1) := by decide +kernel
theorem dX11_reaches_157 : decode cX11_reaches 157 = .ok (.iastore, 1) := by decide +kernel
theorem dX11_reaches_158 : decode cX11_reaches 158 = .ok (.aload_n 0, 1) := by decide +kernel
theorem dX11_reaches_159 : decode cX11_reaches 159 = .ok (.getfield 47, 3) := by decide +kernel
theorem dX11_reaches_162 : decode cX11_reaches 162 = .ok (.iload 5, 2) := by decide +kernel
theorem dX11_reaches_164 : decode cX11_reaches 164 = .ok (.iload 10, 2) := by decide +kernel
theorem dX11_reaches_166 : decode cX11_reaches 166 = .ok (.iastore, 1) := by decide +kernel
theorem dX11_reaches_167 : decode cX11_reaches 167 = .ok (.iinc 5 1, 3) := by decide +kernel
theorem dX11_reaches_170 : decode cX11_reaches 170 = .ok (.iinc 8 1, 3) := by decide +kernel
theorem dX11_reaches_173 : decode cX11_reaches 173 = .ok (.goto (-109), 3) := by decide +kernel
theorem dX11_reaches_176 : decode cX11_reaches 176 = .ok (.iinc 6 1, 3) := by decide +kernel
theorem dX11_reaches_179 : decode cX11_reaches 179 = .ok (.goto (-134), 3) := by decide +kernel
theorem dX11_reaches_182 : decode cX11_reaches 182 = .ok (.iload 5, 2) := by decide +kernel
theorem dX11_reaches_184 : decode cX11_reaches 184 = .ok (.ireturn, 1) := by decide +kernel
theorem dX11_first_0 : decode cX11_first 0 = .ok (.bipush 64, 2) := by decide +kernel
theorem dX11_first_2 : decode cX11_first 2 = .ok (.aload_n 0, 1) := by decide +kernel
theorem dX11_first_3 : decode cX11_first 3 = .ok (.getfield 112, 3) := by decide +kernel
theorem dX11_first_6 : decode cX11_first 6 = .ok (.imul, 1) := by decide +kernel
theorem dX11_first_7 : decode cX11_first 7 = .ok (.aload_n 0, 1) := by decide +kernel
theorem dX11_first_8 : decode cX11_first 8 = .ok (.getfield 115, 3) := by decide +kernel
theorem dX11_first_11 : decode cX11_first 11 = .ok (.iadd, 1) := by decide +kernel
theorem dX11_first_12 : decode cX11_first 12 = .ok (.ireturn, 1) := by decide +kernel
theorem dX11_reachesAll_0 : decode cX11_reachesAll 0 = .ok (.aload_n 0, 1) := by decide +kernel
theorem dX11_reachesAll_1 : decode cX11_reachesAll 1 = .ok (.aload_n 0, 1) := by decide +kernel
theorem dX11_reachesAll_2 : decode cX11_reachesAll 2 = .ok (.invokevirtual 118, 3) := by decide +kernel
theorem dX11_reachesAll_5 : decode cX11_reachesAll 5 = .ok (.iconst (-1), 1) := by decide +kernel
theorem dX11_reachesAll_6 : decode cX11_reachesAll 6 = .ok (.iconst (-1), 1) := by decide +kernel
theorem dX11_reachesAll_7 : decode cX11_reachesAll 7 = .ok (.iconst (-1), 1) := by decide +kernel
theorem dX11_reachesAll_8 : decode cX11_reachesAll 8 = .ok (.invokevirtual 122, 3) := by decide +kernel
theorem dX11_reachesAll_11 : decode cX11_reachesAll 11 = .ok (.ireturn, 1) := by decide +kernel
theorem dX11_fewest_0 : decode cX11_fewest 0 = .ok (.iconst (-1), 1) := by decide +kernel
theorem dX11_fewest_1 : decode cX11_fewest 1 = .ok (.istore_n 2, 1) := by decide +kernel
theorem dX11_fewest_2 : decode cX11_fewest 2 = .ok (.bipush 64, 2) := by decide +kernel
theorem dX11_fewest_4 : decode cX11_fewest 4 = .ok (.iload_n 1, 1) := by decide +kernel
theorem dX11_fewest_5 : decode cX11_fewest 5 = .ok (.imul, 1) := by decide +kernel
theorem dX11_fewest_6 : decode cX11_fewest 6 = .ok (.istore_n 3, 1) := by decide +kernel
theorem dX11_fewest_7 : decode cX11_fewest 7 = .ok (.iload_n 3, 1) := by decide +kernel
theorem dX11_fewest_8 : decode cX11_fewest 8 = .ok (.bipush 64, 2) := by decide +kernel
theorem dX11_fewest_10 : decode cX11_fewest 10 = .ok (.iload_n 1, 1) := by decide +kernel
theorem dX11_fewest_11 : decode cX11_fewest 11 = .ok (.imul, 1) := by decide +kernel
theorem dX11_fewest_12 : decode cX11_fewest 12 = .ok (.bipush 64, 2) := by decide +kernel
theorem dX11_fewest_14 : decode cX11_fewest 14 = .ok (.iadd, 1) := by decide +kernel
theorem dX11_fewest_15 : decode cX11_fewest 15 = .ok (.if_icmp .ge 43, 3) := by decide +kernel
theorem dX11_fewest_18 : decode cX11_fewest 18 = .ok (.aload_n 0, 1) := by decide +kernel
theorem dX11_fewest_19 : decode cX11_fewest 19 = .ok (.getfield 44, 3) := by decide +kernel
theorem dX11_fewest_22 : decode cX11_fewest 22 = .ok (.iload_n 3, 1) := by decide +kernel
theorem dX11_fewest_23 : decode cX11_fewest 23 = .ok (.iaload, 1) := by decide +kernel
theorem dX11_fewest_24 : decode cX11_fewest 24 = .ok (.ifCond .lt 26, 3) := by decide +kernel
theorem dX11_fewest_27 : decode cX11_fewest 27 = .ok (.iload_n 2, 1) := by decide +kernel
theorem dX11_fewest_28 : decode cX11_fewest 28 = .ok (.ifCond .lt 13, 3) := by decide +kernel
theorem dX11_fewest_31 : decode cX11_fewest 31 = .ok (.aload_n 0, 1) := by decide +kernel
theorem dX11_fewest_32 : decode cX11_fewest 32 = .ok (.getfield 44, 3) := by decide +kernel
theorem dX11_fewest_35 : decode cX11_fewest 35 = .ok (.iload_n 3, 1) := by decide +kernel
theorem dX11_fewest_36 : decode cX11_fewest 36 = .ok (.iaload, 1) := by decide +kernel
theorem dX11_fewest_37 : decode cX11_fewest 37 = .ok (.iload_n 2, 1) := by decide +kernel
theorem dX11_fewest_38 : decode cX11_fewest 38 = .ok (.if_icmp .ge 12, 3) := by decide +kernel
theorem dX11_fewest_41 : decode cX11_fewest 41 = .ok (.aload_n 0, 1) := by decide +kernel
theorem dX11_fewest_42 : decode cX11_fewest 42 = .ok (.getfield 44, 3) := by decide +kernel
theorem dX11_fewest_45 : decode cX11_fewest 45 = .ok (.iload_n 3, 1) := by decide +kernel
theorem dX11_fewest_46 : decode cX11_fewest 46 = .ok (.iaload, 1) := by decide +kernel
theorem dX11_fewest_47 : decode cX11_fewest 47 = .ok (.goto 4, 3) := by decide +kernel
theorem dX11_fewest_50 : decode cX11_fewest 50 = .ok (.iload_n 2, 1) := by decide +kernel
theorem dX11_fewest_51 : decode cX11_fewest 51 = .ok (.istore_n 2, 1) := by decide +kernel
theorem dX11_fewest_52 : decode cX11_fewest 52 = .ok (.iinc 3 1, 3) := by decide +kernel
theorem dX11_fewest_55 : decode cX11_fewest 55 = .ok (.goto (-48), 3) := by decide +kernel
theorem dX11_fewest_58 : decode cX11_fewest 58 = .ok (.iload_n 2, 1) := by decide +kernel
theorem dX11_fewest_59 : decode cX11_fewest 59 = .ok (.ireturn, 1) := by decide +kernel
theorem dX11_here_0 : decode cX11_here 0 = .ok (.aload_n 0, 1) := by decide +kernel
theorem dX11_here_1 : decode cX11_here 1 = .ok (.invokevirtual 118, 3) := by decide +kernel
theorem dX11_here_4 : decode cX11_here 4 = .ok (.istore_n 1, 1) := by decide +kernel
theorem dX11_here_5 : decode cX11_here 5 = .ok (.iconst 0, 1) := by decide +kernel
theorem dX11_here_6 : decode cX11_here 6 = .ok (.istore_n 2, 1) := by decide +kernel
theorem dX11_here_7 : decode cX11_here 7 = .ok (.iload_n 2, 1) := by decide +kernel
theorem dX11_here_8 : decode cX11_here 8 = .ok (.aload_n 0, 1) := by decide +kernel
theorem dX11_here_9 : decode cX11_here 9 = .ok (.getfield 126, 3) := by decide +kernel
theorem dX11_here_12 : decode cX11_here 12 = .ok (.if_icmp .ge 21, 3) := by decide +kernel
theorem dX11_here_15 : decode cX11_here 15 = .ok (.aload_n 0, 1) := by decide +kernel
theorem dX11_here_16 : decode cX11_here 16 = .ok (.aload_n 0, 1) := by decide +kernel
theorem dX11_here_17 : decode cX11_here 17 = .ok (.getfield 38, 3) := by decide +kernel
theorem dX11_here_20 : decode cX11_here 20 = .ok (.iload_n 2, 1) := by decide +kernel
theorem dX11_here_21 : decode cX11_here 21 = .ok (.iaload, 1) := by decide +kernel
theorem dX11_here_22 : decode cX11_here 22 = .ok (.iload_n 1, 1) := by decide +kernel
theorem dX11_here_23 : decode cX11_here 23 = .ok (.invokevirtual 108, 3) := by decide +kernel
theorem dX11_here_26 : decode cX11_here 26 = .ok (.istore_n 1, 1) := by decide +kernel
theorem dX11_here_27 : decode cX11_here 27 = .ok (.iinc 2 1, 3) := by decide +kernel
theorem dX11_here_30 : decode cX11_here 30 = .ok (.goto (-23), 3) := by decide +kernel
theorem dX11_here_33 : decode cX11_here 33 = .ok (.iload_n 1, 1) := by decide +kernel
theorem dX11_here_34 : decode cX11_here 34 = .ok (.ireturn, 1) := by decide +kernel
theorem dX11_write_0 : decode cX11_write 0 = .ok (.iload_n 1, 1) := by decide +kernel
theorem dX11_write_1 : decode cX11_write 1 = .ok (.i2l, 1) := by decide +kernel
theorem dX11_write_2 : decode cX11_write 2 = .ok (.lconst 0, 1) := by decide +kernel
theorem dX11_write_3 : decode cX11_write 3 = .ok (.ldc2_w 129, 3) := by decide +kernel
theorem dX11_write_6 : decode cX11_write 6 = .ok (.invokestatic 88, 3) := by decide +kernel
theorem dX11_write_9 : decode cX11_write 9 = .ok (.ifCond .ne 6, 3) := by decide +kernel
theorem dX11_write_12 : decode cX11_write 12 = .ok (.ldc 131, 2) := by decide +kernel
theorem dX11_write_14 : decode cX11_write 14 = .ok (.ireturn, 1) := by decide +kernel
theorem dX11_write_15 : decode cX11_write 15 = .ok (.aload_n 0, 1) := by decide +kernel
theorem dX11_write_16 : decode cX11_write 16 = .ok (.getfield 132, 3) := by decide +kernel
theorem dX11_write_19 : decode cX11_write 19 = .ok (.sipush 200, 3) := by decide +kernel
theorem dX11_write_22 : decode cX11_write 22 = .ok (.if_icmp .ne 6, 3) := by decide +kernel
theorem dX11_write_25 : decode cX11_write 25 = .ok (.ldc 135, 2) := by decide +kernel
theorem dX11_write_27 : decode cX11_write 27 = .ok (.ireturn, 1) := by decide +kernel
theorem dX11_write_28 : decode cX11_write 28 = .ok (.aload_n 0, 1) := by decide +kernel
theorem dX11_write_29 : decode cX11_write 29 = .ok (.getfield 50, 3) := by decide +kernel
theorem dX11_write_32 : decode cX11_write 32 = .ok (.aload_n 0, 1) := by decide +kernel
theorem dX11_write_33 : decode cX11_write 33 = .ok (.getfield 132, 3) := by decide +kernel
theorem dX11_write_36 : decode cX11_write 36 = .ok (.iload_n 1, 1) := by decide +kernel
theorem dX11_write_37 : decode cX11_write 37 = .ok (.iastore, 1) := by decide +kernel
theorem dX11_write_38 : decode cX11_write 38 = .ok (.aload_n 0, 1) := by decide +kernel
theorem dX11_write_39 : decode cX11_write 39 = .ok (.dup, 1) := by decide +kernel
theorem dX11_write_40 : decode cX11_write 40 = .ok (.getfield 132, 3) := by decide +kernel
theorem dX11_write_43 : decode cX11_write 43 = .ok (.iconst 1, 1) := by decide +kernel
theorem dX11_write_44 : decode cX11_write 44 = .ok (.iadd, 1) := by decide +kernel
theorem dX11_write_45 : decode cX11_write 45 = .ok (.putfield 132, 3) := by decide +kernel
theorem dX11_write_48 : decode cX11_write 48 = .ok (.aload_n 0, 1) := by decide +kernel
theorem dX11_write_49 : decode cX11_write 49 = .ok (.getfield 132, 3) := by decide +kernel
theorem dX11_write_52 : decode cX11_write 52 = .ok (.ireturn, 1) := by decide +kernel
theorem dX11_look_0 : decode cX11_look 0 = .ok (.aload_n 0, 1) := by decide +kernel
theorem dX11_look_1 : decode cX11_look 1 = .ok (.getfield 136, 3) := by decide +kernel
theorem dX11_look_4 : decode cX11_look 4 = .ok (.aload_n 0, 1) := by decide +kernel
theorem dX11_look_5 : decode cX11_look 5 = .ok (.getfield 132, 3) := by decide +kernel
theorem dX11_look_8 : decode cX11_look 8 = .ok (.if_icmp .ge 30, 3) := by decide +kernel
theorem dX11_look_11 : decode cX11_look 11 = .ok (.aload_n 0, 1) := by decide +kernel
theorem dX11_look_12 : decode cX11_look 12 = .ok (.getfield 50, 3) := by decide +kernel
theorem dX11_look_15 : decode cX11_look 15 = .ok (.aload_n 0, 1) := by decide +kernel
theorem dX11_look_16 : decode cX11_look 16 = .ok (.getfield 136, 3) := by decide +kernel
theorem dX11_look_19 : decode cX11_look 19 = .ok (.iaload, 1) := by decide +kernel
theorem dX11_look_20 : decode cX11_look 20 = .ok (.bipush 32, 2) := by decide +kernel
theorem dX11_look_22 : decode cX11_look 22 = .ok (.if_icmp .ne 16, 3) := by decide +kernel
theorem dX11_look_25 : decode cX11_look 25 = .ok (.aload_n 0, 1) := by decide +kernel
theorem dX11_look_26 : decode cX11_look 26 = .ok (.dup, 1) := by decide +kernel
theorem dX11_look_27 : decode cX11_look 27 = .ok (.getfield 136, 3) := by decide +kernel
theorem dX11_look_30 : decode cX11_look 30 = .ok (.iconst 1, 1) := by decide +kernel
theorem dX11_look_31 : decode cX11_look 31 = .ok (.iadd, 1) := by decide +kernel
theorem dX11_look_32 : decode cX11_look 32 = .ok (.putfield 136, 3) := by decide +kernel
theorem dX11_look_35 : decode cX11_look 35 = .ok (.goto (-35), 3) := by decide +kernel
theorem dX11_look_38 : decode cX11_look 38 = .ok (.aload_n 0, 1) := by decide +kernel
theorem dX11_look_39 : decode cX11_look 39 = .ok (.getfield 136, 3) := by decide +kernel
theorem dX11_look_42 : decode cX11_look 42 = .ok (.aload_n 0, 1) := by decide +kernel
theorem dX11_look_43 : decode cX11_look 43 = .ok (.getfield 132, 3) := by decide +kernel
theorem dX11_look_46 : decode cX11_look 46 = .ok (.if_icmp .ge 15, 3) := by decide +kernel
theorem dX11_look_49 : decode cX11_look 49 = .ok (.aload_n 0, 1) := by decide +kernel
theorem dX11_look_50 : decode cX11_look 50 = .ok (.getfield 50, 3) := by decide +kernel
theorem dX11_look_53 : decode cX11_look 53 = .ok (.aload_n 0, 1) := by decide +kernel
theorem dX11_look_54 : decode cX11_look 54 = .ok (.getfield 136, 3) := by decide +kernel
theorem dX11_look_57 : decode cX11_look 57 = .ok (.iaload, 1) := by decide +kernel
theorem dX11_look_58 : decode cX11_look 58 = .ok (.goto 4, 3) := by decide +kernel
theorem dX11_look_61 : decode cX11_look 61 = .ok (.iconst (-1), 1) := by decide +kernel
theorem dX11_look_62 : decode cX11_look 62 = .ok (.ireturn, 1) := by decide +kernel
theorem dX11_wrong_0 : decode cX11_wrong 0 = .ok (.aload_n 0, 1) := by decide +kernel
theorem dX11_wrong_1 : decode cX11_wrong 1 = .ok (.aload_n 0, 1) := by decide +kernel
theorem dX11_wrong_2 : decode cX11_wrong 2 = .ok (.getfield 139, 3) := by decide +kernel
theorem dX11_wrong_5 : decode cX11_wrong 5 = .ok (.ifCond .ne 7, 3) := by decide +kernel
theorem dX11_wrong_8 : decode cX11_wrong 8 = .ok (.iload_n 1, 1) := by decide +kernel
theorem dX11_wrong_9 : decode cX11_wrong 9 = .ok (.goto 7, 3) := by decide +kernel
theorem dX11_wrong_12 : decode cX11_wrong 12 = .ok (.aload_n 0, 1) := by decide +kernel
theorem dX11_wrong_13 : decode cX11_wrong 13 = .ok (.getfield 139, 3) := by decide +kernel
theorem dX11_wrong_16 : decode cX11_wrong 16 = .ok (.putfield 139, 3) := by decide +kernel
theorem dX11_wrong_19 : decode cX11_wrong 19 = .ok (.return_, 1) := by decide +kernel
theorem dX11_passes_0 : decode cX11_passes 0 = .ok (.aload_n 0, 1) := by decide +kernel
theorem dX11_passes_1 : decode cX11_passes 1 = .ok (.invokevirtual 142, 3) := by decide +kernel
theorem dX11_passes_4 : decode cX11_passes 4 = .ok (.iload_n 1, 1) := by decide +kernel
theorem dX11_passes_5 : decode cX11_passes 5 = .ok (.if_icmp .eq 8, 3) := by decide +kernel
theorem dX11_passes_8 : decode cX11_passes 8 = .ok (.aload_n 0, 1) := by decide +kernel
theorem dX11_passes_9 : decode cX11_passes 9 = .ok (.iconst 1, 1) := by decide +kernel
theorem dX11_passes_10 : decode cX11_passes 10 = .ok (.invokevirtual 145, 3) := by decide +kernel
theorem dX11_passes_13 : decode cX11_passes 13 = .ok (.aload_n 0, 1) := by decide +kernel
theorem dX11_passes_14 : decode cX11_passes 14 = .ok (.dup, 1) := by decide +kernel
theorem dX11_passes_15 : decode cX11_passes 15 = .ok (.getfield 136, 3) := by decide +kernel
theorem dX11_passes_18 : decode cX11_passes 18 = .ok (.aload_n 0, 1) := by decide +kernel
theorem dX11_passes_19 : decode cX11_passes 19 = .ok (.getfield 139, 3) := by decide +kernel
theorem dX11_passes_22 : decode cX11_passes 22 = .ok (.ifCond .ne 7, 3) := by decide +kernel
theorem dX11_passes_25 : decode cX11_passes 25 = .ok (.iconst 1, 1) := by decide +kernel
theorem dX11_passes_26 : decode cX11_passes 26 = .ok (.goto 4, 3) := by decide +kernel
theorem dX11_passes_29 : decode cX11_passes 29 = .ok (.iconst 0, 1) := by decide +kernel
theorem dX11_passes_30 : decode cX11_passes 30 = .ok (.iadd, 1) := by decide +kernel
theorem dX11_passes_31 : decode cX11_passes 31 = .ok (.putfield 136, 3) := by decide +kernel
theorem dX11_passes_34 : decode cX11_passes 34 = .ok (.return_, 1) := by decide +kernel
theorem dX11_line_0 : decode cX11_line 0 = .ok (.aload_n 0, 1) := by decide +kernel
theorem dX11_line_1 : decode cX11_line 1 = .ok (.invokevirtual 142, 3) := by decide +kernel
theorem dX11_line_4 : decode cX11_line 4 = .ok (.istore_n 1, 1) := by decide +kernel
theorem dX11_line_5 : decode cX11_line 5 = .ok (.iload_n 1, 1) := by decide +kernel
theorem dX11_line_6 : decode cX11_line 6 = .ok (.i2l, 1) := by decide +kernel
theorem dX11_line_7 : decode cX11_line 7 = .ok (.ldc2_w 149, 3) := by decide +kernel
theorem dX11_line_10 : decode cX11_line 10 = .ok (.ldc2_w 151, 3) := by decide +kernel
theorem dX11_line_13 : decode cX11_line 13 = .ok (.invokestatic 88, 3) := by decide +kernel
theorem dX11_line_16 : decode cX11_line 16 = .ok (.ifCond .ne 8, 3) := by decide +kernel
theorem dX11_line_19 : decode cX11_line 19 = .ok (.aload_n 0, 1) := by decide +kernel
theorem dX11_line_20 : decode cX11_line 20 = .ok (.iconst 1, 1) := by decide +kernel
theorem dX11_line_21 : decode cX11_line 21 = .ok (.invokevirtual 145, 3) := by decide +kernel
theorem dX11_line_24 : decode cX11_line 24 = .ok (.aload_n 0, 1) := by decide +kernel
theorem dX11_line_25 : decode cX11_line 25 = .ok (.getfield 139, 3) := by decide +kernel
theorem dX11_line_28 : decode cX11_line 28 = .ok (.ifCond .le 5, 3) := by decide +kernel
theorem dX11_line_31 : decode cX11_line 31 = .ok (.iconst 0, 1) := by decide +kernel
theorem dX11_line_32 : decode cX11_line 32 = .ok (.ireturn, 1) := by decide +kernel
theorem dX11_line_33 : decode cX11_line 33 = .ok (.aload_n 0, 1) := by decide +kernel
theorem dX11_line_34 : decode cX11_line 34 = .ok (.dup, 1) := by decide +kernel
theorem dX11_line_35 : decode cX11_line 35 = .ok (.getfield 136, 3) := by decide +kernel
theorem dX11_line_38 : decode cX11_line 38 = .ok (.iconst 1, 1) := by decide +kernel
theorem dX11_line_39 : decode cX11_line 39 = .ok (.iadd, 1) := by decide +kernel
theorem dX11_line_40 : decode cX11_line 40 = .ok (.putfield 136, 3) := by decide +kernel
theorem dX11_line_43 : decode cX11_line 43 = .ok (.aload_n 0, 1) := by decide +kernel
theorem dX11_line_44 : decode cX11_line 44 = .ok (.aload_n 0, 1) := by decide +kernel
theorem dX11_line_45 : decode cX11_line 45 = .ok (.getfield 153, 3) := by decide +kernel
theorem dX11_line_48 : decode cX11_line 48 = .ok (.ifCond .ne 10, 3) := by decide +kernel
theorem dX11_line_51 : decode cX11_line 51 = .ok (.iload_n 1, 1) := by decide +kernel
theorem dX11_line_52 : decode cX11_line 52 = .ok (.bipush 97, 2) := by decide +kernel
theorem dX11_line_54 : decode cX11_line 54 = .ok (.isub, 1) := by decide +kernel
theorem dX11_line_55 : decode cX11_line 55 = .ok (.goto 7, 3) := by decide +kernel
theorem dX11_line_58 : decode cX11_line 58 = .ok (.aload_n 0, 1) := by decide +kernel
theorem dX11_line_59 : decode cX11_line 59 = .ok (.getfield 156, 3) := by decide +kernel
theorem dX11_line_62 : decode cX11_line 62 = .ok (.putfield 156, 3) := by decide +kernel
theorem dX11_line_65 : decode cX11_line 65 = .ok (.aload_n 0, 1) := by decide +kernel
theorem dX11_line_66 : decode cX11_line 66 = .ok (.dup, 1) := by decide +kernel
theorem dX11_line_67 : decode cX11_line 67 = .ok (.getfield 153, 3) := by decide +kernel
theorem dX11_line_70 : decode cX11_line 70 = .ok (.iconst 1, 1) := by decide +kernel
theorem dX11_line_71 : decode cX11_line 71 = .ok (.iload_n 1, 1) := by decide +kernel
theorem dX11_line_72 : decode cX11_line 72 = .ok (.bipush 97, 2) := by decide +kernel
theorem dX11_line_74 : decode cX11_line 74 = .ok (.isub, 1) := by decide +kernel
theorem dX11_line_75 : decode cX11_line 75 = .ok (.ishl, 1) := by decide +kernel
theorem dX11_line_76 : decode cX11_line 76 = .ok (.ior, 1) := by decide +kernel
theorem dX11_line_77 : decode cX11_line 77 = .ok (.putfield 153, 3) := by decide +kernel
theorem dX11_line_80 : decode cX11_line 80 = .ok (.iload_n 1, 1) := by decide +kernel
theorem dX11_line_81 : decode cX11_line 81 = .ok (.bipush 97, 2) := by decide +kernel
theorem dX11_line_83 : decode cX11_line 83 = .ok (.isub, 1) := by decide +kernel
theorem dX11_line_84 : decode cX11_line 84 = .ok (.ireturn, 1) := by decide +kernel
theorem dX11_isMark_0 : decode cX11_isMark 0 = .ok (.aload_n 0, 1) := by decide +kernel
theorem dX11_isMark_1 : decode cX11_isMark 1 = .ok (.invokevirtual 142, 3) := by decide +kernel
theorem dX11_isMark_4 : decode cX11_isMark 4 = .ok (.i2l, 1) := by decide +kernel
theorem dX11_isMark_5 : decode cX11_isMark 5 = .ok (.ldc2_w 159, 3) := by decide +kernel
theorem dX11_isMark_8 : decode cX11_isMark 8 = .ok (.ldc2_w 161, 3) := by decide +kernel
theorem dX11_isMark_11 : decode cX11_isMark 11 = .ok (.invokestatic 88, 3) := by decide +kernel
theorem dX11_isMark_14 : decode cX11_isMark 14 = .ok (.ifCond .ne 20, 3) := by decide +kernel
theorem dX11_isMark_17 : decode cX11_isMark 17 = .ok (.aload_n 0, 1) := by decide +kernel
theorem dX11_isMark_18 : decode cX11_isMark 18 = .ok (.invokevirtual 142, 3) := by decide +kernel
theorem dX11_isMark_21 : decode cX11_isMark 21 = .ok (.i2l, 1) := by decide +kernel
theorem dX11_isMark_22 : decode cX11_isMark 22 = .ok (.ldc2_w 163, 3) := by decide +kernel
theorem dX11_isMark_25 : decode cX11_isMark 25 = .ok (.ldc2_w 165, 3) := by decide +kernel
theorem dX11_isMark_28 : decode cX11_isMark 28 = .ok (.invokestatic 88, 3) := by decide +kernel
theorem dX11_isMark_31 : decode cX11_isMark 31 = .ok (.ifCond .eq 7, 3) := by decide +kernel
theorem dX11_isMark_34 : decode cX11_isMark 34 = .ok (.iconst 1, 1) := by decide +kernel
theorem dX11_isMark_35 : decode cX11_isMark 35 = .ok (.goto 4, 3) := by decide +kernel
theorem dX11_isMark_38 : decode cX11_isMark 38 = .ok (.iconst 0, 1) := by decide +kernel
theorem dX11_isMark_39 : decode cX11_isMark 39 = .ok (.ireturn, 1) := by decide +kernel
theorem dX11_readsAlternative_0 : decode cX11_readsAlternative 0 = .ok (.iconst 3, 1) := by decide +kernel
theorem dX11_readsAlternative_1 : decode cX11_readsAlternative 1 = .ok (.iload_n 1, 1) := by decide +kernel
theorem dX11_readsAlternative_2 : decode cX11_readsAlternative 2 = .ok (.imul, 1) := by decide +kernel
theorem dX11_readsAlternative_3 : decode cX11_readsAlternative 3 = .ok (.aload_n 0, 1) := by decide +kernel
theorem dX11_readsAlternative_4 : decode cX11_readsAlternative 4 = .ok (.getfield 53, 3) := by decide +kernel
theorem dX11_readsAlternative_7 : decode cX11_readsAlternative 7 = .ok (.bipush 6, 2) := by decide +kernel
theorem dX11_readsAlternative_9 : decode cX11_readsAlternative 9 = .ok (.iload_n 1, 1) := by decide +kernel
theorem dX11_readsAlternative_10 : decode cX11_readsAlternative 10 = .ok (.imul, 1) := by decide +kernel
theorem dX11_readsAlternative_11 : decode cX11_readsAlternative 11 = .ok (.iconst 3, 1) := by decide +kernel
theorem dX11_readsAlternative_12 : decode cX11_readsAlternative 12 = .ok (.iadd, 1) := by decide +kernel
theorem dX11_readsAlternative_13 : decode cX11_readsAlternative 13 = .ok (.iaload, 1) := by decide +kernel
theorem dX11_readsAlternative_14 : decode cX11_readsAlternative 14 = .ok (.iadd, 1) := by decide +kernel
theorem dX11_readsAlternative_15 : decode cX11_readsAlternative 15 = .ok (.istore_n 2, 1) := by decide +kernel
theorem dX11_readsAlternative_16 : decode cX11_readsAlternative 16 = .ok (.aload_n 0, 1) := by decide +kernel
theorem dX11_readsAlternative_17 : decode cX11_readsAlternative 17 = .ok (.invokevirtual 167, 3) := by decide +kernel
theorem dX11_readsAlternative_20 : decode cX11_readsAlternative 20 = .ok (.ifCond .ne 8, 3) := by decide +kernel
theorem dX11_readsAlternative_23 : decode cX11_readsAlternative 23 = .ok (.aload_n 0, 1) := by decide +kernel
theorem dX11_readsAlternative_24 : decode cX11_readsAlternative 24 = .ok (.iconst 1, 1) := by decide +kernel
theorem dX11_readsAlternative_25 : decode cX11_readsAlternative 25 = .ok (.invokevirtual 145, 3) := by decide +kernel
theorem dX11_readsAlternative_28 : decode cX11_readsAlternative 28 = .ok (.aload_n 0, 1) := by decide +kernel
theorem dX11_readsAlternative_29 : decode cX11_readsAlternative 29 = .ok (.getfield 56, 3) := by decide +kernel
theorem dX11_readsAlternative_32 : decode cX11_readsAlternative 32 = .ok (.iload_n 2, 1) := by decide +kernel
theorem dX11_readsAlternative_33 : decode cX11_readsAlternative 33 = .ok (.iconst 0, 1) := by decide +kernel
theorem dX11_readsAlternative_34 : decode cX11_readsAlternative 34 = .ok (.iastore, 1) := by decide +kernel
theorem dX11_readsAlternative_35 : decode cX11_readsAlternative 35 = .ok (.aload_n 0, 1) := by decide +kernel
theorem dX11_readsAlternative_36 : decode cX11_readsAlternative 36 = .ok (.getfield 59, 3) := by decide +kernel
theorem dX11_readsAlternative_39 : decode cX11_readsAlternative 39 = .ok (.iload_n 2, 1) := by decide +kernel
theorem dX11_readsAlternative_40 : decode cX11_readsAlternative 40 = .ok (.iconst 0, 1) := by decide +kernel
theorem dX11_readsAlternative_41 : decode cX11_readsAlternative 41 = .ok (.iastore, 1) := by decide +kernel
theorem dX11_readsAlternative_42 : decode cX11_readsAlternative 42 = .ok (.aload_n 0, 1) := by decide +kernel
theorem dX11_readsAlternative_43 : decode cX11_readsAlternative 43 = .ok (.getfield 139, 3) := by decide +kernel
theorem dX11_readsAlternative_46 : decode cX11_readsAlternative 46 = .ok (.ifCond .ne 78, 3) := by decide +kernel
theorem dX11_readsAlternative_49 : decode cX11_readsAlternative 49 = .ok (.aload_n 0, 1) := by decide +kernel
theorem dX11_readsAlternative_50 : decode cX11_readsAlternative 50 = .ok (.invokevirtual 167, 3) := by decide +kernel
theorem dX11_readsAlternative_53 : decode cX11_readsAlternative 53 = .ok (.ifCond .eq 71, 3) := by decide +kernel
theorem dX11_readsAlternative_56 : decode cX11_readsAlternative 56 = .ok (.aload_n 0, 1) := by decide +kernel
theorem dX11_readsAlternative_57 : decode cX11_readsAlternative 57 = .ok (.invokevirtual 142, 3) := by decide +kernel
theorem dX11_readsAlternative_60 : decode cX11_readsAlternative 60 = .ok (.istore_n 3, 1) := by decide +kernel
theorem dX11_readsAlternative_61 : decode cX11_readsAlternative 61 = .ok (.aload_n 0, 1) := by decide +kernel
theorem dX11_readsAlternative_62 : decode cX11_readsAlternative 62 = .ok (.getfield 56, 3) := by decide +kernel
theorem dX11_readsAlternative_65 : decode cX11_readsAlternative 65 = .ok (.iload_n 2, 1) := by decide +kernel
theorem dX11_readsAlternative_66 : decode cX11_readsAlternative 66 = .ok (.dup2, 1) := by decide +kernel
theorem dX11_readsAlternative_67 : decode cX11_readsAlternative 67 = .ok (.iaload, 1) := by decide +kernel
theorem dX11_readsAlternative_68 : decode cX11_readsAlternative 68 = .ok (.iload_n 3, 1) := by decide +kernel
theorem dX11_readsAlternative_69 : decode cX11_readsAlternative 69 = .ok (.bipush 113, 2) := by decide +kernel
theorem dX11_readsAlternative_71 : decode cX11_readsAlternative 71 = .ok (.if_icmp .lt 12, 3) := by decide +kernel
theorem dX11_readsAlternative_74 : decode cX11_readsAlternative 74 = .ok (.iconst 1, 1) := by decide +kernel
theorem dX11_readsAlternative_75 : decode cX11_readsAlternative 75 = .ok (.iload_n 3, 1) := by decide +kernel
theorem dX11_readsAlternative_76 : decode cX11_readsAlternative 76 = .ok (.bipush 113, 2) := by decide +kernel
theorem dX11_readsAlternative_78 : decode cX11_readsAlternative 78 = .ok (.isub, 1) := by decide +kernel
theorem dX11_readsAlternative_79 : decode cX11_readsAlternative 79 = .ok (.ishl, 1) := by decide +kernel
theorem dX11_readsAlternative_80 : decode cX11_readsAlternative 80 = .ok (.goto 4, 3) := by decide +kernel
theorem dX11_readsAlternative_83 : decode cX11_readsAlternative 83 = .ok (.iconst 0, 1) := by decide +kernel
theorem dX11_readsAlternative_84 : decode cX11_readsAlternative 84 = .ok (.ior, 1) := by decide +kernel
theorem dX11_readsAlternative_85 : decode cX11_readsAlternative 85 = .ok (.iastore, 1) := by decide +kernel
theorem dX11_readsAlternative_86 : decode cX11_readsAlternative 86 = .ok (.aload_n 0, 1) := by decide +kernel
theorem dX11_readsAlternative_87 : decode cX11_readsAlternative 87 = .ok (.getfield 59, 3) := by decide +kernel
theorem dX11_readsAlternative_90 : decode cX11_readsAlternative 90 = .ok (.iload_n 2, 1) := by decide +kernel
theorem dX11_readsAlternative_91 : decode cX11_readsAlternative 91 = .ok (.dup2, 1) := by decide +kernel
theorem dX11_readsAlternative_92 : decode cX11_readsAlternative 92 = .ok (.iaload, 1) := by decide +kernel
theorem dX11_readsAlternative_93 : decode cX11_readsAlternative 93 = .ok (.iload_n 3, 1) := by decide +kernel
theorem dX11_readsAlternative_94 : decode cX11_readsAlternative 94 = .ok (.bipush 113, 2) := by decide +kernel
theorem dX11_readsAlternative_96 : decode cX11_readsAlternative 96 = .ok (.if_icmp .lt 7, 3) := by decide +kernel
theorem dX11_readsAlternative_99 : decode cX11_readsAlternative 99 = .ok (.iconst 0, 1) := by decide +kernel
theorem dX11_readsAlternative_100 : decode cX11_readsAlternative 100 = .ok (.goto 9, 3) := by decide +kernel
theorem dX11_readsAlternative_103 : decode cX11_readsAlternative 103 = .ok (.iconst 1, 1) := by decide +kernel
theorem dX11_readsAlternative_104 : decode cX11_readsAlternative 104 = .ok (.iload_n 3, 1) := by decide +kernel
theorem dX11_readsAlternative_105 : decode cX11_readsAlternative 105 = .ok (.bipush 81, 2) := by decide +kernel
theorem dX11_readsAlternative_107 : decode cX11_readsAlternative 107 = .ok (.isub, 1) := by decide +kernel
theorem dX11_readsAlternative_108 : decode cX11_readsAlternative 108 = .ok (.ishl, 1) := by decide +kernel
theorem dX11_readsAlternative_109 : decode cX11_readsAlternative 109 = .ok (.ior, 1) := by decide +kernel
theorem dX11_readsAlternative_110 : decode cX11_readsAlternative 110 = .ok (.iastore, 1) := by decide +kernel
theorem dX11_readsAlternative_111 : decode cX11_readsAlternative 111 = .ok (.aload_n 0, 1) := by decide +kernel
theorem dX11_readsAlternative_112 : decode cX11_readsAlternative 112 = .ok (.dup, 1) := by decide +kernel
theorem dX11_readsAlternative_113 : decode cX11_readsAlternative 113 = .ok (.getfield 136, 3) := by decide +kernel
theorem dX11_readsAlternative_116 : decode cX11_readsAlternative 116 = .ok (.iconst 1, 1) := by decide +kernel
theorem dX11_readsAlternative_117 : decode cX11_readsAlternative 117 = .ok (.iadd, 1) := by decide +kernel
theorem dX11_readsAlternative_118 : decode cX11_readsAlternative 118 = .ok (.putfield 136, 3) := by decide +kernel
theorem dX11_readsAlternative_121 : decode cX11_readsAlternative 121 = .ok (.goto (-79), 3) := by decide +kernel
theorem dX11_readsAlternative_124 : decode cX11_readsAlternative 124 = .ok (.aload_n 0, 1) := by decide +kernel
theorem dX11_readsAlternative_125 : decode cX11_readsAlternative 125 = .ok (.getfield 53, 3) := by decide +kernel
theorem dX11_readsAlternative_128 : decode cX11_readsAlternative 128 = .ok (.bipush 6, 2) := by decide +kernel
theorem dX11_readsAlternative_130 : decode cX11_readsAlternative 130 = .ok (.iload_n 1, 1) := by decide +kernel
theorem dX11_readsAlternative_131 : decode cX11_readsAlternative 131 = .ok (.imul, 1) := by decide +kernel
theorem dX11_readsAlternative_132 : decode cX11_readsAlternative 132 = .ok (.iconst 3, 1) := by decide +kernel
theorem dX11_readsAlternative_133 : decode cX11_readsAlternative 133 = .ok (.iadd, 1) := by decide +kernel
theorem dX11_readsAlternative_134 : decode cX11_readsAlternative 134 = .ok (.dup2, 1) := by decide +kernel
theorem dX11_readsAlternative_135 : decode cX11_readsAlternative 135 = .ok (.iaload, 1) := by decide +kernel
theorem dX11_readsAlternative_136 : decode cX11_readsAlternative 136 = .ok (.iconst 1, 1) := by decide +kernel
theorem dX11_readsAlternative_137 : decode cX11_readsAlternative 137 = .ok (.iadd, 1) := by decide +kernel
theorem dX11_readsAlternative_138 : decode cX11_readsAlternative 138 = .ok (.iastore, 1) := by decide +kernel
theorem dX11_readsAlternative_139 : decode cX11_readsAlternative 139 = .ok (.return_, 1) := by decide +kernel
theorem dX11_readsGuard_0 : decode cX11_readsGuard 0 = .ok (.aload_n 0, 1) := by decide +kernel
theorem dX11_readsGuard_1 : decode cX11_readsGuard 1 = .ok (.bipush 63, 2) := by decide +kernel
theorem dX11_readsGuard_3 : decode cX11_readsGuard 3 = .ok (.invokevirtual 171, 3) := by decide +kernel
theorem dX11_readsGuard_6 : decode cX11_readsGuard 6 = .ok (.aload_n 0, 1) := by decide +kernel
theorem dX11_readsGuard_7 : decode cX11_readsGuard 7 = .ok (.iload_n 1, 1) := by decide +kernel
theorem dX11_readsGuard_8 : decode cX11_readsGuard 8 = .ok (.invokevirtual 174, 3) := by decide +kernel
theorem dX11_readsGuard_11 : decode cX11_readsGuard 11 = .ok (.aload_n 0, 1) := by decide +kernel
theorem dX11_readsGuard_12 : decode cX11_readsGuard 12 = .ok (.getfield 139, 3) := by decide +kernel
theorem dX11_readsGuard_15 : decode cX11_readsGuard 15 = .ok (.ifCond .ne 53, 3) := by decide +kernel
theorem dX11_readsGuard_18 : decode cX11_readsGuard 18 = .ok (.aload_n 0, 1) := by decide +kernel
theorem dX11_readsGuard_19 : decode cX11_readsGuard 19 = .ok (.invokevirtual 142, 3) := by decide +kernel
theorem dX11_readsGuard_22 : decode cX11_readsGuard 22 = .ok (.bipush 124, 2) := by decide +kernel
theorem dX11_readsGuard_24 : decode cX11_readsGuard 24 = .ok (.if_icmp .ne 44, 3) := by decide +kernel
theorem dX11_readsGuard_27 : decode cX11_readsGuard 27 = .ok (.aload_n 0, 1) := by decide +kernel
theorem dX11_readsGuard_28 : decode cX11_readsGuard 28 = .ok (.getfield 53, 3) := by decide +kernel
theorem dX11_readsGuard_31 : decode cX11_readsGuard 31 = .ok (.bipush 6, 2) := by decide +kernel
theorem dX11_readsGuard_33 : decode cX11_readsGuard 33 = .ok (.iload_n 1, 1) := by decide +kernel
theorem dX11_readsGuard_34 : decode cX11_readsGuard 34 = .ok (.imul, 1) := by decide +kernel
theorem dX11_readsGuard_35 : decode cX11_readsGuard 35 = .ok (.iconst 3, 1) := by decide +kernel
theorem dX11_readsGuard_36 : decode cX11_readsGuard 36 = .ok (.iadd, 1) := by decide +kernel
theorem dX11_readsGuard_37 : decode cX11_readsGuard 37 = .ok (.iaload, 1) := by decide +kernel
theorem dX11_readsGuard_38 : decode cX11_readsGuard 38 = .ok (.iconst 3, 1) := by decide +kernel
theorem dX11_readsGuard_39 : decode cX11_readsGuard 39 = .ok (.if_icmp .ne 8, 3) := by decide +kernel
theorem dX11_readsGuard_42 : decode cX11_readsGuard 42 = .ok (.aload_n 0, 1) := by decide +kernel
theorem dX11_readsGuard_43 : decode cX11_readsGuard 43 = .ok (.iconst 2, 1) := by decide +kernel
theorem dX11_readsGuard_44 : decode cX11_readsGuard 44 = .ok (.invokevirtual 145, 3) := by decide +kernel
theorem dX11_readsGuard_47 : decode cX11_readsGuard 47 = .ok (.aload_n 0, 1) := by decide +kernel
theorem dX11_readsGuard_48 : decode cX11_readsGuard 48 = .ok (.bipush 124, 2) := by decide +kernel
theorem dX11_readsGuard_50 : decode cX11_readsGuard 50 = .ok (.invokevirtual 171, 3) := by decide +kernel
theorem dX11_readsGuard_53 : decode cX11_readsGuard 53 = .ok (.aload_n 0, 1) := by decide +kernel
theorem dX11_readsGuard_54 : decode cX11_readsGuard 54 = .ok (.getfield 139, 3) := by decide +kernel
theorem dX11_readsGuard_57 : decode cX11_readsGuard 57 = .ok (.ifCond .ne (-46), 3) := by decide +kernel
theorem dX11_readsGuard_60 : decode cX11_readsGuard 60 = .ok (.aload_n 0, 1) := by decide +kernel
theorem dX11_readsGuard_61 : decode cX11_readsGuard 61 = .ok (.iload_n 1, 1) := by decide +kernel
theorem dX11_readsGuard_62 : decode cX11_readsGuard 62 = .ok (.invokevirtual 174, 3) := by decide +kernel
theorem dX11_readsGuard_65 : decode cX11_readsGuard 65 = .ok (.goto (-54), 3) := by decide +kernel
theorem dX11_readsGuard_68 : decode cX11_readsGuard 68 = .ok (.return_, 1) := by decide +kernel
theorem dX11_readsEffect_0 : decode cX11_readsEffect 0 = .ok (.aload_n 0, 1) := by decide +kernel
theorem dX11_readsEffect_1 : decode cX11_readsEffect 1 = .ok (.bipush 33, 2) := by decide +kernel
theorem dX11_readsEffect_3 : decode cX11_readsEffect 3 = .ok (.invokevirtual 171, 3) := by decide +kernel
theorem dX11_readsEffect_6 : decode cX11_readsEffect 6 = .ok (.aload_n 0, 1) := by decide +kernel
theorem dX11_readsEffect_7 : decode cX11_readsEffect 7 = .ok (.invokevirtual 167, 3) := by decide +kernel
theorem dX11_readsEffect_10 : decode cX11_readsEffect 10 = .ok (.ifCond .ne 8, 3) := by decide +kernel
theorem dX11_readsEffect_13 : decode cX11_readsEffect 13 = .ok (.aload_n 0, 1) := by decide +kernel
theorem dX11_readsEffect_14 : decode cX11_readsEffect 14 = .ok (.iconst 1, 1) := by decide +kernel
theorem dX11_readsEffect_15 : decode cX11_readsEffect 15 = .ok (.invokevirtual 145, 3) := by decide +kernel
theorem dX11_readsEffect_18 : decode cX11_readsEffect 18 = .ok (.aload_n 0, 1) := by decide +kernel
theorem dX11_readsEffect_19 : decode cX11_readsEffect 19 = .ok (.getfield 139, 3) := by decide +kernel
theorem dX11_readsEffect_22 : decode cX11_readsEffect 22 = .ok (.ifCond .ne 111, 3) := by decide +kernel
theorem dX11_readsEffect_25 : decode cX11_readsEffect 25 = .ok (.aload_n 0, 1) := by decide +kernel
theorem dX11_readsEffect_26 : decode cX11_readsEffect 26 = .ok (.invokevirtual 167, 3) := by decide +kernel
theorem dX11_readsEffect_29 : decode cX11_readsEffect 29 = .ok (.ifCond .eq 104, 3) := by decide +kernel
theorem dX11_readsEffect_32 : decode cX11_readsEffect 32 = .ok (.aload_n 0, 1) := by decide +kernel
theorem dX11_readsEffect_33 : decode cX11_readsEffect 33 = .ok (.invokevirtual 142, 3) := by decide +kernel
theorem dX11_readsEffect_36 : decode cX11_readsEffect 36 = .ok (.istore_n 2, 1) := by decide +kernel
theorem dX11_readsEffect_37 : decode cX11_readsEffect 37 = .ok (.iload_n 2, 1) := by decide +kernel
theorem dX11_readsEffect_38 : decode cX11_readsEffect 38 = .ok (.bipush 113, 2) := by decide +kernel
theorem dX11_readsEffect_40 : decode cX11_readsEffect 40 = .ok (.if_icmp .lt 10, 3) := by decide +kernel
theorem dX11_readsEffect_43 : decode cX11_readsEffect 43 = .ok (.iload_n 2, 1) := by decide +kernel
theorem dX11_readsEffect_44 : decode cX11_readsEffect 44 = .ok (.bipush 113, 2) := by decide +kernel
theorem dX11_readsEffect_46 : decode cX11_readsEffect 46 = .ok (.isub, 1) := by decide +kernel
theorem dX11_readsEffect_47 : decode cX11_readsEffect 47 = .ok (.goto 7, 3) := by decide +kernel
theorem dX11_readsEffect_50 : decode cX11_readsEffect 50 = .ok (.iload_n 2, 1) := by decide +kernel
theorem dX11_readsEffect_51 : decode cX11_readsEffect 51 = .ok (.bipush 81, 2) := by decide +kernel
theorem dX11_readsEffect_53 : decode cX11_readsEffect 53 = .ok (.isub, 1) := by decide +kernel
theorem dX11_readsEffect_54 : decode cX11_readsEffect 54 = .ok (.istore_n 3, 1) := by decide +kernel
theorem dX11_readsEffect_55 : decode cX11_readsEffect 55 = .ok (.aload_n 0, 1) := by decide +kernel
theorem dX11_readsEffect_56 : decode cX11_readsEffect 56 = .ok (.getfield 53, 3) := by decide +kernel
theorem dX11_readsEffect_59 : decode cX11_readsEffect 59 = .ok (.bipush 6, 2) := by decide +kernel
theorem dX11_readsEffect_61 : decode cX11_readsEffect 61 = .ok (.iload_n 1, 1) := by decide +kernel
theorem dX11_readsEffect_62 : decode cX11_readsEffect 62 = .ok (.imul, 1) := by decide +kernel
theorem dX11_readsEffect_63 : decode cX11_readsEffect 63 = .ok (.iconst 4, 1) := by decide +kernel
theorem dX11_readsEffect_64 : decode cX11_readsEffect 64 = .ok (.iadd, 1) := by decide +kernel
theorem dX11_readsEffect_65 : decode cX11_readsEffect 65 = .ok (.iaload, 1) := by decide +kernel
theorem dX11_readsEffect_66 : decode cX11_readsEffect 66 = .ok (.aload_n 0, 1) := by decide +kernel
theorem dX11_readsEffect_67 : decode cX11_readsEffect 67 = .ok (.getfield 53, 3) := by decide +kernel
theorem dX11_readsEffect_70 : decode cX11_readsEffect 70 = .ok (.bipush 6, 2) := by decide +kernel
theorem dX11_readsEffect_72 : decode cX11_readsEffect 72 = .ok (.iload_n 1, 1) := by decide +kernel
theorem dX11_readsEffect_73 : decode cX11_readsEffect 73 = .ok (.imul, 1) := by decide +kernel
theorem dX11_readsEffect_74 : decode cX11_readsEffect 74 = .ok (.iconst 5, 1) := by decide +kernel
theorem dX11_readsEffect_75 : decode cX11_readsEffect 75 = .ok (.iadd, 1) := by decide +kernel
theorem dX11_readsEffect_76 : decode cX11_readsEffect 76 = .ok (.iaload, 1) := by decide +kernel
theorem dX11_readsEffect_77 : decode cX11_readsEffect 77 = .ok (.ior, 1) := by decide +kernel
theorem dX11_readsEffect_78 : decode cX11_readsEffect 78 = .ok (.iload_n 3, 1) := by decide +kernel
theorem dX11_readsEffect_79 : decode cX11_readsEffect 79 = .ok (.invokestatic 94, 3) := by decide +kernel
theorem dX11_readsEffect_82 : decode cX11_readsEffect 82 = .ok (.ifCond .eq 11, 3) := by decide +kernel
theorem dX11_readsEffect_85 : decode cX11_readsEffect 85 = .ok (.aload_n 0, 1) := by decide +kernel
theorem dX11_readsEffect_86 : decode cX11_readsEffect 86 = .ok (.iconst 4, 1) := by decide +kernel
theorem dX11_readsEffect_87 : decode cX11_readsEffect 87 = .ok (.invokevirtual 145, 3) := by decide +kernel
theorem dX11_readsEffect_90 : decode cX11_readsEffect 90 = .ok (.goto 40, 3) := by decide +kernel
theorem dX11_readsEffect_93 : decode cX11_readsEffect 93 = .ok (.aload_n 0, 1) := by decide +kernel
theorem dX11_readsEffect_94 : decode cX11_readsEffect 94 = .ok (.getfield 53, 3) := by decide +kernel
theorem dX11_readsEffect_97 : decode cX11_readsEffect 97 = .ok (.bipush 6, 2) := by decide +kernel
theorem dX11_readsEffect_99 : decode cX11_readsEffect 99 = .ok (.iload_n 1, 1) := by decide +kernel
theorem dX11_readsEffect_100 : decode cX11_readsEffect 100 = .ok (.imul, 1) := by decide +kernel
theorem dX11_readsEffect_101 : decode cX11_readsEffect 101 = .ok (.iload_n 2, 1) := by decide +kernel
theorem dX11_readsEffect_102 : decode cX11_readsEffect 102 = .ok (.bipush 113, 2) := by decide +kernel
theorem dX11_readsEffect_104 : decode cX11_readsEffect 104 = .ok (.if_icmp .lt 7, 3) := by decide +kernel
theorem dX11_readsEffect_107 : decode cX11_readsEffect 107 = .ok (.iconst 4, 1) := by decide +kernel
theorem dX11_readsEffect_108 : decode cX11_readsEffect 108 = .ok (.goto 4, 3) := by decide +kernel
theorem dX11_readsEffect_111 : decode cX11_readsEffect 111 = .ok (.iconst 5, 1) := by decide +kernel
theorem dX11_readsEffect_112 : decode cX11_readsEffect 112 = .ok (.iadd, 1) := by decide +kernel
theorem dX11_readsEffect_113 : decode cX11_readsEffect 113 = .ok (.dup2, 1) := by decide +kernel
theorem dX11_readsEffect_114 : decode cX11_readsEffect 114 = .ok (.iaload, 1) := by decide +kernel
theorem dX11_readsEffect_115 : decode cX11_readsEffect 115 = .ok (.iconst 1, 1) := by decide +kernel
theorem dX11_readsEffect_116 : decode cX11_readsEffect 116 = .ok (.iload_n 3, 1) := by decide +kernel
theorem dX11_readsEffect_117 : decode cX11_readsEffect 117 = .ok (.ishl, 1) := by decide +kernel
theorem dX11_readsEffect_118 : decode cX11_readsEffect 118 = .ok (.ior, 1) := by decide +kernel
theorem dX11_readsEffect_119 : decode cX11_readsEffect 119 = .ok (.iastore, 1) := by decide +kernel
theorem dX11_readsEffect_120 : decode cX11_readsEffect 120 = .ok (.aload_n 0, 1) := by decide +kernel
theorem dX11_readsEffect_121 : decode cX11_readsEffect 121 = .ok (.dup, 1) := by decide +kernel
theorem dX11_readsEffect_122 : decode cX11_readsEffect 122 = .ok (.getfield 136, 3) := by decide +kernel
theorem dX11_readsEffect_125 : decode cX11_readsEffect 125 = .ok (.iconst 1, 1) := by decide +kernel
theorem dX11_readsEffect_126 : decode cX11_readsEffect 126 = .ok (.iadd, 1) := by decide +kernel
theorem dX11_readsEffect_127 : decode cX11_readsEffect 127 = .ok (.putfield 136, 3) := by decide +kernel
theorem dX11_readsEffect_130 : decode cX11_readsEffect 130 = .ok (.goto (-112), 3) := by decide +kernel
theorem dX11_readsEffect_133 : decode cX11_readsEffect 133 = .ok (.return_, 1) := by decide +kernel
theorem dX11_readsAnswer_0 : decode cX11_readsAnswer 0 = .ok (.aload_n 0, 1) := by decide +kernel
theorem dX11_readsAnswer_1 : decode cX11_readsAnswer 1 = .ok (.getfield 177, 3) := by decide +kernel
theorem dX11_readsAnswer_4 : decode cX11_readsAnswer 4 = .ok (.bipush 32, 2) := by decide +kernel
theorem dX11_readsAnswer_6 : decode cX11_readsAnswer 6 = .ok (.if_icmp .ne 8, 3) := by decide +kernel
theorem dX11_readsAnswer_9 : decode cX11_readsAnswer 9 = .ok (.aload_n 0, 1) := by decide +kernel
theorem dX11_readsAnswer_10 : decode cX11_readsAnswer 10 = .ok (.iconst 3, 1) := by decide +kernel
theorem dX11_readsAnswer_11 : decode cX11_readsAnswer 11 = .ok (.invokevirtual 145, 3) := by decide +kernel
theorem dX11_readsAnswer_14 : decode cX11_readsAnswer 14 = .ok (.aload_n 0, 1) := by decide +kernel
theorem dX11_readsAnswer_15 : decode cX11_readsAnswer 15 = .ok (.bipush 62, 2) := by decide +kernel
theorem dX11_readsAnswer_17 : decode cX11_readsAnswer 17 = .ok (.invokevirtual 171, 3) := by decide +kernel
theorem dX11_readsAnswer_20 : decode cX11_readsAnswer 20 = .ok (.aload_n 0, 1) := by decide +kernel
theorem dX11_readsAnswer_21 : decode cX11_readsAnswer 21 = .ok (.getfield 139, 3) := by decide +kernel
theorem dX11_readsAnswer_24 : decode cX11_readsAnswer 24 = .ok (.ifCond .le 4, 3) := by decide +kernel
theorem dX11_readsAnswer_27 : decode cX11_readsAnswer 27 = .ok (.return_, 1) := by decide +kernel
theorem dX11_readsAnswer_28 : decode cX11_readsAnswer 28 = .ok (.aload_n 0, 1) := by decide +kernel
theorem dX11_readsAnswer_29 : decode cX11_readsAnswer 29 = .ok (.getfield 177, 3) := by decide +kernel
theorem dX11_readsAnswer_32 : decode cX11_readsAnswer 32 = .ok (.istore_n 2, 1) := by decide +kernel
theorem dX11_readsAnswer_33 : decode cX11_readsAnswer 33 = .ok (.aload_n 0, 1) := by decide +kernel
theorem dX11_readsAnswer_34 : decode cX11_readsAnswer 34 = .ok (.dup, 1) := by decide +kernel
theorem dX11_readsAnswer_35 : decode cX11_readsAnswer 35 = .ok (.getfield 177, 3) := by decide +kernel
theorem dX11_readsAnswer_38 : decode cX11_readsAnswer 38 = .ok (.iconst 1, 1) := by decide +kernel
theorem dX11_readsAnswer_39 : decode cX11_readsAnswer 39 = .ok (.iadd, 1) := by decide +kernel
theorem dX11_readsAnswer_40 : decode cX11_readsAnswer 40 = .ok (.putfield 177, 3) := by decide +kernel
theorem dX11_readsAnswer_43 : decode cX11_readsAnswer 43 = .ok (.iconst 0, 1) := by decide +kernel
theorem dX11_readsAnswer_44 : decode cX11_readsAnswer 44 = .ok (.istore_n 3, 1) := by decide +kernel
theorem dX11_readsAnswer_45 : decode cX11_readsAnswer 45 = .ok (.iload_n 3, 1) := by decide +kernel
theorem dX11_readsAnswer_46 : decode cX11_readsAnswer 46 = .ok (.bipush 6, 2) := by decide +kernel
theorem dX11_readsAnswer_48 : decode cX11_readsAnswer 48 = .ok (.if_icmp .ge 21, 3) := by decide +kernel
theorem dX11_readsAnswer_51 : decode cX11_readsAnswer 51 = .ok (.aload_n 0, 1) := by decide +kernel
theorem dX11_readsAnswer_52 : decode cX11_readsAnswer 52 = .ok (.getfield 53, 3) := by decide +kernel
theorem dX11_readsAnswer_55 : decode cX11_readsAnswer 55 = .ok (.bipush 6, 2) := by decide +kernel
theorem dX11_readsAnswer_57 : decode cX11_readsAnswer 57 = .ok (.iload_n 2, 1) := by decide +kernel
theorem dX11_readsAnswer_58 : decode cX11_readsAnswer 58 = .ok (.imul, 1) := by decide +kernel
theorem dX11_readsAnswer_59 : decode cX11_readsAnswer 59 = .ok (.iload_n 3, 1) := by decide +kernel
theorem dX11_readsAnswer_60 : decode cX11_readsAnswer 60 = .ok (.iadd, 1) := by decide +kernel
theorem dX11_readsAnswer_61 : decode cX11_readsAnswer 61 = .ok (.iconst 0, 1) := by decide +kernel
theorem dX11_readsAnswer_62 : decode cX11_readsAnswer 62 = .ok (.iastore, 1) := by decide +kernel
theorem dX11_readsAnswer_63 : decode cX11_readsAnswer 63 = .ok (.iinc 3 1, 3) := by decide +kernel
theorem dX11_readsAnswer_66 : decode cX11_readsAnswer 66 = .ok (.goto (-21), 3) := by decide +kernel
theorem dX11_readsAnswer_69 : decode cX11_readsAnswer 69 = .ok (.aload_n 0, 1) := by decide +kernel
theorem dX11_readsAnswer_70 : decode cX11_readsAnswer 70 = .ok (.getfield 53, 3) := by decide +kernel
theorem dX11_readsAnswer_73 : decode cX11_readsAnswer 73 = .ok (.bipush 6, 2) := by decide +kernel
theorem dX11_readsAnswer_75 : decode cX11_readsAnswer 75 = .ok (.iload_n 2, 1) := by decide +kernel
theorem dX11_readsAnswer_76 : decode cX11_readsAnswer 76 = .ok (.imul, 1) := by decide +kernel
theorem dX11_readsAnswer_77 : decode cX11_readsAnswer 77 = .ok (.iload_n 1, 1) := by decide +kernel
theorem dX11_readsAnswer_78 : decode cX11_readsAnswer 78 = .ok (.iastore, 1) := by decide +kernel
theorem dX11_readsAnswer_79 : decode cX11_readsAnswer 79 = .ok (.aload_n 0, 1) := by decide +kernel
theorem dX11_readsAnswer_80 : decode cX11_readsAnswer 80 = .ok (.getfield 53, 3) := by decide +kernel
theorem dX11_readsAnswer_83 : decode cX11_readsAnswer 83 = .ok (.bipush 6, 2) := by decide +kernel
theorem dX11_readsAnswer_85 : decode cX11_readsAnswer 85 = .ok (.iload_n 2, 1) := by decide +kernel
theorem dX11_readsAnswer_86 : decode cX11_readsAnswer 86 = .ok (.imul, 1) := by decide +kernel
theorem dX11_readsAnswer_87 : decode cX11_readsAnswer 87 = .ok (.iconst 1, 1) := by decide +kernel
theorem dX11_readsAnswer_88 : decode cX11_readsAnswer 88 = .ok (.iadd, 1) := by decide +kernel
theorem dX11_readsAnswer_89 : decode cX11_readsAnswer 89 = .ok (.aload_n 0, 1) := by decide +kernel
theorem dX11_readsAnswer_90 : decode cX11_readsAnswer 90 = .ok (.invokevirtual 180, 3) := by decide +kernel
theorem dX11_readsAnswer_93 : decode cX11_readsAnswer 93 = .ok (.iastore, 1) := by decide +kernel
theorem dX11_readsAnswer_94 : decode cX11_readsAnswer 94 = .ok (.aload_n 0, 1) := by decide +kernel
theorem dX11_readsAnswer_95 : decode cX11_readsAnswer 95 = .ok (.getfield 139, 3) := by decide +kernel
theorem dX11_readsAnswer_98 : decode cX11_readsAnswer 98 = .ok (.ifCond .ne 48, 3) := by decide +kernel
theorem dX11_readsAnswer_101 : decode cX11_readsAnswer 101 = .ok (.aload_n 0, 1) := by decide +kernel
theorem dX11_readsAnswer_102 : decode cX11_readsAnswer 102 = .ok (.invokevirtual 142, 3) := by decide +kernel
theorem dX11_readsAnswer_105 : decode cX11_readsAnswer 105 = .ok (.i2l, 1) := by decide +kernel
theorem dX11_readsAnswer_106 : decode cX11_readsAnswer 106 = .ok (.ldc2_w 183, 3) := by decide +kernel
theorem dX11_readsAnswer_109 : decode cX11_readsAnswer 109 = .ok (.ldc2_w 185, 3) := by decide +kernel
theorem dX11_readsAnswer_112 : decode cX11_readsAnswer 112 = .ok (.invokestatic 88, 3) := by decide +kernel
theorem dX11_readsAnswer_115 : decode cX11_readsAnswer 115 = .ok (.ifCond .eq 31, 3) := by decide +kernel
theorem dX11_readsAnswer_118 : decode cX11_readsAnswer 118 = .ok (.aload_n 0, 1) := by decide +kernel
theorem dX11_readsAnswer_119 : decode cX11_readsAnswer 119 = .ok (.getfield 53, 3) := by decide +kernel
theorem dX11_readsAnswer_122 : decode cX11_readsAnswer 122 = .ok (.bipush 6, 2) := by decide +kernel
theorem dX11_readsAnswer_124 : decode cX11_readsAnswer 124 = .ok (.iload_n 2, 1) := by decide +kernel
theorem dX11_readsAnswer_125 : decode cX11_readsAnswer 125 = .ok (.imul, 1) := by decide +kernel
theorem dX11_readsAnswer_126 : decode cX11_readsAnswer 126 = .ok (.iconst 2, 1) := by decide +kernel
theorem dX11_readsAnswer_127 : decode cX11_readsAnswer 127 = .ok (.iadd, 1) := by decide +kernel
theorem dX11_readsAnswer_128 : decode cX11_readsAnswer 128 = .ok (.aload_n 0, 1) := by decide +kernel
theorem dX11_readsAnswer_129 : decode cX11_readsAnswer 129 = .ok (.invokevirtual 142, 3) := by decide +kernel
theorem dX11_readsAnswer_132 : decode cX11_readsAnswer 132 = .ok (.bipush 48, 2) := by decide +kernel
theorem dX11_readsAnswer_134 : decode cX11_readsAnswer 134 = .ok (.isub, 1) := by decide +kernel
theorem dX11_readsAnswer_135 : decode cX11_readsAnswer 135 = .ok (.iastore, 1) := by decide +kernel
theorem dX11_readsAnswer_136 : decode cX11_readsAnswer 136 = .ok (.aload_n 0, 1) := by decide +kernel
theorem dX11_readsAnswer_137 : decode cX11_readsAnswer 137 = .ok (.dup, 1) := by decide +kernel
theorem dX11_readsAnswer_138 : decode cX11_readsAnswer 138 = .ok (.getfield 136, 3) := by decide +kernel
theorem dX11_readsAnswer_141 : decode cX11_readsAnswer 141 = .ok (.iconst 1, 1) := by decide +kernel
theorem dX11_readsAnswer_142 : decode cX11_readsAnswer 142 = .ok (.iadd, 1) := by decide +kernel
theorem dX11_readsAnswer_143 : decode cX11_readsAnswer 143 = .ok (.putfield 136, 3) := by decide +kernel
theorem dX11_readsAnswer_146 : decode cX11_readsAnswer 146 = .ok (.aload_n 0, 1) := by decide +kernel
theorem dX11_readsAnswer_147 : decode cX11_readsAnswer 147 = .ok (.getfield 139, 3) := by decide +kernel
theorem dX11_readsAnswer_150 : decode cX11_readsAnswer 150 = .ok (.ifCond .ne 17, 3) := by decide +kernel
theorem dX11_readsAnswer_153 : decode cX11_readsAnswer 153 = .ok (.aload_n 0, 1) := by decide +kernel
theorem dX11_readsAnswer_154 : decode cX11_readsAnswer 154 = .ok (.invokevirtual 142, 3) := by decide +kernel
theorem dX11_readsAnswer_157 : decode cX11_readsAnswer 157 = .ok (.bipush 63, 2) := by decide +kernel
theorem dX11_readsAnswer_159 : decode cX11_readsAnswer 159 = .ok (.if_icmp .ne 8, 3) := by decide +kernel
theorem dX11_readsAnswer_162 : decode cX11_readsAnswer 162 = .ok (.aload_n 0, 1) := by decide +kernel
theorem dX11_readsAnswer_163 : decode cX11_readsAnswer 163 = .ok (.iload_n 2, 1) := by decide +kernel
theorem dX11_readsAnswer_164 : decode cX11_readsAnswer 164 = .ok (.invokevirtual 187, 3) := by decide +kernel
theorem dX11_readsAnswer_167 : decode cX11_readsAnswer 167 = .ok (.aload_n 0, 1) := by decide +kernel
theorem dX11_readsAnswer_168 : decode cX11_readsAnswer 168 = .ok (.getfield 139, 3) := by decide +kernel
theorem dX11_readsAnswer_171 : decode cX11_readsAnswer 171 = .ok (.ifCond .ne 17, 3) := by decide +kernel
theorem dX11_readsAnswer_174 : decode cX11_readsAnswer 174 = .ok (.aload_n 0, 1) := by decide +kernel
theorem dX11_readsAnswer_175 : decode cX11_readsAnswer 175 = .ok (.invokevirtual 142, 3) := by decide +kernel
theorem dX11_readsAnswer_178 : decode cX11_readsAnswer 178 = .ok (.bipush 33, 2) := by decide +kernel
theorem dX11_readsAnswer_180 : decode cX11_readsAnswer 180 = .ok (.if_icmp .ne 8, 3) := by decide +kernel
theorem dX11_readsAnswer_183 : decode cX11_readsAnswer 183 = .ok (.aload_n 0, 1) := by decide +kernel
theorem dX11_readsAnswer_184 : decode cX11_readsAnswer 184 = .ok (.iload_n 2, 1) := by decide +kernel
theorem dX11_readsAnswer_185 : decode cX11_readsAnswer 185 = .ok (.invokevirtual 190, 3) := by decide +kernel
theorem dX11_readsAnswer_188 : decode cX11_readsAnswer 188 = .ok (.return_, 1) := by decide +kernel
theorem dX11_readsClause_0 : decode cX11_readsClause 0 = .ok (.aload_n 0, 1) := by decide +kernel
theorem dX11_readsClause_1 : decode cX11_readsClause 1 = .ok (.invokevirtual 180, 3) := by decide +kernel
theorem dX11_readsClause_4 : decode cX11_readsClause 4 = .ok (.istore_n 1, 1) := by decide +kernel
theorem dX11_readsClause_5 : decode cX11_readsClause 5 = .ok (.aload_n 0, 1) := by decide +kernel
theorem dX11_readsClause_6 : decode cX11_readsClause 6 = .ok (.getfield 139, 3) := by decide +kernel
theorem dX11_readsClause_9 : decode cX11_readsClause 9 = .ok (.ifCond .ne 37, 3) := by decide +kernel
theorem dX11_readsClause_12 : decode cX11_readsClause 12 = .ok (.aload_n 0, 1) := by decide +kernel
theorem dX11_readsClause_13 : decode cX11_readsClause 13 = .ok (.invokevirtual 142, 3) := by decide +kernel
theorem dX11_readsClause_16 : decode cX11_readsClause 16 = .ok (.bipush 46, 2) := by decide +kernel
theorem dX11_readsClause_18 : decode cX11_readsClause 18 = .ok (.if_icmp .ne 28, 3) := by decide +kernel
theorem dX11_readsClause_21 : decode cX11_readsClause 21 = .ok (.aload_n 0, 1) := by decide +kernel
theorem dX11_readsClause_22 : decode cX11_readsClause 22 = .ok (.dup, 1) := by decide +kernel
theorem dX11_readsClause_23 : decode cX11_readsClause 23 = .ok (.getfield 136, 3) := by decide +kernel
theorem dX11_readsClause_26 : decode cX11_readsClause 26 = .ok (.iconst 1, 1) := by decide +kernel
theorem dX11_readsClause_27 : decode cX11_readsClause 27 = .ok (.iadd, 1) := by decide +kernel
theorem dX11_readsClause_28 : decode cX11_readsClause 28 = .ok (.putfield 136, 3) := by decide +kernel
theorem dX11_readsClause_31 : decode cX11_readsClause 31 = .ok (.aload_n 0, 1) := by decide +kernel
theorem dX11_readsClause_32 : decode cX11_readsClause 32 = .ok (.dup, 1) := by decide +kernel
theorem dX11_readsClause_33 : decode cX11_readsClause 33 = .ok (.getfield 193, 3) := by decide +kernel
theorem dX11_readsClause_36 : decode cX11_readsClause 36 = .ok (.iconst 1, 1) := by decide +kernel
theorem dX11_readsClause_37 : decode cX11_readsClause 37 = .ok (.iload_n 1, 1) := by decide +kernel
theorem dX11_readsClause_38 : decode cX11_readsClause 38 = .ok (.ishl, 1) := by decide +kernel
theorem dX11_readsClause_39 : decode cX11_readsClause 39 = .ok (.ior, 1) := by decide +kernel
theorem dX11_readsClause_40 : decode cX11_readsClause 40 = .ok (.putfield 193, 3) := by decide +kernel
theorem dX11_readsClause_43 : decode cX11_readsClause 43 = .ok (.goto 32, 3) := by decide +kernel
theorem dX11_readsClause_46 : decode cX11_readsClause 46 = .ok (.aload_n 0, 1) := by decide +kernel
theorem dX11_readsClause_47 : decode cX11_readsClause 47 = .ok (.getfield 139, 3) := by decide +kernel
theorem dX11_readsClause_50 : decode cX11_readsClause 50 = .ok (.ifCond .ne 20, 3) := by decide +kernel
theorem dX11_readsClause_53 : decode cX11_readsClause 53 = .ok (.aload_n 0, 1) := by decide +kernel
theorem dX11_readsClause_54 : decode cX11_readsClause 54 = .ok (.invokevirtual 142, 3) := by decide +kernel
theorem dX11_readsClause_57 : decode cX11_readsClause 57 = .ok (.bipush 62, 2) := by decide +kernel
theorem dX11_readsClause_59 : decode cX11_readsClause 59 = .ok (.if_icmp .ne 11, 3) := by decide +kernel
theorem dX11_readsClause_62 : decode cX11_readsClause 62 = .ok (.aload_n 0, 1) := by decide +kernel
theorem dX11_readsClause_63 : decode cX11_readsClause 63 = .ok (.iload_n 1, 1) := by decide +kernel
theorem dX11_readsClause_64 : decode cX11_readsClause 64 = .ok (.invokevirtual 196, 3) := by decide +kernel
theorem dX11_readsClause_67 : decode cX11_readsClause 67 = .ok (.goto 8, 3) := by decide +kernel
theorem dX11_readsClause_70 : decode cX11_readsClause 70 = .ok (.aload_n 0, 1) := by decide +kernel
theorem dX11_readsClause_71 : decode cX11_readsClause 71 = .ok (.iconst 1, 1) := by decide +kernel
theorem dX11_readsClause_72 : decode cX11_readsClause 72 = .ok (.invokevirtual 145, 3) := by decide +kernel
theorem dX11_readsClause_75 : decode cX11_readsClause 75 = .ok (.aload_n 0, 1) := by decide +kernel
theorem dX11_readsClause_76 : decode cX11_readsClause 76 = .ok (.getfield 139, 3) := by decide +kernel
theorem dX11_readsClause_79 : decode cX11_readsClause 79 = .ok (.ifCond .ne 9, 3) := by decide +kernel
theorem dX11_readsClause_82 : decode cX11_readsClause 82 = .ok (.aload_n 0, 1) := by decide +kernel
theorem dX11_readsClause_83 : decode cX11_readsClause 83 = .ok (.bipush 59, 2) := by decide +kernel
theorem dX11_readsClause_85 : decode cX11_readsClause 85 = .ok (.invokevirtual 171, 3) := by decide +kernel
theorem dX11_readsClause_88 : decode cX11_readsClause 88 = .ok (.return_, 1) := by decide +kernel
theorem dX11_keeps_0 : decode cX11_keeps 0 = .ok (.aload_n 0, 1) := by decide +kernel
theorem dX11_keeps_1 : decode cX11_keeps 1 = .ok (.aload_n 0, 1) := by decide +kernel
theorem dX11_keeps_2 : decode cX11_keeps 2 = .ok (.getfield 177, 3) := by decide +kernel
theorem dX11_keeps_5 : decode cX11_keeps 5 = .ok (.putfield 85, 3) := by decide +kernel
theorem dX11_keeps_8 : decode cX11_keeps 8 = .ok (.aload_n 0, 1) := by decide +kernel
theorem dX11_keeps_9 : decode cX11_keeps 9 = .ok (.aload_n 0, 1) := by decide +kernel
theorem dX11_keeps_10 : decode cX11_keeps 10 = .ok (.getfield 153, 3) := by decide +kernel
theorem dX11_keeps_13 : decode cX11_keeps 13 = .ok (.putfield 81, 3) := by decide +kernel
theorem dX11_keeps_16 : decode cX11_keeps 16 = .ok (.aload_n 0, 1) := by decide +kernel
theorem dX11_keeps_17 : decode cX11_keeps 17 = .ok (.aload_n 0, 1) := by decide +kernel
theorem dX11_keeps_18 : decode cX11_keeps 18 = .ok (.getfield 193, 3) := by decide +kernel
theorem dX11_keeps_21 : decode cX11_keeps 21 = .ok (.putfield 98, 3) := by decide +kernel
theorem dX11_keeps_24 : decode cX11_keeps 24 = .ok (.aload_n 0, 1) := by decide +kernel
theorem dX11_keeps_25 : decode cX11_keeps 25 = .ok (.aload_n 0, 1) := by decide +kernel
theorem dX11_keeps_26 : decode cX11_keeps 26 = .ok (.getfield 156, 3) := by decide +kernel
theorem dX11_keeps_29 : decode cX11_keeps 29 = .ok (.putfield 112, 3) := by decide +kernel
theorem dX11_keeps_32 : decode cX11_keeps 32 = .ok (.iconst 0, 1) := by decide +kernel
theorem dX11_keeps_33 : decode cX11_keeps 33 = .ok (.istore_n 1, 1) := by decide +kernel
theorem dX11_keeps_34 : decode cX11_keeps 34 = .ok (.iload_n 1, 1) := by decide +kernel
theorem dX11_keeps_35 : decode cX11_keeps 35 = .ok (.aload_n 0, 1) := by decide +kernel
theorem dX11_keeps_36 : decode cX11_keeps 36 = .ok (.getfield 85, 3) := by decide +kernel
theorem dX11_keeps_39 : decode cX11_keeps 39 = .ok (.if_icmp .ge 116, 3) := by decide +kernel
theorem dX11_keeps_42 : decode cX11_keeps 42 = .ok (.aload_n 0, 1) := by decide +kernel
theorem dX11_keeps_43 : decode cX11_keeps 43 = .ok (.getfield 7, 3) := by decide +kernel
theorem dX11_keeps_46 : decode cX11_keeps 46 = .ok (.iload_n 1, 1) := by decide +kernel
theorem dX11_keeps_47 : decode cX11_keeps 47 = .ok (.aload_n 0, 1) := by decide +kernel
theorem dX11_keeps_48 : decode cX11_keeps 48 = .ok (.getfield 53, 3) := by decide +kernel
theorem dX11_keeps_51 : decode cX11_keeps 51 = .ok (.bipush 6, 2) := by decide +kernel
theorem dX11_keeps_53 : decode cX11_keeps 53 = .ok (.iload_n 1, 1) := by decide +kernel
theorem dX11_keeps_54 : decode cX11_keeps 54 = .ok (.imul, 1) := by decide +kernel
theorem dX11_keeps_55 : decode cX11_keeps 55 = .ok (.iaload, 1) := by decide +kernel
theorem dX11_keeps_56 : decode cX11_keeps 56 = .ok (.iastore, 1) := by decide +kernel
theorem dX11_keeps_57 : decode cX11_keeps 57 = .ok (.aload_n 0, 1) := by decide +kernel
theorem dX11_keeps_58 : decode cX11_keeps 58 = .ok (.getfield 13, 3) := by decide +kernel
theorem dX11_keeps_61 : decode cX11_keeps 61 = .ok (.iload_n 1, 1) := by decide +kernel
theorem dX11_keeps_62 : decode cX11_keeps 62 = .ok (.aload_n 0, 1) := by decide +kernel
theorem dX11_keeps_63 : decode cX11_keeps 63 = .ok (.getfield 53, 3) := by decide +kernel
theorem dX11_keeps_66 : decode cX11_keeps 66 = .ok (.bipush 6, 2) := by decide +kernel
theorem dX11_keeps_68 : decode cX11_keeps 68 = .ok (.iload_n 1, 1) := by decide +kernel
theorem dX11_keeps_69 : decode cX11_keeps 69 = .ok (.imul, 1) := by decide +kernel
theorem dX11_keeps_70 : decode cX11_keeps 70 = .ok (.iconst 1, 1) := by decide +kernel
theorem dX11_keeps_71 : decode cX11_keeps 71 = .ok (.iadd, 1) := by decide +kernel
theorem dX11_keeps_72 : decode cX11_keeps 72 = .ok (.iaload, 1) := by decide +kernel
theorem dX11_keeps_73 : decode cX11_keeps 73 = .ok (.iastore, 1) := by decide +kernel
theorem dX11_keeps_74 : decode cX11_keeps 74 = .ok (.aload_n 0, 1) := by decide +kernel
theorem dX11_keeps_75 : decode cX11_keeps 75 = .ok (.getfield 16, 3) := by decide +kernel
theorem dX11_keeps_78 : decode cX11_keeps 78 = .ok (.iload_n 1, 1) := by decide +kernel
theorem dX11_keeps_79 : decode cX11_keeps 79 = .ok (.aload_n 0, 1) := by decide +kernel
theorem dX11_keeps_80 : decode cX11_keeps 80 = .ok (.getfield 53, 3) := by decide +kernel
theorem dX11_keeps_83 : decode cX11_keeps 83 = .ok (.bipush 6, 2) := by decide +kernel
theorem dX11_keeps_85 : decode cX11_keeps 85 = .ok (.iload_n 1, 1) := by decide +kernel
theorem dX11_keeps_86 : decode cX11_keeps 86 = .ok (.imul, 1) := by decide +kernel
theorem dX11_keeps_87 : decode cX11_keeps 87 = .ok (.iconst 2, 1) := by decide +kernel
theorem dX11_keeps_88 : decode cX11_keeps 88 = .ok (.iadd, 1) := by decide +kernel
theorem dX11_keeps_89 : decode cX11_keeps 89 = .ok (.iaload, 1) := by decide +kernel
theorem dX11_keeps_90 : decode cX11_keeps 90 = .ok (.iastore, 1) := by decide +kernel
theorem dX11_keeps_91 : decode cX11_keeps 91 = .ok (.aload_n 0, 1) := by decide +kernel
theorem dX11_keeps_92 : decode cX11_keeps 92 = .ok (.getfield 19, 3) := by decide +kernel
theorem dX11_keeps_95 : decode cX11_keeps 95 = .ok (.iload_n 1, 1) := by decide +kernel
theorem dX11_keeps_96 : decode cX11_keeps 96 = .ok (.aload_n 0, 1) := by decide +kernel
theorem dX11_keeps_97 : decode cX11_keeps 97 = .ok (.getfield 53, 3) := by decide +kernel
theorem dX11_keeps_100 : decode cX11_keeps 100 = .ok (.bipush 6, 2) := by decide +kernel
theorem dX11_keeps_102 : decode cX11_keeps 102 = .ok (.iload_n 1, 1) := by decide +kernel
theorem dX11_keeps_103 : decode cX11_keeps 103 = .ok (.imul, 1) := by decide +kernel
theorem dX11_keeps_104 : decode cX11_keeps 104 = .ok (.iconst 3, 1) := by decide +kernel
theorem dX11_keeps_105 : decode cX11_keeps 105 = .ok (.iadd, 1) := by decide +kernel
theorem dX11_keeps_106 : decode cX11_keeps 106 = .ok (.iaload, 1) := by decide +kernel
theorem dX11_keeps_107 : decode cX11_keeps 107 = .ok (.iastore, 1) := by decide +kernel
theorem dX11_keeps_108 : decode cX11_keeps 108 = .ok (.aload_n 0, 1) := by decide +kernel
theorem dX11_keeps_109 : decode cX11_keeps 109 = .ok (.getfield 28, 3) := by decide +kernel
theorem dX11_keeps_112 : decode cX11_keeps 112 = .ok (.iload_n 1, 1) := by decide +kernel
theorem dX11_keeps_113 : decode cX11_keeps 113 = .ok (.aload_n 0, 1) := by decide +kernel
theorem dX11_keeps_114 : decode cX11_keeps 114 = .ok (.getfield 53, 3) := by decide +kernel
theorem dX11_keeps_117 : decode cX11_keeps 117 = .ok (.bipush 6, 2) := by decide +kernel
theorem dX11_keeps_119 : decode cX11_keeps 119 = .ok (.iload_n 1, 1) := by decide +kernel
theorem dX11_keeps_120 : decode cX11_keeps 120 = .ok (.imul, 1) := by decide +kernel
theorem dX11_keeps_121 : decode cX11_keeps 121 = .ok (.iconst 4, 1) := by decide +kernel
theorem dX11_keeps_122 : decode cX11_keeps 122 = .ok (.iadd, 1) := by decide +kernel
theorem dX11_keeps_123 : decode cX11_keeps 123 = .ok (.iaload, 1) := by decide +kernel
theorem dX11_keeps_124 : decode cX11_keeps 124 = .ok (.iastore, 1) := by decide +kernel
theorem dX11_keeps_125 : decode cX11_keeps 125 = .ok (.aload_n 0, 1) := by decide +kernel
theorem dX11_keeps_126 : decode cX11_keeps 126 = .ok (.getfield 31, 3) := by decide +kernel
theorem dX11_keeps_129 : decode cX11_keeps 129 = .ok (.iload_n 1, 1) := by decide +kernel
theorem dX11_keeps_130 : decode cX11_keeps 130 = .ok (.aload_n 0, 1) := by decide +kernel
theorem dX11_keeps_131 : decode cX11_keeps 131 = .ok (.getfield 53, 3) := by decide +kernel
theorem dX11_keeps_134 : decode cX11_keeps 134 = .ok (.bipush 6, 2) := by decide +kernel
theorem dX11_keeps_136 : decode cX11_keeps 136 = .ok (.iload_n 1, 1) := by decide +kernel
theorem dX11_keeps_137 : decode cX11_keeps 137 = .ok (.imul, 1) := by decide +kernel
theorem dX11_keeps_138 : decode cX11_keeps 138 = .ok (.iconst 5, 1) := by decide +kernel
theorem dX11_keeps_139 : decode cX11_keeps 139 = .ok (.iadd, 1) := by decide +kernel
theorem dX11_keeps_140 : decode cX11_keeps 140 = .ok (.iaload, 1) := by decide +kernel
theorem dX11_keeps_141 : decode cX11_keeps 141 = .ok (.iastore, 1) := by decide +kernel
theorem dX11_keeps_142 : decode cX11_keeps 142 = .ok (.aload_n 0, 1) := by decide +kernel
theorem dX11_keeps_143 : decode cX11_keeps 143 = .ok (.getfield 34, 3) := by decide +kernel
theorem dX11_keeps_146 : decode cX11_keeps 146 = .ok (.iload_n 1, 1) := by decide +kernel
theorem dX11_keeps_147 : decode cX11_keeps 147 = .ok (.iconst 0, 1) := by decide +kernel
theorem dX11_keeps_148 : decode cX11_keeps 148 = .ok (.bastore, 1) := by decide +kernel
theorem dX11_keeps_149 : decode cX11_keeps 149 = .ok (.iinc 1 1, 3) := by decide +kernel
theorem dX11_keeps_152 : decode cX11_keeps 152 = .ok (.goto (-118), 3) := by decide +kernel
theorem dX11_keeps_155 : decode cX11_keeps 155 = .ok (.iconst 0, 1) := by decide +kernel
theorem dX11_keeps_156 : decode cX11_keeps 156 = .ok (.istore_n 1, 1) := by decide +kernel
theorem dX11_keeps_157 : decode cX11_keeps 157 = .ok (.iload_n 1, 1) := by decide +kernel
theorem dX11_keeps_158 : decode cX11_keeps 158 = .ok (.bipush 96, 2) := by decide +kernel
theorem dX11_keeps_160 : decode cX11_keeps 160 = .ok (.if_icmp .ge 33, 3) := by decide +kernel
theorem dX11_keeps_163 : decode cX11_keeps 163 = .ok (.aload_n 0, 1) := by decide +kernel
theorem dX11_keeps_164 : decode cX11_keeps 164 = .ok (.getfield 22, 3) := by decide +kernel
theorem dX11_keeps_167 : decode cX11_keeps 167 = .ok (.iload_n 1, 1) := by decide +kernel
theorem dX11_keeps_168 : decode cX11_keeps 168 = .ok (.aload_n 0, 1) := by decide +kernel
theorem dX11_keeps_169 : decode cX11_keeps 169 = .ok (.getfield 56, 3) := by decide +kernel
theorem dX11_keeps_172 : decode cX11_keeps 172 = .ok (.iload_n 1, 1) := by decide +kernel
theorem dX11_keeps_173 : decode cX11_keeps 173 = .ok (.iaload, 1) := by decide +kernel
theorem dX11_keeps_174 : decode cX11_keeps 174 = .ok (.iastore, 1) := by decide +kernel
theorem dX11_keeps_175 : decode cX11_keeps 175 = .ok (.aload_n 0, 1) := by decide +kernel
theorem dX11_keeps_176 : decode cX11_keeps 176 = .ok (.getfield 25, 3) := by decide +kernel
theorem dX11_keeps_179 : decode cX11_keeps 179 = .ok (.iload_n 1, 1) := by decide +kernel
theorem dX11_keeps_180 : decode cX11_keeps 180 = .ok (.aload_n 0, 1) := by decide +kernel
theorem dX11_keeps_181 : decode cX11_keeps 181 = .ok (.getfield 59, 3) := by decide +kernel
theorem dX11_keeps_184 : decode cX11_keeps 184 = .ok (.iload_n 1, 1) := by decide +kernel
theorem dX11_keeps_185 : decode cX11_keeps 185 = .ok (.iaload, 1) := by decide +kernel
theorem dX11_keeps_186 : decode cX11_keeps 186 = .ok (.iastore, 1) := by decide +kernel
theorem dX11_keeps_187 : decode cX11_keeps 187 = .ok (.iinc 1 1, 3) := by decide +kernel
theorem dX11_keeps_190 : decode cX11_keeps 190 = .ok (.goto (-33), 3) := by decide +kernel
theorem dX11_keeps_193 : decode cX11_keeps 193 = .ok (.return_, 1) := by decide +kernel
theorem dX11_talk_0 : decode cX11_talk 0 = .ok (.aload_n 0, 1) := by decide +kernel
theorem dX11_talk_1 : decode cX11_talk 1 = .ok (.iconst 0, 1) := by decide +kernel
theorem dX11_talk_2 : decode cX11_talk 2 = .ok (.putfield 136, 3) := by decide +kernel
theorem dX11_talk_5 : decode cX11_talk 5 = .ok (.aload_n 0, 1) := by decide +kernel
theorem dX11_talk_6 : decode cX11_talk 6 = .ok (.iconst 0, 1) := by decide +kernel
theorem dX11_talk_7 : decode cX11_talk 7 = .ok (.putfield 139, 3) := by decide +kernel
theorem dX11_talk_10 : decode cX11_talk 10 = .ok (.aload_n 0, 1) := by decide +kernel
theorem dX11_talk_11 : decode cX11_talk 11 = .ok (.iconst 0, 1) := by decide +kernel
theorem dX11_talk_12 : decode cX11_talk 12 = .ok (.putfield 177, 3) := by decide +kernel
theorem dX11_talk_15 : decode cX11_talk 15 = .ok (.aload_n 0, 1) := by decide +kernel
theorem dX11_talk_16 : decode cX11_talk 16 = .ok (.iconst 0, 1) := by decide +kernel
theorem dX11_talk_17 : decode cX11_talk 17 = .ok (.putfield 153, 3) := by decide +kernel
theorem dX11_talk_20 : decode cX11_talk 20 = .ok (.aload_n 0, 1) := by decide +kernel
theorem dX11_talk_21 : decode cX11_talk 21 = .ok (.iconst 0, 1) := by decide +kernel
theorem dX11_talk_22 : decode cX11_talk 22 = .ok (.putfield 193, 3) := by decide +kernel
theorem dX11_talk_25 : decode cX11_talk 25 = .ok (.aload_n 0, 1) := by decide +kernel
theorem dX11_talk_26 : decode cX11_talk 26 = .ok (.iconst 0, 1) := by decide +kernel
theorem dX11_talk_27 : decode cX11_talk 27 = .ok (.putfield 156, 3) := by decide +kernel
theorem dX11_talk_30 : decode cX11_talk 30 = .ok (.aload_n 0, 1) := by decide +kernel
theorem dX11_talk_31 : decode cX11_talk 31 = .ok (.invokevirtual 199, 3) := by decide +kernel
theorem dX11_talk_34 : decode cX11_talk 34 = .ok (.aload_n 0, 1) := by decide +kernel
theorem dX11_talk_35 : decode cX11_talk 35 = .ok (.getfield 139, 3) := by decide +kernel
theorem dX11_talk_38 : decode cX11_talk 38 = .ok (.ifCond .ne 17, 3) := by decide +kernel
theorem dX11_talk_41 : decode cX11_talk 41 = .ok (.aload_n 0, 1) := by decide +kernel
theorem dX11_talk_42 : decode cX11_talk 42 = .ok (.invokevirtual 142, 3) := by decide +kernel
theorem dX11_talk_45 : decode cX11_talk 45 = .ok (.ifCond .lt 10, 3) := by decide +kernel
theorem dX11_talk_48 : decode cX11_talk 48 = .ok (.aload_n 0, 1) := by decide +kernel
theorem dX11_talk_49 : decode cX11_talk 49 = .ok (.invokevirtual 199, 3) := by decide +kernel
theorem dX11_talk_52 : decode cX11_talk 52 = .ok (.goto (-18), 3) := by decide +kernel
theorem dX11_talk_55 : decode cX11_talk 55 = .ok (.aload_n 0, 1) := by decide +kernel
theorem dX11_talk_56 : decode cX11_talk 56 = .ok (.invokevirtual 142, 3) := by decide +kernel
theorem dX11_talk_59 : decode cX11_talk 59 = .ok (.istore_n 1, 1) := by decide +kernel
theorem dX11_talk_60 : decode cX11_talk 60 = .ok (.iload_n 1, 1) := by decide +kernel
theorem dX11_talk_61 : decode cX11_talk 61 = .ok (.ifCond .ge 10, 3) := by decide +kernel
theorem dX11_talk_64 : decode cX11_talk 64 = .ok (.aload_n 0, 1) := by decide +kernel
theorem dX11_talk_65 : decode cX11_talk 65 = .ok (.getfield 132, 3) := by decide +kernel
theorem dX11_talk_68 : decode cX11_talk 68 = .ok (.goto 7, 3) := by decide +kernel
theorem dX11_talk_71 : decode cX11_talk 71 = .ok (.aload_n 0, 1) := by decide +kernel
theorem dX11_talk_72 : decode cX11_talk 72 = .ok (.getfield 136, 3) := by decide +kernel
theorem dX11_talk_75 : decode cX11_talk 75 = .ok (.istore_n 2, 1) := by decide +kernel
theorem dX11_talk_76 : decode cX11_talk 76 = .ok (.aload_n 0, 1) := by decide +kernel
theorem dX11_talk_77 : decode cX11_talk 77 = .ok (.iconst 0, 1) := by decide +kernel
theorem dX11_talk_78 : decode cX11_talk 78 = .ok (.putfield 132, 3) := by decide +kernel
theorem dX11_talk_81 : decode cX11_talk 81 = .ok (.aload_n 0, 1) := by decide +kernel
theorem dX11_talk_82 : decode cX11_talk 82 = .ok (.aload_n 0, 1) := by decide +kernel
theorem dX11_talk_83 : decode cX11_talk 83 = .ok (.getfield 139, 3) := by decide +kernel
theorem dX11_talk_86 : decode cX11_talk 86 = .ok (.putfield 202, 3) := by decide +kernel
theorem dX11_talk_89 : decode cX11_talk 89 = .ok (.aload_n 0, 1) := by decide +kernel
theorem dX11_talk_90 : decode cX11_talk 90 = .ok (.getfield 139, 3) := by decide +kernel
theorem dX11_talk_93 : decode cX11_talk 93 = .ok (.ifCond .le 8, 3) := by decide +kernel
theorem dX11_talk_96 : decode cX11_talk 96 = .ok (.bipush (-100), 2) := by decide +kernel
theorem dX11_talk_98 : decode cX11_talk 98 = .ok (.iload_n 2, 1) := by decide +kernel
theorem dX11_talk_99 : decode cX11_talk 99 = .ok (.isub, 1) := by decide +kernel
theorem dX11_talk_100 : decode cX11_talk 100 = .ok (.ireturn, 1) := by decide +kernel
theorem dX11_talk_101 : decode cX11_talk 101 = .ok (.aload_n 0, 1) := by decide +kernel
theorem dX11_talk_102 : decode cX11_talk 102 = .ok (.invokevirtual 205, 3) := by decide +kernel
theorem dX11_talk_105 : decode cX11_talk 105 = .ok (.aload_n 0, 1) := by decide +kernel
theorem dX11_talk_106 : decode cX11_talk 106 = .ok (.iconst 0, 1) := by decide +kernel
theorem dX11_talk_107 : decode cX11_talk 107 = .ok (.putfield 115, 3) := by decide +kernel
theorem dX11_talk_110 : decode cX11_talk 110 = .ok (.aload_n 0, 1) := by decide +kernel
theorem dX11_talk_111 : decode cX11_talk 111 = .ok (.iconst 0, 1) := by decide +kernel
theorem dX11_talk_112 : decode cX11_talk 112 = .ok (.putfield 126, 3) := by decide +kernel
theorem dX11_talk_115 : decode cX11_talk 115 = .ok (.aload_n 0, 1) := by decide +kernel
theorem dX11_talk_116 : decode cX11_talk 116 = .ok (.iconst 0, 1) := by decide +kernel
theorem dX11_talk_117 : decode cX11_talk 117 = .ok (.putfield 208, 3) := by decide +kernel
theorem dX11_talk_120 : decode cX11_talk 120 = .ok (.aload_n 0, 1) := by decide +kernel
theorem dX11_talk_121 : decode cX11_talk 121 = .ok (.getfield 85, 3) := by decide +kernel
theorem dX11_talk_124 : decode cX11_talk 124 = .ok (.ireturn, 1) := by decide +kernel
theorem dX11_fault_0 : decode cX11_fault 0 = .ok (.aload_n 0, 1) := by decide +kernel
theorem dX11_fault_1 : decode cX11_fault 1 = .ok (.getfield 202, 3) := by decide +kernel
theorem dX11_fault_4 : decode cX11_fault 4 = .ok (.ireturn, 1) := by decide +kernel
theorem dX11_begin_0 : decode cX11_begin 0 = .ok (.aload_n 0, 1) := by decide +kernel
theorem dX11_begin_1 : decode cX11_begin 1 = .ok (.invokevirtual 211, 3) := by decide +kernel
theorem dX11_begin_4 : decode cX11_begin 4 = .ok (.ifCond .ne 6, 3) := by decide +kernel
theorem dX11_begin_7 : decode cX11_begin 7 = .ok (.ldc 214, 2) := by decide +kernel
theorem dX11_begin_9 : decode cX11_begin 9 = .ok (.ireturn, 1) := by decide +kernel
theorem dX11_begin_10 : decode cX11_begin 10 = .ok (.iload_n 1, 1) := by decide +kernel
theorem dX11_begin_11 : decode cX11_begin 11 = .ok (.i2l, 1) := by decide +kernel
theorem dX11_begin_12 : decode cX11_begin 12 = .ok (.lconst 0, 1) := by decide +kernel
theorem dX11_begin_13 : decode cX11_begin 13 = .ok (.ldc2_w 215, 3) := by decide +kernel
theorem dX11_begin_16 : decode cX11_begin 16 = .ok (.invokestatic 88, 3) := by decide +kernel
theorem dX11_begin_19 : decode cX11_begin 19 = .ok (.ifCond .ne 6, 3) := by decide +kernel
theorem dX11_begin_22 : decode cX11_begin 22 = .ok (.ldc 131, 2) := by decide +kernel
theorem dX11_begin_24 : decode cX11_begin 24 = .ok (.ireturn, 1) := by decide +kernel
theorem dX11_begin_25 : decode cX11_begin 25 = .ok (.aload_n 0, 1) := by decide +kernel
theorem dX11_begin_26 : decode cX11_begin 26 = .ok (.iload_n 1, 1) := by decide +kernel
theorem dX11_begin_27 : decode cX11_begin 27 = .ok (.putfield 115, 3) := by decide +kernel
theorem dX11_begin_30 : decode cX11_begin 30 = .ok (.aload_n 0, 1) := by decide +kernel
theorem dX11_begin_31 : decode cX11_begin 31 = .ok (.iconst 0, 1) := by decide +kernel
theorem dX11_begin_32 : decode cX11_begin 32 = .ok (.putfield 126, 3) := by decide +kernel
theorem dX11_begin_35 : decode cX11_begin 35 = .ok (.aload_n 0, 1) := by decide +kernel
theorem dX11_begin_36 : decode cX11_begin 36 = .ok (.getfield 112, 3) := by decide +kernel
theorem dX11_begin_39 : decode cX11_begin 39 = .ok (.ireturn, 1) := by decide +kernel
theorem dX11_take_0 : decode cX11_take 0 = .ok (.aload_n 0, 1) := by decide +kernel
theorem dX11_take_1 : decode cX11_take 1 = .ok (.iload_n 1, 1) := by decide +kernel
theorem dX11_take_2 : decode cX11_take 2 = .ok (.invokevirtual 217, 3) := by decide +kernel
theorem dX11_take_5 : decode cX11_take 5 = .ok (.ifCond .ne 6, 3) := by decide +kernel
theorem dX11_take_8 : decode cX11_take 8 = .ok (.ldc 214, 2) := by decide +kernel
theorem dX11_take_10 : decode cX11_take 10 = .ok (.ireturn, 1) := by decide +kernel
theorem dX11_take_11 : decode cX11_take 11 = .ok (.aload_n 0, 1) := by decide +kernel
theorem dX11_take_12 : decode cX11_take 12 = .ok (.iload_n 1, 1) := by decide +kernel
theorem dX11_take_13 : decode cX11_take 13 = .ok (.aload_n 0, 1) := by decide +kernel
theorem dX11_take_14 : decode cX11_take 14 = .ok (.invokevirtual 221, 3) := by decide +kernel
theorem dX11_take_17 : decode cX11_take 17 = .ok (.iconst (-1), 1) := by decide +kernel
theorem dX11_take_18 : decode cX11_take 18 = .ok (.invokevirtual 105, 3) := by decide +kernel
theorem dX11_take_21 : decode cX11_take 21 = .ok (.ifCond .ne 6, 3) := by decide +kernel
theorem dX11_take_24 : decode cX11_take 24 = .ok (.ldc 224, 2) := by decide +kernel
theorem dX11_take_26 : decode cX11_take 26 = .ok (.ireturn, 1) := by decide +kernel
theorem dX11_take_27 : decode cX11_take 27 = .ok (.aload_n 0, 1) := by decide +kernel
theorem dX11_take_28 : decode cX11_take 28 = .ok (.getfield 126, 3) := by decide +kernel
theorem dX11_take_31 : decode cX11_take 31 = .ok (.bipush 60, 2) := by decide +kernel
theorem dX11_take_33 : decode cX11_take 33 = .ok (.if_icmp .ne 6, 3) := by decide +kernel
theorem dX11_take_36 : decode cX11_take 36 = .ok (.ldc 135, 2) := by decide +kernel
theorem dX11_take_38 : decode cX11_take 38 = .ok (.ireturn, 1) := by decide +kernel
theorem dX11_take_39 : decode cX11_take 39 = .ok (.aload_n 0, 1) := by decide +kernel
theorem dX11_take_40 : decode cX11_take 40 = .ok (.getfield 38, 3) := by decide +kernel
theorem dX11_take_43 : decode cX11_take 43 = .ok (.aload_n 0, 1) := by decide +kernel
theorem dX11_take_44 : decode cX11_take 44 = .ok (.getfield 126, 3) := by decide +kernel
theorem dX11_take_47 : decode cX11_take 47 = .ok (.iload_n 1, 1) := by decide +kernel
theorem dX11_take_48 : decode cX11_take 48 = .ok (.iastore, 1) := by decide +kernel
theorem dX11_take_49 : decode cX11_take 49 = .ok (.aload_n 0, 1) := by decide +kernel
theorem dX11_take_50 : decode cX11_take 50 = .ok (.dup, 1) := by decide +kernel
theorem dX11_take_51 : decode cX11_take 51 = .ok (.getfield 126, 3) := by decide +kernel
theorem dX11_take_54 : decode cX11_take 54 = .ok (.iconst 1, 1) := by decide +kernel
theorem dX11_take_55 : decode cX11_take 55 = .ok (.iadd, 1) := by decide +kernel
theorem dX11_take_56 : decode cX11_take 56 = .ok (.putfield 126, 3) := by decide +kernel
theorem dX11_take_59 : decode cX11_take 59 = .ok (.aload_n 0, 1) := by decide +kernel
theorem dX11_take_60 : decode cX11_take 60 = .ok (.getfield 13, 3) := by decide +kernel
theorem dX11_take_63 : decode cX11_take 63 = .ok (.iload_n 1, 1) := by decide +kernel
theorem dX11_take_64 : decode cX11_take 64 = .ok (.iaload, 1) := by decide +kernel
theorem dX11_take_65 : decode cX11_take 65 = .ok (.ireturn, 1) := by decide +kernel
theorem dX11_back_0 : decode cX11_back 0 = .ok (.aload_n 0, 1) := by decide +kernel
theorem dX11_back_1 : decode cX11_back 1 = .ok (.invokevirtual 211, 3) := by decide +kernel
theorem dX11_back_4 : decode cX11_back 4 = .ok (.ifCond .ne 6, 3) := by decide +kernel
theorem dX11_back_7 : decode cX11_back 7 = .ok (.ldc 214, 2) := by decide +kernel
theorem dX11_back_9 : decode cX11_back 9 = .ok (.ireturn, 1) := by decide +kernel
theorem dX11_back_10 : decode cX11_back 10 = .ok (.iload_n 1, 1) := by decide +kernel
theorem dX11_back_11 : decode cX11_back 11 = .ok (.i2l, 1) := by decide +kernel
theorem dX11_back_12 : decode cX11_back 12 = .ok (.lconst 1, 1) := by decide +kernel
theorem dX11_back_13 : decode cX11_back 13 = .ok (.ldc2_w 225, 3) := by decide +kernel
theorem dX11_back_16 : decode cX11_back 16 = .ok (.invokestatic 88, 3) := by decide +kernel
theorem dX11_back_19 : decode cX11_back 19 = .ok (.ifCond .ne 6, 3) := by decide +kernel
theorem dX11_back_22 : decode cX11_back 22 = .ok (.ldc 131, 2) := by decide +kernel
theorem dX11_back_24 : decode cX11_back 24 = .ok (.ireturn, 1) := by decide +kernel
theorem dX11_back_25 : decode cX11_back 25 = .ok (.iload_n 1, 1) := by decide +kernel
theorem dX11_back_26 : decode cX11_back 26 = .ok (.aload_n 0, 1) := by decide +kernel
theorem dX11_back_27 : decode cX11_back 27 = .ok (.getfield 126, 3) := by decide +kernel
theorem dX11_back_30 : decode cX11_back 30 = .ok (.if_icmp .le 6, 3) := by decide +kernel
theorem dX11_back_33 : decode cX11_back 33 = .ok (.ldc 224, 2) := by decide +kernel
theorem dX11_back_35 : decode cX11_back 35 = .ok (.ireturn, 1) := by decide +kernel
theorem dX11_back_36 : decode cX11_back 36 = .ok (.aload_n 0, 1) := by decide +kernel
theorem dX11_back_37 : decode cX11_back 37 = .ok (.dup, 1) := by decide +kernel
theorem dX11_back_38 : decode cX11_back 38 = .ok (.getfield 126, 3) := by decide +kernel
theorem dX11_back_41 : decode cX11_back 41 = .ok (.iload_n 1, 1) := by decide +kernel
theorem dX11_back_42 : decode cX11_back 42 = .ok (.isub, 1) := by decide +kernel
theorem dX11_back_43 : decode cX11_back 43 = .ok (.putfield 126, 3) := by decide +kernel
theorem dX11_back_46 : decode cX11_back 46 = .ok (.aload_n 0, 1) := by decide +kernel
theorem dX11_back_47 : decode cX11_back 47 = .ok (.invokevirtual 221, 3) := by decide +kernel
theorem dX11_back_50 : decode cX11_back 50 = .ok (.bipush 64, 2) := by decide +kernel
theorem dX11_back_52 : decode cX11_back 52 = .ok (.idiv, 1) := by decide +kernel
theorem dX11_back_53 : decode cX11_back 53 = .ok (.ireturn, 1) := by decide +kernel
theorem dX11_notes_0 : decode cX11_notes 0 = .ok (.aload_n 0, 1) := by decide +kernel
theorem dX11_notes_1 : decode cX11_notes 1 = .ok (.getfield 208, 3) := by decide +kernel
theorem dX11_notes_4 : decode cX11_notes 4 = .ok (.bipush 12, 2) := by decide +kernel
theorem dX11_notes_6 : decode cX11_notes 6 = .ok (.if_icmp .ne 43, 3) := by decide +kernel
theorem dX11_notes_9 : decode cX11_notes 9 = .ok (.iconst 0, 1) := by decide +kernel
theorem dX11_notes_10 : decode cX11_notes 10 = .ok (.istore_n 1, 1) := by decide +kernel
theorem dX11_notes_11 : decode cX11_notes 11 = .ok (.iload_n 1, 1) := by decide +kernel
theorem dX11_notes_12 : decode cX11_notes 12 = .ok (.sipush 352, 3) := by decide +kernel
theorem dX11_notes_15 : decode cX11_notes 15 = .ok (.if_icmp .ge 24, 3) := by decide +kernel
theorem dX11_notes_18 : decode cX11_notes 18 = .ok (.aload_n 0, 1) := by decide +kernel
theorem dX11_notes_19 : decode cX11_notes 19 = .ok (.getfield 41, 3) := by decide +kernel
theorem dX11_notes_22 : decode cX11_notes 22 = .ok (.iload_n 1, 1) := by decide +kernel
theorem dX11_notes_23 : decode cX11_notes 23 = .ok (.aload_n 0, 1) := by decide +kernel
theorem dX11_notes_24 : decode cX11_notes 24 = .ok (.getfield 41, 3) := by decide +kernel
theorem dX11_notes_27 : decode cX11_notes 27 = .ok (.iload_n 1, 1) := by decide +kernel
theorem dX11_notes_28 : decode cX11_notes 28 = .ok (.bipush 32, 2) := by decide +kernel
theorem dX11_notes_30 : decode cX11_notes 30 = .ok (.iadd, 1) := by decide +kernel
theorem dX11_notes_31 : decode cX11_notes 31 = .ok (.iaload, 1) := by decide +kernel
theorem dX11_notes_32 : decode cX11_notes 32 = .ok (.iastore, 1) := by decide +kernel
theorem dX11_notes_33 : decode cX11_notes 33 = .ok (.iinc 1 1, 3) := by decide +kernel
theorem dX11_notes_36 : decode cX11_notes 36 = .ok (.goto (-25), 3) := by decide +kernel
theorem dX11_notes_39 : decode cX11_notes 39 = .ok (.aload_n 0, 1) := by decide +kernel
theorem dX11_notes_40 : decode cX11_notes 40 = .ok (.dup, 1) := by decide +kernel
theorem dX11_notes_41 : decode cX11_notes 41 = .ok (.getfield 208, 3) := by decide +kernel
theorem dX11_notes_44 : decode cX11_notes 44 = .ok (.iconst 1, 1) := by decide +kernel
theorem dX11_notes_45 : decode cX11_notes 45 = .ok (.isub, 1) := by decide +kernel
theorem dX11_notes_46 : decode cX11_notes 46 = .ok (.putfield 208, 3) := by decide +kernel
theorem dX11_notes_49 : decode cX11_notes 49 = .ok (.iconst 0, 1) := by decide +kernel
theorem dX11_notes_50 : decode cX11_notes 50 = .ok (.istore_n 1, 1) := by decide +kernel
theorem dX11_notes_51 : decode cX11_notes 51 = .ok (.iload_n 1, 1) := by decide +kernel
theorem dX11_notes_52 : decode cX11_notes 52 = .ok (.bipush 32, 2) := by decide +kernel
theorem dX11_notes_54 : decode cX11_notes 54 = .ok (.if_icmp .ge 45, 3) := by decide +kernel
theorem dX11_notes_57 : decode cX11_notes 57 = .ok (.aload_n 0, 1) := by decide +kernel
theorem dX11_notes_58 : decode cX11_notes 58 = .ok (.getfield 41, 3) := by decide +kernel
theorem dX11_notes_61 : decode cX11_notes 61 = .ok (.bipush 32, 2) := by decide +kernel
theorem dX11_notes_63 : decode cX11_notes 63 = .ok (.aload_n 0, 1) := by decide +kernel
theorem dX11_notes_64 : decode cX11_notes 64 = .ok (.getfield 208, 3) := by decide +kernel
theorem dX11_notes_67 : decode cX11_notes 67 = .ok (.imul, 1) := by decide +kernel
theorem dX11_notes_68 : decode cX11_notes 68 = .ok (.iload_n 1, 1) := by decide +kernel
theorem dX11_notes_69 : decode cX11_notes 69 = .ok (.iadd, 1) := by decide +kernel
theorem dX11_notes_70 : decode cX11_notes 70 = .ok (.aload_n 0, 1) := by decide +kernel
theorem dX11_notes_71 : decode cX11_notes 71 = .ok (.getfield 16, 3) := by decide +kernel
theorem dX11_notes_74 : decode cX11_notes 74 = .ok (.iload_n 1, 1) := by decide +kernel
theorem dX11_notes_75 : decode cX11_notes 75 = .ok (.iaload, 1) := by decide +kernel
theorem dX11_notes_76 : decode cX11_notes 76 = .ok (.aload_n 0, 1) := by decide +kernel
theorem dX11_notes_77 : decode cX11_notes 77 = .ok (.getfield 34, 3) := by decide +kernel
theorem dX11_notes_80 : decode cX11_notes 80 = .ok (.iload_n 1, 1) := by decide +kernel
theorem dX11_notes_81 : decode cX11_notes 81 = .ok (.baload, 1) := by decide +kernel
theorem dX11_notes_82 : decode cX11_notes 82 = .ok (.ifCond .eq 8, 3) := by decide +kernel
theorem dX11_notes_85 : decode cX11_notes 85 = .ok (.bipush 10, 2) := by decide +kernel
theorem dX11_notes_87 : decode cX11_notes 87 = .ok (.goto 4, 3) := by decide +kernel
theorem dX11_notes_90 : decode cX11_notes 90 = .ok (.iconst 0, 1) := by decide +kernel
theorem dX11_notes_91 : decode cX11_notes 91 = .ok (.iadd, 1) := by decide +kernel
theorem dX11_notes_92 : decode cX11_notes 92 = .ok (.iastore, 1) := by decide +kernel
theorem dX11_notes_93 : decode cX11_notes 93 = .ok (.iinc 1 1, 3) := by decide +kernel
theorem dX11_notes_96 : decode cX11_notes 96 = .ok (.goto (-45), 3) := by decide +kernel
theorem dX11_notes_99 : decode cX11_notes 99 = .ok (.aload_n 0, 1) := by decide +kernel
theorem dX11_notes_100 : decode cX11_notes 100 = .ok (.dup, 1) := by decide +kernel
theorem dX11_notes_101 : decode cX11_notes 101 = .ok (.getfield 208, 3) := by decide +kernel
theorem dX11_notes_104 : decode cX11_notes 104 = .ok (.iconst 1, 1) := by decide +kernel
theorem dX11_notes_105 : decode cX11_notes 105 = .ok (.iadd, 1) := by decide +kernel
theorem dX11_notes_106 : decode cX11_notes 106 = .ok (.putfield 208, 3) := by decide +kernel
theorem dX11_notes_109 : decode cX11_notes 109 = .ok (.return_, 1) := by decide +kernel
theorem dX11_cut_0 : decode cX11_cut 0 = .ok (.aload_n 0, 1) := by decide +kernel
theorem dX11_cut_1 : decode cX11_cut 1 = .ok (.iload_n 1, 1) := by decide +kernel
theorem dX11_cut_2 : decode cX11_cut 2 = .ok (.invokevirtual 217, 3) := by decide +kernel
theorem dX11_cut_5 : decode cX11_cut 5 = .ok (.ifCond .ne 6, 3) := by decide +kernel
theorem dX11_cut_8 : decode cX11_cut 8 = .ok (.ldc 214, 2) := by decide +kernel
theorem dX11_cut_10 : decode cX11_cut 10 = .ok (.ireturn, 1) := by decide +kernel
theorem dX11_cut_11 : decode cX11_cut 11 = .ok (.iload_n 2, 1) := by decide +kernel
theorem dX11_cut_12 : decode cX11_cut 12 = .ok (.i2l, 1) := by decide +kernel
theorem dX11_cut_13 : decode cX11_cut 13 = .ok (.lconst 0, 1) := by decide +kernel
theorem dX11_cut_14 : decode cX11_cut 14 = .ok (.lconst 1, 1) := by decide +kernel
theorem dX11_cut_15 : decode cX11_cut 15 = .ok (.invokestatic 88, 3) := by decide +kernel
theorem dX11_cut_18 : decode cX11_cut 18 = .ok (.ifCond .ne 6, 3) := by decide +kernel
theorem dX11_cut_21 : decode cX11_cut 21 = .ok (.ldc 131, 2) := by decide +kernel
theorem dX11_cut_23 : decode cX11_cut 23 = .ok (.ireturn, 1) := by decide +kernel
theorem dX11_cut_24 : decode cX11_cut 24 = .ok (.aload_n 0, 1) := by decide +kernel
theorem dX11_cut_25 : decode cX11_cut 25 = .ok (.getfield 34, 3) := by decide +kernel
theorem dX11_cut_28 : decode cX11_cut 28 = .ok (.iload_n 1, 1) := by decide +kernel
theorem dX11_cut_29 : decode cX11_cut 29 = .ok (.baload, 1) := by decide +kernel
theorem dX11_cut_30 : decode cX11_cut 30 = .ok (.iload_n 2, 1) := by decide +kernel
theorem dX11_cut_31 : decode cX11_cut 31 = .ok (.iconst 1, 1) := by decide +kernel
theorem dX11_cut_32 : decode cX11_cut 32 = .ok (.if_icmp .ne 7, 3) := by decide +kernel
theorem dX11_cut_35 : decode cX11_cut 35 = .ok (.iconst 1, 1) := by decide +kernel
theorem dX11_cut_36 : decode cX11_cut 36 = .ok (.goto 4, 3) := by decide +kernel
theorem dX11_cut_39 : decode cX11_cut 39 = .ok (.iconst 0, 1) := by decide +kernel
theorem dX11_cut_40 : decode cX11_cut 40 = .ok (.if_icmp .ne 6, 3) := by decide +kernel
theorem dX11_cut_43 : decode cX11_cut 43 = .ok (.ldc 224, 2) := by decide +kernel
theorem dX11_cut_45 : decode cX11_cut 45 = .ok (.ireturn, 1) := by decide +kernel
theorem dX11_cut_46 : decode cX11_cut 46 = .ok (.aload_n 0, 1) := by decide +kernel
theorem dX11_cut_47 : decode cX11_cut 47 = .ok (.invokevirtual 227, 3) := by decide +kernel
theorem dX11_cut_50 : decode cX11_cut 50 = .ok (.aload_n 0, 1) := by decide +kernel
theorem dX11_cut_51 : decode cX11_cut 51 = .ok (.getfield 34, 3) := by decide +kernel
theorem dX11_cut_54 : decode cX11_cut 54 = .ok (.iload_n 1, 1) := by decide +kernel
theorem dX11_cut_55 : decode cX11_cut 55 = .ok (.iload_n 2, 1) := by decide +kernel
theorem dX11_cut_56 : decode cX11_cut 56 = .ok (.iconst 1, 1) := by decide +kernel
theorem dX11_cut_57 : decode cX11_cut 57 = .ok (.if_icmp .ne 7, 3) := by decide +kernel
theorem dX11_cut_60 : decode cX11_cut 60 = .ok (.iconst 1, 1) := by decide +kernel
theorem dX11_cut_61 : decode cX11_cut 61 = .ok (.goto 4, 3) := by decide +kernel
theorem dX11_cut_64 : decode cX11_cut 64 = .ok (.iconst 0, 1) := by decide +kernel
theorem dX11_cut_65 : decode cX11_cut 65 = .ok (.bastore, 1) := by decide +kernel
theorem dX11_cut_66 : decode cX11_cut 66 = .ok (.iconst 0, 1) := by decide +kernel
theorem dX11_cut_67 : decode cX11_cut 67 = .ok (.istore_n 3, 1) := by decide +kernel
theorem dX11_cut_68 : decode cX11_cut 68 = .ok (.iconst 0, 1) := by decide +kernel
theorem dX11_cut_69 : decode cX11_cut 69 = .ok (.istore 4, 2) := by decide +kernel
theorem dX11_cut_71 : decode cX11_cut 71 = .ok (.iload 4, 2) := by decide +kernel
theorem dX11_cut_73 : decode cX11_cut 73 = .ok (.aload_n 0, 1) := by decide +kernel
theorem dX11_cut_74 : decode cX11_cut 74 = .ok (.getfield 85, 3) := by decide +kernel
theorem dX11_cut_77 : decode cX11_cut 77 = .ok (.if_icmp .ge 27, 3) := by decide +kernel
theorem dX11_cut_80 : decode cX11_cut 80 = .ok (.iload_n 3, 1) := by decide +kernel
theorem dX11_cut_81 : decode cX11_cut 81 = .ok (.aload_n 0, 1) := by decide +kernel
theorem dX11_cut_82 : decode cX11_cut 82 = .ok (.getfield 34, 3) := by decide +kernel
theorem dX11_cut_85 : decode cX11_cut 85 = .ok (.iload 4, 2) := by decide +kernel
theorem dX11_cut_87 : decode cX11_cut 87 = .ok (.baload, 1) := by decide +kernel
theorem dX11_cut_88 : decode cX11_cut 88 = .ok (.ifCond .eq 7, 3) := by decide +kernel
theorem dX11_cut_91 : decode cX11_cut 91 = .ok (.iconst 0, 1) := by decide +kernel
theorem dX11_cut_92 : decode cX11_cut 92 = .ok (.goto 4, 3) := by decide +kernel
theorem dX11_cut_95 : decode cX11_cut 95 = .ok (.iconst 1, 1) := by decide +kernel
theorem dX11_cut_96 : decode cX11_cut 96 = .ok (.iadd, 1) := by decide +kernel
theorem dX11_cut_97 : decode cX11_cut 97 = .ok (.istore_n 3, 1) := by decide +kernel
theorem dX11_cut_98 : decode cX11_cut 98 = .ok (.iinc 4 1, 3) := by decide +kernel
theorem dX11_cut_101 : decode cX11_cut 101 = .ok (.goto (-30), 3) := by decide +kernel
theorem dX11_cut_104 : decode cX11_cut 104 = .ok (.iload_n 3, 1) := by decide +kernel
theorem dX11_cut_105 : decode cX11_cut 105 = .ok (.ireturn, 1) := by decide +kernel
theorem dX11_cost_0 : decode cX11_cost 0 = .ok (.aload_n 0, 1) := by decide +kernel
theorem dX11_cost_1 : decode cX11_cost 1 = .ok (.iload_n 1, 1) := by decide +kernel
theorem dX11_cost_2 : decode cX11_cost 2 = .ok (.invokevirtual 217, 3) := by decide +kernel
theorem dX11_cost_5 : decode cX11_cost 5 = .ok (.ifCond .ne 6, 3) := by decide +kernel
theorem dX11_cost_8 : decode cX11_cost 8 = .ok (.ldc 214, 2) := by decide +kernel
theorem dX11_cost_10 : decode cX11_cost 10 = .ok (.ireturn, 1) := by decide +kernel
theorem dX11_cost_11 : decode cX11_cost 11 = .ok (.iload_n 2, 1) := by decide +kernel
theorem dX11_cost_12 : decode cX11_cost 12 = .ok (.i2l, 1) := by decide +kernel
theorem dX11_cost_13 : decode cX11_cost 13 = .ok (.lconst 0, 1) := by decide +kernel
theorem dX11_cost_14 : decode cX11_cost 14 = .ok (.ldc2_w 230, 3) := by decide +kernel
theorem dX11_cost_17 : decode cX11_cost 17 = .ok (.invokestatic 88, 3) := by decide +kernel
theorem dX11_cost_20 : decode cX11_cost 20 = .ok (.ifCond .ne 6, 3) := by decide +kernel
theorem dX11_cost_23 : decode cX11_cost 23 = .ok (.ldc 131, 2) := by decide +kernel
theorem dX11_cost_25 : decode cX11_cost 25 = .ok (.ireturn, 1) := by decide +kernel
theorem dX11_cost_26 : decode cX11_cost 26 = .ok (.aload_n 0, 1) := by decide +kernel
theorem dX11_cost_27 : decode cX11_cost 27 = .ok (.invokevirtual 227, 3) := by decide +kernel
theorem dX11_cost_30 : decode cX11_cost 30 = .ok (.aload_n 0, 1) := by decide +kernel
theorem dX11_cost_31 : decode cX11_cost 31 = .ok (.getfield 16, 3) := by decide +kernel
theorem dX11_cost_34 : decode cX11_cost 34 = .ok (.iload_n 1, 1) := by decide +kernel
theorem dX11_cost_35 : decode cX11_cost 35 = .ok (.iaload, 1) := by decide +kernel
theorem dX11_cost_36 : decode cX11_cost 36 = .ok (.istore_n 3, 1) := by decide +kernel
theorem dX11_cost_37 : decode cX11_cost 37 = .ok (.aload_n 0, 1) := by decide +kernel
theorem dX11_cost_38 : decode cX11_cost 38 = .ok (.getfield 16, 3) := by decide +kernel
theorem dX11_cost_41 : decode cX11_cost 41 = .ok (.iload_n 1, 1) := by decide +kernel
theorem dX11_cost_42 : decode cX11_cost 42 = .ok (.iload_n 2, 1) := by decide +kernel
theorem dX11_cost_43 : decode cX11_cost 43 = .ok (.iastore, 1) := by decide +kernel
theorem dX11_cost_44 : decode cX11_cost 44 = .ok (.iload_n 3, 1) := by decide +kernel
theorem dX11_cost_45 : decode cX11_cost 45 = .ok (.ireturn, 1) := by decide +kernel
theorem dX11_undo_0 : decode cX11_undo 0 = .ok (.aload_n 0, 1) := by decide +kernel
theorem dX11_undo_1 : decode cX11_undo 1 = .ok (.invokevirtual 211, 3) := by decide +kernel
theorem dX11_undo_4 : decode cX11_undo 4 = .ok (.ifCond .ne 6, 3) := by decide +kernel
theorem dX11_undo_7 : decode cX11_undo 7 = .ok (.ldc 214, 2) := by decide +kernel
theorem dX11_undo_9 : decode cX11_undo 9 = .ok (.ireturn, 1) := by decide +kernel
theorem dX11_undo_10 : decode cX11_undo 10 = .ok (.aload_n 0, 1) := by decide +kernel
theorem dX11_undo_11 : decode cX11_undo 11 = .ok (.getfield 208, 3) := by decide +kernel
theorem dX11_undo_14 : decode cX11_undo 14 = .ok (.ifCond .ne 6, 3) := by decide +kernel
theorem dX11_undo_17 : decode cX11_undo 17 = .ok (.ldc 224, 2) := by decide +kernel
theorem dX11_undo_19 : decode cX11_undo 19 = .ok (.ireturn, 1) := by decide +kernel
theorem dX11_undo_20 : decode cX11_undo 20 = .ok (.aload_n 0, 1) := by decide +kernel
theorem dX11_undo_21 : decode cX11_undo 21 = .ok (.dup, 1) := by decide +kernel
theorem dX11_undo_22 : decode cX11_undo 22 = .ok (.getfield 208, 3) := by decide +kernel
theorem dX11_undo_25 : decode cX11_undo 25 = .ok (.iconst 1, 1) := by decide +kernel
theorem dX11_undo_26 : decode cX11_undo 26 = .ok (.isub, 1) := by decide +kernel
theorem dX11_undo_27 : decode cX11_undo 27 = .ok (.putfield 208, 3) := by decide +kernel
theorem dX11_undo_30 : decode cX11_undo 30 = .ok (.iconst 0, 1) := by decide +kernel
theorem dX11_undo_31 : decode cX11_undo 31 = .ok (.istore_n 1, 1) := by decide +kernel
theorem dX11_undo_32 : decode cX11_undo 32 = .ok (.iload_n 1, 1) := by decide +kernel
theorem dX11_undo_33 : decode cX11_undo 33 = .ok (.bipush 32, 2) := by decide +kernel
theorem dX11_undo_35 : decode cX11_undo 35 = .ok (.if_icmp .ge 62, 3) := by decide +kernel
theorem dX11_undo_38 : decode cX11_undo 38 = .ok (.aload_n 0, 1) := by decide +kernel
theorem dX11_undo_39 : decode cX11_undo 39 = .ok (.getfield 16, 3) := by decide +kernel
theorem dX11_undo_42 : decode cX11_undo 42 = .ok (.iload_n 1, 1) := by decide +kernel
theorem dX11_undo_43 : decode cX11_undo 43 = .ok (.aload_n 0, 1) := by decide +kernel
theorem dX11_undo_44 : decode cX11_undo 44 = .ok (.getfield 41, 3) := by decide +kernel
theorem dX11_undo_47 : decode cX11_undo 47 = .ok (.bipush 32, 2) := by decide +kernel
theorem dX11_undo_49 : decode cX11_undo 49 = .ok (.aload_n 0, 1) := by decide +kernel
theorem dX11_undo_50 : decode cX11_undo 50 = .ok (.getfield 208, 3) := by decide +kernel
theorem dX11_undo_53 : decode cX11_undo 53 = .ok (.imul, 1) := by decide +kernel
theorem dX11_undo_54 : decode cX11_undo 54 = .ok (.iload_n 1, 1) := by decide +kernel
theorem dX11_undo_55 : decode cX11_undo 55 = .ok (.iadd, 1) := by decide +kernel
theorem dX11_undo_56 : decode cX11_undo 56 = .ok (.iaload, 1) := by decide +kernel
theorem dX11_undo_57 : decode cX11_undo 57 = .ok (.bipush 10, 2) := by decide +kernel
theorem dX11_undo_59 : decode cX11_undo 59 = .ok (.irem, 1) := by decide +kernel
theorem dX11_undo_60 : decode cX11_undo 60 = .ok (.iastore, 1) := by decide +kernel
theorem dX11_undo_61 : decode cX11_undo 61 = .ok (.aload_n 0, 1) := by decide +kernel
theorem dX11_undo_62 : decode cX11_undo 62 = .ok (.getfield 34, 3) := by decide +kernel
theorem dX11_undo_65 : decode cX11_undo 65 = .ok (.iload_n 1, 1) := by decide +kernel
theorem dX11_undo_66 : decode cX11_undo 66 = .ok (.aload_n 0, 1) := by decide +kernel
theorem dX11_undo_67 : decode cX11_undo 67 = .ok (.getfield 41, 3) := by decide +kernel
theorem dX11_undo_70 : decode cX11_undo 70 = .ok (.bipush 32, 2) := by decide +kernel
theorem dX11_undo_72 : decode cX11_undo 72 = .ok (.aload_n 0, 1) := by decide +kernel
theorem dX11_undo_73 : decode cX11_undo 73 = .ok (.getfield 208, 3) := by decide +kernel
theorem dX11_undo_76 : decode cX11_undo 76 = .ok (.imul, 1) := by decide +kernel
theorem dX11_undo_77 : decode cX11_undo 77 = .ok (.iload_n 1, 1) := by decide +kernel
theorem dX11_undo_78 : decode cX11_undo 78 = .ok (.iadd, 1) := by decide +kernel
theorem dX11_undo_79 : decode cX11_undo 79 = .ok (.iaload, 1) := by decide +kernel
theorem dX11_undo_80 : decode cX11_undo 80 = .ok (.bipush 10, 2) := by decide +kernel
theorem dX11_undo_82 : decode cX11_undo 82 = .ok (.if_icmp .lt 7, 3) := by decide +kernel
theorem dX11_undo_85 : decode cX11_undo 85 = .ok (.iconst 1, 1) := by decide +kernel
theorem dX11_undo_86 : decode cX11_undo 86 = .ok (.goto 4, 3) := by decide +kernel
theorem dX11_undo_89 : decode cX11_undo 89 = .ok (.iconst 0, 1) := by decide +kernel
theorem dX11_undo_90 : decode cX11_undo 90 = .ok (.bastore, 1) := by decide +kernel
theorem dX11_undo_91 : decode cX11_undo 91 = .ok (.iinc 1 1, 3) := by decide +kernel
theorem dX11_undo_94 : decode cX11_undo 94 = .ok (.goto (-62), 3) := by decide +kernel
theorem dX11_undo_97 : decode cX11_undo 97 = .ok (.aload_n 0, 1) := by decide +kernel
theorem dX11_undo_98 : decode cX11_undo 98 = .ok (.getfield 208, 3) := by decide +kernel
theorem dX11_undo_101 : decode cX11_undo 101 = .ok (.ireturn, 1) := by decide +kernel
theorem dX11_isVain_0 : decode cX11_isVain 0 = .ok (.aload_n 0, 1) := by decide +kernel
theorem dX11_isVain_1 : decode cX11_isVain 1 = .ok (.getfield 19, 3) := by decide +kernel
theorem dX11_isVain_4 : decode cX11_isVain 4 = .ok (.iload_n 1, 1) := by decide +kernel
theorem dX11_isVain_5 : decode cX11_isVain 5 = .ok (.iaload, 1) := by decide +kernel
theorem dX11_isVain_6 : decode cX11_isVain 6 = .ok (.ifCond .le 7, 3) := by decide +kernel
theorem dX11_isVain_9 : decode cX11_isVain 9 = .ok (.iconst 1, 1) := by decide +kernel
theorem dX11_isVain_10 : decode cX11_isVain 10 = .ok (.goto 4, 3) := by decide +kernel
theorem dX11_isVain_13 : decode cX11_isVain 13 = .ok (.iconst 0, 1) := by decide +kernel
theorem dX11_isVain_14 : decode cX11_isVain 14 = .ok (.istore_n 2, 1) := by decide +kernel
theorem dX11_isVain_15 : decode cX11_isVain 15 = .ok (.iconst 0, 1) := by decide +kernel
theorem dX11_isVain_16 : decode cX11_isVain 16 = .ok (.istore_n 3, 1) := by decide +kernel
theorem dX11_isVain_17 : decode cX11_isVain 17 = .ok (.iload_n 3, 1) := by decide +kernel
theorem dX11_isVain_18 : decode cX11_isVain 18 = .ok (.aload_n 0, 1) := by decide +kernel
theorem dX11_isVain_19 : decode cX11_isVain 19 = .ok (.getfield 19, 3) := by decide +kernel
theorem dX11_isVain_22 : decode cX11_isVain 22 = .ok (.iload_n 1, 1) := by decide +kernel
theorem dX11_isVain_23 : decode cX11_isVain 23 = .ok (.iaload, 1) := by decide +kernel
theorem dX11_isVain_24 : decode cX11_isVain 24 = .ok (.if_icmp .ge 43, 3) := by decide +kernel
theorem dX11_isVain_27 : decode cX11_isVain 27 = .ok (.iload_n 2, 1) := by decide +kernel
theorem dX11_isVain_28 : decode cX11_isVain 28 = .ok (.ifCond .eq 31, 3) := by decide +kernel
theorem dX11_isVain_31 : decode cX11_isVain 31 = .ok (.aload_n 0, 1) := by decide +kernel
theorem dX11_isVain_32 : decode cX11_isVain 32 = .ok (.getfield 22, 3) := by decide +kernel
theorem dX11_isVain_35 : decode cX11_isVain 35 = .ok (.iconst 3, 1) := by decide +kernel
theorem dX11_isVain_36 : decode cX11_isVain 36 = .ok (.iload_n 1, 1) := by decide +kernel
theorem dX11_isVain_37 : decode cX11_isVain 37 = .ok (.imul, 1) := by decide +kernel
theorem dX11_isVain_38 : decode cX11_isVain 38 = .ok (.iload_n 3, 1) := by decide +kernel
theorem dX11_isVain_39 : decode cX11_isVain 39 = .ok (.iadd, 1) := by decide +kernel
theorem dX11_isVain_40 : decode cX11_isVain 40 = .ok (.iaload, 1) := by decide +kernel
theorem dX11_isVain_41 : decode cX11_isVain 41 = .ok (.aload_n 0, 1) := by decide +kernel
theorem dX11_isVain_42 : decode cX11_isVain 42 = .ok (.getfield 25, 3) := by decide +kernel
theorem dX11_isVain_45 : decode cX11_isVain 45 = .ok (.iconst 3, 1) := by decide +kernel
theorem dX11_isVain_46 : decode cX11_isVain 46 = .ok (.iload_n 1, 1) := by decide +kernel
theorem dX11_isVain_47 : decode cX11_isVain 47 = .ok (.imul, 1) := by decide +kernel
theorem dX11_isVain_48 : decode cX11_isVain 48 = .ok (.iload_n 3, 1) := by decide +kernel
theorem dX11_isVain_49 : decode cX11_isVain 49 = .ok (.iadd, 1) := by decide +kernel
theorem dX11_isVain_50 : decode cX11_isVain 50 = .ok (.iaload, 1) := by decide +kernel
theorem dX11_isVain_51 : decode cX11_isVain 51 = .ok (.iand, 1) := by decide +kernel
theorem dX11_isVain_52 : decode cX11_isVain 52 = .ok (.ifCond .eq 7, 3) := by decide +kernel
theorem dX11_isVain_55 : decode cX11_isVain 55 = .ok (.iconst 1, 1) := by decide +kernel
theorem dX11_isVain_56 : decode cX11_isVain 56 = .ok (.goto 4, 3) := by decide +kernel
theorem dX11_isVain_59 : decode cX11_isVain 59 = .ok (.iconst 0, 1) := by decide +kernel
theorem dX11_isVain_60 : decode cX11_isVain 60 = .ok (.istore_n 2, 1) := by decide +kernel
theorem dX11_isVain_61 : decode cX11_isVain 61 = .ok (.iinc 3 1, 3) := by decide +kernel
theorem dX11_isVain_64 : decode cX11_isVain 64 = .ok (.goto (-47), 3) := by decide +kernel
theorem dX11_isVain_67 : decode cX11_isVain 67 = .ok (.iload_n 2, 1) := by decide +kernel
theorem dX11_isVain_68 : decode cX11_isVain 68 = .ok (.ireturn, 1) := by decide +kernel
theorem dX11_answer_0 : decode cX11_answer 0 = .ok (.aload_n 0, 1) := by decide +kernel
theorem dX11_answer_1 : decode cX11_answer 1 = .ok (.iload_n 1, 1) := by decide +kernel
theorem dX11_answer_2 : decode cX11_answer 2 = .ok (.invokevirtual 217, 3) := by decide +kernel
theorem dX11_answer_5 : decode cX11_answer 5 = .ok (.ifCond .ne 6, 3) := by decide +kernel
theorem dX11_answer_8 : decode cX11_answer 8 = .ok (.ldc 214, 2) := by decide +kernel
theorem dX11_answer_10 : decode cX11_answer 10 = .ok (.ireturn, 1) := by decide +kernel
theorem dX11_answer_11 : decode cX11_answer 11 = .ok (.iload_n 2, 1) := by decide +kernel
theorem dX11_answer_12 : decode cX11_answer 12 = .ok (.tableswitch 142 0 8 #[52, 59, 66, 73, 80, 87, 94, 109, 128], 52) := by decide +kernel
theorem dX11_answer_64 : decode cX11_answer 64 = .ok (.aload_n 0, 1) := by decide +kernel
theorem dX11_answer_65 : decode cX11_answer 65 = .ok (.getfield 7, 3) := by decide +kernel
theorem dX11_answer_68 : decode cX11_answer 68 = .ok (.iload_n 1, 1) := by decide +kernel
theorem dX11_answer_69 : decode cX11_answer 69 = .ok (.iaload, 1) := by decide +kernel
theorem dX11_answer_70 : decode cX11_answer 70 = .ok (.ireturn, 1) := by decide +kernel
theorem dX11_answer_71 : decode cX11_answer 71 = .ok (.aload_n 0, 1) := by decide +kernel
theorem dX11_answer_72 : decode cX11_answer 72 = .ok (.getfield 13, 3) := by decide +kernel
theorem dX11_answer_75 : decode cX11_answer 75 = .ok (.iload_n 1, 1) := by decide +kernel
theorem dX11_answer_76 : decode cX11_answer 76 = .ok (.iaload, 1) := by decide +kernel
theorem dX11_answer_77 : decode cX11_answer 77 = .ok (.ireturn, 1) := by decide +kernel
theorem dX11_answer_78 : decode cX11_answer 78 = .ok (.aload_n 0, 1) := by decide +kernel
theorem dX11_answer_79 : decode cX11_answer 79 = .ok (.getfield 16, 3) := by decide +kernel
theorem dX11_answer_82 : decode cX11_answer 82 = .ok (.iload_n 1, 1) := by decide +kernel
theorem dX11_answer_83 : decode cX11_answer 83 = .ok (.iaload, 1) := by decide +kernel
theorem dX11_answer_84 : decode cX11_answer 84 = .ok (.ireturn, 1) := by decide +kernel
theorem dX11_answer_85 : decode cX11_answer 85 = .ok (.aload_n 0, 1) := by decide +kernel
theorem dX11_answer_86 : decode cX11_answer 86 = .ok (.getfield 19, 3) := by decide +kernel
theorem dX11_answer_89 : decode cX11_answer 89 = .ok (.iload_n 1, 1) := by decide +kernel
theorem dX11_answer_90 : decode cX11_answer 90 = .ok (.iaload, 1) := by decide +kernel
theorem dX11_answer_91 : decode cX11_answer 91 = .ok (.ireturn, 1) := by decide +kernel
theorem dX11_answer_92 : decode cX11_answer 92 = .ok (.aload_n 0, 1) := by decide +kernel
theorem dX11_answer_93 : decode cX11_answer 93 = .ok (.getfield 28, 3) := by decide +kernel
theorem dX11_answer_96 : decode cX11_answer 96 = .ok (.iload_n 1, 1) := by decide +kernel
theorem dX11_answer_97 : decode cX11_answer 97 = .ok (.iaload, 1) := by decide +kernel
theorem dX11_answer_98 : decode cX11_answer 98 = .ok (.ireturn, 1) := by decide +kernel
theorem dX11_answer_99 : decode cX11_answer 99 = .ok (.aload_n 0, 1) := by decide +kernel
theorem dX11_answer_100 : decode cX11_answer 100 = .ok (.getfield 31, 3) := by decide +kernel
theorem dX11_answer_103 : decode cX11_answer 103 = .ok (.iload_n 1, 1) := by decide +kernel
theorem dX11_answer_104 : decode cX11_answer 104 = .ok (.iaload, 1) := by decide +kernel
theorem dX11_answer_105 : decode cX11_answer 105 = .ok (.ireturn, 1) := by decide +kernel
theorem dX11_answer_106 : decode cX11_answer 106 = .ok (.aload_n 0, 1) := by decide +kernel
theorem dX11_answer_107 : decode cX11_answer 107 = .ok (.getfield 34, 3) := by decide +kernel
theorem dX11_answer_110 : decode cX11_answer 110 = .ok (.iload_n 1, 1) := by decide +kernel
theorem dX11_answer_111 : decode cX11_answer 111 = .ok (.baload, 1) := by decide +kernel
theorem dX11_answer_112 : decode cX11_answer 112 = .ok (.ifCond .eq 7, 3) := by decide +kernel
theorem dX11_answer_115 : decode cX11_answer 115 = .ok (.iconst 1, 1) := by decide +kernel
theorem dX11_answer_116 : decode cX11_answer 116 = .ok (.goto 4, 3) := by decide +kernel
theorem dX11_answer_119 : decode cX11_answer 119 = .ok (.iconst 0, 1) := by decide +kernel
theorem dX11_answer_120 : decode cX11_answer 120 = .ok (.ireturn, 1) := by decide +kernel
theorem dX11_answer_121 : decode cX11_answer 121 = .ok (.aload_n 0, 1) := by decide +kernel
theorem dX11_answer_122 : decode cX11_answer 122 = .ok (.iload_n 1, 1) := by decide +kernel
theorem dX11_answer_123 : decode cX11_answer 123 = .ok (.aload_n 0, 1) := by decide +kernel
theorem dX11_answer_124 : decode cX11_answer 124 = .ok (.invokevirtual 221, 3) := by decide +kernel
theorem dX11_answer_127 : decode cX11_answer 127 = .ok (.iconst (-1), 1) := by decide +kernel
theorem dX11_answer_128 : decode cX11_answer 128 = .ok (.invokevirtual 105, 3) := by decide +kernel
theorem dX11_answer_131 : decode cX11_answer 131 = .ok (.ifCond .eq 7, 3) := by decide +kernel
theorem dX11_answer_134 : decode cX11_answer 134 = .ok (.iconst 1, 1) := by decide +kernel
theorem dX11_answer_135 : decode cX11_answer 135 = .ok (.goto 4, 3) := by decide +kernel
theorem dX11_answer_138 : decode cX11_answer 138 = .ok (.iconst 0, 1) := by decide +kernel
theorem dX11_answer_139 : decode cX11_answer 139 = .ok (.ireturn, 1) := by decide +kernel
theorem dX11_answer_140 : decode cX11_answer 140 = .ok (.aload_n 0, 1) := by decide +kernel
theorem dX11_answer_141 : decode cX11_answer 141 = .ok (.iload_n 1, 1) := by decide +kernel
theorem dX11_answer_142 : decode cX11_answer 142 = .ok (.invokevirtual 232, 3) := by decide +kernel
theorem dX11_answer_145 : decode cX11_answer 145 = .ok (.ifCond .eq 7, 3) := by decide +kernel
theorem dX11_answer_148 : decode cX11_answer 148 = .ok (.iconst 1, 1) := by decide +kernel
theorem dX11_answer_149 : decode cX11_answer 149 = .ok (.goto 4, 3) := by decide +kernel
theorem dX11_answer_152 : decode cX11_answer 152 = .ok (.iconst 0, 1) := by decide +kernel
theorem dX11_answer_153 : decode cX11_answer 153 = .ok (.ireturn, 1) := by decide +kernel
theorem dX11_answer_154 : decode cX11_answer 154 = .ok (.iload_n 2, 1) := by decide +kernel
theorem dX11_answer_155 : decode cX11_answer 155 = .ok (.i2l, 1) := by decide +kernel
theorem dX11_answer_156 : decode cX11_answer 156 = .ok (.ldc2_w 235, 3) := by decide +kernel
theorem dX11_answer_159 : decode cX11_answer 159 = .ok (.bipush 9, 2) := by decide +kernel
theorem dX11_answer_161 : decode cX11_answer 161 = .ok (.iconst 2, 1) := by decide +kernel
theorem dX11_answer_162 : decode cX11_answer 162 = .ok (.aload_n 0, 1) := by decide +kernel
theorem dX11_answer_163 : decode cX11_answer 163 = .ok (.getfield 19, 3) := by decide +kernel
theorem dX11_answer_166 : decode cX11_answer 166 = .ok (.iload_n 1, 1) := by decide +kernel
theorem dX11_answer_167 : decode cX11_answer 167 = .ok (.iaload, 1) := by decide +kernel
theorem dX11_answer_168 : decode cX11_answer 168 = .ok (.imul, 1) := by decide +kernel
theorem dX11_answer_169 : decode cX11_answer 169 = .ok (.iadd, 1) := by decide +kernel
theorem dX11_answer_170 : decode cX11_answer 170 = .ok (.i2l, 1) := by decide +kernel
theorem dX11_answer_171 : decode cX11_answer 171 = .ok (.invokestatic 88, 3) := by decide +kernel
theorem dX11_answer_174 : decode cX11_answer 174 = .ok (.ifCond .ne 6, 3) := by decide +kernel
theorem dX11_answer_177 : decode cX11_answer 177 = .ok (.ldc 131, 2) := by decide +kernel
theorem dX11_answer_179 : decode cX11_answer 179 = .ok (.ireturn, 1) := by decide +kernel
theorem dX11_answer_180 : decode cX11_answer 180 = .ok (.iconst 3, 1) := by decide +kernel
theorem dX11_answer_181 : decode cX11_answer 181 = .ok (.iload_n 1, 1) := by decide +kernel
theorem dX11_answer_182 : decode cX11_answer 182 = .ok (.imul, 1) := by decide +kernel
theorem dX11_answer_183 : decode cX11_answer 183 = .ok (.iload_n 2, 1) := by decide +kernel
theorem dX11_answer_184 : decode cX11_answer 184 = .ok (.bipush 10, 2) := by decide +kernel
theorem dX11_answer_186 : decode cX11_answer 186 = .ok (.isub, 1) := by decide +kernel
theorem dX11_answer_187 : decode cX11_answer 187 = .ok (.iconst 2, 1) := by decide +kernel
theorem dX11_answer_188 : decode cX11_answer 188 = .ok (.idiv, 1) := by decide +kernel
theorem dX11_answer_189 : decode cX11_answer 189 = .ok (.iadd, 1) := by decide +kernel
theorem dX11_answer_190 : decode cX11_answer 190 = .ok (.istore_n 3, 1) := by decide +kernel
theorem dX11_answer_191 : decode cX11_answer 191 = .ok (.iload_n 2, 1) := by decide +kernel
theorem dX11_answer_192 : decode cX11_answer 192 = .ok (.iconst 2, 1) := by decide +kernel
theorem dX11_answer_193 : decode cX11_answer 193 = .ok (.irem, 1) := by decide +kernel
theorem dX11_answer_194 : decode cX11_answer 194 = .ok (.ifCond .ne 12, 3) := by decide +kernel
theorem dX11_answer_197 : decode cX11_answer 197 = .ok (.aload_n 0, 1) := by decide +kernel
theorem dX11_answer_198 : decode cX11_answer 198 = .ok (.getfield 22, 3) := by decide +kernel
theorem dX11_answer_201 : decode cX11_answer 201 = .ok (.iload_n 3, 1) := by decide +kernel
theorem dX11_answer_202 : decode cX11_answer 202 = .ok (.iaload, 1) := by decide +kernel
theorem dX11_answer_203 : decode cX11_answer 203 = .ok (.goto 9, 3) := by decide +kernel
theorem dX11_answer_206 : decode cX11_answer 206 = .ok (.aload_n 0, 1) := by decide +kernel
theorem dX11_answer_207 : decode cX11_answer 207 = .ok (.getfield 25, 3) := by decide +kernel
theorem dX11_answer_210 : decode cX11_answer 210 = .ok (.iload_n 3, 1) := by decide +kernel
theorem dX11_answer_211 : decode cX11_answer 211 = .ok (.iaload, 1) := by decide +kernel
theorem dX11_answer_212 : decode cX11_answer 212 = .ok (.ireturn, 1) := by decide +kernel
theorem dX11_openIn_0 : decode cX11_openIn 0 = .ok (.iconst 0, 1) := by decide +kernel
theorem dX11_openIn_1 : decode cX11_openIn 1 = .ok (.istore_n 2, 1) := by decide +kernel
theorem dX11_openIn_2 : decode cX11_openIn 2 = .ok (.iconst 0, 1) := by decide +kernel
theorem dX11_openIn_3 : decode cX11_openIn 3 = .ok (.istore_n 3, 1) := by decide +kernel
theorem dX11_openIn_4 : decode cX11_openIn 4 = .ok (.iload_n 3, 1) := by decide +kernel
theorem dX11_openIn_5 : decode cX11_openIn 5 = .ok (.aload_n 0, 1) := by decide +kernel
theorem dX11_openIn_6 : decode cX11_openIn 6 = .ok (.getfield 85, 3) := by decide +kernel
theorem dX11_openIn_9 : decode cX11_openIn 9 = .ok (.if_icmp .ge 27, 3) := by decide +kernel
theorem dX11_openIn_12 : decode cX11_openIn 12 = .ok (.iload_n 2, 1) := by decide +kernel
theorem dX11_openIn_13 : decode cX11_openIn 13 = .ok (.aload_n 0, 1) := by decide +kernel
theorem dX11_openIn_14 : decode cX11_openIn 14 = .ok (.iload_n 3, 1) := by decide +kernel
theorem dX11_openIn_15 : decode cX11_openIn 15 = .ok (.iload_n 1, 1) := by decide +kernel
theorem dX11_openIn_16 : decode cX11_openIn 16 = .ok (.iconst (-1), 1) := by decide +kernel
theorem dX11_openIn_17 : decode cX11_openIn 17 = .ok (.invokevirtual 105, 3) := by decide +kernel
theorem dX11_openIn_20 : decode cX11_openIn 20 = .ok (.ifCond .eq 7, 3) := by decide +kernel
theorem dX11_openIn_23 : decode cX11_openIn 23 = .ok (.iconst 1, 1) := by decide +kernel
theorem dX11_openIn_24 : decode cX11_openIn 24 = .ok (.goto 4, 3) := by decide +kernel
theorem dX11_openIn_27 : decode cX11_openIn 27 = .ok (.iconst 0, 1) := by decide +kernel
theorem dX11_openIn_28 : decode cX11_openIn 28 = .ok (.iadd, 1) := by decide +kernel
theorem dX11_openIn_29 : decode cX11_openIn 29 = .ok (.istore_n 2, 1) := by decide +kernel
theorem dX11_openIn_30 : decode cX11_openIn 30 = .ok (.iinc 3 1, 3) := by decide +kernel
theorem dX11_openIn_33 : decode cX11_openIn 33 = .ok (.goto (-29), 3) := by decide +kernel
theorem dX11_openIn_36 : decode cX11_openIn 36 = .ok (.iload_n 2, 1) := by decide +kernel
theorem dX11_openIn_37 : decode cX11_openIn 37 = .ok (.ireturn, 1) := by decide +kernel
theorem dX11_costOfSteps_0 : decode cX11_costOfSteps 0 = .ok (.iconst 0, 1) := by decide +kernel
theorem dX11_costOfSteps_1 : decode cX11_costOfSteps 1 = .ok (.istore_n 1, 1) := by decide +kernel
theorem dX11_costOfSteps_2 : decode cX11_costOfSteps 2 = .ok (.iconst 0, 1) := by decide +kernel
theorem dX11_costOfSteps_3 : decode cX11_costOfSteps 3 = .ok (.istore_n 2, 1) := by decide +kernel
theorem dX11_costOfSteps_4 : decode cX11_costOfSteps 4 = .ok (.iload_n 2, 1) := by decide +kernel
theorem dX11_costOfSteps_5 : decode cX11_costOfSteps 5 = .ok (.aload_n 0, 1) := by decide +kernel
theorem dX11_costOfSteps_6 : decode cX11_costOfSteps 6 = .ok (.getfield 126, 3) := by decide +kernel
theorem dX11_costOfSteps_9 : decode cX11_costOfSteps 9 = .ok (.if_icmp .ge 23, 3) := by decide +kernel
theorem dX11_costOfSteps_12 : decode cX11_costOfSteps 12 = .ok (.iload_n 1, 1) := by decide +kernel
theorem dX11_costOfSteps_13 : decode cX11_costOfSteps 13 = .ok (.aload_n 0, 1) := by decide +kernel
theorem dX11_costOfSteps_14 : decode cX11_costOfSteps 14 = .ok (.getfield 16, 3) := by decide +kernel
theorem dX11_costOfSteps_17 : decode cX11_costOfSteps 17 = .ok (.aload_n 0, 1) := by decide +kernel
theorem dX11_costOfSteps_18 : decode cX11_costOfSteps 18 = .ok (.getfield 38, 3) := by decide +kernel
theorem dX11_costOfSteps_21 : decode cX11_costOfSteps 21 = .ok (.iload_n 2, 1) := by decide +kernel
theorem dX11_costOfSteps_22 : decode cX11_costOfSteps 22 = .ok (.iaload, 1) := by decide +kernel
theorem dX11_costOfSteps_23 : decode cX11_costOfSteps 23 = .ok (.iaload, 1) := by decide +kernel
theorem dX11_costOfSteps_24 : decode cX11_costOfSteps 24 = .ok (.iadd, 1) := by decide +kernel
theorem dX11_costOfSteps_25 : decode cX11_costOfSteps 25 = .ok (.istore_n 1, 1) := by decide +kernel
theorem dX11_costOfSteps_26 : decode cX11_costOfSteps 26 = .ok (.iinc 2 1, 3) := by decide +kernel
theorem dX11_costOfSteps_29 : decode cX11_costOfSteps 29 = .ok (.goto (-25), 3) := by decide +kernel
theorem dX11_costOfSteps_32 : decode cX11_costOfSteps 32 = .ok (.iload_n 1, 1) := by decide +kernel
theorem dX11_costOfSteps_33 : decode cX11_costOfSteps 33 = .ok (.ireturn, 1) := by decide +kernel
theorem dX11_count_0 : decode cX11_count 0 = .ok (.iload_n 1, 1) := by decide +kernel
theorem dX11_count_1 : decode cX11_count 1 = .ok (.bipush 10, 2) := by decide +kernel
theorem dX11_count_3 : decode cX11_count 3 = .ok (.if_icmp .ne 8, 3) := by decide +kernel
theorem dX11_count_6 : decode cX11_count 6 = .ok (.aload_n 0, 1) := by decide +kernel
theorem dX11_count_7 : decode cX11_count 7 = .ok (.getfield 132, 3) := by decide +kernel
theorem dX11_count_10 : decode cX11_count 10 = .ok (.ireturn, 1) := by decide +kernel
theorem dX11_count_11 : decode cX11_count 11 = .ok (.aload_n 0, 1) := by decide +kernel
theorem dX11_count_12 : decode cX11_count 12 = .ok (.invokevirtual 211, 3) := by decide +kernel
theorem dX11_count_15 : decode cX11_count 15 = .ok (.ifCond .ne 6, 3) := by decide +kernel
theorem dX11_count_18 : decode cX11_count 18 = .ok (.ldc 214, 2) := by decide +kernel
theorem dX11_count_20 : decode cX11_count 20 = .ok (.ireturn, 1) := by decide +kernel
theorem dX11_count_21 : decode cX11_count 21 = .ok (.iload_n 1, 1) := by decide +kernel
theorem dX11_count_22 : decode cX11_count 22 = .ok (.tableswitch 114 0 9 #[54, 62, 70, 75, 84, 89, 94, 99, 104, 109], 54) := by decide +kernel
theorem dX11_count_76 : decode cX11_count 76 = .ok (.aload_n 0, 1) := by decide +kernel
theorem dX11_count_77 : decode cX11_count 77 = .ok (.invokevirtual 221, 3) := by decide +kernel
theorem dX11_count_80 : decode cX11_count 80 = .ok (.bipush 64, 2) := by decide +kernel
theorem dX11_count_82 : decode cX11_count 82 = .ok (.idiv, 1) := by decide +kernel
theorem dX11_count_83 : decode cX11_count 83 = .ok (.ireturn, 1) := by decide +kernel
theorem dX11_count_84 : decode cX11_count 84 = .ok (.aload_n 0, 1) := by decide +kernel
theorem dX11_count_85 : decode cX11_count 85 = .ok (.invokevirtual 221, 3) := by decide +kernel
theorem dX11_count_88 : decode cX11_count 88 = .ok (.bipush 64, 2) := by decide +kernel
theorem dX11_count_90 : decode cX11_count 90 = .ok (.irem, 1) := by decide +kernel
theorem dX11_count_91 : decode cX11_count 91 = .ok (.ireturn, 1) := by decide +kernel
theorem dX11_count_92 : decode cX11_count 92 = .ok (.aload_n 0, 1) := by decide +kernel
theorem dX11_count_93 : decode cX11_count 93 = .ok (.getfield 126, 3) := by decide +kernel
theorem dX11_count_96 : decode cX11_count 96 = .ok (.ireturn, 1) := by decide +kernel
theorem dX11_count_97 : decode cX11_count 97 = .ok (.aload_n 0, 1) := by decide +kernel
theorem dX11_count_98 : decode cX11_count 98 = .ok (.aload_n 0, 1) := by decide +kernel
theorem dX11_count_99 : decode cX11_count 99 = .ok (.invokevirtual 221, 3) := by decide +kernel
theorem dX11_count_102 : decode cX11_count 102 = .ok (.invokevirtual 237, 3) := by decide +kernel
theorem dX11_count_105 : decode cX11_count 105 = .ok (.ireturn, 1) := by decide +kernel
theorem dX11_count_106 : decode cX11_count 106 = .ok (.aload_n 0, 1) := by decide +kernel
theorem dX11_count_107 : decode cX11_count 107 = .ok (.invokevirtual 241, 3) := by decide +kernel
theorem dX11_count_110 : decode cX11_count 110 = .ok (.ireturn, 1) := by decide +kernel
theorem dX11_count_111 : decode cX11_count 111 = .ok (.aload_n 0, 1) := by decide +kernel
theorem dX11_count_112 : decode cX11_count 112 = .ok (.getfield 112, 3) := by decide +kernel
theorem dX11_count_115 : decode cX11_count 115 = .ok (.ireturn, 1) := by decide +kernel
theorem dX11_count_116 : decode cX11_count 116 = .ok (.aload_n 0, 1) := by decide +kernel
theorem dX11_count_117 : decode cX11_count 117 = .ok (.getfield 81, 3) := by decide +kernel
theorem dX11_count_120 : decode cX11_count 120 = .ok (.ireturn, 1) := by decide +kernel
theorem dX11_count_121 : decode cX11_count 121 = .ok (.aload_n 0, 1) := by decide +kernel
theorem dX11_count_122 : decode cX11_count 122 = .ok (.getfield 98, 3) := by decide +kernel
theorem dX11_count_125 : decode cX11_count 125 = .ok (.ireturn, 1) := by decide +kernel
theorem dX11_count_126 : decode cX11_count 126 = .ok (.aload_n 0, 1) := by decide +kernel
theorem dX11_count_127 : decode cX11_count 127 = .ok (.getfield 85, 3) := by decide +kernel
theorem dX11_count_130 : decode cX11_count 130 = .ok (.ireturn, 1) := by decide +kernel
theorem dX11_count_131 : decode cX11_count 131 = .ok (.aload_n 0, 1) := by decide +kernel
theorem dX11_count_132 : decode cX11_count 132 = .ok (.getfield 208, 3) := by decide +kernel
theorem dX11_count_135 : decode cX11_count 135 = .ok (.ireturn, 1) := by decide +kernel
theorem dX11_count_136 : decode cX11_count 136 = .ok (.ldc 131, 2) := by decide +kernel
theorem dX11_count_138 : decode cX11_count 138 = .ok (.ireturn, 1) := by decide +kernel
theorem dX11_step_0 : decode cX11_step 0 = .ok (.aload_n 0, 1) := by decide +kernel
theorem dX11_step_1 : decode cX11_step 1 = .ok (.invokevirtual 211, 3) := by decide +kernel
theorem dX11_step_4 : decode cX11_step 4 = .ok (.ifCond .ne 6, 3) := by decide +kernel
theorem dX11_step_7 : decode cX11_step 7 = .ok (.ldc 214, 2) := by decide +kernel
theorem dX11_step_9 : decode cX11_step 9 = .ok (.ireturn, 1) := by decide +kernel
theorem dX11_step_10 : decode cX11_step 10 = .ok (.iload_n 1, 1) := by decide +kernel
theorem dX11_step_11 : decode cX11_step 11 = .ok (.ifCond .ge 8, 3) := by decide +kernel
theorem dX11_step_14 : decode cX11_step 14 = .ok (.ldc 131, 2) := by decide +kernel
theorem dX11_step_16 : decode cX11_step 16 = .ok (.goto 21, 3) := by decide +kernel
theorem dX11_step_19 : decode cX11_step 19 = .ok (.iload_n 1, 1) := by decide +kernel
theorem dX11_step_20 : decode cX11_step 20 = .ok (.aload_n 0, 1) := by decide +kernel
theorem dX11_step_21 : decode cX11_step 21 = .ok (.getfield 126, 3) := by decide +kernel
theorem dX11_step_24 : decode cX11_step 24 = .ok (.if_icmp .ge 12, 3) := by decide +kernel
theorem dX11_step_27 : decode cX11_step 27 = .ok (.aload_n 0, 1) := by decide +kernel
theorem dX11_step_28 : decode cX11_step 28 = .ok (.getfield 38, 3) := by decide +kernel
theorem dX11_step_31 : decode cX11_step 31 = .ok (.iload_n 1, 1) := by decide +kernel
theorem dX11_step_32 : decode cX11_step 32 = .ok (.iaload, 1) := by decide +kernel
theorem dX11_step_33 : decode cX11_step 33 = .ok (.goto 4, 3) := by decide +kernel
theorem dX11_step_36 : decode cX11_step 36 = .ok (.iconst (-1), 1) := by decide +kernel
theorem dX11_step_37 : decode cX11_step 37 = .ok (.ireturn, 1) := by decide +kernel
theorem dX11_laysEnds_0 : decode cX11_laysEnds 0 = .ok (.iconst 0, 1) := by decide +kernel
theorem dX11_laysEnds_1 : decode cX11_laysEnds 1 = .ok (.istore_n 1, 1) := by decide +kernel
theorem dX11_laysEnds_2 : decode cX11_laysEnds 2 = .ok (.iload_n 1, 1) := by decide +kernel
theorem dX11_laysEnds_3 : decode cX11_laysEnds 3 = .ok (.sipush 1024, 3) := by decide +kernel
theorem dX11_laysEnds_6 : decode cX11_laysEnds 6 = .ok (.if_icmp .ge 43, 3) := by decide +kernel
theorem dX11_laysEnds_9 : decode cX11_laysEnds 9 = .ok (.aload_n 0, 1) := by decide +kernel
theorem dX11_laysEnds_10 : decode cX11_laysEnds 10 = .ok (.getfield 62, 3) := by decide +kernel
theorem dX11_laysEnds_13 : decode cX11_laysEnds 13 = .ok (.iload_n 1, 1) := by decide +kernel
theorem dX11_laysEnds_14 : decode cX11_laysEnds 14 = .ok (.aload_n 0, 1) := by decide +kernel
theorem dX11_laysEnds_15 : decode cX11_laysEnds 15 = .ok (.getfield 44, 3) := by decide +kernel
theorem dX11_laysEnds_18 : decode cX11_laysEnds 18 = .ok (.iload_n 1, 1) := by decide +kernel
theorem dX11_laysEnds_19 : decode cX11_laysEnds 19 = .ok (.iaload, 1) := by decide +kernel
theorem dX11_laysEnds_20 : decode cX11_laysEnds 20 = .ok (.ifCond .lt 21, 3) := by decide +kernel
theorem dX11_laysEnds_23 : decode cX11_laysEnds 23 = .ok (.aload_n 0, 1) := by decide +kernel
theorem dX11_laysEnds_24 : decode cX11_laysEnds 24 = .ok (.getfield 98, 3) := by decide +kernel
theorem dX11_laysEnds_27 : decode cX11_laysEnds 27 = .ok (.iload_n 1, 1) := by decide +kernel
theorem dX11_laysEnds_28 : decode cX11_laysEnds 28 = .ok (.bipush 64, 2) := by decide +kernel
theorem dX11_laysEnds_30 : decode cX11_laysEnds 30 = .ok (.idiv, 1) := by decide +kernel
theorem dX11_laysEnds_31 : decode cX11_laysEnds 31 = .ok (.invokestatic 94, 3) := by decide +kernel
theorem dX11_laysEnds_34 : decode cX11_laysEnds 34 = .ok (.ifCond .eq 7, 3) := by decide +kernel
theorem dX11_laysEnds_37 : decode cX11_laysEnds 37 = .ok (.iconst 1, 1) := by decide +kernel
theorem dX11_laysEnds_38 : decode cX11_laysEnds 38 = .ok (.goto 4, 3) := by decide +kernel
theorem dX11_laysEnds_41 : decode cX11_laysEnds 41 = .ok (.iconst 0, 1) := by decide +kernel
theorem dX11_laysEnds_42 : decode cX11_laysEnds 42 = .ok (.bastore, 1) := by decide +kernel
theorem dX11_laysEnds_43 : decode cX11_laysEnds 43 = .ok (.iinc 1 1, 3) := by decide +kernel
theorem dX11_laysEnds_46 : decode cX11_laysEnds 46 = .ok (.goto (-44), 3) := by decide +kernel
theorem dX11_laysEnds_49 : decode cX11_laysEnds 49 = .ok (.iconst 1, 1) := by decide +kernel
theorem dX11_laysEnds_50 : decode cX11_laysEnds 50 = .ok (.istore_n 1, 1) := by decide +kernel
theorem dX11_laysEnds_51 : decode cX11_laysEnds 51 = .ok (.iload_n 1, 1) := by decide +kernel
theorem dX11_laysEnds_52 : decode cX11_laysEnds 52 = .ok (.ifCond .eq 111, 3) := by decide +kernel
theorem dX11_laysEnds_55 : decode cX11_laysEnds 55 = .ok (.iconst 0, 1) := by decide +kernel
theorem dX11_laysEnds_56 : decode cX11_laysEnds 56 = .ok (.istore_n 1, 1) := by decide +kernel
theorem dX11_laysEnds_57 : decode cX11_laysEnds 57 = .ok (.iconst 0, 1) := by decide +kernel
theorem dX11_laysEnds_58 : decode cX11_laysEnds 58 = .ok (.istore_n 2, 1) := by decide +kernel
theorem dX11_laysEnds_59 : decode cX11_laysEnds 59 = .ok (.iload_n 2, 1) := by decide +kernel
theorem dX11_laysEnds_60 : decode cX11_laysEnds 60 = .ok (.sipush 1024, 3) := by decide +kernel
theorem dX11_laysEnds_63 : decode cX11_laysEnds 63 = .ok (.if_icmp .ge 97, 3) := by decide +kernel
theorem dX11_laysEnds_66 : decode cX11_laysEnds 66 = .ok (.iconst 0, 1) := by decide +kernel
theorem dX11_laysEnds_67 : decode cX11_laysEnds 67 = .ok (.istore_n 3, 1) := by decide +kernel
theorem dX11_laysEnds_68 : decode cX11_laysEnds 68 = .ok (.iload_n 3, 1) := by decide +kernel
theorem dX11_laysEnds_69 : decode cX11_laysEnds 69 = .ok (.aload_n 0, 1) := by decide +kernel
theorem dX11_laysEnds_70 : decode cX11_laysEnds 70 = .ok (.getfield 85, 3) := by decide +kernel
theorem dX11_laysEnds_73 : decode cX11_laysEnds 73 = .ok (.if_icmp .ge 81, 3) := by decide +kernel
theorem dX11_laysEnds_76 : decode cX11_laysEnds 76 = .ok (.aload_n 0, 1) := by decide +kernel
theorem dX11_laysEnds_77 : decode cX11_laysEnds 77 = .ok (.getfield 44, 3) := by decide +kernel
theorem dX11_laysEnds_80 : decode cX11_laysEnds 80 = .ok (.iload_n 2, 1) := by decide +kernel
theorem dX11_laysEnds_81 : decode cX11_laysEnds 81 = .ok (.iaload, 1) := by decide +kernel
theorem dX11_laysEnds_82 : decode cX11_laysEnds 82 = .ok (.ifCond .lt 72, 3) := by decide +kernel
theorem dX11_laysEnds_85 : decode cX11_laysEnds 85 = .ok (.aload_n 0, 1) := by decide +kernel
theorem dX11_laysEnds_86 : decode cX11_laysEnds 86 = .ok (.getfield 62, 3) := by decide +kernel
theorem dX11_laysEnds_89 : decode cX11_laysEnds 89 = .ok (.iload_n 2, 1) := by decide +kernel
theorem dX11_laysEnds_90 : decode cX11_laysEnds 90 = .ok (.baload, 1) := by decide +kernel
theorem dX11_laysEnds_91 : decode cX11_laysEnds 91 = .ok (.ifCond .ne 63, 3) := by decide +kernel
theorem dX11_laysEnds_94 : decode cX11_laysEnds 94 = .ok (.aload_n 0, 1) := by decide +kernel
theorem dX11_laysEnds_95 : decode cX11_laysEnds 95 = .ok (.getfield 62, 3) := by decide +kernel
theorem dX11_laysEnds_98 : decode cX11_laysEnds 98 = .ok (.iload_n 2, 1) := by decide +kernel
theorem dX11_laysEnds_99 : decode cX11_laysEnds 99 = .ok (.aload_n 0, 1) := by decide +kernel
theorem dX11_laysEnds_100 : decode cX11_laysEnds 100 = .ok (.iload_n 3, 1) := by decide +kernel
theorem dX11_laysEnds_101 : decode cX11_laysEnds 101 = .ok (.iload_n 2, 1) := by decide +kernel
theorem dX11_laysEnds_102 : decode cX11_laysEnds 102 = .ok (.iconst (-1), 1) := by decide +kernel
theorem dX11_laysEnds_103 : decode cX11_laysEnds 103 = .ok (.invokevirtual 105, 3) := by decide +kernel
theorem dX11_laysEnds_106 : decode cX11_laysEnds 106 = .ok (.ifCond .eq 21, 3) := by decide +kernel
theorem dX11_laysEnds_109 : decode cX11_laysEnds 109 = .ok (.aload_n 0, 1) := by decide +kernel
theorem dX11_laysEnds_110 : decode cX11_laysEnds 110 = .ok (.getfield 62, 3) := by decide +kernel
theorem dX11_laysEnds_113 : decode cX11_laysEnds 113 = .ok (.aload_n 0, 1) := by decide +kernel
theorem dX11_laysEnds_114 : decode cX11_laysEnds 114 = .ok (.iload_n 3, 1) := by decide +kernel
theorem dX11_laysEnds_115 : decode cX11_laysEnds 115 = .ok (.iload_n 2, 1) := by decide +kernel
theorem dX11_laysEnds_116 : decode cX11_laysEnds 116 = .ok (.invokevirtual 108, 3) := by decide +kernel
theorem dX11_laysEnds_119 : decode cX11_laysEnds 119 = .ok (.baload, 1) := by decide +kernel
theorem dX11_laysEnds_120 : decode cX11_laysEnds 120 = .ok (.ifCond .eq 7, 3) := by decide +kernel
theorem dX11_laysEnds_123 : decode cX11_laysEnds 123 = .ok (.iconst 1, 1) := by decide +kernel
theorem dX11_laysEnds_124 : decode cX11_laysEnds 124 = .ok (.goto 4, 3) := by decide +kernel
theorem dX11_laysEnds_127 : decode cX11_laysEnds 127 = .ok (.iconst 0, 1) := by decide +kernel
theorem dX11_laysEnds_128 : decode cX11_laysEnds 128 = .ok (.bastore, 1) := by decide +kernel
theorem dX11_laysEnds_129 : decode cX11_laysEnds 129 = .ok (.iload_n 1, 1) := by decide +kernel
theorem dX11_laysEnds_130 : decode cX11_laysEnds 130 = .ok (.ifCond .ne 12, 3) := by decide +kernel
theorem dX11_laysEnds_133 : decode cX11_laysEnds 133 = .ok (.aload_n 0, 1) := by decide +kernel
theorem dX11_laysEnds_134 : decode cX11_laysEnds 134 = .ok (.getfield 62, 3) := by decide +kernel
theorem dX11_laysEnds_137 : decode cX11_laysEnds 137 = .ok (.iload_n 2, 1) := by decide +kernel
theorem dX11_laysEnds_138 : decode cX11_laysEnds 138 = .ok (.baload, 1) := by decide +kernel
theorem dX11_laysEnds_139 : decode cX11_laysEnds 139 = .ok (.ifCond .eq 7, 3) := by decide +kernel
theorem dX11_laysEnds_142 : decode cX11_laysEnds 142 = .ok (.iconst 1, 1) := by decide +kernel
theorem dX11_laysEnds_143 : decode cX11_laysEnds 143 = .ok (.goto 4, 3) := by decide +kernel
theorem dX11_laysEnds_146 : decode cX11_laysEnds 146 = .ok (.iconst 0, 1) := by decide +kernel
theorem dX11_laysEnds_147 : decode cX11_laysEnds 147 = .ok (.istore_n 1, 1) := by decide +kernel
theorem dX11_laysEnds_148 : decode cX11_laysEnds 148 = .ok (.iinc 3 1, 3) := by decide +kernel
theorem dX11_laysEnds_151 : decode cX11_laysEnds 151 = .ok (.goto (-83), 3) := by decide +kernel
theorem dX11_laysEnds_154 : decode cX11_laysEnds 154 = .ok (.iinc 2 1, 3) := by decide +kernel
theorem dX11_laysEnds_157 : decode cX11_laysEnds 157 = .ok (.goto (-98), 3) := by decide +kernel
theorem dX11_laysEnds_160 : decode cX11_laysEnds 160 = .ok (.goto (-109), 3) := by decide +kernel
theorem dX11_laysEnds_163 : decode cX11_laysEnds 163 = .ok (.return_, 1) := by decide +kernel
theorem dX11_isStuck_0 : decode cX11_isStuck 0 = .ok (.aload_n 0, 1) := by decide +kernel
theorem dX11_isStuck_1 : decode cX11_isStuck 1 = .ok (.getfield 44, 3) := by decide +kernel
theorem dX11_isStuck_4 : decode cX11_isStuck 4 = .ok (.iload_n 1, 1) := by decide +kernel
theorem dX11_isStuck_5 : decode cX11_isStuck 5 = .ok (.iaload, 1) := by decide +kernel
theorem dX11_isStuck_6 : decode cX11_isStuck 6 = .ok (.ifCond .lt 29, 3) := by decide +kernel
theorem dX11_isStuck_9 : decode cX11_isStuck 9 = .ok (.aload_n 0, 1) := by decide +kernel
theorem dX11_isStuck_10 : decode cX11_isStuck 10 = .ok (.getfield 98, 3) := by decide +kernel
theorem dX11_isStuck_13 : decode cX11_isStuck 13 = .ok (.iload_n 1, 1) := by decide +kernel
theorem dX11_isStuck_14 : decode cX11_isStuck 14 = .ok (.bipush 64, 2) := by decide +kernel
theorem dX11_isStuck_16 : decode cX11_isStuck 16 = .ok (.idiv, 1) := by decide +kernel
theorem dX11_isStuck_17 : decode cX11_isStuck 17 = .ok (.invokestatic 94, 3) := by decide +kernel
theorem dX11_isStuck_20 : decode cX11_isStuck 20 = .ok (.ifCond .ne 15, 3) := by decide +kernel
theorem dX11_isStuck_23 : decode cX11_isStuck 23 = .ok (.aload_n 0, 1) := by decide +kernel
theorem dX11_isStuck_24 : decode cX11_isStuck 24 = .ok (.iload_n 1, 1) := by decide +kernel
theorem dX11_isStuck_25 : decode cX11_isStuck 25 = .ok (.invokevirtual 237, 3) := by decide +kernel
theorem dX11_isStuck_28 : decode cX11_isStuck 28 = .ok (.ifCond .ne 7, 3) := by decide +kernel
theorem dX11_isStuck_31 : decode cX11_isStuck 31 = .ok (.iconst 1, 1) := by decide +kernel
theorem dX11_isStuck_32 : decode cX11_isStuck 32 = .ok (.goto 4, 3) := by decide +kernel
theorem dX11_isStuck_35 : decode cX11_isStuck 35 = .ok (.iconst 0, 1) := by decide +kernel
theorem dX11_isStuck_36 : decode cX11_isStuck 36 = .ok (.ireturn, 1) := by decide +kernel
theorem dX11_isLost_0 : decode cX11_isLost 0 = .ok (.aload_n 0, 1) := by decide +kernel
theorem dX11_isLost_1 : decode cX11_isLost 1 = .ok (.getfield 44, 3) := by decide +kernel
theorem dX11_isLost_4 : decode cX11_isLost 4 = .ok (.iload_n 1, 1) := by decide +kernel
theorem dX11_isLost_5 : decode cX11_isLost 5 = .ok (.iaload, 1) := by decide +kernel
theorem dX11_isLost_6 : decode cX11_isLost 6 = .ok (.ifCond .lt 16, 3) := by decide +kernel
theorem dX11_isLost_9 : decode cX11_isLost 9 = .ok (.aload_n 0, 1) := by decide +kernel
theorem dX11_isLost_10 : decode cX11_isLost 10 = .ok (.getfield 62, 3) := by decide +kernel
theorem dX11_isLost_13 : decode cX11_isLost 13 = .ok (.iload_n 1, 1) := by decide +kernel
theorem dX11_isLost_14 : decode cX11_isLost 14 = .ok (.baload, 1) := by decide +kernel
theorem dX11_isLost_15 : decode cX11_isLost 15 = .ok (.ifCond .ne 7, 3) := by decide +kernel
theorem dX11_isLost_18 : decode cX11_isLost 18 = .ok (.iconst 1, 1) := by decide +kernel
theorem dX11_isLost_19 : decode cX11_isLost 19 = .ok (.goto 4, 3) := by decide +kernel
theorem dX11_isLost_22 : decode cX11_isLost 22 = .ok (.iconst 0, 1) := by decide +kernel
theorem dX11_isLost_23 : decode cX11_isLost 23 = .ok (.ireturn, 1) := by decide +kernel
theorem dX11_statesOf_0 : decode cX11_statesOf 0 = .ok (.iconst 0, 1) := by decide +kernel
theorem dX11_statesOf_1 : decode cX11_statesOf 1 = .ok (.istore_n 3, 1) := by decide +kernel
theorem dX11_statesOf_2 : decode cX11_statesOf 2 = .ok (.bipush 64, 2) := by decide +kernel
theorem dX11_statesOf_4 : decode cX11_statesOf 4 = .ok (.iload_n 1, 1) := by decide +kernel
theorem dX11_statesOf_5 : decode cX11_statesOf 5 = .ok (.imul, 1) := by decide +kernel
theorem dX11_statesOf_6 : decode cX11_statesOf 6 = .ok (.istore 4, 2) := by decide +kernel
theorem dX11_statesOf_8 : decode cX11_statesOf 8 = .ok (.iload 4, 2) := by decide +kernel
theorem dX11_statesOf_10 : decode cX11_statesOf 10 = .ok (.bipush 64, 2) := by decide +kernel
theorem dX11_statesOf_12 : decode cX11_statesOf 12 = .ok (.iload_n 1, 1) := by decide +kernel
theorem dX11_statesOf_13 : decode cX11_statesOf 13 = .ok (.imul, 1) := by decide +kernel
theorem dX11_statesOf_14 : decode cX11_statesOf 14 = .ok (.bipush 64, 2) := by decide +kernel
theorem dX11_statesOf_16 : decode cX11_statesOf 16 = .ok (.iadd, 1) := by decide +kernel
theorem dX11_statesOf_17 : decode cX11_statesOf 17 = .ok (.if_icmp .ge 66, 3) := by decide +kernel
theorem dX11_statesOf_20 : decode cX11_statesOf 20 = .ok (.iload_n 2, 1) := by decide +kernel
theorem dX11_statesOf_21 : decode cX11_statesOf 21 = .ok (.ifCond .ne 21, 3) := by decide +kernel
theorem dX11_statesOf_24 : decode cX11_statesOf 24 = .ok (.aload_n 0, 1) := by decide +kernel
theorem dX11_statesOf_25 : decode cX11_statesOf 25 = .ok (.getfield 44, 3) := by decide +kernel
theorem dX11_statesOf_28 : decode cX11_statesOf 28 = .ok (.iload 4, 2) := by decide +kernel
theorem dX11_statesOf_30 : decode cX11_statesOf 30 = .ok (.iaload, 1) := by decide +kernel
theorem dX11_statesOf_31 : decode cX11_statesOf 31 = .ok (.ifCond .lt 7, 3) := by decide +kernel
theorem dX11_statesOf_34 : decode cX11_statesOf 34 = .ok (.iconst 1, 1) := by decide +kernel
theorem dX11_statesOf_35 : decode cX11_statesOf 35 = .ok (.goto 27, 3) := by decide +kernel
theorem dX11_statesOf_38 : decode cX11_statesOf 38 = .ok (.iconst 0, 1) := by decide +kernel
theorem dX11_statesOf_39 : decode cX11_statesOf 39 = .ok (.goto 23, 3) := by decide +kernel
theorem dX11_statesOf_42 : decode cX11_statesOf 42 = .ok (.iload_n 2, 1) := by decide +kernel
theorem dX11_statesOf_43 : decode cX11_statesOf 43 = .ok (.iconst 1, 1) := by decide +kernel
theorem dX11_statesOf_44 : decode cX11_statesOf 44 = .ok (.if_icmp .ne 12, 3) := by decide +kernel
theorem dX11_statesOf_47 : decode cX11_statesOf 47 = .ok (.aload_n 0, 1) := by decide +kernel
theorem dX11_statesOf_48 : decode cX11_statesOf 48 = .ok (.iload 4, 2) := by decide +kernel
theorem dX11_statesOf_50 : decode cX11_statesOf 50 = .ok (.invokevirtual 244, 3) := by decide +kernel
theorem dX11_statesOf_53 : decode cX11_statesOf 53 = .ok (.goto 9, 3) := by decide +kernel
theorem dX11_statesOf_56 : decode cX11_statesOf 56 = .ok (.aload_n 0, 1) := by decide +kernel
theorem dX11_statesOf_57 : decode cX11_statesOf 57 = .ok (.iload 4, 2) := by decide +kernel
theorem dX11_statesOf_59 : decode cX11_statesOf 59 = .ok (.invokevirtual 247, 3) := by decide +kernel
theorem dX11_statesOf_62 : decode cX11_statesOf 62 = .ok (.istore 5, 2) := by decide +kernel
theorem dX11_statesOf_64 : decode cX11_statesOf 64 = .ok (.iload_n 3, 1) := by decide +kernel
theorem dX11_statesOf_65 : decode cX11_statesOf 65 = .ok (.iload 5, 2) := by decide +kernel
theorem dX11_statesOf_67 : decode cX11_statesOf 67 = .ok (.ifCond .eq 7, 3) := by decide +kernel
theorem dX11_statesOf_70 : decode cX11_statesOf 70 = .ok (.iconst 1, 1) := by decide +kernel
theorem dX11_statesOf_71 : decode cX11_statesOf 71 = .ok (.goto 4, 3) := by decide +kernel
theorem dX11_statesOf_74 : decode cX11_statesOf 74 = .ok (.iconst 0, 1) := by decide +kernel
theorem dX11_statesOf_75 : decode cX11_statesOf 75 = .ok (.iadd, 1) := by decide +kernel
theorem dX11_statesOf_76 : decode cX11_statesOf 76 = .ok (.istore_n 3, 1) := by decide +kernel
theorem dX11_statesOf_77 : decode cX11_statesOf 77 = .ok (.iinc 4 1, 3) := by decide +kernel
theorem dX11_statesOf_80 : decode cX11_statesOf 80 = .ok (.goto (-72), 3) := by decide +kernel
theorem dX11_statesOf_83 : decode cX11_statesOf 83 = .ok (.iload_n 3, 1) := by decide +kernel
theorem dX11_statesOf_84 : decode cX11_statesOf 84 = .ok (.ireturn, 1) := by decide +kernel
end
section
-- printed by wip/whole/gen1.py
theorem dX11_marksOf_0 : decode cX11_marksOf 0 = .ok (.iload_n 2, 1) := by decide +kernel
theorem dX11_marksOf_1 : decode cX11_marksOf 1 = .ok (.ifCond .eq 8, 3) := by decide +kernel
theorem dX11_marksOf_4 : decode cX11_marksOf 4 = .ok (.bipush 63, 2) := by decide +kernel
theorem dX11_marksOf_6 : decode cX11_marksOf 6 = .ok (.goto 4, 3) := by decide +kernel
theorem dX11_marksOf_9 : decode cX11_marksOf 9 = .ok (.iconst 0, 1) := by decide +kernel
theorem dX11_marksOf_10 : decode cX11_marksOf 10 = .ok (.istore_n 3, 1) := by decide +kernel
theorem dX11_marksOf_11 : decode cX11_marksOf 11 = .ok (.iconst 0, 1) := by decide +kernel
theorem dX11_marksOf_12 : decode cX11_marksOf 12 = .ok (.istore 4, 2) := by decide +kernel
theorem dX11_marksOf_14 : decode cX11_marksOf 14 = .ok (.iconst 0, 1) := by decide +kernel
theorem dX11_marksOf_15 : decode cX11_marksOf 15 = .ok (.istore 5, 2) := by decide +kernel
theorem dX11_marksOf_17 : decode cX11_marksOf 17 = .ok (.iload 5, 2) := by decide +kernel
theorem dX11_marksOf_19 : decode cX11_marksOf 19 = .ok (.bipush 64, 2) := by decide +kernel
theorem dX11_marksOf_21 : decode cX11_marksOf 21 = .ok (.if_icmp .ge 43, 3) := by decide +kernel
theorem dX11_marksOf_24 : decode cX11_marksOf 24 = .ok (.aload_n 0, 1) := by decide +kernel
theorem dX11_marksOf_25 : decode cX11_marksOf 25 = .ok (.getfield 44, 3) := by decide +kernel
theorem dX11_marksOf_28 : decode cX11_marksOf 28 = .ok (.bipush 64, 2) := by decide +kernel
theorem dX11_marksOf_30 : decode cX11_marksOf 30 = .ok (.iload_n 1, 1) := by decide +kernel
theorem dX11_marksOf_31 : decode cX11_marksOf 31 = .ok (.imul, 1) := by decide +kernel
theorem dX11_marksOf_32 : decode cX11_marksOf 32 = .ok (.iload 5, 2) := by decide +kernel
theorem dX11_marksOf_34 : decode cX11_marksOf 34 = .ok (.iadd, 1) := by decide +kernel
theorem dX11_marksOf_35 : decode cX11_marksOf 35 = .ok (.iaload, 1) := by decide +kernel
theorem dX11_marksOf_36 : decode cX11_marksOf 36 = .ok (.ifCond .lt 22, 3) := by decide +kernel
theorem dX11_marksOf_39 : decode cX11_marksOf 39 = .ok (.iload_n 2, 1) := by decide +kernel
theorem dX11_marksOf_40 : decode cX11_marksOf 40 = .ok (.ifCond .eq 10, 3) := by decide +kernel
theorem dX11_marksOf_43 : decode cX11_marksOf 43 = .ok (.iload_n 3, 1) := by decide +kernel
theorem dX11_marksOf_44 : decode cX11_marksOf 44 = .ok (.iload 5, 2) := by decide +kernel
theorem dX11_marksOf_46 : decode cX11_marksOf 46 = .ok (.iand, 1) := by decide +kernel
theorem dX11_marksOf_47 : decode cX11_marksOf 47 = .ok (.goto 7, 3) := by decide +kernel
theorem dX11_marksOf_50 : decode cX11_marksOf 50 = .ok (.iload_n 3, 1) := by decide +kernel
theorem dX11_marksOf_51 : decode cX11_marksOf 51 = .ok (.iload 5, 2) := by decide +kernel
theorem dX11_marksOf_53 : decode cX11_marksOf 53 = .ok (.ior, 1) := by decide +kernel
theorem dX11_marksOf_54 : decode cX11_marksOf 54 = .ok (.istore_n 3, 1) := by decide +kernel
theorem dX11_marksOf_55 : decode cX11_marksOf 55 = .ok (.iinc 4 1, 3) := by decide +kernel
theorem dX11_marksOf_58 : decode cX11_marksOf 58 = .ok (.iinc 5 1, 3) := by decide +kernel
theorem dX11_marksOf_61 : decode cX11_marksOf 61 = .ok (.goto (-44), 3) := by decide +kernel
theorem dX11_marksOf_64 : decode cX11_marksOf 64 = .ok (.iload 4, 2) := by decide +kernel
theorem dX11_marksOf_66 : decode cX11_marksOf 66 = .ok (.ifCond .ne 7, 3) := by decide +kernel
theorem dX11_marksOf_69 : decode cX11_marksOf 69 = .ok (.iconst 0, 1) := by decide +kernel
theorem dX11_marksOf_70 : decode cX11_marksOf 70 = .ok (.goto 4, 3) := by decide +kernel
theorem dX11_marksOf_73 : decode cX11_marksOf 73 = .ok (.iload_n 3, 1) := by decide +kernel
theorem dX11_marksOf_74 : decode cX11_marksOf 74 = .ok (.ireturn, 1) := by decide +kernel
theorem dX11_line__0 : decode cX11_line_ 0 = .ok (.aload_n 0, 1) := by decide +kernel
theorem dX11_line__1 : decode cX11_line_ 1 = .ok (.iload_n 1, 1) := by decide +kernel
theorem dX11_line__2 : decode cX11_line_ 2 = .ok (.invokevirtual 250, 3) := by decide +kernel
theorem dX11_line__5 : decode cX11_line_ 5 = .ok (.ifCond .ne 6, 3) := by decide +kernel
theorem dX11_line__8 : decode cX11_line_ 8 = .ok (.ldc 214, 2) := by decide +kernel
theorem dX11_line__10 : decode cX11_line_ 10 = .ok (.ireturn, 1) := by decide +kernel
theorem dX11_line__11 : decode cX11_line_ 11 = .ok (.iload_n 2, 1) := by decide +kernel
theorem dX11_line__12 : decode cX11_line_ 12 = .ok (.i2l, 1) := by decide +kernel
theorem dX11_line__13 : decode cX11_line_ 13 = .ok (.lconst 0, 1) := by decide +kernel
theorem dX11_line__14 : decode cX11_line_ 14 = .ok (.ldc2_w 253, 3) := by decide +kernel
theorem dX11_line__17 : decode cX11_line_ 17 = .ok (.invokestatic 88, 3) := by decide +kernel
theorem dX11_line__20 : decode cX11_line_ 20 = .ok (.ifCond .ne 6, 3) := by decide +kernel
theorem dX11_line__23 : decode cX11_line_ 23 = .ok (.ldc 131, 2) := by decide +kernel
theorem dX11_line__25 : decode cX11_line_ 25 = .ok (.ireturn, 1) := by decide +kernel
theorem dX11_line__26 : decode cX11_line_ 26 = .ok (.aload_n 0, 1) := by decide +kernel
theorem dX11_line__27 : decode cX11_line_ 27 = .ok (.invokevirtual 255, 3) := by decide +kernel
theorem dX11_line__30 : decode cX11_line_ 30 = .ok (.pop, 1) := by decide +kernel
theorem dX11_line__31 : decode cX11_line_ 31 = .ok (.aload_n 0, 1) := by decide +kernel
theorem dX11_line__32 : decode cX11_line_ 32 = .ok (.invokevirtual 258, 3) := by decide +kernel
theorem dX11_line__35 : decode cX11_line_ 35 = .ok (.iload_n 2, 1) := by decide +kernel
theorem dX11_line__36 : decode cX11_line_ 36 = .ok (.tableswitch 71 0 4 #[36, 43, 50, 57, 64], 36) := by decide +kernel
theorem dX11_line__72 : decode cX11_line_ 72 = .ok (.aload_n 0, 1) := by decide +kernel
theorem dX11_line__73 : decode cX11_line_ 73 = .ok (.iload_n 1, 1) := by decide +kernel
theorem dX11_line__74 : decode cX11_line_ 74 = .ok (.iconst 0, 1) := by decide +kernel
theorem dX11_line__75 : decode cX11_line_ 75 = .ok (.invokevirtual 261, 3) := by decide +kernel
theorem dX11_line__78 : decode cX11_line_ 78 = .ok (.ireturn, 1) := by decide +kernel
theorem dX11_line__79 : decode cX11_line_ 79 = .ok (.aload_n 0, 1) := by decide +kernel
theorem dX11_line__80 : decode cX11_line_ 80 = .ok (.iload_n 1, 1) := by decide +kernel
theorem dX11_line__81 : decode cX11_line_ 81 = .ok (.iconst 1, 1) := by decide +kernel
theorem dX11_line__82 : decode cX11_line_ 82 = .ok (.invokevirtual 264, 3) := by decide +kernel
theorem dX11_line__85 : decode cX11_line_ 85 = .ok (.ireturn, 1) := by decide +kernel
theorem dX11_line__86 : decode cX11_line_ 86 = .ok (.aload_n 0, 1) := by decide +kernel
theorem dX11_line__87 : decode cX11_line_ 87 = .ok (.iload_n 1, 1) := by decide +kernel
theorem dX11_line__88 : decode cX11_line_ 88 = .ok (.iconst 0, 1) := by decide +kernel
theorem dX11_line__89 : decode cX11_line_ 89 = .ok (.invokevirtual 264, 3) := by decide +kernel
theorem dX11_line__92 : decode cX11_line_ 92 = .ok (.ireturn, 1) := by decide +kernel
theorem dX11_line__93 : decode cX11_line_ 93 = .ok (.aload_n 0, 1) := by decide +kernel
theorem dX11_line__94 : decode cX11_line_ 94 = .ok (.iload_n 1, 1) := by decide +kernel
theorem dX11_line__95 : decode cX11_line_ 95 = .ok (.iconst 1, 1) := by decide +kernel
theorem dX11_line__96 : decode cX11_line_ 96 = .ok (.invokevirtual 261, 3) := by decide +kernel
theorem dX11_line__99 : decode cX11_line_ 99 = .ok (.ireturn, 1) := by decide +kernel
theorem dX11_line__100 : decode cX11_line_ 100 = .ok (.aload_n 0, 1) := by decide +kernel
theorem dX11_line__101 : decode cX11_line_ 101 = .ok (.iload_n 1, 1) := by decide +kernel
theorem dX11_line__102 : decode cX11_line_ 102 = .ok (.iconst 2, 1) := by decide +kernel
theorem dX11_line__103 : decode cX11_line_ 103 = .ok (.invokevirtual 261, 3) := by decide +kernel
theorem dX11_line__106 : decode cX11_line_ 106 = .ok (.ireturn, 1) := by decide +kernel
theorem dX11_line__107 : decode cX11_line_ 107 = .ok (.aload_n 0, 1) := by decide +kernel
theorem dX11_line__108 : decode cX11_line_ 108 = .ok (.getfield 98, 3) := by decide +kernel
theorem dX11_line__111 : decode cX11_line_ 111 = .ok (.iload_n 1, 1) := by decide +kernel
theorem dX11_line__112 : decode cX11_line_ 112 = .ok (.invokestatic 94, 3) := by decide +kernel
theorem dX11_line__115 : decode cX11_line_ 115 = .ok (.ifCond .eq 7, 3) := by decide +kernel
theorem dX11_line__118 : decode cX11_line_ 118 = .ok (.iconst 1, 1) := by decide +kernel
theorem dX11_line__119 : decode cX11_line_ 119 = .ok (.goto 4, 3) := by decide +kernel
theorem dX11_line__122 : decode cX11_line_ 122 = .ok (.iconst 0, 1) := by decide +kernel
theorem dX11_line__123 : decode cX11_line_ 123 = .ok (.ireturn, 1) := by decide +kernel
theorem dX11_cheapest_0 : decode cX11_cheapest 0 = .ok (.iconst 0, 1) := by decide +kernel
theorem dX11_cheapest_1 : decode cX11_cheapest 1 = .ok (.istore_n 2, 1) := by decide +kernel
theorem dX11_cheapest_2 : decode cX11_cheapest 2 = .ok (.iload_n 2, 1) := by decide +kernel
theorem dX11_cheapest_3 : decode cX11_cheapest 3 = .ok (.sipush 1024, 3) := by decide +kernel
theorem dX11_cheapest_6 : decode cX11_cheapest 6 = .ok (.if_icmp .ge 16, 3) := by decide +kernel
theorem dX11_cheapest_9 : decode cX11_cheapest 9 = .ok (.aload_n 0, 1) := by decide +kernel
theorem dX11_cheapest_10 : decode cX11_cheapest 10 = .ok (.getfield 65, 3) := by decide +kernel
theorem dX11_cheapest_13 : decode cX11_cheapest 13 = .ok (.iload_n 2, 1) := by decide +kernel
theorem dX11_cheapest_14 : decode cX11_cheapest 14 = .ok (.iconst (-1), 1) := by decide +kernel
theorem dX11_cheapest_15 : decode cX11_cheapest 15 = .ok (.iastore, 1) := by decide +kernel
theorem dX11_cheapest_16 : decode cX11_cheapest 16 = .ok (.iinc 2 1, 3) := by decide +kernel
theorem dX11_cheapest_19 : decode cX11_cheapest 19 = .ok (.goto (-17), 3) := by decide +kernel
theorem dX11_cheapest_22 : decode cX11_cheapest 22 = .ok (.aload_n 0, 1) := by decide +kernel
theorem dX11_cheapest_23 : decode cX11_cheapest 23 = .ok (.getfield 65, 3) := by decide +kernel
theorem dX11_cheapest_26 : decode cX11_cheapest 26 = .ok (.aload_n 0, 1) := by decide +kernel
theorem dX11_cheapest_27 : decode cX11_cheapest 27 = .ok (.invokevirtual 118, 3) := by decide +kernel
theorem dX11_cheapest_30 : decode cX11_cheapest 30 = .ok (.iconst 0, 1) := by decide +kernel
theorem dX11_cheapest_31 : decode cX11_cheapest 31 = .ok (.iastore, 1) := by decide +kernel
theorem dX11_cheapest_32 : decode cX11_cheapest 32 = .ok (.iconst 1, 1) := by decide +kernel
theorem dX11_cheapest_33 : decode cX11_cheapest 33 = .ok (.istore_n 2, 1) := by decide +kernel
theorem dX11_cheapest_34 : decode cX11_cheapest 34 = .ok (.iload_n 2, 1) := by decide +kernel
theorem dX11_cheapest_35 : decode cX11_cheapest 35 = .ok (.ifCond .eq 162, 3) := by decide +kernel
theorem dX11_cheapest_38 : decode cX11_cheapest 38 = .ok (.iconst 0, 1) := by decide +kernel
theorem dX11_cheapest_39 : decode cX11_cheapest 39 = .ok (.istore_n 2, 1) := by decide +kernel
theorem dX11_cheapest_40 : decode cX11_cheapest 40 = .ok (.iconst 0, 1) := by decide +kernel
theorem dX11_cheapest_41 : decode cX11_cheapest 41 = .ok (.istore_n 3, 1) := by decide +kernel
theorem dX11_cheapest_42 : decode cX11_cheapest 42 = .ok (.iload_n 3, 1) := by decide +kernel
theorem dX11_cheapest_43 : decode cX11_cheapest 43 = .ok (.sipush 1024, 3) := by decide +kernel
theorem dX11_cheapest_46 : decode cX11_cheapest 46 = .ok (.if_icmp .ge 148, 3) := by decide +kernel
theorem dX11_cheapest_49 : decode cX11_cheapest 49 = .ok (.iconst 0, 1) := by decide +kernel
theorem dX11_cheapest_50 : decode cX11_cheapest 50 = .ok (.istore 4, 2) := by decide +kernel
theorem dX11_cheapest_52 : decode cX11_cheapest 52 = .ok (.iload 4, 2) := by decide +kernel
theorem dX11_cheapest_54 : decode cX11_cheapest 54 = .ok (.aload_n 0, 1) := by decide +kernel
theorem dX11_cheapest_55 : decode cX11_cheapest 55 = .ok (.getfield 85, 3) := by decide +kernel
theorem dX11_cheapest_58 : decode cX11_cheapest 58 = .ok (.if_icmp .ge 130, 3) := by decide +kernel
theorem dX11_cheapest_61 : decode cX11_cheapest 61 = .ok (.aload_n 0, 1) := by decide +kernel
theorem dX11_cheapest_62 : decode cX11_cheapest 62 = .ok (.getfield 65, 3) := by decide +kernel
theorem dX11_cheapest_65 : decode cX11_cheapest 65 = .ok (.iload_n 3, 1) := by decide +kernel
theorem dX11_cheapest_66 : decode cX11_cheapest 66 = .ok (.iaload, 1) := by decide +kernel
theorem dX11_cheapest_67 : decode cX11_cheapest 67 = .ok (.ifCond .lt 121, 3) := by decide +kernel
theorem dX11_cheapest_70 : decode cX11_cheapest 70 = .ok (.aload_n 0, 1) := by decide +kernel
theorem dX11_cheapest_71 : decode cX11_cheapest 71 = .ok (.iload 4, 2) := by decide +kernel
theorem dX11_cheapest_73 : decode cX11_cheapest 73 = .ok (.iload_n 3, 1) := by decide +kernel
theorem dX11_cheapest_74 : decode cX11_cheapest 74 = .ok (.invokevirtual 108, 3) := by decide +kernel
theorem dX11_cheapest_77 : decode cX11_cheapest 77 = .ok (.istore 5, 2) := by decide +kernel
theorem dX11_cheapest_79 : decode cX11_cheapest 79 = .ok (.aload_n 0, 1) := by decide +kernel
theorem dX11_cheapest_80 : decode cX11_cheapest 80 = .ok (.iload 4, 2) := by decide +kernel
theorem dX11_cheapest_82 : decode cX11_cheapest 82 = .ok (.iload_n 3, 1) := by decide +kernel
theorem dX11_cheapest_83 : decode cX11_cheapest 83 = .ok (.iconst (-1), 1) := by decide +kernel
theorem dX11_cheapest_84 : decode cX11_cheapest 84 = .ok (.invokevirtual 105, 3) := by decide +kernel
theorem dX11_cheapest_87 : decode cX11_cheapest 87 = .ok (.ifCond .eq 41, 3) := by decide +kernel
theorem dX11_cheapest_90 : decode cX11_cheapest 90 = .ok (.aload_n 0, 1) := by decide +kernel
theorem dX11_cheapest_91 : decode cX11_cheapest 91 = .ok (.getfield 65, 3) := by decide +kernel
theorem dX11_cheapest_94 : decode cX11_cheapest 94 = .ok (.iload 5, 2) := by decide +kernel
theorem dX11_cheapest_96 : decode cX11_cheapest 96 = .ok (.iaload, 1) := by decide +kernel
theorem dX11_cheapest_97 : decode cX11_cheapest 97 = .ok (.ifCond .lt 27, 3) := by decide +kernel
theorem dX11_cheapest_100 : decode cX11_cheapest 100 = .ok (.aload_n 0, 1) := by decide +kernel
theorem dX11_cheapest_101 : decode cX11_cheapest 101 = .ok (.getfield 65, 3) := by decide +kernel
theorem dX11_cheapest_104 : decode cX11_cheapest 104 = .ok (.iload 5, 2) := by decide +kernel
theorem dX11_cheapest_106 : decode cX11_cheapest 106 = .ok (.iaload, 1) := by decide +kernel
theorem dX11_cheapest_107 : decode cX11_cheapest 107 = .ok (.aload_n 0, 1) := by decide +kernel
theorem dX11_cheapest_108 : decode cX11_cheapest 108 = .ok (.getfield 65, 3) := by decide +kernel
theorem dX11_cheapest_111 : decode cX11_cheapest 111 = .ok (.iload_n 3, 1) := by decide +kernel
theorem dX11_cheapest_112 : decode cX11_cheapest 112 = .ok (.iaload, 1) := by decide +kernel
theorem dX11_cheapest_113 : decode cX11_cheapest 113 = .ok (.aload_n 0, 1) := by decide +kernel
theorem dX11_cheapest_114 : decode cX11_cheapest 114 = .ok (.getfield 16, 3) := by decide +kernel
theorem dX11_cheapest_117 : decode cX11_cheapest 117 = .ok (.iload 4, 2) := by decide +kernel
theorem dX11_cheapest_119 : decode cX11_cheapest 119 = .ok (.iaload, 1) := by decide +kernel
theorem dX11_cheapest_120 : decode cX11_cheapest 120 = .ok (.iadd, 1) := by decide +kernel
theorem dX11_cheapest_121 : decode cX11_cheapest 121 = .ok (.if_icmp .le 7, 3) := by decide +kernel
theorem dX11_cheapest_124 : decode cX11_cheapest 124 = .ok (.iconst 1, 1) := by decide +kernel
theorem dX11_cheapest_125 : decode cX11_cheapest 125 = .ok (.goto 4, 3) := by decide +kernel
theorem dX11_cheapest_128 : decode cX11_cheapest 128 = .ok (.iconst 0, 1) := by decide +kernel
theorem dX11_cheapest_129 : decode cX11_cheapest 129 = .ok (.istore 6, 2) := by decide +kernel
theorem dX11_cheapest_131 : decode cX11_cheapest 131 = .ok (.aload_n 0, 1) := by decide +kernel
theorem dX11_cheapest_132 : decode cX11_cheapest 132 = .ok (.getfield 65, 3) := by decide +kernel
theorem dX11_cheapest_135 : decode cX11_cheapest 135 = .ok (.iload 5, 2) := by decide +kernel
theorem dX11_cheapest_137 : decode cX11_cheapest 137 = .ok (.iload 6, 2) := by decide +kernel
theorem dX11_cheapest_139 : decode cX11_cheapest 139 = .ok (.ifCond .eq 20, 3) := by decide +kernel
theorem dX11_cheapest_142 : decode cX11_cheapest 142 = .ok (.aload_n 0, 1) := by decide +kernel
theorem dX11_cheapest_143 : decode cX11_cheapest 143 = .ok (.getfield 65, 3) := by decide +kernel
theorem dX11_cheapest_146 : decode cX11_cheapest 146 = .ok (.iload_n 3, 1) := by decide +kernel
theorem dX11_cheapest_147 : decode cX11_cheapest 147 = .ok (.iaload, 1) := by decide +kernel
theorem dX11_cheapest_148 : decode cX11_cheapest 148 = .ok (.aload_n 0, 1) := by decide +kernel
theorem dX11_cheapest_149 : decode cX11_cheapest 149 = .ok (.getfield 16, 3) := by decide +kernel
theorem dX11_cheapest_152 : decode cX11_cheapest 152 = .ok (.iload 4, 2) := by decide +kernel
theorem dX11_cheapest_154 : decode cX11_cheapest 154 = .ok (.iaload, 1) := by decide +kernel
theorem dX11_cheapest_155 : decode cX11_cheapest 155 = .ok (.iadd, 1) := by decide +kernel
theorem dX11_cheapest_156 : decode cX11_cheapest 156 = .ok (.goto 10, 3) := by decide +kernel
theorem dX11_cheapest_159 : decode cX11_cheapest 159 = .ok (.aload_n 0, 1) := by decide +kernel
theorem dX11_cheapest_160 : decode cX11_cheapest 160 = .ok (.getfield 65, 3) := by decide +kernel
theorem dX11_cheapest_163 : decode cX11_cheapest 163 = .ok (.iload 5, 2) := by decide +kernel
theorem dX11_cheapest_165 : decode cX11_cheapest 165 = .ok (.iaload, 1) := by decide +kernel
theorem dX11_cheapest_166 : decode cX11_cheapest 166 = .ok (.iastore, 1) := by decide +kernel
theorem dX11_cheapest_167 : decode cX11_cheapest 167 = .ok (.iload_n 2, 1) := by decide +kernel
theorem dX11_cheapest_168 : decode cX11_cheapest 168 = .ok (.ifCond .ne 8, 3) := by decide +kernel
theorem dX11_cheapest_171 : decode cX11_cheapest 171 = .ok (.iload 6, 2) := by decide +kernel
theorem dX11_cheapest_173 : decode cX11_cheapest 173 = .ok (.ifCond .eq 7, 3) := by decide +kernel
theorem dX11_cheapest_176 : decode cX11_cheapest 176 = .ok (.iconst 1, 1) := by decide +kernel
theorem dX11_cheapest_177 : decode cX11_cheapest 177 = .ok (.goto 4, 3) := by decide +kernel
theorem dX11_cheapest_180 : decode cX11_cheapest 180 = .ok (.iconst 0, 1) := by decide +kernel
theorem dX11_cheapest_181 : decode cX11_cheapest 181 = .ok (.istore_n 2, 1) := by decide +kernel
theorem dX11_cheapest_182 : decode cX11_cheapest 182 = .ok (.iinc 4 1, 3) := by decide +kernel
theorem dX11_cheapest_185 : decode cX11_cheapest 185 = .ok (.goto (-133), 3) := by decide +kernel
theorem dX11_cheapest_188 : decode cX11_cheapest 188 = .ok (.iinc 3 1, 3) := by decide +kernel
theorem dX11_cheapest_191 : decode cX11_cheapest 191 = .ok (.goto (-149), 3) := by decide +kernel
theorem dX11_cheapest_194 : decode cX11_cheapest 194 = .ok (.goto (-160), 3) := by decide +kernel
theorem dX11_cheapest_197 : decode cX11_cheapest 197 = .ok (.iconst (-1), 1) := by decide +kernel
theorem dX11_cheapest_198 : decode cX11_cheapest 198 = .ok (.istore_n 3, 1) := by decide +kernel
theorem dX11_cheapest_199 : decode cX11_cheapest 199 = .ok (.bipush 64, 2) := by decide +kernel
theorem dX11_cheapest_201 : decode cX11_cheapest 201 = .ok (.iload_n 1, 1) := by decide +kernel
theorem dX11_cheapest_202 : decode cX11_cheapest 202 = .ok (.imul, 1) := by decide +kernel
theorem dX11_cheapest_203 : decode cX11_cheapest 203 = .ok (.istore 4, 2) := by decide +kernel
theorem dX11_cheapest_205 : decode cX11_cheapest 205 = .ok (.iload 4, 2) := by decide +kernel
theorem dX11_cheapest_207 : decode cX11_cheapest 207 = .ok (.bipush 64, 2) := by decide +kernel
theorem dX11_cheapest_209 : decode cX11_cheapest 209 = .ok (.iload_n 1, 1) := by decide +kernel
theorem dX11_cheapest_210 : decode cX11_cheapest 210 = .ok (.imul, 1) := by decide +kernel
theorem dX11_cheapest_211 : decode cX11_cheapest 211 = .ok (.bipush 64, 2) := by decide +kernel
theorem dX11_cheapest_213 : decode cX11_cheapest 213 = .ok (.iadd, 1) := by decide +kernel
theorem dX11_cheapest_214 : decode cX11_cheapest 214 = .ok (.if_icmp .ge 46, 3) := by decide +kernel
theorem dX11_cheapest_217 : decode cX11_cheapest 217 = .ok (.aload_n 0, 1) := by decide +kernel
theorem dX11_cheapest_218 : decode cX11_cheapest 218 = .ok (.getfield 65, 3) := by decide +kernel
theorem dX11_cheapest_221 : decode cX11_cheapest 221 = .ok (.iload 4, 2) := by decide +kernel
theorem dX11_cheapest_223 : decode cX11_cheapest 223 = .ok (.iaload, 1) := by decide +kernel
theorem dX11_cheapest_224 : decode cX11_cheapest 224 = .ok (.ifCond .lt 28, 3) := by decide +kernel
theorem dX11_cheapest_227 : decode cX11_cheapest 227 = .ok (.iload_n 3, 1) := by decide +kernel
theorem dX11_cheapest_228 : decode cX11_cheapest 228 = .ok (.ifCond .lt 14, 3) := by decide +kernel
theorem dX11_cheapest_231 : decode cX11_cheapest 231 = .ok (.aload_n 0, 1) := by decide +kernel
theorem dX11_cheapest_232 : decode cX11_cheapest 232 = .ok (.getfield 65, 3) := by decide +kernel
theorem dX11_cheapest_235 : decode cX11_cheapest 235 = .ok (.iload 4, 2) := by decide +kernel
theorem dX11_cheapest_237 : decode cX11_cheapest 237 = .ok (.iaload, 1) := by decide +kernel
theorem dX11_cheapest_238 : decode cX11_cheapest 238 = .ok (.iload_n 3, 1) := by decide +kernel
theorem dX11_cheapest_239 : decode cX11_cheapest 239 = .ok (.if_icmp .ge 13, 3) := by decide +kernel
theorem dX11_cheapest_242 : decode cX11_cheapest 242 = .ok (.aload_n 0, 1) := by decide +kernel
theorem dX11_cheapest_243 : decode cX11_cheapest 243 = .ok (.getfield 65, 3) := by decide +kernel
theorem dX11_cheapest_246 : decode cX11_cheapest 246 = .ok (.iload 4, 2) := by decide +kernel
theorem dX11_cheapest_248 : decode cX11_cheapest 248 = .ok (.iaload, 1) := by decide +kernel
theorem dX11_cheapest_249 : decode cX11_cheapest 249 = .ok (.goto 4, 3) := by decide +kernel
theorem dX11_cheapest_252 : decode cX11_cheapest 252 = .ok (.iload_n 3, 1) := by decide +kernel
theorem dX11_cheapest_253 : decode cX11_cheapest 253 = .ok (.istore_n 3, 1) := by decide +kernel
theorem dX11_cheapest_254 : decode cX11_cheapest 254 = .ok (.iinc 4 1, 3) := by decide +kernel
theorem dX11_cheapest_257 : decode cX11_cheapest 257 = .ok (.goto (-52), 3) := by decide +kernel
theorem dX11_cheapest_260 : decode cX11_cheapest 260 = .ok (.iload_n 3, 1) := by decide +kernel
theorem dX11_cheapest_261 : decode cX11_cheapest 261 = .ok (.ireturn, 1) := by decide +kernel
theorem dX11_least_0 : decode cX11_least 0 = .ok (.aload_n 0, 1) := by decide +kernel
theorem dX11_least_1 : decode cX11_least 1 = .ok (.iload_n 1, 1) := by decide +kernel
theorem dX11_least_2 : decode cX11_least 2 = .ok (.invokevirtual 250, 3) := by decide +kernel
theorem dX11_least_5 : decode cX11_least 5 = .ok (.ifCond .ne 6, 3) := by decide +kernel
theorem dX11_least_8 : decode cX11_least 8 = .ok (.ldc 214, 2) := by decide +kernel
theorem dX11_least_10 : decode cX11_least 10 = .ok (.ireturn, 1) := by decide +kernel
theorem dX11_least_11 : decode cX11_least 11 = .ok (.iload_n 2, 1) := by decide +kernel
theorem dX11_least_12 : decode cX11_least 12 = .ok (.i2l, 1) := by decide +kernel
theorem dX11_least_13 : decode cX11_least 13 = .ok (.lconst 0, 1) := by decide +kernel
theorem dX11_least_14 : decode cX11_least 14 = .ok (.lconst 1, 1) := by decide +kernel
theorem dX11_least_15 : decode cX11_least 15 = .ok (.invokestatic 88, 3) := by decide +kernel
theorem dX11_least_18 : decode cX11_least 18 = .ok (.ifCond .ne 6, 3) := by decide +kernel
theorem dX11_least_21 : decode cX11_least 21 = .ok (.ldc 131, 2) := by decide +kernel
theorem dX11_least_23 : decode cX11_least 23 = .ok (.ireturn, 1) := by decide +kernel
theorem dX11_least_24 : decode cX11_least 24 = .ok (.iload_n 2, 1) := by decide +kernel
theorem dX11_least_25 : decode cX11_least 25 = .ok (.iconst 1, 1) := by decide +kernel
theorem dX11_least_26 : decode cX11_least 26 = .ok (.if_icmp .ne 9, 3) := by decide +kernel
theorem dX11_least_29 : decode cX11_least 29 = .ok (.aload_n 0, 1) := by decide +kernel
theorem dX11_least_30 : decode cX11_least 30 = .ok (.iload_n 1, 1) := by decide +kernel
theorem dX11_least_31 : decode cX11_least 31 = .ok (.invokevirtual 268, 3) := by decide +kernel
theorem dX11_least_34 : decode cX11_least 34 = .ok (.ireturn, 1) := by decide +kernel
theorem dX11_least_35 : decode cX11_least 35 = .ok (.aload_n 0, 1) := by decide +kernel
theorem dX11_least_36 : decode cX11_least 36 = .ok (.invokevirtual 255, 3) := by decide +kernel
theorem dX11_least_39 : decode cX11_least 39 = .ok (.pop, 1) := by decide +kernel
theorem dX11_least_40 : decode cX11_least 40 = .ok (.aload_n 0, 1) := by decide +kernel
theorem dX11_least_41 : decode cX11_least 41 = .ok (.iload_n 1, 1) := by decide +kernel
theorem dX11_least_42 : decode cX11_least 42 = .ok (.invokevirtual 271, 3) := by decide +kernel
theorem dX11_least_45 : decode cX11_least 45 = .ok (.ireturn, 1) := by decide +kernel
theorem dX11_laysGood_0 : decode cX11_laysGood 0 = .ok (.iconst 0, 1) := by decide +kernel
theorem dX11_laysGood_1 : decode cX11_laysGood 1 = .ok (.istore_n 3, 1) := by decide +kernel
theorem dX11_laysGood_2 : decode cX11_laysGood 2 = .ok (.iload_n 3, 1) := by decide +kernel
theorem dX11_laysGood_3 : decode cX11_laysGood 3 = .ok (.sipush 1024, 3) := by decide +kernel
theorem dX11_laysGood_6 : decode cX11_laysGood 6 = .ok (.if_icmp .ge 38, 3) := by decide +kernel
theorem dX11_laysGood_9 : decode cX11_laysGood 9 = .ok (.aload_n 0, 1) := by decide +kernel
theorem dX11_laysGood_10 : decode cX11_laysGood 10 = .ok (.getfield 68, 3) := by decide +kernel
theorem dX11_laysGood_13 : decode cX11_laysGood 13 = .ok (.iload_n 3, 1) := by decide +kernel
theorem dX11_laysGood_14 : decode cX11_laysGood 14 = .ok (.aload_n 0, 1) := by decide +kernel
theorem dX11_laysGood_15 : decode cX11_laysGood 15 = .ok (.getfield 44, 3) := by decide +kernel
theorem dX11_laysGood_18 : decode cX11_laysGood 18 = .ok (.iload_n 3, 1) := by decide +kernel
theorem dX11_laysGood_19 : decode cX11_laysGood 19 = .ok (.iaload, 1) := by decide +kernel
theorem dX11_laysGood_20 : decode cX11_laysGood 20 = .ok (.iload_n 2, 1) := by decide +kernel
theorem dX11_laysGood_21 : decode cX11_laysGood 21 = .ok (.if_icmp .ne 15, 3) := by decide +kernel
theorem dX11_laysGood_24 : decode cX11_laysGood 24 = .ok (.iload_n 3, 1) := by decide +kernel
theorem dX11_laysGood_25 : decode cX11_laysGood 25 = .ok (.bipush 64, 2) := by decide +kernel
theorem dX11_laysGood_27 : decode cX11_laysGood 27 = .ok (.idiv, 1) := by decide +kernel
theorem dX11_laysGood_28 : decode cX11_laysGood 28 = .ok (.iload_n 1, 1) := by decide +kernel
theorem dX11_laysGood_29 : decode cX11_laysGood 29 = .ok (.if_icmp .ne 7, 3) := by decide +kernel
theorem dX11_laysGood_32 : decode cX11_laysGood 32 = .ok (.iconst 1, 1) := by decide +kernel
theorem dX11_laysGood_33 : decode cX11_laysGood 33 = .ok (.goto 4, 3) := by decide +kernel
theorem dX11_laysGood_36 : decode cX11_laysGood 36 = .ok (.iconst 0, 1) := by decide +kernel
theorem dX11_laysGood_37 : decode cX11_laysGood 37 = .ok (.bastore, 1) := by decide +kernel
theorem dX11_laysGood_38 : decode cX11_laysGood 38 = .ok (.iinc 3 1, 3) := by decide +kernel
theorem dX11_laysGood_41 : decode cX11_laysGood 41 = .ok (.goto (-39), 3) := by decide +kernel
theorem dX11_laysGood_44 : decode cX11_laysGood 44 = .ok (.iload_n 2, 1) := by decide +kernel
theorem dX11_laysGood_45 : decode cX11_laysGood 45 = .ok (.iconst 1, 1) := by decide +kernel
theorem dX11_laysGood_46 : decode cX11_laysGood 46 = .ok (.isub, 1) := by decide +kernel
theorem dX11_laysGood_47 : decode cX11_laysGood 47 = .ok (.istore_n 3, 1) := by decide +kernel
theorem dX11_laysGood_48 : decode cX11_laysGood 48 = .ok (.iload_n 3, 1) := by decide +kernel
theorem dX11_laysGood_49 : decode cX11_laysGood 49 = .ok (.ifCond .lt 80, 3) := by decide +kernel
theorem dX11_laysGood_52 : decode cX11_laysGood 52 = .ok (.iconst 0, 1) := by decide +kernel
theorem dX11_laysGood_53 : decode cX11_laysGood 53 = .ok (.istore 4, 2) := by decide +kernel
theorem dX11_laysGood_55 : decode cX11_laysGood 55 = .ok (.iload 4, 2) := by decide +kernel
theorem dX11_laysGood_57 : decode cX11_laysGood 57 = .ok (.sipush 1024, 3) := by decide +kernel
theorem dX11_laysGood_60 : decode cX11_laysGood 60 = .ok (.if_icmp .ge 63, 3) := by decide +kernel
theorem dX11_laysGood_63 : decode cX11_laysGood 63 = .ok (.iconst 0, 1) := by decide +kernel
theorem dX11_laysGood_64 : decode cX11_laysGood 64 = .ok (.istore 5, 2) := by decide +kernel
theorem dX11_laysGood_66 : decode cX11_laysGood 66 = .ok (.iload 5, 2) := by decide +kernel
theorem dX11_laysGood_68 : decode cX11_laysGood 68 = .ok (.aload_n 0, 1) := by decide +kernel
theorem dX11_laysGood_69 : decode cX11_laysGood 69 = .ok (.getfield 85, 3) := by decide +kernel
theorem dX11_laysGood_72 : decode cX11_laysGood 72 = .ok (.if_icmp .ge 45, 3) := by decide +kernel
theorem dX11_laysGood_75 : decode cX11_laysGood 75 = .ok (.aload_n 0, 1) := by decide +kernel
theorem dX11_laysGood_76 : decode cX11_laysGood 76 = .ok (.getfield 44, 3) := by decide +kernel
theorem dX11_laysGood_79 : decode cX11_laysGood 79 = .ok (.iload 4, 2) := by decide +kernel
theorem dX11_laysGood_81 : decode cX11_laysGood 81 = .ok (.iaload, 1) := by decide +kernel
theorem dX11_laysGood_82 : decode cX11_laysGood 82 = .ok (.iload_n 3, 1) := by decide +kernel
theorem dX11_laysGood_83 : decode cX11_laysGood 83 = .ok (.if_icmp .ne 34, 3) := by decide +kernel
theorem dX11_laysGood_86 : decode cX11_laysGood 86 = .ok (.aload_n 0, 1) := by decide +kernel
theorem dX11_laysGood_87 : decode cX11_laysGood 87 = .ok (.getfield 68, 3) := by decide +kernel
theorem dX11_laysGood_90 : decode cX11_laysGood 90 = .ok (.iload 4, 2) := by decide +kernel
theorem dX11_laysGood_92 : decode cX11_laysGood 92 = .ok (.baload, 1) := by decide +kernel
theorem dX11_laysGood_93 : decode cX11_laysGood 93 = .ok (.ifCond .ne 24, 3) := by decide +kernel
theorem dX11_laysGood_96 : decode cX11_laysGood 96 = .ok (.aload_n 0, 1) := by decide +kernel
theorem dX11_laysGood_97 : decode cX11_laysGood 97 = .ok (.getfield 68, 3) := by decide +kernel
theorem dX11_laysGood_100 : decode cX11_laysGood 100 = .ok (.iload 4, 2) := by decide +kernel
theorem dX11_laysGood_102 : decode cX11_laysGood 102 = .ok (.aload_n 0, 1) := by decide +kernel
theorem dX11_laysGood_103 : decode cX11_laysGood 103 = .ok (.iload 5, 2) := by decide +kernel
theorem dX11_laysGood_105 : decode cX11_laysGood 105 = .ok (.iload 4, 2) := by decide +kernel
theorem dX11_laysGood_107 : decode cX11_laysGood 107 = .ok (.invokevirtual 274, 3) := by decide +kernel
theorem dX11_laysGood_110 : decode cX11_laysGood 110 = .ok (.bastore, 1) := by decide +kernel
theorem dX11_laysGood_111 : decode cX11_laysGood 111 = .ok (.iinc 5 1, 3) := by decide +kernel
theorem dX11_laysGood_114 : decode cX11_laysGood 114 = .ok (.goto (-48), 3) := by decide +kernel
theorem dX11_laysGood_117 : decode cX11_laysGood 117 = .ok (.iinc 4 1, 3) := by decide +kernel
theorem dX11_laysGood_120 : decode cX11_laysGood 120 = .ok (.goto (-65), 3) := by decide +kernel
theorem dX11_laysGood_123 : decode cX11_laysGood 123 = .ok (.iinc 3 (-1), 3) := by decide +kernel
theorem dX11_laysGood_126 : decode cX11_laysGood 126 = .ok (.goto (-78), 3) := by decide +kernel
theorem dX11_laysGood_129 : decode cX11_laysGood 129 = .ok (.return_, 1) := by decide +kernel
theorem dX11_goesOn_0 : decode cX11_goesOn 0 = .ok (.aload_n 0, 1) := by decide +kernel
theorem dX11_goesOn_1 : decode cX11_goesOn 1 = .ok (.iload_n 1, 1) := by decide +kernel
theorem dX11_goesOn_2 : decode cX11_goesOn 2 = .ok (.iload_n 2, 1) := by decide +kernel
theorem dX11_goesOn_3 : decode cX11_goesOn 3 = .ok (.invokevirtual 108, 3) := by decide +kernel
theorem dX11_goesOn_6 : decode cX11_goesOn 6 = .ok (.istore_n 3, 1) := by decide +kernel
theorem dX11_goesOn_7 : decode cX11_goesOn 7 = .ok (.aload_n 0, 1) := by decide +kernel
theorem dX11_goesOn_8 : decode cX11_goesOn 8 = .ok (.iload_n 1, 1) := by decide +kernel
theorem dX11_goesOn_9 : decode cX11_goesOn 9 = .ok (.iload_n 2, 1) := by decide +kernel
theorem dX11_goesOn_10 : decode cX11_goesOn 10 = .ok (.iconst (-1), 1) := by decide +kernel
theorem dX11_goesOn_11 : decode cX11_goesOn 11 = .ok (.invokevirtual 105, 3) := by decide +kernel
theorem dX11_goesOn_14 : decode cX11_goesOn 14 = .ok (.ifCond .eq 33, 3) := by decide +kernel
theorem dX11_goesOn_17 : decode cX11_goesOn 17 = .ok (.aload_n 0, 1) := by decide +kernel
theorem dX11_goesOn_18 : decode cX11_goesOn 18 = .ok (.getfield 68, 3) := by decide +kernel
theorem dX11_goesOn_21 : decode cX11_goesOn 21 = .ok (.iload_n 3, 1) := by decide +kernel
theorem dX11_goesOn_22 : decode cX11_goesOn 22 = .ok (.baload, 1) := by decide +kernel
theorem dX11_goesOn_23 : decode cX11_goesOn 23 = .ok (.ifCond .eq 24, 3) := by decide +kernel
theorem dX11_goesOn_26 : decode cX11_goesOn 26 = .ok (.aload_n 0, 1) := by decide +kernel
theorem dX11_goesOn_27 : decode cX11_goesOn 27 = .ok (.getfield 44, 3) := by decide +kernel
theorem dX11_goesOn_30 : decode cX11_goesOn 30 = .ok (.iload_n 3, 1) := by decide +kernel
theorem dX11_goesOn_31 : decode cX11_goesOn 31 = .ok (.iaload, 1) := by decide +kernel
theorem dX11_goesOn_32 : decode cX11_goesOn 32 = .ok (.aload_n 0, 1) := by decide +kernel
theorem dX11_goesOn_33 : decode cX11_goesOn 33 = .ok (.getfield 44, 3) := by decide +kernel
theorem dX11_goesOn_36 : decode cX11_goesOn 36 = .ok (.iload_n 2, 1) := by decide +kernel
theorem dX11_goesOn_37 : decode cX11_goesOn 37 = .ok (.iaload, 1) := by decide +kernel
theorem dX11_goesOn_38 : decode cX11_goesOn 38 = .ok (.iconst 1, 1) := by decide +kernel
theorem dX11_goesOn_39 : decode cX11_goesOn 39 = .ok (.iadd, 1) := by decide +kernel
theorem dX11_goesOn_40 : decode cX11_goesOn 40 = .ok (.if_icmp .ne 7, 3) := by decide +kernel
theorem dX11_goesOn_43 : decode cX11_goesOn 43 = .ok (.iconst 1, 1) := by decide +kernel
theorem dX11_goesOn_44 : decode cX11_goesOn 44 = .ok (.goto 4, 3) := by decide +kernel
theorem dX11_goesOn_47 : decode cX11_goesOn 47 = .ok (.iconst 0, 1) := by decide +kernel
theorem dX11_goesOn_48 : decode cX11_goesOn 48 = .ok (.ireturn, 1) := by decide +kernel
theorem dX11_row_0 : decode cX11_row 0 = .ok (.aload_n 0, 1) := by decide +kernel
theorem dX11_row_1 : decode cX11_row 1 = .ok (.iload_n 1, 1) := by decide +kernel
theorem dX11_row_2 : decode cX11_row 2 = .ok (.invokevirtual 250, 3) := by decide +kernel
theorem dX11_row_5 : decode cX11_row 5 = .ok (.ifCond .ne 6, 3) := by decide +kernel
theorem dX11_row_8 : decode cX11_row 8 = .ok (.ldc 214, 2) := by decide +kernel
theorem dX11_row_10 : decode cX11_row 10 = .ok (.ireturn, 1) := by decide +kernel
theorem dX11_row_11 : decode cX11_row 11 = .ok (.iload_n 2, 1) := by decide +kernel
theorem dX11_row_12 : decode cX11_row 12 = .ok (.ifCond .ge 6, 3) := by decide +kernel
theorem dX11_row_15 : decode cX11_row 15 = .ok (.ldc 131, 2) := by decide +kernel
theorem dX11_row_17 : decode cX11_row 17 = .ok (.ireturn, 1) := by decide +kernel
theorem dX11_row_18 : decode cX11_row 18 = .ok (.aload_n 0, 1) := by decide +kernel
theorem dX11_row_19 : decode cX11_row 19 = .ok (.invokevirtual 255, 3) := by decide +kernel
theorem dX11_row_22 : decode cX11_row 22 = .ok (.pop, 1) := by decide +kernel
theorem dX11_row_23 : decode cX11_row 23 = .ok (.aload_n 0, 1) := by decide +kernel
theorem dX11_row_24 : decode cX11_row 24 = .ok (.iload_n 1, 1) := by decide +kernel
theorem dX11_row_25 : decode cX11_row 25 = .ok (.invokevirtual 271, 3) := by decide +kernel
theorem dX11_row_28 : decode cX11_row 28 = .ok (.istore_n 3, 1) := by decide +kernel
theorem dX11_row_29 : decode cX11_row 29 = .ok (.iload_n 2, 1) := by decide +kernel
theorem dX11_row_30 : decode cX11_row 30 = .ok (.iload_n 3, 1) := by decide +kernel
theorem dX11_row_31 : decode cX11_row 31 = .ok (.if_icmp .lt 5, 3) := by decide +kernel
theorem dX11_row_34 : decode cX11_row 34 = .ok (.iconst (-1), 1) := by decide +kernel
theorem dX11_row_35 : decode cX11_row 35 = .ok (.ireturn, 1) := by decide +kernel
theorem dX11_row_36 : decode cX11_row 36 = .ok (.aload_n 0, 1) := by decide +kernel
theorem dX11_row_37 : decode cX11_row 37 = .ok (.iload_n 1, 1) := by decide +kernel
theorem dX11_row_38 : decode cX11_row 38 = .ok (.iload_n 3, 1) := by decide +kernel
theorem dX11_row_39 : decode cX11_row 39 = .ok (.invokevirtual 277, 3) := by decide +kernel
theorem dX11_row_42 : decode cX11_row 42 = .ok (.aload_n 0, 1) := by decide +kernel
theorem dX11_row_43 : decode cX11_row 43 = .ok (.invokevirtual 118, 3) := by decide +kernel
theorem dX11_row_46 : decode cX11_row 46 = .ok (.istore 4, 2) := by decide +kernel
theorem dX11_row_48 : decode cX11_row 48 = .ok (.iconst (-1), 1) := by decide +kernel
theorem dX11_row_49 : decode cX11_row 49 = .ok (.istore 5, 2) := by decide +kernel
theorem dX11_row_51 : decode cX11_row 51 = .ok (.iconst 0, 1) := by decide +kernel
theorem dX11_row_52 : decode cX11_row 52 = .ok (.istore 6, 2) := by decide +kernel
theorem dX11_row_54 : decode cX11_row 54 = .ok (.iload 6, 2) := by decide +kernel
theorem dX11_row_56 : decode cX11_row 56 = .ok (.iload_n 2, 1) := by decide +kernel
theorem dX11_row_57 : decode cX11_row 57 = .ok (.if_icmp .gt 39, 3) := by decide +kernel
theorem dX11_row_60 : decode cX11_row 60 = .ok (.iconst 0, 1) := by decide +kernel
theorem dX11_row_61 : decode cX11_row 61 = .ok (.istore 5, 2) := by decide +kernel
theorem dX11_row_63 : decode cX11_row 63 = .ok (.aload_n 0, 1) := by decide +kernel
theorem dX11_row_64 : decode cX11_row 64 = .ok (.iload 5, 2) := by decide +kernel
theorem dX11_row_66 : decode cX11_row 66 = .ok (.iload 4, 2) := by decide +kernel
theorem dX11_row_68 : decode cX11_row 68 = .ok (.invokevirtual 274, 3) := by decide +kernel
theorem dX11_row_71 : decode cX11_row 71 = .ok (.ifCond .ne 9, 3) := by decide +kernel
theorem dX11_row_74 : decode cX11_row 74 = .ok (.iinc 5 1, 3) := by decide +kernel
theorem dX11_row_77 : decode cX11_row 77 = .ok (.goto (-14), 3) := by decide +kernel
theorem dX11_row_80 : decode cX11_row 80 = .ok (.aload_n 0, 1) := by decide +kernel
theorem dX11_row_81 : decode cX11_row 81 = .ok (.iload 5, 2) := by decide +kernel
theorem dX11_row_83 : decode cX11_row 83 = .ok (.iload 4, 2) := by decide +kernel
theorem dX11_row_85 : decode cX11_row 85 = .ok (.invokevirtual 108, 3) := by decide +kernel
theorem dX11_row_88 : decode cX11_row 88 = .ok (.istore 4, 2) := by decide +kernel
theorem dX11_row_90 : decode cX11_row 90 = .ok (.iinc 6 1, 3) := by decide +kernel
theorem dX11_row_93 : decode cX11_row 93 = .ok (.goto (-39), 3) := by decide +kernel
theorem dX11_row_96 : decode cX11_row 96 = .ok (.iload 5, 2) := by decide +kernel
theorem dX11_row_98 : decode cX11_row 98 = .ok (.ireturn, 1) := by decide +kernel
theorem dX11_needs_0 : decode cX11_needs 0 = .ok (.aload_n 0, 1) := by decide +kernel
theorem dX11_needs_1 : decode cX11_needs 1 = .ok (.iload_n 1, 1) := by decide +kernel
theorem dX11_needs_2 : decode cX11_needs 2 = .ok (.invokevirtual 250, 3) := by decide +kernel
theorem dX11_needs_5 : decode cX11_needs 5 = .ok (.ifCond .ne 6, 3) := by decide +kernel
theorem dX11_needs_8 : decode cX11_needs 8 = .ok (.ldc 214, 2) := by decide +kernel
theorem dX11_needs_10 : decode cX11_needs 10 = .ok (.ireturn, 1) := by decide +kernel
theorem dX11_needs_11 : decode cX11_needs 11 = .ok (.aload_n 0, 1) := by decide +kernel
theorem dX11_needs_12 : decode cX11_needs 12 = .ok (.invokevirtual 255, 3) := by decide +kernel
theorem dX11_needs_15 : decode cX11_needs 15 = .ok (.pop, 1) := by decide +kernel
theorem dX11_needs_16 : decode cX11_needs 16 = .ok (.aload_n 0, 1) := by decide +kernel
theorem dX11_needs_17 : decode cX11_needs 17 = .ok (.iload_n 1, 1) := by decide +kernel
theorem dX11_needs_18 : decode cX11_needs 18 = .ok (.invokevirtual 271, 3) := by decide +kernel
theorem dX11_needs_21 : decode cX11_needs 21 = .ok (.ifCond .ge 5, 3) := by decide +kernel
theorem dX11_needs_24 : decode cX11_needs 24 = .ok (.iconst (-1), 1) := by decide +kernel
theorem dX11_needs_25 : decode cX11_needs 25 = .ok (.ireturn, 1) := by decide +kernel
theorem dX11_needs_26 : decode cX11_needs 26 = .ok (.iconst 0, 1) := by decide +kernel
theorem dX11_needs_27 : decode cX11_needs 27 = .ok (.istore_n 2, 1) := by decide +kernel
theorem dX11_needs_28 : decode cX11_needs 28 = .ok (.iconst 0, 1) := by decide +kernel
theorem dX11_needs_29 : decode cX11_needs 29 = .ok (.istore_n 3, 1) := by decide +kernel
theorem dX11_needs_30 : decode cX11_needs 30 = .ok (.iload_n 3, 1) := by decide +kernel
theorem dX11_needs_31 : decode cX11_needs 31 = .ok (.bipush 6, 2) := by decide +kernel
theorem dX11_needs_33 : decode cX11_needs 33 = .ok (.if_icmp .ge 50, 3) := by decide +kernel
theorem dX11_needs_36 : decode cX11_needs 36 = .ok (.aload_n 0, 1) := by decide +kernel
theorem dX11_needs_37 : decode cX11_needs 37 = .ok (.aload_n 0, 1) := by decide +kernel
theorem dX11_needs_38 : decode cX11_needs 38 = .ok (.invokevirtual 118, 3) := by decide +kernel
theorem dX11_needs_41 : decode cX11_needs 41 = .ok (.iconst (-1), 1) := by decide +kernel
theorem dX11_needs_42 : decode cX11_needs 42 = .ok (.iload_n 3, 1) := by decide +kernel
theorem dX11_needs_43 : decode cX11_needs 43 = .ok (.iconst (-1), 1) := by decide +kernel
theorem dX11_needs_44 : decode cX11_needs 44 = .ok (.invokevirtual 122, 3) := by decide +kernel
theorem dX11_needs_47 : decode cX11_needs 47 = .ok (.pop, 1) := by decide +kernel
theorem dX11_needs_48 : decode cX11_needs 48 = .ok (.iload_n 2, 1) := by decide +kernel
theorem dX11_needs_49 : decode cX11_needs 49 = .ok (.aload_n 0, 1) := by decide +kernel
theorem dX11_needs_50 : decode cX11_needs 50 = .ok (.getfield 115, 3) := by decide +kernel
theorem dX11_needs_53 : decode cX11_needs 53 = .ok (.iload_n 3, 1) := by decide +kernel
theorem dX11_needs_54 : decode cX11_needs 54 = .ok (.invokestatic 94, 3) := by decide +kernel
theorem dX11_needs_57 : decode cX11_needs 57 = .ok (.ifCond .ne 17, 3) := by decide +kernel
theorem dX11_needs_60 : decode cX11_needs 60 = .ok (.aload_n 0, 1) := by decide +kernel
theorem dX11_needs_61 : decode cX11_needs 61 = .ok (.iload_n 1, 1) := by decide +kernel
theorem dX11_needs_62 : decode cX11_needs 62 = .ok (.invokevirtual 271, 3) := by decide +kernel
theorem dX11_needs_65 : decode cX11_needs 65 = .ok (.ifCond .ge 9, 3) := by decide +kernel
theorem dX11_needs_68 : decode cX11_needs 68 = .ok (.iconst 1, 1) := by decide +kernel
theorem dX11_needs_69 : decode cX11_needs 69 = .ok (.iload_n 3, 1) := by decide +kernel
theorem dX11_needs_70 : decode cX11_needs 70 = .ok (.ishl, 1) := by decide +kernel
theorem dX11_needs_71 : decode cX11_needs 71 = .ok (.goto 4, 3) := by decide +kernel
theorem dX11_needs_74 : decode cX11_needs 74 = .ok (.iconst 0, 1) := by decide +kernel
theorem dX11_needs_75 : decode cX11_needs 75 = .ok (.ior, 1) := by decide +kernel
theorem dX11_needs_76 : decode cX11_needs 76 = .ok (.istore_n 2, 1) := by decide +kernel
theorem dX11_needs_77 : decode cX11_needs 77 = .ok (.iinc 3 1, 3) := by decide +kernel
theorem dX11_needs_80 : decode cX11_needs 80 = .ok (.goto (-50), 3) := by decide +kernel
theorem dX11_needs_83 : decode cX11_needs 83 = .ok (.iload_n 2, 1) := by decide +kernel
theorem dX11_needs_84 : decode cX11_needs 84 = .ok (.ireturn, 1) := by decide +kernel
theorem dX11_must_0 : decode cX11_must 0 = .ok (.aload_n 0, 1) := by decide +kernel
theorem dX11_must_1 : decode cX11_must 1 = .ok (.iload_n 1, 1) := by decide +kernel
theorem dX11_must_2 : decode cX11_must 2 = .ok (.invokevirtual 250, 3) := by decide +kernel
theorem dX11_must_5 : decode cX11_must 5 = .ok (.ifCond .ne 6, 3) := by decide +kernel
theorem dX11_must_8 : decode cX11_must 8 = .ok (.ldc 214, 2) := by decide +kernel
theorem dX11_must_10 : decode cX11_must 10 = .ok (.ireturn, 1) := by decide +kernel
theorem dX11_must_11 : decode cX11_must 11 = .ok (.iload_n 2, 1) := by decide +kernel
theorem dX11_must_12 : decode cX11_must 12 = .ok (.ifCond .ge 6, 3) := by decide +kernel
theorem dX11_must_15 : decode cX11_must 15 = .ok (.ldc 131, 2) := by decide +kernel
theorem dX11_must_17 : decode cX11_must 17 = .ok (.ireturn, 1) := by decide +kernel
theorem dX11_must_18 : decode cX11_must 18 = .ok (.aload_n 0, 1) := by decide +kernel
theorem dX11_must_19 : decode cX11_must 19 = .ok (.invokevirtual 255, 3) := by decide +kernel
theorem dX11_must_22 : decode cX11_must 22 = .ok (.pop, 1) := by decide +kernel
theorem dX11_must_23 : decode cX11_must 23 = .ok (.aload_n 0, 1) := by decide +kernel
theorem dX11_must_24 : decode cX11_must 24 = .ok (.iload_n 1, 1) := by decide +kernel
theorem dX11_must_25 : decode cX11_must 25 = .ok (.invokevirtual 271, 3) := by decide +kernel
theorem dX11_must_28 : decode cX11_must 28 = .ok (.ifCond .ge 5, 3) := by decide +kernel
theorem dX11_must_31 : decode cX11_must 31 = .ok (.iconst (-1), 1) := by decide +kernel
theorem dX11_must_32 : decode cX11_must 32 = .ok (.ireturn, 1) := by decide +kernel
theorem dX11_must_33 : decode cX11_must 33 = .ok (.iload_n 2, 1) := by decide +kernel
theorem dX11_must_34 : decode cX11_must 34 = .ok (.istore_n 3, 1) := by decide +kernel
theorem dX11_must_35 : decode cX11_must 35 = .ok (.iconst 0, 1) := by decide +kernel
theorem dX11_must_36 : decode cX11_must 36 = .ok (.istore 4, 2) := by decide +kernel
theorem dX11_must_38 : decode cX11_must 38 = .ok (.iload 4, 2) := by decide +kernel
theorem dX11_must_40 : decode cX11_must 40 = .ok (.aload_n 0, 1) := by decide +kernel
theorem dX11_must_41 : decode cX11_must 41 = .ok (.getfield 85, 3) := by decide +kernel
theorem dX11_must_44 : decode cX11_must 44 = .ok (.if_icmp .ge 40, 3) := by decide +kernel
theorem dX11_must_47 : decode cX11_must 47 = .ok (.aload_n 0, 1) := by decide +kernel
theorem dX11_must_48 : decode cX11_must 48 = .ok (.aload_n 0, 1) := by decide +kernel
theorem dX11_must_49 : decode cX11_must 49 = .ok (.invokevirtual 118, 3) := by decide +kernel
theorem dX11_must_52 : decode cX11_must 52 = .ok (.iload 4, 2) := by decide +kernel
theorem dX11_must_54 : decode cX11_must 54 = .ok (.iconst (-1), 1) := by decide +kernel
theorem dX11_must_55 : decode cX11_must 55 = .ok (.iconst (-1), 1) := by decide +kernel
theorem dX11_must_56 : decode cX11_must 56 = .ok (.invokevirtual 122, 3) := by decide +kernel
theorem dX11_must_59 : decode cX11_must 59 = .ok (.pop, 1) := by decide +kernel
theorem dX11_must_60 : decode cX11_must 60 = .ok (.aload_n 0, 1) := by decide +kernel
theorem dX11_must_61 : decode cX11_must 61 = .ok (.iload_n 1, 1) := by decide +kernel
theorem dX11_must_62 : decode cX11_must 62 = .ok (.invokevirtual 271, 3) := by decide +kernel
theorem dX11_must_65 : decode cX11_must 65 = .ok (.ifCond .ge 13, 3) := by decide +kernel
theorem dX11_must_68 : decode cX11_must 68 = .ok (.iload_n 3, 1) := by decide +kernel
theorem dX11_must_69 : decode cX11_must 69 = .ok (.ifCond .ne 6, 3) := by decide +kernel
theorem dX11_must_72 : decode cX11_must 72 = .ok (.iload 4, 2) := by decide +kernel
theorem dX11_must_74 : decode cX11_must 74 = .ok (.ireturn, 1) := by decide +kernel
theorem dX11_must_75 : decode cX11_must 75 = .ok (.iinc 3 (-1), 3) := by decide +kernel
theorem dX11_must_78 : decode cX11_must 78 = .ok (.iinc 4 1, 3) := by decide +kernel
theorem dX11_must_81 : decode cX11_must 81 = .ok (.goto (-43), 3) := by decide +kernel
theorem dX11_must_84 : decode cX11_must 84 = .ok (.iconst (-1), 1) := by decide +kernel
theorem dX11_must_85 : decode cX11_must 85 = .ok (.ireturn, 1) := by decide +kernel
theorem dX11_laysReached_0 : decode cX11_laysReached 0 = .ok (.aload_n 0, 1) := by decide +kernel
theorem dX11_laysReached_1 : decode cX11_laysReached 1 = .ok (.invokevirtual 255, 3) := by decide +kernel
theorem dX11_laysReached_4 : decode cX11_laysReached 4 = .ok (.pop, 1) := by decide +kernel
theorem dX11_laysReached_5 : decode cX11_laysReached 5 = .ok (.iconst 0, 1) := by decide +kernel
theorem dX11_laysReached_6 : decode cX11_laysReached 6 = .ok (.istore_n 1, 1) := by decide +kernel
theorem dX11_laysReached_7 : decode cX11_laysReached 7 = .ok (.iload_n 1, 1) := by decide +kernel
theorem dX11_laysReached_8 : decode cX11_laysReached 8 = .ok (.sipush 1024, 3) := by decide +kernel
theorem dX11_laysReached_11 : decode cX11_laysReached 11 = .ok (.if_icmp .ge 29, 3) := by decide +kernel
theorem dX11_laysReached_14 : decode cX11_laysReached 14 = .ok (.aload_n 0, 1) := by decide +kernel
theorem dX11_laysReached_15 : decode cX11_laysReached 15 = .ok (.getfield 71, 3) := by decide +kernel
theorem dX11_laysReached_18 : decode cX11_laysReached 18 = .ok (.iload_n 1, 1) := by decide +kernel
theorem dX11_laysReached_19 : decode cX11_laysReached 19 = .ok (.aload_n 0, 1) := by decide +kernel
theorem dX11_laysReached_20 : decode cX11_laysReached 20 = .ok (.getfield 44, 3) := by decide +kernel
theorem dX11_laysReached_23 : decode cX11_laysReached 23 = .ok (.iload_n 1, 1) := by decide +kernel
theorem dX11_laysReached_24 : decode cX11_laysReached 24 = .ok (.iaload, 1) := by decide +kernel
theorem dX11_laysReached_25 : decode cX11_laysReached 25 = .ok (.ifCond .lt 7, 3) := by decide +kernel
theorem dX11_laysReached_28 : decode cX11_laysReached 28 = .ok (.iconst 1, 1) := by decide +kernel
theorem dX11_laysReached_29 : decode cX11_laysReached 29 = .ok (.goto 4, 3) := by decide +kernel
theorem dX11_laysReached_32 : decode cX11_laysReached 32 = .ok (.iconst 0, 1) := by decide +kernel
theorem dX11_laysReached_33 : decode cX11_laysReached 33 = .ok (.bastore, 1) := by decide +kernel
theorem dX11_laysReached_34 : decode cX11_laysReached 34 = .ok (.iinc 1 1, 3) := by decide +kernel
theorem dX11_laysReached_37 : decode cX11_laysReached 37 = .ok (.goto (-30), 3) := by decide +kernel
theorem dX11_laysReached_40 : decode cX11_laysReached 40 = .ok (.return_, 1) := by decide +kernel
theorem dX11_loopOf_0 : decode cX11_loopOf 0 = .ok (.aload_n 0, 1) := by decide +kernel
theorem dX11_loopOf_1 : decode cX11_loopOf 1 = .ok (.iload_n 1, 1) := by decide +kernel
theorem dX11_loopOf_2 : decode cX11_loopOf 2 = .ok (.iconst (-1), 1) := by decide +kernel
theorem dX11_loopOf_3 : decode cX11_loopOf 3 = .ok (.iconst (-1), 1) := by decide +kernel
theorem dX11_loopOf_4 : decode cX11_loopOf 4 = .ok (.iconst (-1), 1) := by decide +kernel
theorem dX11_loopOf_5 : decode cX11_loopOf 5 = .ok (.invokevirtual 122, 3) := by decide +kernel
theorem dX11_loopOf_8 : decode cX11_loopOf 8 = .ok (.pop, 1) := by decide +kernel
theorem dX11_loopOf_9 : decode cX11_loopOf 9 = .ok (.iconst (-1), 1) := by decide +kernel
theorem dX11_loopOf_10 : decode cX11_loopOf 10 = .ok (.istore_n 2, 1) := by decide +kernel
theorem dX11_loopOf_11 : decode cX11_loopOf 11 = .ok (.iconst 0, 1) := by decide +kernel
theorem dX11_loopOf_12 : decode cX11_loopOf 12 = .ok (.istore_n 3, 1) := by decide +kernel
theorem dX11_loopOf_13 : decode cX11_loopOf 13 = .ok (.iload_n 3, 1) := by decide +kernel
theorem dX11_loopOf_14 : decode cX11_loopOf 14 = .ok (.sipush 1024, 3) := by decide +kernel
theorem dX11_loopOf_17 : decode cX11_loopOf 17 = .ok (.if_icmp .ge 99, 3) := by decide +kernel
theorem dX11_loopOf_20 : decode cX11_loopOf 20 = .ok (.iconst 0, 1) := by decide +kernel
theorem dX11_loopOf_21 : decode cX11_loopOf 21 = .ok (.istore 4, 2) := by decide +kernel
theorem dX11_loopOf_23 : decode cX11_loopOf 23 = .ok (.iload 4, 2) := by decide +kernel
theorem dX11_loopOf_25 : decode cX11_loopOf 25 = .ok (.aload_n 0, 1) := by decide +kernel
theorem dX11_loopOf_26 : decode cX11_loopOf 26 = .ok (.getfield 85, 3) := by decide +kernel
theorem dX11_loopOf_29 : decode cX11_loopOf 29 = .ok (.if_icmp .ge 81, 3) := by decide +kernel
theorem dX11_loopOf_32 : decode cX11_loopOf 32 = .ok (.aload_n 0, 1) := by decide +kernel
theorem dX11_loopOf_33 : decode cX11_loopOf 33 = .ok (.getfield 44, 3) := by decide +kernel
theorem dX11_loopOf_36 : decode cX11_loopOf 36 = .ok (.iload_n 3, 1) := by decide +kernel
theorem dX11_loopOf_37 : decode cX11_loopOf 37 = .ok (.iaload, 1) := by decide +kernel
theorem dX11_loopOf_38 : decode cX11_loopOf 38 = .ok (.ifCond .lt 72, 3) := by decide +kernel
theorem dX11_loopOf_41 : decode cX11_loopOf 41 = .ok (.aload_n 0, 1) := by decide +kernel
theorem dX11_loopOf_42 : decode cX11_loopOf 42 = .ok (.iload 4, 2) := by decide +kernel
theorem dX11_loopOf_44 : decode cX11_loopOf 44 = .ok (.iload_n 3, 1) := by decide +kernel
theorem dX11_loopOf_45 : decode cX11_loopOf 45 = .ok (.iconst (-1), 1) := by decide +kernel
theorem dX11_loopOf_46 : decode cX11_loopOf 46 = .ok (.invokevirtual 105, 3) := by decide +kernel
theorem dX11_loopOf_49 : decode cX11_loopOf 49 = .ok (.ifCond .eq 34, 3) := by decide +kernel
theorem dX11_loopOf_52 : decode cX11_loopOf 52 = .ok (.aload_n 0, 1) := by decide +kernel
theorem dX11_loopOf_53 : decode cX11_loopOf 53 = .ok (.iload 4, 2) := by decide +kernel
theorem dX11_loopOf_55 : decode cX11_loopOf 55 = .ok (.iload_n 3, 1) := by decide +kernel
theorem dX11_loopOf_56 : decode cX11_loopOf 56 = .ok (.invokevirtual 108, 3) := by decide +kernel
theorem dX11_loopOf_59 : decode cX11_loopOf 59 = .ok (.iload_n 1, 1) := by decide +kernel
theorem dX11_loopOf_60 : decode cX11_loopOf 60 = .ok (.if_icmp .ne 23, 3) := by decide +kernel
theorem dX11_loopOf_63 : decode cX11_loopOf 63 = .ok (.iload_n 2, 1) := by decide +kernel
theorem dX11_loopOf_64 : decode cX11_loopOf 64 = .ok (.ifCond .lt 15, 3) := by decide +kernel
theorem dX11_loopOf_67 : decode cX11_loopOf 67 = .ok (.aload_n 0, 1) := by decide +kernel
theorem dX11_loopOf_68 : decode cX11_loopOf 68 = .ok (.getfield 44, 3) := by decide +kernel
theorem dX11_loopOf_71 : decode cX11_loopOf 71 = .ok (.iload_n 3, 1) := by decide +kernel
theorem dX11_loopOf_72 : decode cX11_loopOf 72 = .ok (.iaload, 1) := by decide +kernel
theorem dX11_loopOf_73 : decode cX11_loopOf 73 = .ok (.iconst 1, 1) := by decide +kernel
theorem dX11_loopOf_74 : decode cX11_loopOf 74 = .ok (.iadd, 1) := by decide +kernel
theorem dX11_loopOf_75 : decode cX11_loopOf 75 = .ok (.iload_n 2, 1) := by decide +kernel
theorem dX11_loopOf_76 : decode cX11_loopOf 76 = .ok (.if_icmp .ge 7, 3) := by decide +kernel
theorem dX11_loopOf_79 : decode cX11_loopOf 79 = .ok (.iconst 1, 1) := by decide +kernel
theorem dX11_loopOf_80 : decode cX11_loopOf 80 = .ok (.goto 4, 3) := by decide +kernel
theorem dX11_loopOf_83 : decode cX11_loopOf 83 = .ok (.iconst 0, 1) := by decide +kernel
theorem dX11_loopOf_84 : decode cX11_loopOf 84 = .ok (.istore 5, 2) := by decide +kernel
theorem dX11_loopOf_86 : decode cX11_loopOf 86 = .ok (.iload 5, 2) := by decide +kernel
theorem dX11_loopOf_88 : decode cX11_loopOf 88 = .ok (.ifCond .eq 14, 3) := by decide +kernel
theorem dX11_loopOf_91 : decode cX11_loopOf 91 = .ok (.aload_n 0, 1) := by decide +kernel
theorem dX11_loopOf_92 : decode cX11_loopOf 92 = .ok (.getfield 44, 3) := by decide +kernel
theorem dX11_loopOf_95 : decode cX11_loopOf 95 = .ok (.iload_n 3, 1) := by decide +kernel
theorem dX11_loopOf_96 : decode cX11_loopOf 96 = .ok (.iaload, 1) := by decide +kernel
theorem dX11_loopOf_97 : decode cX11_loopOf 97 = .ok (.iconst 1, 1) := by decide +kernel
theorem dX11_loopOf_98 : decode cX11_loopOf 98 = .ok (.iadd, 1) := by decide +kernel
theorem dX11_loopOf_99 : decode cX11_loopOf 99 = .ok (.goto 4, 3) := by decide +kernel
theorem dX11_loopOf_102 : decode cX11_loopOf 102 = .ok (.iload_n 2, 1) := by decide +kernel
theorem dX11_loopOf_103 : decode cX11_loopOf 103 = .ok (.istore_n 2, 1) := by decide +kernel
theorem dX11_loopOf_104 : decode cX11_loopOf 104 = .ok (.iinc 4 1, 3) := by decide +kernel
theorem dX11_loopOf_107 : decode cX11_loopOf 107 = .ok (.goto (-84), 3) := by decide +kernel
theorem dX11_loopOf_110 : decode cX11_loopOf 110 = .ok (.iinc 3 1, 3) := by decide +kernel
theorem dX11_loopOf_113 : decode cX11_loopOf 113 = .ok (.goto (-100), 3) := by decide +kernel
theorem dX11_loopOf_116 : decode cX11_loopOf 116 = .ok (.iload_n 2, 1) := by decide +kernel
theorem dX11_loopOf_117 : decode cX11_loopOf 117 = .ok (.ireturn, 1) := by decide +kernel
theorem dX11_loopOfLine_0 : decode cX11_loopOfLine 0 = .ok (.iconst (-1), 1) := by decide +kernel
theorem dX11_loopOfLine_1 : decode cX11_loopOfLine 1 = .ok (.istore_n 2, 1) := by decide +kernel
theorem dX11_loopOfLine_2 : decode cX11_loopOfLine 2 = .ok (.bipush 64, 2) := by decide +kernel
theorem dX11_loopOfLine_4 : decode cX11_loopOfLine 4 = .ok (.iload_n 1, 1) := by decide +kernel
theorem dX11_loopOfLine_5 : decode cX11_loopOfLine 5 = .ok (.imul, 1) := by decide +kernel
theorem dX11_loopOfLine_6 : decode cX11_loopOfLine 6 = .ok (.istore_n 3, 1) := by decide +kernel
theorem dX11_loopOfLine_7 : decode cX11_loopOfLine 7 = .ok (.iload_n 3, 1) := by decide +kernel
theorem dX11_loopOfLine_8 : decode cX11_loopOfLine 8 = .ok (.bipush 64, 2) := by decide +kernel
theorem dX11_loopOfLine_10 : decode cX11_loopOfLine 10 = .ok (.iload_n 1, 1) := by decide +kernel
theorem dX11_loopOfLine_11 : decode cX11_loopOfLine 11 = .ok (.imul, 1) := by decide +kernel
theorem dX11_loopOfLine_12 : decode cX11_loopOfLine 12 = .ok (.bipush 64, 2) := by decide +kernel
theorem dX11_loopOfLine_14 : decode cX11_loopOfLine 14 = .ok (.iadd, 1) := by decide +kernel
theorem dX11_loopOfLine_15 : decode cX11_loopOfLine 15 = .ok (.if_icmp .ge 51, 3) := by decide +kernel
theorem dX11_loopOfLine_18 : decode cX11_loopOfLine 18 = .ok (.aload_n 0, 1) := by decide +kernel
theorem dX11_loopOfLine_19 : decode cX11_loopOfLine 19 = .ok (.getfield 71, 3) := by decide +kernel
theorem dX11_loopOfLine_22 : decode cX11_loopOfLine 22 = .ok (.iload_n 3, 1) := by decide +kernel
theorem dX11_loopOfLine_23 : decode cX11_loopOfLine 23 = .ok (.baload, 1) := by decide +kernel
theorem dX11_loopOfLine_24 : decode cX11_loopOfLine 24 = .ok (.ifCond .eq 11, 3) := by decide +kernel
theorem dX11_loopOfLine_27 : decode cX11_loopOfLine 27 = .ok (.aload_n 0, 1) := by decide +kernel
theorem dX11_loopOfLine_28 : decode cX11_loopOfLine 28 = .ok (.iload_n 3, 1) := by decide +kernel
theorem dX11_loopOfLine_29 : decode cX11_loopOfLine 29 = .ok (.invokevirtual 281, 3) := by decide +kernel
theorem dX11_loopOfLine_32 : decode cX11_loopOfLine 32 = .ok (.goto 4, 3) := by decide +kernel
theorem dX11_loopOfLine_35 : decode cX11_loopOfLine 35 = .ok (.iconst (-1), 1) := by decide +kernel
theorem dX11_loopOfLine_36 : decode cX11_loopOfLine 36 = .ok (.istore 4, 2) := by decide +kernel
theorem dX11_loopOfLine_38 : decode cX11_loopOfLine 38 = .ok (.iload 4, 2) := by decide +kernel
theorem dX11_loopOfLine_40 : decode cX11_loopOfLine 40 = .ok (.ifCond .lt 18, 3) := by decide +kernel
theorem dX11_loopOfLine_43 : decode cX11_loopOfLine 43 = .ok (.iload_n 2, 1) := by decide +kernel
theorem dX11_loopOfLine_44 : decode cX11_loopOfLine 44 = .ok (.ifCond .lt 9, 3) := by decide +kernel
theorem dX11_loopOfLine_47 : decode cX11_loopOfLine 47 = .ok (.iload 4, 2) := by decide +kernel
theorem dX11_loopOfLine_49 : decode cX11_loopOfLine 49 = .ok (.iload_n 2, 1) := by decide +kernel
theorem dX11_loopOfLine_50 : decode cX11_loopOfLine 50 = .ok (.if_icmp .ge 8, 3) := by decide +kernel
theorem dX11_loopOfLine_53 : decode cX11_loopOfLine 53 = .ok (.iload 4, 2) := by decide +kernel
theorem dX11_loopOfLine_55 : decode cX11_loopOfLine 55 = .ok (.goto 4, 3) := by decide +kernel
theorem dX11_loopOfLine_58 : decode cX11_loopOfLine 58 = .ok (.iload_n 2, 1) := by decide +kernel
theorem dX11_loopOfLine_59 : decode cX11_loopOfLine 59 = .ok (.istore_n 2, 1) := by decide +kernel
theorem dX11_loopOfLine_60 : decode cX11_loopOfLine 60 = .ok (.iinc 3 1, 3) := by decide +kernel
theorem dX11_loopOfLine_63 : decode cX11_loopOfLine 63 = .ok (.goto (-56), 3) := by decide +kernel
theorem dX11_loopOfLine_66 : decode cX11_loopOfLine 66 = .ok (.iload_n 2, 1) := by decide +kernel
theorem dX11_loopOfLine_67 : decode cX11_loopOfLine 67 = .ok (.ireturn, 1) := by decide +kernel
theorem dX11_loop_0 : decode cX11_loop 0 = .ok (.aload_n 0, 1) := by decide +kernel
theorem dX11_loop_1 : decode cX11_loop 1 = .ok (.iload_n 1, 1) := by decide +kernel
theorem dX11_loop_2 : decode cX11_loop 2 = .ok (.invokevirtual 250, 3) := by decide +kernel
theorem dX11_loop_5 : decode cX11_loop 5 = .ok (.ifCond .ne 6, 3) := by decide +kernel
theorem dX11_loop_8 : decode cX11_loop 8 = .ok (.ldc 214, 2) := by decide +kernel
theorem dX11_loop_10 : decode cX11_loop 10 = .ok (.ireturn, 1) := by decide +kernel
theorem dX11_loop_11 : decode cX11_loop 11 = .ok (.aload_n 0, 1) := by decide +kernel
theorem dX11_loop_12 : decode cX11_loop 12 = .ok (.invokevirtual 284, 3) := by decide +kernel
theorem dX11_loop_15 : decode cX11_loop 15 = .ok (.aload_n 0, 1) := by decide +kernel
theorem dX11_loop_16 : decode cX11_loop 16 = .ok (.iload_n 1, 1) := by decide +kernel
theorem dX11_loop_17 : decode cX11_loop 17 = .ok (.invokevirtual 287, 3) := by decide +kernel
theorem dX11_loop_20 : decode cX11_loop 20 = .ok (.ireturn, 1) := by decide +kernel
theorem dX11_use_0 : decode cX11_use 0 = .ok (.aload_n 0, 1) := by decide +kernel
theorem dX11_use_1 : decode cX11_use 1 = .ok (.iload_n 1, 1) := by decide +kernel
theorem dX11_use_2 : decode cX11_use 2 = .ok (.invokevirtual 217, 3) := by decide +kernel
theorem dX11_use_5 : decode cX11_use 5 = .ok (.ifCond .ne 6, 3) := by decide +kernel
theorem dX11_use_8 : decode cX11_use 8 = .ok (.ldc 214, 2) := by decide +kernel
theorem dX11_use_10 : decode cX11_use 10 = .ok (.ireturn, 1) := by decide +kernel
theorem dX11_use_11 : decode cX11_use 11 = .ok (.aload_n 0, 1) := by decide +kernel
theorem dX11_use_12 : decode cX11_use 12 = .ok (.invokevirtual 255, 3) := by decide +kernel
theorem dX11_use_15 : decode cX11_use 15 = .ok (.pop, 1) := by decide +kernel
theorem dX11_use_16 : decode cX11_use 16 = .ok (.aload_n 0, 1) := by decide +kernel
theorem dX11_use_17 : decode cX11_use 17 = .ok (.aload_n 0, 1) := by decide +kernel
theorem dX11_use_18 : decode cX11_use 18 = .ok (.getfield 7, 3) := by decide +kernel
theorem dX11_use_21 : decode cX11_use 21 = .ok (.iload_n 1, 1) := by decide +kernel
theorem dX11_use_22 : decode cX11_use 22 = .ok (.iaload, 1) := by decide +kernel
theorem dX11_use_23 : decode cX11_use 23 = .ok (.iconst 0, 1) := by decide +kernel
theorem dX11_use_24 : decode cX11_use 24 = .ok (.invokevirtual 261, 3) := by decide +kernel
theorem dX11_use_27 : decode cX11_use 27 = .ok (.istore_n 2, 1) := by decide +kernel
theorem dX11_use_28 : decode cX11_use 28 = .ok (.iconst 0, 1) := by decide +kernel
theorem dX11_use_29 : decode cX11_use 29 = .ok (.istore_n 3, 1) := by decide +kernel
theorem dX11_use_30 : decode cX11_use 30 = .ok (.bipush 64, 2) := by decide +kernel
theorem dX11_use_32 : decode cX11_use 32 = .ok (.aload_n 0, 1) := by decide +kernel
theorem dX11_use_33 : decode cX11_use 33 = .ok (.getfield 7, 3) := by decide +kernel
theorem dX11_use_36 : decode cX11_use 36 = .ok (.iload_n 1, 1) := by decide +kernel
theorem dX11_use_37 : decode cX11_use 37 = .ok (.iaload, 1) := by decide +kernel
theorem dX11_use_38 : decode cX11_use 38 = .ok (.imul, 1) := by decide +kernel
theorem dX11_use_39 : decode cX11_use 39 = .ok (.istore 4, 2) := by decide +kernel
theorem dX11_use_41 : decode cX11_use 41 = .ok (.iload 4, 2) := by decide +kernel
theorem dX11_use_43 : decode cX11_use 43 = .ok (.bipush 64, 2) := by decide +kernel
theorem dX11_use_45 : decode cX11_use 45 = .ok (.aload_n 0, 1) := by decide +kernel
theorem dX11_use_46 : decode cX11_use 46 = .ok (.getfield 7, 3) := by decide +kernel
theorem dX11_use_49 : decode cX11_use 49 = .ok (.iload_n 1, 1) := by decide +kernel
theorem dX11_use_50 : decode cX11_use 50 = .ok (.iaload, 1) := by decide +kernel
theorem dX11_use_51 : decode cX11_use 51 = .ok (.imul, 1) := by decide +kernel
theorem dX11_use_52 : decode cX11_use 52 = .ok (.bipush 64, 2) := by decide +kernel
theorem dX11_use_54 : decode cX11_use 54 = .ok (.iadd, 1) := by decide +kernel
theorem dX11_use_55 : decode cX11_use 55 = .ok (.if_icmp .ge 38, 3) := by decide +kernel
theorem dX11_use_58 : decode cX11_use 58 = .ok (.iload_n 3, 1) := by decide +kernel
theorem dX11_use_59 : decode cX11_use 59 = .ok (.aload_n 0, 1) := by decide +kernel
theorem dX11_use_60 : decode cX11_use 60 = .ok (.getfield 44, 3) := by decide +kernel
theorem dX11_use_63 : decode cX11_use 63 = .ok (.iload 4, 2) := by decide +kernel
theorem dX11_use_65 : decode cX11_use 65 = .ok (.iaload, 1) := by decide +kernel
theorem dX11_use_66 : decode cX11_use 66 = .ok (.ifCond .lt 18, 3) := by decide +kernel
theorem dX11_use_69 : decode cX11_use 69 = .ok (.aload_n 0, 1) := by decide +kernel
theorem dX11_use_70 : decode cX11_use 70 = .ok (.iload_n 1, 1) := by decide +kernel
theorem dX11_use_71 : decode cX11_use 71 = .ok (.iload 4, 2) := by decide +kernel
theorem dX11_use_73 : decode cX11_use 73 = .ok (.iconst (-1), 1) := by decide +kernel
theorem dX11_use_74 : decode cX11_use 74 = .ok (.invokevirtual 105, 3) := by decide +kernel
theorem dX11_use_77 : decode cX11_use 77 = .ok (.ifCond .eq 7, 3) := by decide +kernel
theorem dX11_use_80 : decode cX11_use 80 = .ok (.iconst 1, 1) := by decide +kernel
theorem dX11_use_81 : decode cX11_use 81 = .ok (.goto 4, 3) := by decide +kernel
theorem dX11_use_84 : decode cX11_use 84 = .ok (.iconst 0, 1) := by decide +kernel
theorem dX11_use_85 : decode cX11_use 85 = .ok (.iadd, 1) := by decide +kernel
theorem dX11_use_86 : decode cX11_use 86 = .ok (.istore_n 3, 1) := by decide +kernel
theorem dX11_use_87 : decode cX11_use 87 = .ok (.iinc 4 1, 3) := by decide +kernel
theorem dX11_use_90 : decode cX11_use 90 = .ok (.goto (-49), 3) := by decide +kernel
theorem dX11_use_93 : decode cX11_use 93 = .ok (.iload_n 3, 1) := by decide +kernel
theorem dX11_use_94 : decode cX11_use 94 = .ok (.ifCond .ne 7, 3) := by decide +kernel
theorem dX11_use_97 : decode cX11_use 97 = .ok (.iconst 0, 1) := by decide +kernel
theorem dX11_use_98 : decode cX11_use 98 = .ok (.goto 13, 3) := by decide +kernel
theorem dX11_use_101 : decode cX11_use 101 = .ok (.iload_n 3, 1) := by decide +kernel
theorem dX11_use_102 : decode cX11_use 102 = .ok (.iload_n 2, 1) := by decide +kernel
theorem dX11_use_103 : decode cX11_use 103 = .ok (.if_icmp .ge 7, 3) := by decide +kernel
theorem dX11_use_106 : decode cX11_use 106 = .ok (.iconst 1, 1) := by decide +kernel
theorem dX11_use_107 : decode cX11_use 107 = .ok (.goto 4, 3) := by decide +kernel
theorem dX11_use_110 : decode cX11_use 110 = .ok (.iconst 2, 1) := by decide +kernel
theorem dX11_use_111 : decode cX11_use 111 = .ok (.ireturn, 1) := by decide +kernel
theorem dX11_isAskedFor_0 : decode cX11_isAskedFor 0 = .ok (.iconst 0, 1) := by decide +kernel
theorem dX11_isAskedFor_1 : decode cX11_isAskedFor 1 = .ok (.istore_n 3, 1) := by decide +kernel
theorem dX11_isAskedFor_2 : decode cX11_isAskedFor 2 = .ok (.iconst 0, 1) := by decide +kernel
theorem dX11_isAskedFor_3 : decode cX11_isAskedFor 3 = .ok (.istore 4, 2) := by decide +kernel
theorem dX11_isAskedFor_5 : decode cX11_isAskedFor 5 = .ok (.iload 4, 2) := by decide +kernel
theorem dX11_isAskedFor_7 : decode cX11_isAskedFor 7 = .ok (.aload_n 0, 1) := by decide +kernel
theorem dX11_isAskedFor_8 : decode cX11_isAskedFor 8 = .ok (.getfield 19, 3) := by decide +kernel
theorem dX11_isAskedFor_11 : decode cX11_isAskedFor 11 = .ok (.iload_n 1, 1) := by decide +kernel
theorem dX11_isAskedFor_12 : decode cX11_isAskedFor 12 = .ok (.iaload, 1) := by decide +kernel
theorem dX11_isAskedFor_13 : decode cX11_isAskedFor 13 = .ok (.if_icmp .ge 35, 3) := by decide +kernel
theorem dX11_isAskedFor_16 : decode cX11_isAskedFor 16 = .ok (.iload_n 3, 1) := by decide +kernel
theorem dX11_isAskedFor_17 : decode cX11_isAskedFor 17 = .ok (.aload_n 0, 1) := by decide +kernel
theorem dX11_isAskedFor_18 : decode cX11_isAskedFor 18 = .ok (.getfield 22, 3) := by decide +kernel
theorem dX11_isAskedFor_21 : decode cX11_isAskedFor 21 = .ok (.iconst 3, 1) := by decide +kernel
theorem dX11_isAskedFor_22 : decode cX11_isAskedFor 22 = .ok (.iload_n 1, 1) := by decide +kernel
theorem dX11_isAskedFor_23 : decode cX11_isAskedFor 23 = .ok (.imul, 1) := by decide +kernel
theorem dX11_isAskedFor_24 : decode cX11_isAskedFor 24 = .ok (.iload 4, 2) := by decide +kernel
theorem dX11_isAskedFor_26 : decode cX11_isAskedFor 26 = .ok (.iadd, 1) := by decide +kernel
theorem dX11_isAskedFor_27 : decode cX11_isAskedFor 27 = .ok (.iaload, 1) := by decide +kernel
theorem dX11_isAskedFor_28 : decode cX11_isAskedFor 28 = .ok (.aload_n 0, 1) := by decide +kernel
theorem dX11_isAskedFor_29 : decode cX11_isAskedFor 29 = .ok (.getfield 25, 3) := by decide +kernel
theorem dX11_isAskedFor_32 : decode cX11_isAskedFor 32 = .ok (.iconst 3, 1) := by decide +kernel
theorem dX11_isAskedFor_33 : decode cX11_isAskedFor 33 = .ok (.iload_n 1, 1) := by decide +kernel
theorem dX11_isAskedFor_34 : decode cX11_isAskedFor 34 = .ok (.imul, 1) := by decide +kernel
theorem dX11_isAskedFor_35 : decode cX11_isAskedFor 35 = .ok (.iload 4, 2) := by decide +kernel
theorem dX11_isAskedFor_37 : decode cX11_isAskedFor 37 = .ok (.iadd, 1) := by decide +kernel
theorem dX11_isAskedFor_38 : decode cX11_isAskedFor 38 = .ok (.iaload, 1) := by decide +kernel
theorem dX11_isAskedFor_39 : decode cX11_isAskedFor 39 = .ok (.ior, 1) := by decide +kernel
theorem dX11_isAskedFor_40 : decode cX11_isAskedFor 40 = .ok (.ior, 1) := by decide +kernel
theorem dX11_isAskedFor_41 : decode cX11_isAskedFor 41 = .ok (.istore_n 3, 1) := by decide +kernel
theorem dX11_isAskedFor_42 : decode cX11_isAskedFor 42 = .ok (.iinc 4 1, 3) := by decide +kernel
theorem dX11_isAskedFor_45 : decode cX11_isAskedFor 45 = .ok (.goto (-40), 3) := by decide +kernel
theorem dX11_isAskedFor_48 : decode cX11_isAskedFor 48 = .ok (.iload_n 3, 1) := by decide +kernel
theorem dX11_isAskedFor_49 : decode cX11_isAskedFor 49 = .ok (.iload_n 2, 1) := by decide +kernel
theorem dX11_isAskedFor_50 : decode cX11_isAskedFor 50 = .ok (.invokestatic 94, 3) := by decide +kernel
theorem dX11_isAskedFor_53 : decode cX11_isAskedFor 53 = .ok (.ireturn, 1) := by decide +kernel
theorem dX11_asked_0 : decode cX11_asked 0 = .ok (.iconst 0, 1) := by decide +kernel
theorem dX11_asked_1 : decode cX11_asked 1 = .ok (.istore_n 2, 1) := by decide +kernel
theorem dX11_asked_2 : decode cX11_asked 2 = .ok (.iconst 0, 1) := by decide +kernel
theorem dX11_asked_3 : decode cX11_asked 3 = .ok (.istore_n 3, 1) := by decide +kernel
theorem dX11_asked_4 : decode cX11_asked 4 = .ok (.iload_n 3, 1) := by decide +kernel
theorem dX11_asked_5 : decode cX11_asked 5 = .ok (.aload_n 0, 1) := by decide +kernel
theorem dX11_asked_6 : decode cX11_asked 6 = .ok (.getfield 85, 3) := by decide +kernel
theorem dX11_asked_9 : decode cX11_asked 9 = .ok (.if_icmp .ge 26, 3) := by decide +kernel
theorem dX11_asked_12 : decode cX11_asked 12 = .ok (.iload_n 2, 1) := by decide +kernel
theorem dX11_asked_13 : decode cX11_asked 13 = .ok (.aload_n 0, 1) := by decide +kernel
theorem dX11_asked_14 : decode cX11_asked 14 = .ok (.iload_n 3, 1) := by decide +kernel
theorem dX11_asked_15 : decode cX11_asked 15 = .ok (.iload_n 1, 1) := by decide +kernel
theorem dX11_asked_16 : decode cX11_asked 16 = .ok (.invokevirtual 290, 3) := by decide +kernel
theorem dX11_asked_19 : decode cX11_asked 19 = .ok (.ifCond .eq 7, 3) := by decide +kernel
theorem dX11_asked_22 : decode cX11_asked 22 = .ok (.iconst 1, 1) := by decide +kernel
theorem dX11_asked_23 : decode cX11_asked 23 = .ok (.goto 4, 3) := by decide +kernel
theorem dX11_asked_26 : decode cX11_asked 26 = .ok (.iconst 0, 1) := by decide +kernel
theorem dX11_asked_27 : decode cX11_asked 27 = .ok (.iadd, 1) := by decide +kernel
theorem dX11_asked_28 : decode cX11_asked 28 = .ok (.istore_n 2, 1) := by decide +kernel
theorem dX11_asked_29 : decode cX11_asked 29 = .ok (.iinc 3 1, 3) := by decide +kernel
theorem dX11_asked_32 : decode cX11_asked 32 = .ok (.goto (-28), 3) := by decide +kernel
theorem dX11_asked_35 : decode cX11_asked 35 = .ok (.iload_n 2, 1) := by decide +kernel
theorem dX11_asked_36 : decode cX11_asked 36 = .ok (.ireturn, 1) := by decide +kernel
theorem dX11_laid_0 : decode cX11_laid 0 = .ok (.iconst 0, 1) := by decide +kernel
theorem dX11_laid_1 : decode cX11_laid 1 = .ok (.istore_n 2, 1) := by decide +kernel
theorem dX11_laid_2 : decode cX11_laid 2 = .ok (.iconst 0, 1) := by decide +kernel
theorem dX11_laid_3 : decode cX11_laid 3 = .ok (.istore_n 3, 1) := by decide +kernel
theorem dX11_laid_4 : decode cX11_laid 4 = .ok (.iload_n 3, 1) := by decide +kernel
theorem dX11_laid_5 : decode cX11_laid 5 = .ok (.aload_n 0, 1) := by decide +kernel
theorem dX11_laid_6 : decode cX11_laid 6 = .ok (.getfield 85, 3) := by decide +kernel
theorem dX11_laid_9 : decode cX11_laid 9 = .ok (.if_icmp .ge 37, 3) := by decide +kernel
theorem dX11_laid_12 : decode cX11_laid 12 = .ok (.iload_n 2, 1) := by decide +kernel
theorem dX11_laid_13 : decode cX11_laid 13 = .ok (.aload_n 0, 1) := by decide +kernel
theorem dX11_laid_14 : decode cX11_laid 14 = .ok (.getfield 28, 3) := by decide +kernel
theorem dX11_laid_17 : decode cX11_laid 17 = .ok (.iload_n 3, 1) := by decide +kernel
theorem dX11_laid_18 : decode cX11_laid 18 = .ok (.iaload, 1) := by decide +kernel
theorem dX11_laid_19 : decode cX11_laid 19 = .ok (.aload_n 0, 1) := by decide +kernel
theorem dX11_laid_20 : decode cX11_laid 20 = .ok (.getfield 31, 3) := by decide +kernel
theorem dX11_laid_23 : decode cX11_laid 23 = .ok (.iload_n 3, 1) := by decide +kernel
theorem dX11_laid_24 : decode cX11_laid 24 = .ok (.iaload, 1) := by decide +kernel
theorem dX11_laid_25 : decode cX11_laid 25 = .ok (.ior, 1) := by decide +kernel
theorem dX11_laid_26 : decode cX11_laid 26 = .ok (.iload_n 1, 1) := by decide +kernel
theorem dX11_laid_27 : decode cX11_laid 27 = .ok (.invokestatic 94, 3) := by decide +kernel
theorem dX11_laid_30 : decode cX11_laid 30 = .ok (.ifCond .eq 7, 3) := by decide +kernel
theorem dX11_laid_33 : decode cX11_laid 33 = .ok (.iconst 1, 1) := by decide +kernel
theorem dX11_laid_34 : decode cX11_laid 34 = .ok (.goto 4, 3) := by decide +kernel
theorem dX11_laid_37 : decode cX11_laid 37 = .ok (.iconst 0, 1) := by decide +kernel
theorem dX11_laid_38 : decode cX11_laid 38 = .ok (.iadd, 1) := by decide +kernel
theorem dX11_laid_39 : decode cX11_laid 39 = .ok (.istore_n 2, 1) := by decide +kernel
theorem dX11_laid_40 : decode cX11_laid 40 = .ok (.iinc 3 1, 3) := by decide +kernel
theorem dX11_laid_43 : decode cX11_laid 43 = .ok (.goto (-39), 3) := by decide +kernel
theorem dX11_laid_46 : decode cX11_laid 46 = .ok (.iload_n 2, 1) := by decide +kernel
theorem dX11_laid_47 : decode cX11_laid 47 = .ok (.ireturn, 1) := by decide +kernel
theorem dX11_isAnywhere_0 : decode cX11_isAnywhere 0 = .ok (.aload_n 0, 1) := by decide +kernel
theorem dX11_isAnywhere_1 : decode cX11_isAnywhere 1 = .ok (.invokevirtual 255, 3) := by decide +kernel
theorem dX11_isAnywhere_4 : decode cX11_isAnywhere 4 = .ok (.pop, 1) := by decide +kernel
theorem dX11_isAnywhere_5 : decode cX11_isAnywhere 5 = .ok (.iconst 0, 1) := by decide +kernel
theorem dX11_isAnywhere_6 : decode cX11_isAnywhere 6 = .ok (.istore_n 2, 1) := by decide +kernel
theorem dX11_isAnywhere_7 : decode cX11_isAnywhere 7 = .ok (.iconst 0, 1) := by decide +kernel
theorem dX11_isAnywhere_8 : decode cX11_isAnywhere 8 = .ok (.istore_n 3, 1) := by decide +kernel
theorem dX11_isAnywhere_9 : decode cX11_isAnywhere 9 = .ok (.iload_n 3, 1) := by decide +kernel
theorem dX11_isAnywhere_10 : decode cX11_isAnywhere 10 = .ok (.sipush 1024, 3) := by decide +kernel
theorem dX11_isAnywhere_13 : decode cX11_isAnywhere 13 = .ok (.if_icmp .ge 39, 3) := by decide +kernel
theorem dX11_isAnywhere_16 : decode cX11_isAnywhere 16 = .ok (.iload_n 2, 1) := by decide +kernel
theorem dX11_isAnywhere_17 : decode cX11_isAnywhere 17 = .ok (.ifCond .ne 23, 3) := by decide +kernel
theorem dX11_isAnywhere_20 : decode cX11_isAnywhere 20 = .ok (.aload_n 0, 1) := by decide +kernel
theorem dX11_isAnywhere_21 : decode cX11_isAnywhere 21 = .ok (.getfield 44, 3) := by decide +kernel
theorem dX11_isAnywhere_24 : decode cX11_isAnywhere 24 = .ok (.iload_n 3, 1) := by decide +kernel
theorem dX11_isAnywhere_25 : decode cX11_isAnywhere 25 = .ok (.iaload, 1) := by decide +kernel
theorem dX11_isAnywhere_26 : decode cX11_isAnywhere 26 = .ok (.ifCond .lt 18, 3) := by decide +kernel
theorem dX11_isAnywhere_29 : decode cX11_isAnywhere 29 = .ok (.iload_n 3, 1) := by decide +kernel
theorem dX11_isAnywhere_30 : decode cX11_isAnywhere 30 = .ok (.bipush 64, 2) := by decide +kernel
theorem dX11_isAnywhere_32 : decode cX11_isAnywhere 32 = .ok (.irem, 1) := by decide +kernel
theorem dX11_isAnywhere_33 : decode cX11_isAnywhere 33 = .ok (.iload_n 1, 1) := by decide +kernel
theorem dX11_isAnywhere_34 : decode cX11_isAnywhere 34 = .ok (.invokestatic 94, 3) := by decide +kernel
theorem dX11_isAnywhere_37 : decode cX11_isAnywhere 37 = .ok (.ifCond .eq 7, 3) := by decide +kernel
theorem dX11_isAnywhere_40 : decode cX11_isAnywhere 40 = .ok (.iconst 1, 1) := by decide +kernel
theorem dX11_isAnywhere_41 : decode cX11_isAnywhere 41 = .ok (.goto 4, 3) := by decide +kernel
theorem dX11_isAnywhere_44 : decode cX11_isAnywhere 44 = .ok (.iconst 0, 1) := by decide +kernel
theorem dX11_isAnywhere_45 : decode cX11_isAnywhere 45 = .ok (.istore_n 2, 1) := by decide +kernel
theorem dX11_isAnywhere_46 : decode cX11_isAnywhere 46 = .ok (.iinc 3 1, 3) := by decide +kernel
theorem dX11_isAnywhere_49 : decode cX11_isAnywhere 49 = .ok (.goto (-40), 3) := by decide +kernel
theorem dX11_isAnywhere_52 : decode cX11_isAnywhere 52 = .ok (.iload_n 2, 1) := by decide +kernel
theorem dX11_isAnywhere_53 : decode cX11_isAnywhere 53 = .ok (.ireturn, 1) := by decide +kernel
theorem dX11_isIdle_0 : decode cX11_isIdle 0 = .ok (.aload_n 0, 1) := by decide +kernel
theorem dX11_isIdle_1 : decode cX11_isIdle 1 = .ok (.invokevirtual 284, 3) := by decide +kernel
theorem dX11_isIdle_4 : decode cX11_isIdle 4 = .ok (.aload_n 0, 1) := by decide +kernel
theorem dX11_isIdle_5 : decode cX11_isIdle 5 = .ok (.aload_n 0, 1) := by decide +kernel
theorem dX11_isIdle_6 : decode cX11_isIdle 6 = .ok (.invokevirtual 118, 3) := by decide +kernel
theorem dX11_isIdle_9 : decode cX11_isIdle 9 = .ok (.iconst (-1), 1) := by decide +kernel
theorem dX11_isIdle_10 : decode cX11_isIdle 10 = .ok (.iconst (-1), 1) := by decide +kernel
theorem dX11_isIdle_11 : decode cX11_isIdle 11 = .ok (.iload_n 1, 1) := by decide +kernel
theorem dX11_isIdle_12 : decode cX11_isIdle 12 = .ok (.invokevirtual 122, 3) := by decide +kernel
theorem dX11_isIdle_15 : decode cX11_isIdle 15 = .ok (.pop, 1) := by decide +kernel
theorem dX11_isIdle_16 : decode cX11_isIdle 16 = .ok (.iconst 1, 1) := by decide +kernel
theorem dX11_isIdle_17 : decode cX11_isIdle 17 = .ok (.istore_n 2, 1) := by decide +kernel
theorem dX11_isIdle_18 : decode cX11_isIdle 18 = .ok (.iconst 0, 1) := by decide +kernel
theorem dX11_isIdle_19 : decode cX11_isIdle 19 = .ok (.istore_n 3, 1) := by decide +kernel
theorem dX11_isIdle_20 : decode cX11_isIdle 20 = .ok (.iload_n 3, 1) := by decide +kernel
theorem dX11_isIdle_21 : decode cX11_isIdle 21 = .ok (.sipush 1024, 3) := by decide +kernel
theorem dX11_isIdle_24 : decode cX11_isIdle 24 = .ok (.if_icmp .ge 42, 3) := by decide +kernel
theorem dX11_isIdle_27 : decode cX11_isIdle 27 = .ok (.iload_n 2, 1) := by decide +kernel
theorem dX11_isIdle_28 : decode cX11_isIdle 28 = .ok (.ifCond .eq 30, 3) := by decide +kernel
theorem dX11_isIdle_31 : decode cX11_isIdle 31 = .ok (.aload_n 0, 1) := by decide +kernel
theorem dX11_isIdle_32 : decode cX11_isIdle 32 = .ok (.getfield 71, 3) := by decide +kernel
theorem dX11_isIdle_35 : decode cX11_isIdle 35 = .ok (.iload_n 3, 1) := by decide +kernel
theorem dX11_isIdle_36 : decode cX11_isIdle 36 = .ok (.baload, 1) := by decide +kernel
theorem dX11_isIdle_37 : decode cX11_isIdle 37 = .ok (.aload_n 0, 1) := by decide +kernel
theorem dX11_isIdle_38 : decode cX11_isIdle 38 = .ok (.getfield 44, 3) := by decide +kernel
theorem dX11_isIdle_41 : decode cX11_isIdle 41 = .ok (.iload_n 3, 1) := by decide +kernel
theorem dX11_isIdle_42 : decode cX11_isIdle 42 = .ok (.iaload, 1) := by decide +kernel
theorem dX11_isIdle_43 : decode cX11_isIdle 43 = .ok (.ifCond .lt 7, 3) := by decide +kernel
theorem dX11_isIdle_46 : decode cX11_isIdle 46 = .ok (.iconst 1, 1) := by decide +kernel
theorem dX11_isIdle_47 : decode cX11_isIdle 47 = .ok (.goto 4, 3) := by decide +kernel
theorem dX11_isIdle_50 : decode cX11_isIdle 50 = .ok (.iconst 0, 1) := by decide +kernel
theorem dX11_isIdle_51 : decode cX11_isIdle 51 = .ok (.if_icmp .ne 7, 3) := by decide +kernel
theorem dX11_isIdle_54 : decode cX11_isIdle 54 = .ok (.iconst 1, 1) := by decide +kernel
theorem dX11_isIdle_55 : decode cX11_isIdle 55 = .ok (.goto 4, 3) := by decide +kernel
theorem dX11_isIdle_58 : decode cX11_isIdle 58 = .ok (.iconst 0, 1) := by decide +kernel
theorem dX11_isIdle_59 : decode cX11_isIdle 59 = .ok (.istore_n 2, 1) := by decide +kernel
theorem dX11_isIdle_60 : decode cX11_isIdle 60 = .ok (.iinc 3 1, 3) := by decide +kernel
theorem dX11_isIdle_63 : decode cX11_isIdle 63 = .ok (.goto (-43), 3) := by decide +kernel
theorem dX11_isIdle_66 : decode cX11_isIdle 66 = .ok (.iload_n 2, 1) := by decide +kernel
theorem dX11_isIdle_67 : decode cX11_isIdle 67 = .ok (.ireturn, 1) := by decide +kernel
theorem dX11_mark_0 : decode cX11_mark 0 = .ok (.aload_n 0, 1) := by decide +kernel
theorem dX11_mark_1 : decode cX11_mark 1 = .ok (.invokevirtual 211, 3) := by decide +kernel
theorem dX11_mark_4 : decode cX11_mark 4 = .ok (.ifCond .eq 15, 3) := by decide +kernel
theorem dX11_mark_7 : decode cX11_mark 7 = .ok (.iload_n 1, 1) := by decide +kernel
theorem dX11_mark_8 : decode cX11_mark 8 = .ok (.i2l, 1) := by decide +kernel
theorem dX11_mark_9 : decode cX11_mark 9 = .ok (.lconst 0, 1) := by decide +kernel
theorem dX11_mark_10 : decode cX11_mark 10 = .ok (.ldc2_w 253, 3) := by decide +kernel
theorem dX11_mark_13 : decode cX11_mark 13 = .ok (.invokestatic 88, 3) := by decide +kernel
theorem dX11_mark_16 : decode cX11_mark 16 = .ok (.ifCond .ne 6, 3) := by decide +kernel
theorem dX11_mark_19 : decode cX11_mark 19 = .ok (.ldc 214, 2) := by decide +kernel
theorem dX11_mark_21 : decode cX11_mark 21 = .ok (.ireturn, 1) := by decide +kernel
theorem dX11_mark_22 : decode cX11_mark 22 = .ok (.iload_n 2, 1) := by decide +kernel
theorem dX11_mark_23 : decode cX11_mark 23 = .ok (.tableswitch 77 0 3 #[29, 35, 41, 55], 29) := by decide +kernel
theorem dX11_mark_52 : decode cX11_mark 52 = .ok (.aload_n 0, 1) := by decide +kernel
theorem dX11_mark_53 : decode cX11_mark 53 = .ok (.iload_n 1, 1) := by decide +kernel
theorem dX11_mark_54 : decode cX11_mark 54 = .ok (.invokevirtual 293, 3) := by decide +kernel
theorem dX11_mark_57 : decode cX11_mark 57 = .ok (.ireturn, 1) := by decide +kernel
theorem dX11_mark_58 : decode cX11_mark 58 = .ok (.aload_n 0, 1) := by decide +kernel
theorem dX11_mark_59 : decode cX11_mark 59 = .ok (.iload_n 1, 1) := by decide +kernel
theorem dX11_mark_60 : decode cX11_mark 60 = .ok (.invokevirtual 296, 3) := by decide +kernel
theorem dX11_mark_63 : decode cX11_mark 63 = .ok (.ireturn, 1) := by decide +kernel
theorem dX11_mark_64 : decode cX11_mark 64 = .ok (.aload_n 0, 1) := by decide +kernel
theorem dX11_mark_65 : decode cX11_mark 65 = .ok (.iload_n 1, 1) := by decide +kernel
theorem dX11_mark_66 : decode cX11_mark 66 = .ok (.invokevirtual 299, 3) := by decide +kernel
theorem dX11_mark_69 : decode cX11_mark 69 = .ok (.ifCond .eq 7, 3) := by decide +kernel
theorem dX11_mark_72 : decode cX11_mark 72 = .ok (.iconst 1, 1) := by decide +kernel
theorem dX11_mark_73 : decode cX11_mark 73 = .ok (.goto 4, 3) := by decide +kernel
theorem dX11_mark_76 : decode cX11_mark 76 = .ok (.iconst 0, 1) := by decide +kernel
theorem dX11_mark_77 : decode cX11_mark 77 = .ok (.ireturn, 1) := by decide +kernel
theorem dX11_mark_78 : decode cX11_mark 78 = .ok (.aload_n 0, 1) := by decide +kernel
theorem dX11_mark_79 : decode cX11_mark 79 = .ok (.iload_n 1, 1) := by decide +kernel
theorem dX11_mark_80 : decode cX11_mark 80 = .ok (.invokevirtual 293, 3) := by decide +kernel
theorem dX11_mark_83 : decode cX11_mark 83 = .ok (.ifCond .le 15, 3) := by decide +kernel
theorem dX11_mark_86 : decode cX11_mark 86 = .ok (.aload_n 0, 1) := by decide +kernel
theorem dX11_mark_87 : decode cX11_mark 87 = .ok (.iload_n 1, 1) := by decide +kernel
theorem dX11_mark_88 : decode cX11_mark 88 = .ok (.invokevirtual 302, 3) := by decide +kernel
theorem dX11_mark_91 : decode cX11_mark 91 = .ok (.ifCond .eq 7, 3) := by decide +kernel
theorem dX11_mark_94 : decode cX11_mark 94 = .ok (.iconst 1, 1) := by decide +kernel
theorem dX11_mark_95 : decode cX11_mark 95 = .ok (.goto 4, 3) := by decide +kernel
theorem dX11_mark_98 : decode cX11_mark 98 = .ok (.iconst 0, 1) := by decide +kernel
theorem dX11_mark_99 : decode cX11_mark 99 = .ok (.ireturn, 1) := by decide +kernel
theorem dX11_mark_100 : decode cX11_mark 100 = .ok (.ldc 131, 2) := by decide +kernel
theorem dX11_mark_102 : decode cX11_mark 102 = .ok (.ireturn, 1) := by decide +kernel
theorem dX11_linesThat_0 : decode cX11_linesThat 0 = .ok (.iconst 0, 1) := by decide +kernel
theorem dX11_linesThat_1 : decode cX11_linesThat 1 = .ok (.istore_n 2, 1) := by decide +kernel
theorem dX11_linesThat_2 : decode cX11_linesThat 2 = .ok (.iconst 0, 1) := by decide +kernel
theorem dX11_linesThat_3 : decode cX11_linesThat 3 = .ok (.istore_n 3, 1) := by decide +kernel
theorem dX11_linesThat_4 : decode cX11_linesThat 4 = .ok (.iload_n 3, 1) := by decide +kernel
theorem dX11_linesThat_5 : decode cX11_linesThat 5 = .ok (.bipush 16, 2) := by decide +kernel
theorem dX11_linesThat_7 : decode cX11_linesThat 7 = .ok (.if_icmp .ge 72, 3) := by decide +kernel
theorem dX11_linesThat_10 : decode cX11_linesThat 10 = .ok (.iload_n 1, 1) := by decide +kernel
theorem dX11_linesThat_11 : decode cX11_linesThat 11 = .ok (.ifCond .ne 20, 3) := by decide +kernel
theorem dX11_linesThat_14 : decode cX11_linesThat 14 = .ok (.aload_n 0, 1) := by decide +kernel
theorem dX11_linesThat_15 : decode cX11_linesThat 15 = .ok (.iload_n 3, 1) := by decide +kernel
theorem dX11_linesThat_16 : decode cX11_linesThat 16 = .ok (.iconst 0, 1) := by decide +kernel
theorem dX11_linesThat_17 : decode cX11_linesThat 17 = .ok (.invokevirtual 261, 3) := by decide +kernel
theorem dX11_linesThat_20 : decode cX11_linesThat 20 = .ok (.ifCond .ne 7, 3) := by decide +kernel
theorem dX11_linesThat_23 : decode cX11_linesThat 23 = .ok (.iconst 1, 1) := by decide +kernel
theorem dX11_linesThat_24 : decode cX11_linesThat 24 = .ok (.goto 21, 3) := by decide +kernel
theorem dX11_linesThat_27 : decode cX11_linesThat 27 = .ok (.iconst 0, 1) := by decide +kernel
theorem dX11_linesThat_28 : decode cX11_linesThat 28 = .ok (.goto 17, 3) := by decide +kernel
theorem dX11_linesThat_31 : decode cX11_linesThat 31 = .ok (.aload_n 0, 1) := by decide +kernel
theorem dX11_linesThat_32 : decode cX11_linesThat 32 = .ok (.iload_n 3, 1) := by decide +kernel
theorem dX11_linesThat_33 : decode cX11_linesThat 33 = .ok (.iload_n 1, 1) := by decide +kernel
theorem dX11_linesThat_34 : decode cX11_linesThat 34 = .ok (.invokevirtual 261, 3) := by decide +kernel
theorem dX11_linesThat_37 : decode cX11_linesThat 37 = .ok (.ifCond .le 7, 3) := by decide +kernel
theorem dX11_linesThat_40 : decode cX11_linesThat 40 = .ok (.iconst 1, 1) := by decide +kernel
theorem dX11_linesThat_41 : decode cX11_linesThat 41 = .ok (.goto 4, 3) := by decide +kernel
theorem dX11_linesThat_44 : decode cX11_linesThat 44 = .ok (.iconst 0, 1) := by decide +kernel
theorem dX11_linesThat_45 : decode cX11_linesThat 45 = .ok (.istore 4, 2) := by decide +kernel
theorem dX11_linesThat_47 : decode cX11_linesThat 47 = .ok (.iload_n 2, 1) := by decide +kernel
theorem dX11_linesThat_48 : decode cX11_linesThat 48 = .ok (.aload_n 0, 1) := by decide +kernel
theorem dX11_linesThat_49 : decode cX11_linesThat 49 = .ok (.getfield 81, 3) := by decide +kernel
theorem dX11_linesThat_52 : decode cX11_linesThat 52 = .ok (.iload_n 3, 1) := by decide +kernel
theorem dX11_linesThat_53 : decode cX11_linesThat 53 = .ok (.invokestatic 94, 3) := by decide +kernel
theorem dX11_linesThat_56 : decode cX11_linesThat 56 = .ok (.ifCond .eq 14, 3) := by decide +kernel
theorem dX11_linesThat_59 : decode cX11_linesThat 59 = .ok (.iload 4, 2) := by decide +kernel
theorem dX11_linesThat_61 : decode cX11_linesThat 61 = .ok (.ifCond .eq 9, 3) := by decide +kernel
theorem dX11_linesThat_64 : decode cX11_linesThat 64 = .ok (.iconst 1, 1) := by decide +kernel
theorem dX11_linesThat_65 : decode cX11_linesThat 65 = .ok (.iload_n 3, 1) := by decide +kernel
theorem dX11_linesThat_66 : decode cX11_linesThat 66 = .ok (.ishl, 1) := by decide +kernel
theorem dX11_linesThat_67 : decode cX11_linesThat 67 = .ok (.goto 4, 3) := by decide +kernel
theorem dX11_linesThat_70 : decode cX11_linesThat 70 = .ok (.iconst 0, 1) := by decide +kernel
theorem dX11_linesThat_71 : decode cX11_linesThat 71 = .ok (.ior, 1) := by decide +kernel
theorem dX11_linesThat_72 : decode cX11_linesThat 72 = .ok (.istore_n 2, 1) := by decide +kernel
theorem dX11_linesThat_73 : decode cX11_linesThat 73 = .ok (.iinc 3 1, 3) := by decide +kernel
theorem dX11_linesThat_76 : decode cX11_linesThat 76 = .ok (.goto (-72), 3) := by decide +kernel
theorem dX11_linesThat_79 : decode cX11_linesThat 79 = .ok (.iload_n 2, 1) := by decide +kernel
theorem dX11_linesThat_80 : decode cX11_linesThat 80 = .ok (.ireturn, 1) := by decide +kernel
theorem dX11_linesWithLoops_0 : decode cX11_linesWithLoops 0 = .ok (.aload_n 0, 1) := by decide +kernel
theorem dX11_linesWithLoops_1 : decode cX11_linesWithLoops 1 = .ok (.invokevirtual 284, 3) := by decide +kernel
theorem dX11_linesWithLoops_4 : decode cX11_linesWithLoops 4 = .ok (.iconst 0, 1) := by decide +kernel
theorem dX11_linesWithLoops_5 : decode cX11_linesWithLoops 5 = .ok (.istore_n 1, 1) := by decide +kernel
theorem dX11_linesWithLoops_6 : decode cX11_linesWithLoops 6 = .ok (.iconst 0, 1) := by decide +kernel
theorem dX11_linesWithLoops_7 : decode cX11_linesWithLoops 7 = .ok (.istore_n 2, 1) := by decide +kernel
theorem dX11_linesWithLoops_8 : decode cX11_linesWithLoops 8 = .ok (.iload_n 2, 1) := by decide +kernel
theorem dX11_linesWithLoops_9 : decode cX11_linesWithLoops 9 = .ok (.bipush 16, 2) := by decide +kernel
theorem dX11_linesWithLoops_11 : decode cX11_linesWithLoops 11 = .ok (.if_icmp .ge 38, 3) := by decide +kernel
theorem dX11_linesWithLoops_14 : decode cX11_linesWithLoops 14 = .ok (.iload_n 1, 1) := by decide +kernel
theorem dX11_linesWithLoops_15 : decode cX11_linesWithLoops 15 = .ok (.aload_n 0, 1) := by decide +kernel
theorem dX11_linesWithLoops_16 : decode cX11_linesWithLoops 16 = .ok (.getfield 81, 3) := by decide +kernel
theorem dX11_linesWithLoops_19 : decode cX11_linesWithLoops 19 = .ok (.iload_n 2, 1) := by decide +kernel
theorem dX11_linesWithLoops_20 : decode cX11_linesWithLoops 20 = .ok (.invokestatic 94, 3) := by decide +kernel
theorem dX11_linesWithLoops_23 : decode cX11_linesWithLoops 23 = .ok (.ifCond .eq 17, 3) := by decide +kernel
theorem dX11_linesWithLoops_26 : decode cX11_linesWithLoops 26 = .ok (.aload_n 0, 1) := by decide +kernel
theorem dX11_linesWithLoops_27 : decode cX11_linesWithLoops 27 = .ok (.iload_n 2, 1) := by decide +kernel
theorem dX11_linesWithLoops_28 : decode cX11_linesWithLoops 28 = .ok (.invokevirtual 287, 3) := by decide +kernel
theorem dX11_linesWithLoops_31 : decode cX11_linesWithLoops 31 = .ok (.ifCond .lt 9, 3) := by decide +kernel
theorem dX11_linesWithLoops_34 : decode cX11_linesWithLoops 34 = .ok (.iconst 1, 1) := by decide +kernel
theorem dX11_linesWithLoops_35 : decode cX11_linesWithLoops 35 = .ok (.iload_n 2, 1) := by decide +kernel
theorem dX11_linesWithLoops_36 : decode cX11_linesWithLoops 36 = .ok (.ishl, 1) := by decide +kernel
theorem dX11_linesWithLoops_37 : decode cX11_linesWithLoops 37 = .ok (.goto 4, 3) := by decide +kernel
theorem dX11_linesWithLoops_40 : decode cX11_linesWithLoops 40 = .ok (.iconst 0, 1) := by decide +kernel
theorem dX11_linesWithLoops_41 : decode cX11_linesWithLoops 41 = .ok (.ior, 1) := by decide +kernel
theorem dX11_linesWithLoops_42 : decode cX11_linesWithLoops 42 = .ok (.istore_n 1, 1) := by decide +kernel
theorem dX11_linesWithLoops_43 : decode cX11_linesWithLoops 43 = .ok (.iinc 2 1, 3) := by decide +kernel
theorem dX11_linesWithLoops_46 : decode cX11_linesWithLoops 46 = .ok (.goto (-38), 3) := by decide +kernel
theorem dX11_linesWithLoops_49 : decode cX11_linesWithLoops 49 = .ok (.iload_n 1, 1) := by decide +kernel
theorem dX11_linesWithLoops_50 : decode cX11_linesWithLoops 50 = .ok (.ireturn, 1) := by decide +kernel
theorem dX11_ofStates_0 : decode cX11_ofStates 0 = .ok (.iconst 0, 1) := by decide +kernel
theorem dX11_ofStates_1 : decode cX11_ofStates 1 = .ok (.istore_n 2, 1) := by decide +kernel
theorem dX11_ofStates_2 : decode cX11_ofStates 2 = .ok (.iconst 0, 1) := by decide +kernel
theorem dX11_ofStates_3 : decode cX11_ofStates 3 = .ok (.istore_n 3, 1) := by decide +kernel
theorem dX11_ofStates_4 : decode cX11_ofStates 4 = .ok (.iconst 0, 1) := by decide +kernel
theorem dX11_ofStates_5 : decode cX11_ofStates 5 = .ok (.istore 4, 2) := by decide +kernel
theorem dX11_ofStates_7 : decode cX11_ofStates 7 = .ok (.iload 4, 2) := by decide +kernel
theorem dX11_ofStates_9 : decode cX11_ofStates 9 = .ok (.sipush 1024, 3) := by decide +kernel
theorem dX11_ofStates_12 : decode cX11_ofStates 12 = .ok (.if_icmp .ge 77, 3) := by decide +kernel
theorem dX11_ofStates_15 : decode cX11_ofStates 15 = .ok (.aload_n 0, 1) := by decide +kernel
theorem dX11_ofStates_16 : decode cX11_ofStates 16 = .ok (.getfield 44, 3) := by decide +kernel
theorem dX11_ofStates_19 : decode cX11_ofStates 19 = .ok (.iload 4, 2) := by decide +kernel
theorem dX11_ofStates_21 : decode cX11_ofStates 21 = .ok (.iaload, 1) := by decide +kernel
theorem dX11_ofStates_22 : decode cX11_ofStates 22 = .ok (.ifCond .lt 61, 3) := by decide +kernel
theorem dX11_ofStates_25 : decode cX11_ofStates 25 = .ok (.iload_n 1, 1) := by decide +kernel
theorem dX11_ofStates_26 : decode cX11_ofStates 26 = .ok (.ifCond .ne 12, 3) := by decide +kernel
theorem dX11_ofStates_29 : decode cX11_ofStates 29 = .ok (.aload_n 0, 1) := by decide +kernel
theorem dX11_ofStates_30 : decode cX11_ofStates 30 = .ok (.iload 4, 2) := by decide +kernel
theorem dX11_ofStates_32 : decode cX11_ofStates 32 = .ok (.invokevirtual 237, 3) := by decide +kernel
theorem dX11_ofStates_35 : decode cX11_ofStates 35 = .ok (.goto 10, 3) := by decide +kernel
theorem dX11_ofStates_38 : decode cX11_ofStates 38 = .ok (.aload_n 0, 1) := by decide +kernel
theorem dX11_ofStates_39 : decode cX11_ofStates 39 = .ok (.getfield 44, 3) := by decide +kernel
theorem dX11_ofStates_42 : decode cX11_ofStates 42 = .ok (.iload 4, 2) := by decide +kernel
theorem dX11_ofStates_44 : decode cX11_ofStates 44 = .ok (.iaload, 1) := by decide +kernel
theorem dX11_ofStates_45 : decode cX11_ofStates 45 = .ok (.istore 5, 2) := by decide +kernel
theorem dX11_ofStates_47 : decode cX11_ofStates 47 = .ok (.iload 5, 2) := by decide +kernel
theorem dX11_ofStates_49 : decode cX11_ofStates 49 = .ok (.iload_n 2, 1) := by decide +kernel
theorem dX11_ofStates_50 : decode cX11_ofStates 50 = .ok (.if_icmp .le 8, 3) := by decide +kernel
theorem dX11_ofStates_53 : decode cX11_ofStates 53 = .ok (.iload 5, 2) := by decide +kernel
theorem dX11_ofStates_55 : decode cX11_ofStates 55 = .ok (.goto 4, 3) := by decide +kernel
theorem dX11_ofStates_58 : decode cX11_ofStates 58 = .ok (.iload_n 2, 1) := by decide +kernel
theorem dX11_ofStates_59 : decode cX11_ofStates 59 = .ok (.istore_n 2, 1) := by decide +kernel
theorem dX11_ofStates_60 : decode cX11_ofStates 60 = .ok (.iload_n 3, 1) := by decide +kernel
theorem dX11_ofStates_61 : decode cX11_ofStates 61 = .ok (.aload_n 0, 1) := by decide +kernel
theorem dX11_ofStates_62 : decode cX11_ofStates 62 = .ok (.getfield 98, 3) := by decide +kernel
theorem dX11_ofStates_65 : decode cX11_ofStates 65 = .ok (.iload 4, 2) := by decide +kernel
theorem dX11_ofStates_67 : decode cX11_ofStates 67 = .ok (.bipush 64, 2) := by decide +kernel
theorem dX11_ofStates_69 : decode cX11_ofStates 69 = .ok (.idiv, 1) := by decide +kernel
theorem dX11_ofStates_70 : decode cX11_ofStates 70 = .ok (.invokestatic 94, 3) := by decide +kernel
theorem dX11_ofStates_73 : decode cX11_ofStates 73 = .ok (.ifCond .eq 7, 3) := by decide +kernel
theorem dX11_ofStates_76 : decode cX11_ofStates 76 = .ok (.iconst 1, 1) := by decide +kernel
theorem dX11_ofStates_77 : decode cX11_ofStates 77 = .ok (.goto 4, 3) := by decide +kernel
theorem dX11_ofStates_80 : decode cX11_ofStates 80 = .ok (.iconst 0, 1) := by decide +kernel
theorem dX11_ofStates_81 : decode cX11_ofStates 81 = .ok (.iadd, 1) := by decide +kernel
theorem dX11_ofStates_82 : decode cX11_ofStates 82 = .ok (.istore_n 3, 1) := by decide +kernel
theorem dX11_ofStates_83 : decode cX11_ofStates 83 = .ok (.iinc 4 1, 3) := by decide +kernel
theorem dX11_ofStates_86 : decode cX11_ofStates 86 = .ok (.goto (-79), 3) := by decide +kernel
theorem dX11_ofStates_89 : decode cX11_ofStates 89 = .ok (.iload_n 1, 1) := by decide +kernel
theorem dX11_ofStates_90 : decode cX11_ofStates 90 = .ok (.iconst 1, 1) := by decide +kernel
theorem dX11_ofStates_91 : decode cX11_ofStates 91 = .ok (.if_icmp .ne 7, 3) := by decide +kernel
theorem dX11_ofStates_94 : decode cX11_ofStates 94 = .ok (.iload_n 3, 1) := by decide +kernel
theorem dX11_ofStates_95 : decode cX11_ofStates 95 = .ok (.goto 4, 3) := by decide +kernel
theorem dX11_ofStates_98 : decode cX11_ofStates 98 = .ok (.iload_n 2, 1) := by decide +kernel
theorem dX11_ofStates_99 : decode cX11_ofStates 99 = .ok (.ireturn, 1) := by decide +kernel
theorem dX11_whole_0 : decode cX11_whole 0 = .ok (.aload_n 0, 1) := by decide +kernel
theorem dX11_whole_1 : decode cX11_whole 1 = .ok (.invokevirtual 211, 3) := by decide +kernel
theorem dX11_whole_4 : decode cX11_whole 4 = .ok (.ifCond .ne 6, 3) := by decide +kernel
theorem dX11_whole_7 : decode cX11_whole 7 = .ok (.ldc 214, 2) := by decide +kernel
theorem dX11_whole_9 : decode cX11_whole 9 = .ok (.ireturn, 1) := by decide +kernel
theorem dX11_whole_10 : decode cX11_whole 10 = .ok (.aload_n 0, 1) := by decide +kernel
theorem dX11_whole_11 : decode cX11_whole 11 = .ok (.invokevirtual 255, 3) := by decide +kernel
theorem dX11_whole_14 : decode cX11_whole 14 = .ok (.istore_n 2, 1) := by decide +kernel
theorem dX11_whole_15 : decode cX11_whole 15 = .ok (.aload_n 0, 1) := by decide +kernel
theorem dX11_whole_16 : decode cX11_whole 16 = .ok (.invokevirtual 258, 3) := by decide +kernel
theorem dX11_whole_19 : decode cX11_whole 19 = .ok (.iload_n 1, 1) := by decide +kernel
theorem dX11_whole_20 : decode cX11_whole 20 = .ok (.tableswitch 91 0 7 #[48, 50, 56, 62, 68, 73, 79, 85], 48) := by decide +kernel
theorem dX11_whole_68 : decode cX11_whole 68 = .ok (.iload_n 2, 1) := by decide +kernel
theorem dX11_whole_69 : decode cX11_whole 69 = .ok (.ireturn, 1) := by decide +kernel
theorem dX11_whole_70 : decode cX11_whole 70 = .ok (.aload_n 0, 1) := by decide +kernel
theorem dX11_whole_71 : decode cX11_whole 71 = .ok (.iconst 0, 1) := by decide +kernel
theorem dX11_whole_72 : decode cX11_whole 72 = .ok (.invokevirtual 305, 3) := by decide +kernel
theorem dX11_whole_75 : decode cX11_whole 75 = .ok (.ireturn, 1) := by decide +kernel
theorem dX11_whole_76 : decode cX11_whole 76 = .ok (.aload_n 0, 1) := by decide +kernel
theorem dX11_whole_77 : decode cX11_whole 77 = .ok (.iconst 1, 1) := by decide +kernel
theorem dX11_whole_78 : decode cX11_whole 78 = .ok (.invokevirtual 305, 3) := by decide +kernel
theorem dX11_whole_81 : decode cX11_whole 81 = .ok (.ireturn, 1) := by decide +kernel
theorem dX11_whole_82 : decode cX11_whole 82 = .ok (.aload_n 0, 1) := by decide +kernel
theorem dX11_whole_83 : decode cX11_whole 83 = .ok (.iconst 2, 1) := by decide +kernel
theorem dX11_whole_84 : decode cX11_whole 84 = .ok (.invokevirtual 305, 3) := by decide +kernel
theorem dX11_whole_87 : decode cX11_whole 87 = .ok (.ireturn, 1) := by decide +kernel
theorem dX11_whole_88 : decode cX11_whole 88 = .ok (.aload_n 0, 1) := by decide +kernel
theorem dX11_whole_89 : decode cX11_whole 89 = .ok (.invokevirtual 308, 3) := by decide +kernel
theorem dX11_whole_92 : decode cX11_whole 92 = .ok (.ireturn, 1) := by decide +kernel
theorem dX11_whole_93 : decode cX11_whole 93 = .ok (.aload_n 0, 1) := by decide +kernel
theorem dX11_whole_94 : decode cX11_whole 94 = .ok (.iconst 0, 1) := by decide +kernel
theorem dX11_whole_95 : decode cX11_whole 95 = .ok (.invokevirtual 311, 3) := by decide +kernel
theorem dX11_whole_98 : decode cX11_whole 98 = .ok (.ireturn, 1) := by decide +kernel
theorem dX11_whole_99 : decode cX11_whole 99 = .ok (.aload_n 0, 1) := by decide +kernel
theorem dX11_whole_100 : decode cX11_whole 100 = .ok (.iconst 1, 1) := by decide +kernel
theorem dX11_whole_101 : decode cX11_whole 101 = .ok (.invokevirtual 311, 3) := by decide +kernel
theorem dX11_whole_104 : decode cX11_whole 104 = .ok (.ireturn, 1) := by decide +kernel
theorem dX11_whole_105 : decode cX11_whole 105 = .ok (.aload_n 0, 1) := by decide +kernel
theorem dX11_whole_106 : decode cX11_whole 106 = .ok (.iconst 2, 1) := by decide +kernel
theorem dX11_whole_107 : decode cX11_whole 107 = .ok (.invokevirtual 311, 3) := by decide +kernel
theorem dX11_whole_110 : decode cX11_whole 110 = .ok (.ireturn, 1) := by decide +kernel
theorem dX11_whole_111 : decode cX11_whole 111 = .ok (.ldc 131, 2) := by decide +kernel
theorem dX11_whole_113 : decode cX11_whole 113 = .ok (.ireturn, 1) := by decide +kernel
theorem dX11_isTooMuch_0 : decode cX11_isTooMuch 0 = .ok (.lload_n 0, 1) := by decide +kernel
theorem dX11_isTooMuch_1 : decode cX11_isTooMuch 1 = .ok (.ldc2_w 314, 3) := by decide +kernel
theorem dX11_isTooMuch_4 : decode cX11_isTooMuch 4 = .ok (.lload_n 2, 1) := by decide +kernel
theorem dX11_isTooMuch_5 : decode cX11_isTooMuch 5 = .ok (.lsub, 1) := by decide +kernel
theorem dX11_isTooMuch_6 : decode cX11_isTooMuch 6 = .ok (.lcmp, 1) := by decide +kernel
theorem dX11_isTooMuch_7 : decode cX11_isTooMuch 7 = .ok (.ifCond .le 7, 3) := by decide +kernel
theorem dX11_isTooMuch_10 : decode cX11_isTooMuch 10 = .ok (.iconst 1, 1) := by decide +kernel
theorem dX11_isTooMuch_11 : decode cX11_isTooMuch 11 = .ok (.goto 4, 3) := by decide +kernel
theorem dX11_isTooMuch_14 : decode cX11_isTooMuch 14 = .ok (.iconst 0, 1) := by decide +kernel
theorem dX11_isTooMuch_15 : decode cX11_isTooMuch 15 = .ok (.ireturn, 1) := by decide +kernel
theorem dX11_goes_0 : decode cX11_goes 0 = .ok (.iconst 0, 1) := by decide +kernel
theorem dX11_goes_1 : decode cX11_goes 1 = .ok (.istore_n 1, 1) := by decide +kernel
theorem dX11_goes_2 : decode cX11_goes 2 = .ok (.iload_n 1, 1) := by decide +kernel
theorem dX11_goes_3 : decode cX11_goes 3 = .ok (.sipush 1024, 3) := by decide +kernel
theorem dX11_goes_6 : decode cX11_goes 6 = .ok (.if_icmp .ge 16, 3) := by decide +kernel
theorem dX11_goes_9 : decode cX11_goes 9 = .ok (.aload_n 0, 1) := by decide +kernel
theorem dX11_goes_10 : decode cX11_goes 10 = .ok (.getfield 78, 3) := by decide +kernel
theorem dX11_goes_13 : decode cX11_goes 13 = .ok (.iload_n 1, 1) := by decide +kernel
theorem dX11_goes_14 : decode cX11_goes 14 = .ok (.lconst 0, 1) := by decide +kernel
theorem dX11_goes_15 : decode cX11_goes 15 = .ok (.lastore, 1) := by decide +kernel
theorem dX11_goes_16 : decode cX11_goes 16 = .ok (.iinc 1 1, 3) := by decide +kernel
theorem dX11_goes_19 : decode cX11_goes 19 = .ok (.goto (-17), 3) := by decide +kernel
theorem dX11_goes_22 : decode cX11_goes 22 = .ok (.iconst 0, 1) := by decide +kernel
theorem dX11_goes_23 : decode cX11_goes 23 = .ok (.istore_n 1, 1) := by decide +kernel
theorem dX11_goes_24 : decode cX11_goes 24 = .ok (.iload_n 1, 1) := by decide +kernel
theorem dX11_goes_25 : decode cX11_goes 25 = .ok (.sipush 1024, 3) := by decide +kernel
theorem dX11_goes_28 : decode cX11_goes 28 = .ok (.if_icmp .ge 88, 3) := by decide +kernel
theorem dX11_goes_31 : decode cX11_goes 31 = .ok (.iconst 0, 1) := by decide +kernel
theorem dX11_goes_32 : decode cX11_goes 32 = .ok (.istore_n 2, 1) := by decide +kernel
theorem dX11_goes_33 : decode cX11_goes 33 = .ok (.iload_n 2, 1) := by decide +kernel
theorem dX11_goes_34 : decode cX11_goes 34 = .ok (.aload_n 0, 1) := by decide +kernel
theorem dX11_goes_35 : decode cX11_goes 35 = .ok (.getfield 85, 3) := by decide +kernel
theorem dX11_goes_38 : decode cX11_goes 38 = .ok (.if_icmp .ge 72, 3) := by decide +kernel
theorem dX11_goes_41 : decode cX11_goes 41 = .ok (.aload_n 0, 1) := by decide +kernel
theorem dX11_goes_42 : decode cX11_goes 42 = .ok (.getfield 74, 3) := by decide +kernel
theorem dX11_goes_45 : decode cX11_goes 45 = .ok (.iload_n 1, 1) := by decide +kernel
theorem dX11_goes_46 : decode cX11_goes 46 = .ok (.laload, 1) := by decide +kernel
theorem dX11_goes_47 : decode cX11_goes 47 = .ok (.lconst 0, 1) := by decide +kernel
theorem dX11_goes_48 : decode cX11_goes 48 = .ok (.lcmp, 1) := by decide +kernel
theorem dX11_goes_49 : decode cX11_goes 49 = .ok (.ifCond .le 61, 3) := by decide +kernel
theorem dX11_goes_52 : decode cX11_goes 52 = .ok (.aload_n 0, 1) := by decide +kernel
theorem dX11_goes_53 : decode cX11_goes 53 = .ok (.iload_n 2, 1) := by decide +kernel
theorem dX11_goes_54 : decode cX11_goes 54 = .ok (.iload_n 1, 1) := by decide +kernel
theorem dX11_goes_55 : decode cX11_goes 55 = .ok (.iconst (-1), 1) := by decide +kernel
theorem dX11_goes_56 : decode cX11_goes 56 = .ok (.invokevirtual 105, 3) := by decide +kernel
theorem dX11_goes_59 : decode cX11_goes 59 = .ok (.ifCond .eq 45, 3) := by decide +kernel
theorem dX11_goes_62 : decode cX11_goes 62 = .ok (.aload_n 0, 1) := by decide +kernel
theorem dX11_goes_63 : decode cX11_goes 63 = .ok (.iload_n 2, 1) := by decide +kernel
theorem dX11_goes_64 : decode cX11_goes 64 = .ok (.iload_n 1, 1) := by decide +kernel
theorem dX11_goes_65 : decode cX11_goes 65 = .ok (.invokevirtual 108, 3) := by decide +kernel
theorem dX11_goes_68 : decode cX11_goes 68 = .ok (.istore_n 3, 1) := by decide +kernel
theorem dX11_goes_69 : decode cX11_goes 69 = .ok (.aload_n 0, 1) := by decide +kernel
theorem dX11_goes_70 : decode cX11_goes 70 = .ok (.getfield 78, 3) := by decide +kernel
theorem dX11_goes_73 : decode cX11_goes 73 = .ok (.iload_n 3, 1) := by decide +kernel
theorem dX11_goes_74 : decode cX11_goes 74 = .ok (.laload, 1) := by decide +kernel
theorem dX11_goes_75 : decode cX11_goes 75 = .ok (.aload_n 0, 1) := by decide +kernel
theorem dX11_goes_76 : decode cX11_goes 76 = .ok (.getfield 74, 3) := by decide +kernel
theorem dX11_goes_79 : decode cX11_goes 79 = .ok (.iload_n 1, 1) := by decide +kernel
theorem dX11_goes_80 : decode cX11_goes 80 = .ok (.laload, 1) := by decide +kernel
theorem dX11_goes_81 : decode cX11_goes 81 = .ok (.invokestatic 316, 3) := by decide +kernel
theorem dX11_goes_84 : decode cX11_goes 84 = .ok (.ifCond .eq 5, 3) := by decide +kernel
theorem dX11_goes_87 : decode cX11_goes 87 = .ok (.iconst 0, 1) := by decide +kernel
theorem dX11_goes_88 : decode cX11_goes 88 = .ok (.ireturn, 1) := by decide +kernel
theorem dX11_goes_89 : decode cX11_goes 89 = .ok (.aload_n 0, 1) := by decide +kernel
theorem dX11_goes_90 : decode cX11_goes 90 = .ok (.getfield 78, 3) := by decide +kernel
theorem dX11_goes_93 : decode cX11_goes 93 = .ok (.iload_n 3, 1) := by decide +kernel
theorem dX11_goes_94 : decode cX11_goes 94 = .ok (.dup2, 1) := by decide +kernel
theorem dX11_goes_95 : decode cX11_goes 95 = .ok (.laload, 1) := by decide +kernel
theorem dX11_goes_96 : decode cX11_goes 96 = .ok (.aload_n 0, 1) := by decide +kernel
theorem dX11_goes_97 : decode cX11_goes 97 = .ok (.getfield 74, 3) := by decide +kernel
theorem dX11_goes_100 : decode cX11_goes 100 = .ok (.iload_n 1, 1) := by decide +kernel
theorem dX11_goes_101 : decode cX11_goes 101 = .ok (.laload, 1) := by decide +kernel
theorem dX11_goes_102 : decode cX11_goes 102 = .ok (.ladd, 1) := by decide +kernel
theorem dX11_goes_103 : decode cX11_goes 103 = .ok (.lastore, 1) := by decide +kernel
theorem dX11_goes_104 : decode cX11_goes 104 = .ok (.iinc 2 1, 3) := by decide +kernel
theorem dX11_goes_107 : decode cX11_goes 107 = .ok (.goto (-74), 3) := by decide +kernel
theorem dX11_goes_110 : decode cX11_goes 110 = .ok (.iinc 1 1, 3) := by decide +kernel
theorem dX11_goes_113 : decode cX11_goes 113 = .ok (.goto (-89), 3) := by decide +kernel
theorem dX11_goes_116 : decode cX11_goes 116 = .ok (.iconst 0, 1) := by decide +kernel
theorem dX11_goes_117 : decode cX11_goes 117 = .ok (.istore_n 1, 1) := by decide +kernel
theorem dX11_goes_118 : decode cX11_goes 118 = .ok (.iload_n 1, 1) := by decide +kernel
theorem dX11_goes_119 : decode cX11_goes 119 = .ok (.sipush 1024, 3) := by decide +kernel
theorem dX11_goes_122 : decode cX11_goes 122 = .ok (.if_icmp .ge 21, 3) := by decide +kernel
theorem dX11_goes_125 : decode cX11_goes 125 = .ok (.aload_n 0, 1) := by decide +kernel
theorem dX11_goes_126 : decode cX11_goes 126 = .ok (.getfield 74, 3) := by decide +kernel
theorem dX11_goes_129 : decode cX11_goes 129 = .ok (.iload_n 1, 1) := by decide +kernel
theorem dX11_goes_130 : decode cX11_goes 130 = .ok (.aload_n 0, 1) := by decide +kernel
theorem dX11_goes_131 : decode cX11_goes 131 = .ok (.getfield 78, 3) := by decide +kernel
theorem dX11_goes_134 : decode cX11_goes 134 = .ok (.iload_n 1, 1) := by decide +kernel
theorem dX11_goes_135 : decode cX11_goes 135 = .ok (.laload, 1) := by decide +kernel
theorem dX11_goes_136 : decode cX11_goes 136 = .ok (.lastore, 1) := by decide +kernel
theorem dX11_goes_137 : decode cX11_goes 137 = .ok (.iinc 1 1, 3) := by decide +kernel
theorem dX11_goes_140 : decode cX11_goes 140 = .ok (.goto (-22), 3) := by decide +kernel
theorem dX11_goes_143 : decode cX11_goes 143 = .ok (.iconst 1, 1) := by decide +kernel
theorem dX11_goes_144 : decode cX11_goes 144 = .ok (.ireturn, 1) := by decide +kernel
theorem dX11_rows_0 : decode cX11_rows 0 = .ok (.aload_n 0, 1) := by decide +kernel
theorem dX11_rows_1 : decode cX11_rows 1 = .ok (.iload_n 1, 1) := by decide +kernel
theorem dX11_rows_2 : decode cX11_rows 2 = .ok (.invokevirtual 250, 3) := by decide +kernel
theorem dX11_rows_5 : decode cX11_rows 5 = .ok (.ifCond .ne 7, 3) := by decide +kernel
theorem dX11_rows_8 : decode cX11_rows 8 = .ok (.ldc2_w 320, 3) := by decide +kernel
theorem dX11_rows_11 : decode cX11_rows 11 = .ok (.lreturn, 1) := by decide +kernel
theorem dX11_rows_12 : decode cX11_rows 12 = .ok (.iload_n 2, 1) := by decide +kernel
theorem dX11_rows_13 : decode cX11_rows 13 = .ok (.i2l, 1) := by decide +kernel
theorem dX11_rows_14 : decode cX11_rows 14 = .ok (.lconst 0, 1) := by decide +kernel
theorem dX11_rows_15 : decode cX11_rows 15 = .ok (.ldc2_w 322, 3) := by decide +kernel
theorem dX11_rows_18 : decode cX11_rows 18 = .ok (.invokestatic 88, 3) := by decide +kernel
theorem dX11_rows_21 : decode cX11_rows 21 = .ok (.ifCond .ne 7, 3) := by decide +kernel
theorem dX11_rows_24 : decode cX11_rows 24 = .ok (.ldc2_w 324, 3) := by decide +kernel
theorem dX11_rows_27 : decode cX11_rows 27 = .ok (.lreturn, 1) := by decide +kernel
theorem dX11_rows_28 : decode cX11_rows 28 = .ok (.iconst 0, 1) := by decide +kernel
theorem dX11_rows_29 : decode cX11_rows 29 = .ok (.istore_n 3, 1) := by decide +kernel
theorem dX11_rows_30 : decode cX11_rows 30 = .ok (.iload_n 3, 1) := by decide +kernel
theorem dX11_rows_31 : decode cX11_rows 31 = .ok (.sipush 1024, 3) := by decide +kernel
theorem dX11_rows_34 : decode cX11_rows 34 = .ok (.if_icmp .ge 28, 3) := by decide +kernel
theorem dX11_rows_37 : decode cX11_rows 37 = .ok (.aload_n 0, 1) := by decide +kernel
theorem dX11_rows_38 : decode cX11_rows 38 = .ok (.getfield 74, 3) := by decide +kernel
theorem dX11_rows_41 : decode cX11_rows 41 = .ok (.iload_n 3, 1) := by decide +kernel
theorem dX11_rows_42 : decode cX11_rows 42 = .ok (.iload_n 3, 1) := by decide +kernel
theorem dX11_rows_43 : decode cX11_rows 43 = .ok (.aload_n 0, 1) := by decide +kernel
theorem dX11_rows_44 : decode cX11_rows 44 = .ok (.invokevirtual 118, 3) := by decide +kernel
theorem dX11_rows_47 : decode cX11_rows 47 = .ok (.if_icmp .ne 7, 3) := by decide +kernel
theorem dX11_rows_50 : decode cX11_rows 50 = .ok (.lconst 1, 1) := by decide +kernel
theorem dX11_rows_51 : decode cX11_rows 51 = .ok (.goto 4, 3) := by decide +kernel
theorem dX11_rows_54 : decode cX11_rows 54 = .ok (.lconst 0, 1) := by decide +kernel
theorem dX11_rows_55 : decode cX11_rows 55 = .ok (.lastore, 1) := by decide +kernel
theorem dX11_rows_56 : decode cX11_rows 56 = .ok (.iinc 3 1, 3) := by decide +kernel
theorem dX11_rows_59 : decode cX11_rows 59 = .ok (.goto (-29), 3) := by decide +kernel
theorem dX11_rows_62 : decode cX11_rows 62 = .ok (.iconst 0, 1) := by decide +kernel
theorem dX11_rows_63 : decode cX11_rows 63 = .ok (.istore_n 3, 1) := by decide +kernel
theorem dX11_rows_64 : decode cX11_rows 64 = .ok (.iload_n 3, 1) := by decide +kernel
theorem dX11_rows_65 : decode cX11_rows 65 = .ok (.iload_n 2, 1) := by decide +kernel
theorem dX11_rows_66 : decode cX11_rows 66 = .ok (.if_icmp .ge 20, 3) := by decide +kernel
theorem dX11_rows_69 : decode cX11_rows 69 = .ok (.aload_n 0, 1) := by decide +kernel
theorem dX11_rows_70 : decode cX11_rows 70 = .ok (.invokevirtual 326, 3) := by decide +kernel
theorem dX11_rows_73 : decode cX11_rows 73 = .ok (.ifCond .ne 7, 3) := by decide +kernel
theorem dX11_rows_76 : decode cX11_rows 76 = .ok (.ldc2_w 329, 3) := by decide +kernel
theorem dX11_rows_79 : decode cX11_rows 79 = .ok (.lreturn, 1) := by decide +kernel
theorem dX11_rows_80 : decode cX11_rows 80 = .ok (.iinc 3 1, 3) := by decide +kernel
theorem dX11_rows_83 : decode cX11_rows 83 = .ok (.goto (-19), 3) := by decide +kernel
theorem dX11_rows_86 : decode cX11_rows 86 = .ok (.lconst 0, 1) := by decide +kernel
theorem dX11_rows_87 : decode cX11_rows 87 = .ok (.lstore_n 3, 1) := by decide +kernel
theorem dX11_rows_88 : decode cX11_rows 88 = .ok (.bipush 64, 2) := by decide +kernel
theorem dX11_rows_90 : decode cX11_rows 90 = .ok (.iload_n 1, 1) := by decide +kernel
theorem dX11_rows_91 : decode cX11_rows 91 = .ok (.imul, 1) := by decide +kernel
theorem dX11_rows_92 : decode cX11_rows 92 = .ok (.istore 5, 2) := by decide +kernel
theorem dX11_rows_94 : decode cX11_rows 94 = .ok (.iload 5, 2) := by decide +kernel
theorem dX11_rows_96 : decode cX11_rows 96 = .ok (.bipush 64, 2) := by decide +kernel
theorem dX11_rows_98 : decode cX11_rows 98 = .ok (.iload_n 1, 1) := by decide +kernel
theorem dX11_rows_99 : decode cX11_rows 99 = .ok (.imul, 1) := by decide +kernel
theorem dX11_rows_100 : decode cX11_rows 100 = .ok (.bipush 64, 2) := by decide +kernel
theorem dX11_rows_102 : decode cX11_rows 102 = .ok (.iadd, 1) := by decide +kernel
theorem dX11_rows_103 : decode cX11_rows 103 = .ok (.if_icmp .ge 37, 3) := by decide +kernel
theorem dX11_rows_106 : decode cX11_rows 106 = .ok (.lload_n 3, 1) := by decide +kernel
theorem dX11_rows_107 : decode cX11_rows 107 = .ok (.aload_n 0, 1) := by decide +kernel
theorem dX11_rows_108 : decode cX11_rows 108 = .ok (.getfield 74, 3) := by decide +kernel
theorem dX11_rows_111 : decode cX11_rows 111 = .ok (.iload 5, 2) := by decide +kernel
theorem dX11_rows_113 : decode cX11_rows 113 = .ok (.laload, 1) := by decide +kernel
theorem dX11_rows_114 : decode cX11_rows 114 = .ok (.invokestatic 316, 3) := by decide +kernel
theorem dX11_rows_117 : decode cX11_rows 117 = .ok (.ifCond .eq 7, 3) := by decide +kernel
theorem dX11_rows_120 : decode cX11_rows 120 = .ok (.ldc2_w 329, 3) := by decide +kernel
theorem dX11_rows_123 : decode cX11_rows 123 = .ok (.lreturn, 1) := by decide +kernel
theorem dX11_rows_124 : decode cX11_rows 124 = .ok (.lload_n 3, 1) := by decide +kernel
theorem dX11_rows_125 : decode cX11_rows 125 = .ok (.aload_n 0, 1) := by decide +kernel
theorem dX11_rows_126 : decode cX11_rows 126 = .ok (.getfield 74, 3) := by decide +kernel
theorem dX11_rows_129 : decode cX11_rows 129 = .ok (.iload 5, 2) := by decide +kernel
theorem dX11_rows_131 : decode cX11_rows 131 = .ok (.laload, 1) := by decide +kernel
theorem dX11_rows_132 : decode cX11_rows 132 = .ok (.ladd, 1) := by decide +kernel
theorem dX11_rows_133 : decode cX11_rows 133 = .ok (.lstore_n 3, 1) := by decide +kernel
theorem dX11_rows_134 : decode cX11_rows 134 = .ok (.iinc 5 1, 3) := by decide +kernel
theorem dX11_rows_137 : decode cX11_rows 137 = .ok (.goto (-43), 3) := by decide +kernel
theorem dX11_rows_140 : decode cX11_rows 140 = .ok (.lload_n 3, 1) := by decide +kernel
theorem dX11_rows_141 : decode cX11_rows 141 = .ok (.lreturn, 1) := by decide +kernel
theorem dJ6_bitCount_0f7a4_0 : decode cJ6_bitCount_0f7a4 0 = .ok (.iload_n 0, 1) := by decide +kernel
theorem dJ6_bitCount_0f7a4_1 : decode cJ6_bitCount_0f7a4 1 = .ok (.iload_n 0, 1) := by decide +kernel
theorem dJ6_bitCount_0f7a4_2 : decode cJ6_bitCount_0f7a4 2 = .ok (.iconst 1, 1) := by decide +kernel
theorem dJ6_bitCount_0f7a4_3 : decode cJ6_bitCount_0f7a4 3 = .ok (.iushr, 1) := by decide +kernel
theorem dJ6_bitCount_0f7a4_4 : decode cJ6_bitCount_0f7a4 4 = .ok (.ldc_w 265, 3) := by decide +kernel
theorem dJ6_bitCount_0f7a4_7 : decode cJ6_bitCount_0f7a4 7 = .ok (.iand, 1) := by decide +kernel
theorem dJ6_bitCount_0f7a4_8 : decode cJ6_bitCount_0f7a4 8 = .ok (.isub, 1) := by decide +kernel
theorem dJ6_bitCount_0f7a4_9 : decode cJ6_bitCount_0f7a4 9 = .ok (.istore_n 0, 1) := by decide +kernel
theorem dJ6_bitCount_0f7a4_10 : decode cJ6_bitCount_0f7a4 10 = .ok (.iload_n 0, 1) := by decide +kernel
theorem dJ6_bitCount_0f7a4_11 : decode cJ6_bitCount_0f7a4 11 = .ok (.ldc_w 266, 3) := by decide +kernel
theorem dJ6_bitCount_0f7a4_14 : decode cJ6_bitCount_0f7a4 14 = .ok (.iand, 1) := by decide +kernel
theorem dJ6_bitCount_0f7a4_15 : decode cJ6_bitCount_0f7a4 15 = .ok (.iload_n 0, 1) := by decide +kernel
theorem dJ6_bitCount_0f7a4_16 : decode cJ6_bitCount_0f7a4 16 = .ok (.iconst 2, 1) := by decide +kernel
theorem dJ6_bitCount_0f7a4_17 : decode cJ6_bitCount_0f7a4 17 = .ok (.iushr, 1) := by decide +kernel
theorem dJ6_bitCount_0f7a4_18 : decode cJ6_bitCount_0f7a4 18 = .ok (.ldc_w 266, 3) := by decide +kernel
theorem dJ6_bitCount_0f7a4_21 : decode cJ6_bitCount_0f7a4 21 = .ok (.iand, 1) := by decide +kernel
theorem dJ6_bitCount_0f7a4_22 : decode cJ6_bitCount_0f7a4 22 = .ok (.iadd, 1) := by decide +kernel
theorem dJ6_bitCount_0f7a4_23 : decode cJ6_bitCount_0f7a4 23 = .ok (.istore_n 0, 1) := by decide +kernel
theorem dJ6_bitCount_0f7a4_24 : decode cJ6_bitCount_0f7a4 24 = .ok (.iload_n 0, 1) := by decide +kernel
theorem dJ6_bitCount_0f7a4_25 : decode cJ6_bitCount_0f7a4 25 = .ok (.iload_n 0, 1) := by decide +kernel
theorem dJ6_bitCount_0f7a4_26 : decode cJ6_bitCount_0f7a4 26 = .ok (.iconst 4, 1) := by decide +kernel
theorem dJ6_bitCount_0f7a4_27 : decode cJ6_bitCount_0f7a4 27 = .ok (.iushr, 1) := by decide +kernel
theorem dJ6_bitCount_0f7a4_28 : decode cJ6_bitCount_0f7a4 28 = .ok (.iadd, 1) := by decide +kernel
theorem dJ6_bitCount_0f7a4_29 : decode cJ6_bitCount_0f7a4 29 = .ok (.ldc_w 267, 3) := by decide +kernel
theorem dJ6_bitCount_0f7a4_32 : decode cJ6_bitCount_0f7a4 32 = .ok (.iand, 1) := by decide +kernel
theorem dJ6_bitCount_0f7a4_33 : decode cJ6_bitCount_0f7a4 33 = .ok (.istore_n 0, 1) := by decide +kernel
theorem dJ6_bitCount_0f7a4_34 : decode cJ6_bitCount_0f7a4 34 = .ok (.iload_n 0, 1) := by decide +kernel
theorem dJ6_bitCount_0f7a4_35 : decode cJ6_bitCount_0f7a4 35 = .ok (.iload_n 0, 1) := by decide +kernel
theorem dJ6_bitCount_0f7a4_36 : decode cJ6_bitCount_0f7a4 36 = .ok (.bipush 8, 2) := by decide +kernel
theorem dJ6_bitCount_0f7a4_38 : decode cJ6_bitCount_0f7a4 38 = .ok (.iushr, 1) := by decide +kernel
theorem dJ6_bitCount_0f7a4_39 : decode cJ6_bitCount_0f7a4 39 = .ok (.iadd, 1) := by decide +kernel
theorem dJ6_bitCount_0f7a4_40 : decode cJ6_bitCount_0f7a4 40 = .ok (.istore_n 0, 1) := by decide +kernel
theorem dJ6_bitCount_0f7a4_41 : decode cJ6_bitCount_0f7a4 41 = .ok (.iload_n 0, 1) := by decide +kernel
theorem dJ6_bitCount_0f7a4_42 : decode cJ6_bitCount_0f7a4 42 = .ok (.iload_n 0, 1) := by decide +kernel
theorem dJ6_bitCount_0f7a4_43 : decode cJ6_bitCount_0f7a4 43 = .ok (.bipush 16, 2) := by decide +kernel
theorem dJ6_bitCount_0f7a4_45 : decode cJ6_bitCount_0f7a4 45 = .ok (.iushr, 1) := by decide +kernel
theorem dJ6_bitCount_0f7a4_46 : decode cJ6_bitCount_0f7a4 46 = .ok (.iadd, 1) := by decide +kernel
theorem dJ6_bitCount_0f7a4_47 : decode cJ6_bitCount_0f7a4 47 = .ok (.istore_n 0, 1) := by decide +kernel
theorem dJ6_bitCount_0f7a4_48 : decode cJ6_bitCount_0f7a4 48 = .ok (.iload_n 0, 1) := by decide +kernel
theorem dJ6_bitCount_0f7a4_49 : decode cJ6_bitCount_0f7a4 49 = .ok (.bipush 63, 2) := by decide +kernel
theorem dJ6_bitCount_0f7a4_51 : decode cJ6_bitCount_0f7a4 51 = .ok (.iand, 1) := by decide +kernel
theorem dJ6_bitCount_0f7a4_52 : decode cJ6_bitCount_0f7a4 52 = .ok (.ireturn, 1) := by decide +kernel
theorem dJ9_max_7cf53_0 : decode cJ9_max_7cf53 0 = .ok (.iload_n 0, 1) := by decide +kernel
theorem dJ9_max_7cf53_1 : decode cJ9_max_7cf53 1 = .ok (.iload_n 1, 1) := by decide +kernel
theorem dJ9_max_7cf53_2 : decode cJ9_max_7cf53 2 = .ok (.if_icmp .lt 7, 3) := by decide +kernel
theorem dJ9_max_7cf53_5 : decode cJ9_max_7cf53 5 = .ok (.iload_n 0, 1) := by decide +kernel
theorem dJ9_max_7cf53_6 : decode cJ9_max_7cf53 6 = .ok (.goto 4, 3) := by decide +kernel
theorem dJ9_max_7cf53_9 : decode cJ9_max_7cf53 9 = .ok (.iload_n 1, 1) := by decide +kernel
theorem dJ9_max_7cf53_10 : decode cJ9_max_7cf53 10 = .ok (.ireturn, 1) := by decide +kernel
theorem dJ9_min_7cf53_0 : decode cJ9_min_7cf53 0 = .ok (.iload_n 0, 1) := by decide +kernel
theorem dJ9_min_7cf53_1 : decode cJ9_min_7cf53 1 = .ok (.iload_n 1, 1) := by decide +kernel
theorem dJ9_min_7cf53_2 : decode cJ9_min_7cf53 2 = .ok (.if_icmp .gt 7, 3) := by decide +kernel
theorem dJ9_min_7cf53_5 : decode cJ9_min_7cf53 5 = .ok (.iload_n 0, 1) := by decide +kernel
theorem dJ9_min_7cf53_6 : decode cJ9_min_7cf53 6 = .ok (.goto 4, 3) := by decide +kernel
theorem dJ9_min_7cf53_9 : decode cJ9_min_7cf53 9 = .ok (.iload_n 1, 1) := by decide +kernel
theorem dJ9_min_7cf53_10 : decode cJ9_min_7cf53 10 = .ok (.ireturn, 1) := by decide +kernel
theorem dJ7_fill_d0a16_0 : decode cJ7_fill_d0a16 0 = .ok (.iconst 0, 1) := by decide +kernel
theorem dJ7_fill_d0a16_1 : decode cJ7_fill_d0a16 1 = .ok (.istore_n 3, 1) := by decide +kernel
theorem dJ7_fill_d0a16_2 : decode cJ7_fill_d0a16 2 = .ok (.aload_n 0, 1) := by decide +kernel
theorem dJ7_fill_d0a16_3 : decode cJ7_fill_d0a16 3 = .ok (.arraylength, 1) := by decide +kernel
theorem dJ7_fill_d0a16_4 : decode cJ7_fill_d0a16 4 = .ok (.istore 4, 2) := by decide +kernel
theorem dJ7_fill_d0a16_6 : decode cJ7_fill_d0a16 6 = .ok (.iload_n 3, 1) := by decide +kernel
theorem dJ7_fill_d0a16_7 : decode cJ7_fill_d0a16 7 = .ok (.iload 4, 2) := by decide +kernel
theorem dJ7_fill_d0a16_9 : decode cJ7_fill_d0a16 9 = .ok (.if_icmp .ge 13, 3) := by decide +kernel
theorem dJ7_fill_d0a16_12 : decode cJ7_fill_d0a16 12 = .ok (.aload_n 0, 1) := by decide +kernel
theorem dJ7_fill_d0a16_13 : decode cJ7_fill_d0a16 13 = .ok (.iload_n 3, 1) := by decide +kernel
theorem dJ7_fill_d0a16_14 : decode cJ7_fill_d0a16 14 = .ok (.lload_n 1, 1) := by decide +kernel
theorem dJ7_fill_d0a16_15 : decode cJ7_fill_d0a16 15 = .ok (.lastore, 1) := by decide +kernel
theorem dJ7_fill_d0a16_16 : decode cJ7_fill_d0a16 16 = .ok (.iinc 3 1, 3) := by decide +kernel
theorem dJ7_fill_d0a16_19 : decode cJ7_fill_d0a16 19 = .ok (.goto (-13), 3) := by decide +kernel
theorem dJ7_fill_d0a16_22 : decode cJ7_fill_d0a16 22 = .ok (.return_, 1) := by decide +kernel
theorem dJ7_fill_53178_0 : decode cJ7_fill_53178 0 = .ok (.iconst 0, 1) := by decide +kernel
theorem dJ7_fill_53178_1 : decode cJ7_fill_53178 1 = .ok (.istore_n 2, 1) := by decide +kernel
theorem dJ7_fill_53178_2 : decode cJ7_fill_53178 2 = .ok (.aload_n 0, 1) := by decide +kernel
theorem dJ7_fill_53178_3 : decode cJ7_fill_53178 3 = .ok (.arraylength, 1) := by decide +kernel
theorem dJ7_fill_53178_4 : decode cJ7_fill_53178 4 = .ok (.istore_n 3, 1) := by decide +kernel
theorem dJ7_fill_53178_5 : decode cJ7_fill_53178 5 = .ok (.iload_n 2, 1) := by decide +kernel
theorem dJ7_fill_53178_6 : decode cJ7_fill_53178 6 = .ok (.iload_n 3, 1) := by decide +kernel
theorem dJ7_fill_53178_7 : decode cJ7_fill_53178 7 = .ok (.if_icmp .ge 13, 3) := by decide +kernel
theorem dJ7_fill_53178_10 : decode cJ7_fill_53178 10 = .ok (.aload_n 0, 1) := by decide +kernel
theorem dJ7_fill_53178_11 : decode cJ7_fill_53178 11 = .ok (.iload_n 2, 1) := by decide +kernel
theorem dJ7_fill_53178_12 : decode cJ7_fill_53178 12 = .ok (.iload_n 1, 1) := by decide +kernel
theorem dJ7_fill_53178_13 : decode cJ7_fill_53178 13 = .ok (.iastore, 1) := by decide +kernel
theorem dJ7_fill_53178_14 : decode cJ7_fill_53178 14 = .ok (.iinc 2 1, 3) := by decide +kernel
theorem dJ7_fill_53178_17 : decode cJ7_fill_53178 17 = .ok (.goto (-12), 3) := by decide +kernel
theorem dJ7_fill_53178_20 : decode cJ7_fill_53178 20 = .ok (.return_, 1) := by decide +kernel
theorem dJ7_fill_49daa_0 : decode cJ7_fill_49daa 0 = .ok (.iconst 0, 1) := by decide +kernel
theorem dJ7_fill_49daa_1 : decode cJ7_fill_49daa 1 = .ok (.istore_n 2, 1) := by decide +kernel
theorem dJ7_fill_49daa_2 : decode cJ7_fill_49daa 2 = .ok (.aload_n 0, 1) := by decide +kernel
theorem dJ7_fill_49daa_3 : decode cJ7_fill_49daa 3 = .ok (.arraylength, 1) := by decide +kernel
theorem dJ7_fill_49daa_4 : decode cJ7_fill_49daa 4 = .ok (.istore_n 3, 1) := by decide +kernel
theorem dJ7_fill_49daa_5 : decode cJ7_fill_49daa 5 = .ok (.iload_n 2, 1) := by decide +kernel
theorem dJ7_fill_49daa_6 : decode cJ7_fill_49daa 6 = .ok (.iload_n 3, 1) := by decide +kernel
theorem dJ7_fill_49daa_7 : decode cJ7_fill_49daa 7 = .ok (.if_icmp .ge 13, 3) := by decide +kernel
theorem dJ7_fill_49daa_10 : decode cJ7_fill_49daa 10 = .ok (.aload_n 0, 1) := by decide +kernel
theorem dJ7_fill_49daa_11 : decode cJ7_fill_49daa 11 = .ok (.iload_n 2, 1) := by decide +kernel
theorem dJ7_fill_49daa_12 : decode cJ7_fill_49daa 12 = .ok (.iload_n 1, 1) := by decide +kernel
theorem dJ7_fill_49daa_13 : decode cJ7_fill_49daa 13 = .ok (.bastore, 1) := by decide +kernel
theorem dJ7_fill_49daa_14 : decode cJ7_fill_49daa 14 = .ok (.iinc 2 1, 3) := by decide +kernel
theorem dJ7_fill_49daa_17 : decode cJ7_fill_49daa 17 = .ok (.goto (-12), 3) := by decide +kernel
theorem dJ7_fill_49daa_20 : decode cJ7_fill_49daa 20 = .ok (.return_, 1) := by decide +kernel
theorem dL_law_0 : decode code 0 = .ok (.new 7, 3) := by decide +kernel
theorem dL_law_3 : decode code 3 = .ok (.dup, 1) := by decide +kernel
theorem dL_law_4 : decode code 4 = .ok (.invokespecial 9, 3) := by decide +kernel
theorem dL_law_7 : decode code 7 = .ok (.astore_n 1, 1) := by decide +kernel
theorem dL_law_8 : decode code 8 = .ok (.new 10, 3) := by decide +kernel
theorem dL_law_11 : decode code 11 = .ok (.dup, 1) := by decide +kernel
theorem dL_law_12 : decode code 12 = .ok (.invokespecial 12, 3) := by decide +kernel
theorem dL_law_15 : decode code 15 = .ok (.astore_n 2, 1) := by decide +kernel
theorem dL_law_16 : decode code 16 = .ok (.iconst 0, 1) := by decide +kernel
theorem dL_law_17 : decode code 17 = .ok (.istore_n 3, 1) := by decide +kernel
theorem dL_law_18 : decode code 18 = .ok (.iload_n 3, 1) := by decide +kernel
theorem dL_law_19 : decode code 19 = .ok (.aload_n 0, 1) := by decide +kernel
theorem dL_law_20 : decode code 20 = .ok (.arraylength, 1) := by decide +kernel
theorem dL_law_21 : decode code 21 = .ok (.iconst 3, 1) := by decide +kernel
theorem dL_law_22 : decode code 22 = .ok (.isub, 1) := by decide +kernel
theorem dL_law_23 : decode code 23 = .ok (.if_icmp .gt 686, 3) := by decide +kernel
theorem dL_law_26 : decode code 26 = .ok (.aload_n 0, 1) := by decide +kernel
theorem dL_law_27 : decode code 27 = .ok (.iload_n 3, 1) := by decide +kernel
theorem dL_law_28 : decode code 28 = .ok (.iaload, 1) := by decide +kernel
theorem dL_law_29 : decode code 29 = .ok (.bipush 31, 2) := by decide +kernel
theorem dL_law_31 : decode code 31 = .ok (.iand, 1) := by decide +kernel
theorem dL_law_32 : decode code 32 = .ok (.tableswitch 671 0 21 #[104, 127, 140, 153, 176, 199, 222, 255, 288, 301, 334, 357, 380, 413, 446, 479, 502, 535, 558, 581, 614, 637], 104) := by decide +kernel
theorem dL_law_136 : decode code 136 = .ok (.aload_n 1, 1) := by decide +kernel
theorem dL_law_137 : decode code 137 = .ok (.aload_n 0, 1) := by decide +kernel
theorem dL_law_138 : decode code 138 = .ok (.iload_n 3, 1) := by decide +kernel
theorem dL_law_139 : decode code 139 = .ok (.iconst 1, 1) := by decide +kernel
theorem dL_law_140 : decode code 140 = .ok (.iadd, 1) := by decide +kernel
theorem dL_law_141 : decode code 141 = .ok (.iaload, 1) := by decide +kernel
theorem dL_law_142 : decode code 142 = .ok (.invokevirtual 13, 3) := by decide +kernel
theorem dL_law_145 : decode code 145 = .ok (.aload_n 2, 1) := by decide +kernel
theorem dL_law_146 : decode code 146 = .ok (.aload_n 0, 1) := by decide +kernel
theorem dL_law_147 : decode code 147 = .ok (.iload_n 3, 1) := by decide +kernel
theorem dL_law_148 : decode code 148 = .ok (.iconst 1, 1) := by decide +kernel
theorem dL_law_149 : decode code 149 = .ok (.iadd, 1) := by decide +kernel
theorem dL_law_150 : decode code 150 = .ok (.iaload, 1) := by decide +kernel
theorem dL_law_151 : decode code 151 = .ok (.invokevirtual 17, 3) := by decide +kernel
theorem dL_law_154 : decode code 154 = .ok (.if_icmp .eq 549, 3) := by decide +kernel
theorem dL_law_157 : decode code 157 = .ok (.iconst 0, 1) := by decide +kernel
theorem dL_law_158 : decode code 158 = .ok (.ireturn, 1) := by decide +kernel
theorem dL_law_159 : decode code 159 = .ok (.aload_n 1, 1) := by decide +kernel
theorem dL_law_160 : decode code 160 = .ok (.invokevirtual 18, 3) := by decide +kernel
theorem dL_law_163 : decode code 163 = .ok (.aload_n 2, 1) := by decide +kernel
theorem dL_law_164 : decode code 164 = .ok (.invokevirtual 22, 3) := by decide +kernel
theorem dL_law_167 : decode code 167 = .ok (.if_icmp .eq 536, 3) := by decide +kernel
theorem dL_law_170 : decode code 170 = .ok (.iconst 0, 1) := by decide +kernel
theorem dL_law_171 : decode code 171 = .ok (.ireturn, 1) := by decide +kernel
theorem dL_law_172 : decode code 172 = .ok (.aload_n 1, 1) := by decide +kernel
theorem dL_law_173 : decode code 173 = .ok (.invokevirtual 23, 3) := by decide +kernel
theorem dL_law_176 : decode code 176 = .ok (.aload_n 2, 1) := by decide +kernel
theorem dL_law_177 : decode code 177 = .ok (.invokevirtual 26, 3) := by decide +kernel
theorem dL_law_180 : decode code 180 = .ok (.if_icmp .eq 523, 3) := by decide +kernel
theorem dL_law_183 : decode code 183 = .ok (.iconst 0, 1) := by decide +kernel
theorem dL_law_184 : decode code 184 = .ok (.ireturn, 1) := by decide +kernel
theorem dL_law_185 : decode code 185 = .ok (.aload_n 1, 1) := by decide +kernel
theorem dL_law_186 : decode code 186 = .ok (.aload_n 0, 1) := by decide +kernel
theorem dL_law_187 : decode code 187 = .ok (.iload_n 3, 1) := by decide +kernel
theorem dL_law_188 : decode code 188 = .ok (.iconst 1, 1) := by decide +kernel
theorem dL_law_189 : decode code 189 = .ok (.iadd, 1) := by decide +kernel
theorem dL_law_190 : decode code 190 = .ok (.iaload, 1) := by decide +kernel
theorem dL_law_191 : decode code 191 = .ok (.invokevirtual 27, 3) := by decide +kernel
theorem dL_law_194 : decode code 194 = .ok (.aload_n 2, 1) := by decide +kernel
theorem dL_law_195 : decode code 195 = .ok (.aload_n 0, 1) := by decide +kernel
theorem dL_law_196 : decode code 196 = .ok (.iload_n 3, 1) := by decide +kernel
theorem dL_law_197 : decode code 197 = .ok (.iconst 1, 1) := by decide +kernel
theorem dL_law_198 : decode code 198 = .ok (.iadd, 1) := by decide +kernel
theorem dL_law_199 : decode code 199 = .ok (.iaload, 1) := by decide +kernel
theorem dL_law_200 : decode code 200 = .ok (.invokevirtual 30, 3) := by decide +kernel
theorem dL_law_203 : decode code 203 = .ok (.if_icmp .eq 500, 3) := by decide +kernel
theorem dL_law_206 : decode code 206 = .ok (.iconst 0, 1) := by decide +kernel
theorem dL_law_207 : decode code 207 = .ok (.ireturn, 1) := by decide +kernel
theorem dL_law_208 : decode code 208 = .ok (.aload_n 1, 1) := by decide +kernel
theorem dL_law_209 : decode code 209 = .ok (.aload_n 0, 1) := by decide +kernel
theorem dL_law_210 : decode code 210 = .ok (.iload_n 3, 1) := by decide +kernel
theorem dL_law_211 : decode code 211 = .ok (.iconst 1, 1) := by decide +kernel
theorem dL_law_212 : decode code 212 = .ok (.iadd, 1) := by decide +kernel
theorem dL_law_213 : decode code 213 = .ok (.iaload, 1) := by decide +kernel
theorem dL_law_214 : decode code 214 = .ok (.invokevirtual 31, 3) := by decide +kernel
theorem dL_law_217 : decode code 217 = .ok (.aload_n 2, 1) := by decide +kernel
theorem dL_law_218 : decode code 218 = .ok (.aload_n 0, 1) := by decide +kernel
theorem dL_law_219 : decode code 219 = .ok (.iload_n 3, 1) := by decide +kernel
theorem dL_law_220 : decode code 220 = .ok (.iconst 1, 1) := by decide +kernel
theorem dL_law_221 : decode code 221 = .ok (.iadd, 1) := by decide +kernel
theorem dL_law_222 : decode code 222 = .ok (.iaload, 1) := by decide +kernel
theorem dL_law_223 : decode code 223 = .ok (.invokevirtual 34, 3) := by decide +kernel
theorem dL_law_226 : decode code 226 = .ok (.if_icmp .eq 477, 3) := by decide +kernel
theorem dL_law_229 : decode code 229 = .ok (.iconst 0, 1) := by decide +kernel
theorem dL_law_230 : decode code 230 = .ok (.ireturn, 1) := by decide +kernel
theorem dL_law_231 : decode code 231 = .ok (.aload_n 1, 1) := by decide +kernel
theorem dL_law_232 : decode code 232 = .ok (.aload_n 0, 1) := by decide +kernel
theorem dL_law_233 : decode code 233 = .ok (.iload_n 3, 1) := by decide +kernel
theorem dL_law_234 : decode code 234 = .ok (.iconst 1, 1) := by decide +kernel
theorem dL_law_235 : decode code 235 = .ok (.iadd, 1) := by decide +kernel
theorem dL_law_236 : decode code 236 = .ok (.iaload, 1) := by decide +kernel
theorem dL_law_237 : decode code 237 = .ok (.invokevirtual 35, 3) := by decide +kernel
theorem dL_law_240 : decode code 240 = .ok (.aload_n 2, 1) := by decide +kernel
theorem dL_law_241 : decode code 241 = .ok (.aload_n 0, 1) := by decide +kernel
theorem dL_law_242 : decode code 242 = .ok (.iload_n 3, 1) := by decide +kernel
theorem dL_law_243 : decode code 243 = .ok (.iconst 1, 1) := by decide +kernel
theorem dL_law_244 : decode code 244 = .ok (.iadd, 1) := by decide +kernel
theorem dL_law_245 : decode code 245 = .ok (.iaload, 1) := by decide +kernel
theorem dL_law_246 : decode code 246 = .ok (.invokevirtual 38, 3) := by decide +kernel
theorem dL_law_249 : decode code 249 = .ok (.if_icmp .eq 454, 3) := by decide +kernel
theorem dL_law_252 : decode code 252 = .ok (.iconst 0, 1) := by decide +kernel
theorem dL_law_253 : decode code 253 = .ok (.ireturn, 1) := by decide +kernel
theorem dL_law_254 : decode code 254 = .ok (.aload_n 1, 1) := by decide +kernel
theorem dL_law_255 : decode code 255 = .ok (.aload_n 0, 1) := by decide +kernel
theorem dL_law_256 : decode code 256 = .ok (.iload_n 3, 1) := by decide +kernel
theorem dL_law_257 : decode code 257 = .ok (.iconst 1, 1) := by decide +kernel
theorem dL_law_258 : decode code 258 = .ok (.iadd, 1) := by decide +kernel
theorem dL_law_259 : decode code 259 = .ok (.iaload, 1) := by decide +kernel
theorem dL_law_260 : decode code 260 = .ok (.aload_n 0, 1) := by decide +kernel
theorem dL_law_261 : decode code 261 = .ok (.iload_n 3, 1) := by decide +kernel
theorem dL_law_262 : decode code 262 = .ok (.iconst 2, 1) := by decide +kernel
theorem dL_law_263 : decode code 263 = .ok (.iadd, 1) := by decide +kernel
theorem dL_law_264 : decode code 264 = .ok (.iaload, 1) := by decide +kernel
theorem dL_law_265 : decode code 265 = .ok (.invokevirtual 39, 3) := by decide +kernel
theorem dL_law_268 : decode code 268 = .ok (.aload_n 2, 1) := by decide +kernel
theorem dL_law_269 : decode code 269 = .ok (.aload_n 0, 1) := by decide +kernel
theorem dL_law_270 : decode code 270 = .ok (.iload_n 3, 1) := by decide +kernel
theorem dL_law_271 : decode code 271 = .ok (.iconst 1, 1) := by decide +kernel
theorem dL_law_272 : decode code 272 = .ok (.iadd, 1) := by decide +kernel
theorem dL_law_273 : decode code 273 = .ok (.iaload, 1) := by decide +kernel
theorem dL_law_274 : decode code 274 = .ok (.aload_n 0, 1) := by decide +kernel
theorem dL_law_275 : decode code 275 = .ok (.iload_n 3, 1) := by decide +kernel
theorem dL_law_276 : decode code 276 = .ok (.iconst 2, 1) := by decide +kernel
theorem dL_law_277 : decode code 277 = .ok (.iadd, 1) := by decide +kernel
theorem dL_law_278 : decode code 278 = .ok (.iaload, 1) := by decide +kernel
theorem dL_law_279 : decode code 279 = .ok (.invokevirtual 43, 3) := by decide +kernel
theorem dL_law_282 : decode code 282 = .ok (.if_icmp .eq 421, 3) := by decide +kernel
theorem dL_law_285 : decode code 285 = .ok (.iconst 0, 1) := by decide +kernel
theorem dL_law_286 : decode code 286 = .ok (.ireturn, 1) := by decide +kernel
theorem dL_law_287 : decode code 287 = .ok (.aload_n 1, 1) := by decide +kernel
theorem dL_law_288 : decode code 288 = .ok (.aload_n 0, 1) := by decide +kernel
theorem dL_law_289 : decode code 289 = .ok (.iload_n 3, 1) := by decide +kernel
theorem dL_law_290 : decode code 290 = .ok (.iconst 1, 1) := by decide +kernel
theorem dL_law_291 : decode code 291 = .ok (.iadd, 1) := by decide +kernel
theorem dL_law_292 : decode code 292 = .ok (.iaload, 1) := by decide +kernel
theorem dL_law_293 : decode code 293 = .ok (.aload_n 0, 1) := by decide +kernel
theorem dL_law_294 : decode code 294 = .ok (.iload_n 3, 1) := by decide +kernel
theorem dL_law_295 : decode code 295 = .ok (.iconst 2, 1) := by decide +kernel
theorem dL_law_296 : decode code 296 = .ok (.iadd, 1) := by decide +kernel
theorem dL_law_297 : decode code 297 = .ok (.iaload, 1) := by decide +kernel
theorem dL_law_298 : decode code 298 = .ok (.invokevirtual 44, 3) := by decide +kernel
theorem dL_law_301 : decode code 301 = .ok (.aload_n 2, 1) := by decide +kernel
theorem dL_law_302 : decode code 302 = .ok (.aload_n 0, 1) := by decide +kernel
theorem dL_law_303 : decode code 303 = .ok (.iload_n 3, 1) := by decide +kernel
theorem dL_law_304 : decode code 304 = .ok (.iconst 1, 1) := by decide +kernel
theorem dL_law_305 : decode code 305 = .ok (.iadd, 1) := by decide +kernel
theorem dL_law_306 : decode code 306 = .ok (.iaload, 1) := by decide +kernel
theorem dL_law_307 : decode code 307 = .ok (.aload_n 0, 1) := by decide +kernel
theorem dL_law_308 : decode code 308 = .ok (.iload_n 3, 1) := by decide +kernel
theorem dL_law_309 : decode code 309 = .ok (.iconst 2, 1) := by decide +kernel
theorem dL_law_310 : decode code 310 = .ok (.iadd, 1) := by decide +kernel
theorem dL_law_311 : decode code 311 = .ok (.iaload, 1) := by decide +kernel
theorem dL_law_312 : decode code 312 = .ok (.invokevirtual 47, 3) := by decide +kernel
theorem dL_law_315 : decode code 315 = .ok (.if_icmp .eq 388, 3) := by decide +kernel
theorem dL_law_318 : decode code 318 = .ok (.iconst 0, 1) := by decide +kernel
theorem dL_law_319 : decode code 319 = .ok (.ireturn, 1) := by decide +kernel
theorem dL_law_320 : decode code 320 = .ok (.aload_n 1, 1) := by decide +kernel
theorem dL_law_321 : decode code 321 = .ok (.invokevirtual 48, 3) := by decide +kernel
theorem dL_law_324 : decode code 324 = .ok (.aload_n 2, 1) := by decide +kernel
theorem dL_law_325 : decode code 325 = .ok (.invokevirtual 51, 3) := by decide +kernel
theorem dL_law_328 : decode code 328 = .ok (.if_icmp .eq 375, 3) := by decide +kernel
theorem dL_law_331 : decode code 331 = .ok (.iconst 0, 1) := by decide +kernel
theorem dL_law_332 : decode code 332 = .ok (.ireturn, 1) := by decide +kernel
theorem dL_law_333 : decode code 333 = .ok (.aload_n 1, 1) := by decide +kernel
theorem dL_law_334 : decode code 334 = .ok (.aload_n 0, 1) := by decide +kernel
theorem dL_law_335 : decode code 335 = .ok (.iload_n 3, 1) := by decide +kernel
theorem dL_law_336 : decode code 336 = .ok (.iconst 1, 1) := by decide +kernel
theorem dL_law_337 : decode code 337 = .ok (.iadd, 1) := by decide +kernel
theorem dL_law_338 : decode code 338 = .ok (.iaload, 1) := by decide +kernel
theorem dL_law_339 : decode code 339 = .ok (.aload_n 0, 1) := by decide +kernel
theorem dL_law_340 : decode code 340 = .ok (.iload_n 3, 1) := by decide +kernel
theorem dL_law_341 : decode code 341 = .ok (.iconst 2, 1) := by decide +kernel
theorem dL_law_342 : decode code 342 = .ok (.iadd, 1) := by decide +kernel
theorem dL_law_343 : decode code 343 = .ok (.iaload, 1) := by decide +kernel
theorem dL_law_344 : decode code 344 = .ok (.invokevirtual 52, 3) := by decide +kernel
theorem dL_law_347 : decode code 347 = .ok (.aload_n 2, 1) := by decide +kernel
theorem dL_law_348 : decode code 348 = .ok (.aload_n 0, 1) := by decide +kernel
theorem dL_law_349 : decode code 349 = .ok (.iload_n 3, 1) := by decide +kernel
theorem dL_law_350 : decode code 350 = .ok (.iconst 1, 1) := by decide +kernel
theorem dL_law_351 : decode code 351 = .ok (.iadd, 1) := by decide +kernel
theorem dL_law_352 : decode code 352 = .ok (.iaload, 1) := by decide +kernel
theorem dL_law_353 : decode code 353 = .ok (.aload_n 0, 1) := by decide +kernel
theorem dL_law_354 : decode code 354 = .ok (.iload_n 3, 1) := by decide +kernel
theorem dL_law_355 : decode code 355 = .ok (.iconst 2, 1) := by decide +kernel
theorem dL_law_356 : decode code 356 = .ok (.iadd, 1) := by decide +kernel
theorem dL_law_357 : decode code 357 = .ok (.iaload, 1) := by decide +kernel
theorem dL_law_358 : decode code 358 = .ok (.invokevirtual 55, 3) := by decide +kernel
theorem dL_law_361 : decode code 361 = .ok (.if_icmp .eq 342, 3) := by decide +kernel
theorem dL_law_364 : decode code 364 = .ok (.iconst 0, 1) := by decide +kernel
theorem dL_law_365 : decode code 365 = .ok (.ireturn, 1) := by decide +kernel
theorem dL_law_366 : decode code 366 = .ok (.aload_n 1, 1) := by decide +kernel
theorem dL_law_367 : decode code 367 = .ok (.aload_n 0, 1) := by decide +kernel
theorem dL_law_368 : decode code 368 = .ok (.iload_n 3, 1) := by decide +kernel
theorem dL_law_369 : decode code 369 = .ok (.iconst 1, 1) := by decide +kernel
theorem dL_law_370 : decode code 370 = .ok (.iadd, 1) := by decide +kernel
theorem dL_law_371 : decode code 371 = .ok (.iaload, 1) := by decide +kernel
theorem dL_law_372 : decode code 372 = .ok (.invokevirtual 56, 3) := by decide +kernel
theorem dL_law_375 : decode code 375 = .ok (.aload_n 2, 1) := by decide +kernel
theorem dL_law_376 : decode code 376 = .ok (.aload_n 0, 1) := by decide +kernel
theorem dL_law_377 : decode code 377 = .ok (.iload_n 3, 1) := by decide +kernel
theorem dL_law_378 : decode code 378 = .ok (.iconst 1, 1) := by decide +kernel
theorem dL_law_379 : decode code 379 = .ok (.iadd, 1) := by decide +kernel
theorem dL_law_380 : decode code 380 = .ok (.iaload, 1) := by decide +kernel
theorem dL_law_381 : decode code 381 = .ok (.invokevirtual 59, 3) := by decide +kernel
theorem dL_law_384 : decode code 384 = .ok (.if_icmp .eq 319, 3) := by decide +kernel
theorem dL_law_387 : decode code 387 = .ok (.iconst 0, 1) := by decide +kernel
theorem dL_law_388 : decode code 388 = .ok (.ireturn, 1) := by decide +kernel
theorem dL_law_389 : decode code 389 = .ok (.aload_n 1, 1) := by decide +kernel
theorem dL_law_390 : decode code 390 = .ok (.aload_n 0, 1) := by decide +kernel
theorem dL_law_391 : decode code 391 = .ok (.iload_n 3, 1) := by decide +kernel
theorem dL_law_392 : decode code 392 = .ok (.iconst 1, 1) := by decide +kernel
theorem dL_law_393 : decode code 393 = .ok (.iadd, 1) := by decide +kernel
theorem dL_law_394 : decode code 394 = .ok (.iaload, 1) := by decide +kernel
theorem dL_law_395 : decode code 395 = .ok (.invokevirtual 60, 3) := by decide +kernel
theorem dL_law_398 : decode code 398 = .ok (.aload_n 2, 1) := by decide +kernel
theorem dL_law_399 : decode code 399 = .ok (.aload_n 0, 1) := by decide +kernel
theorem dL_law_400 : decode code 400 = .ok (.iload_n 3, 1) := by decide +kernel
theorem dL_law_401 : decode code 401 = .ok (.iconst 1, 1) := by decide +kernel
theorem dL_law_402 : decode code 402 = .ok (.iadd, 1) := by decide +kernel
theorem dL_law_403 : decode code 403 = .ok (.iaload, 1) := by decide +kernel
theorem dL_law_404 : decode code 404 = .ok (.invokevirtual 63, 3) := by decide +kernel
theorem dL_law_407 : decode code 407 = .ok (.if_icmp .eq 296, 3) := by decide +kernel
theorem dL_law_410 : decode code 410 = .ok (.iconst 0, 1) := by decide +kernel
theorem dL_law_411 : decode code 411 = .ok (.ireturn, 1) := by decide +kernel
theorem dL_law_412 : decode code 412 = .ok (.aload_n 1, 1) := by decide +kernel
theorem dL_law_413 : decode code 413 = .ok (.aload_n 0, 1) := by decide +kernel
theorem dL_law_414 : decode code 414 = .ok (.iload_n 3, 1) := by decide +kernel
theorem dL_law_415 : decode code 415 = .ok (.iconst 1, 1) := by decide +kernel
theorem dL_law_416 : decode code 416 = .ok (.iadd, 1) := by decide +kernel
theorem dL_law_417 : decode code 417 = .ok (.iaload, 1) := by decide +kernel
theorem dL_law_418 : decode code 418 = .ok (.aload_n 0, 1) := by decide +kernel
theorem dL_law_419 : decode code 419 = .ok (.iload_n 3, 1) := by decide +kernel
theorem dL_law_420 : decode code 420 = .ok (.iconst 2, 1) := by decide +kernel
theorem dL_law_421 : decode code 421 = .ok (.iadd, 1) := by decide +kernel
theorem dL_law_422 : decode code 422 = .ok (.iaload, 1) := by decide +kernel
theorem dL_law_423 : decode code 423 = .ok (.invokevirtual 64, 3) := by decide +kernel
theorem dL_law_426 : decode code 426 = .ok (.aload_n 2, 1) := by decide +kernel
theorem dL_law_427 : decode code 427 = .ok (.aload_n 0, 1) := by decide +kernel
theorem dL_law_428 : decode code 428 = .ok (.iload_n 3, 1) := by decide +kernel
theorem dL_law_429 : decode code 429 = .ok (.iconst 1, 1) := by decide +kernel
theorem dL_law_430 : decode code 430 = .ok (.iadd, 1) := by decide +kernel
theorem dL_law_431 : decode code 431 = .ok (.iaload, 1) := by decide +kernel
theorem dL_law_432 : decode code 432 = .ok (.aload_n 0, 1) := by decide +kernel
theorem dL_law_433 : decode code 433 = .ok (.iload_n 3, 1) := by decide +kernel
theorem dL_law_434 : decode code 434 = .ok (.iconst 2, 1) := by decide +kernel
theorem dL_law_435 : decode code 435 = .ok (.iadd, 1) := by decide +kernel
theorem dL_law_436 : decode code 436 = .ok (.iaload, 1) := by decide +kernel
theorem dL_law_437 : decode code 437 = .ok (.invokevirtual 67, 3) := by decide +kernel
theorem dL_law_440 : decode code 440 = .ok (.if_icmp .eq 263, 3) := by decide +kernel
theorem dL_law_443 : decode code 443 = .ok (.iconst 0, 1) := by decide +kernel
theorem dL_law_444 : decode code 444 = .ok (.ireturn, 1) := by decide +kernel
theorem dL_law_445 : decode code 445 = .ok (.aload_n 1, 1) := by decide +kernel
theorem dL_law_446 : decode code 446 = .ok (.aload_n 0, 1) := by decide +kernel
theorem dL_law_447 : decode code 447 = .ok (.iload_n 3, 1) := by decide +kernel
theorem dL_law_448 : decode code 448 = .ok (.iconst 1, 1) := by decide +kernel
theorem dL_law_449 : decode code 449 = .ok (.iadd, 1) := by decide +kernel
theorem dL_law_450 : decode code 450 = .ok (.iaload, 1) := by decide +kernel
theorem dL_law_451 : decode code 451 = .ok (.aload_n 0, 1) := by decide +kernel
theorem dL_law_452 : decode code 452 = .ok (.iload_n 3, 1) := by decide +kernel
theorem dL_law_453 : decode code 453 = .ok (.iconst 2, 1) := by decide +kernel
theorem dL_law_454 : decode code 454 = .ok (.iadd, 1) := by decide +kernel
theorem dL_law_455 : decode code 455 = .ok (.iaload, 1) := by decide +kernel
theorem dL_law_456 : decode code 456 = .ok (.invokevirtual 68, 3) := by decide +kernel
theorem dL_law_459 : decode code 459 = .ok (.aload_n 2, 1) := by decide +kernel
theorem dL_law_460 : decode code 460 = .ok (.aload_n 0, 1) := by decide +kernel
theorem dL_law_461 : decode code 461 = .ok (.iload_n 3, 1) := by decide +kernel
theorem dL_law_462 : decode code 462 = .ok (.iconst 1, 1) := by decide +kernel
theorem dL_law_463 : decode code 463 = .ok (.iadd, 1) := by decide +kernel
theorem dL_law_464 : decode code 464 = .ok (.iaload, 1) := by decide +kernel
theorem dL_law_465 : decode code 465 = .ok (.aload_n 0, 1) := by decide +kernel
theorem dL_law_466 : decode code 466 = .ok (.iload_n 3, 1) := by decide +kernel
theorem dL_law_467 : decode code 467 = .ok (.iconst 2, 1) := by decide +kernel
theorem dL_law_468 : decode code 468 = .ok (.iadd, 1) := by decide +kernel
theorem dL_law_469 : decode code 469 = .ok (.iaload, 1) := by decide +kernel
theorem dL_law_470 : decode code 470 = .ok (.invokevirtual 71, 3) := by decide +kernel
theorem dL_law_473 : decode code 473 = .ok (.if_icmp .eq 230, 3) := by decide +kernel
theorem dL_law_476 : decode code 476 = .ok (.iconst 0, 1) := by decide +kernel
theorem dL_law_477 : decode code 477 = .ok (.ireturn, 1) := by decide +kernel
theorem dL_law_478 : decode code 478 = .ok (.aload_n 1, 1) := by decide +kernel
theorem dL_law_479 : decode code 479 = .ok (.aload_n 0, 1) := by decide +kernel
theorem dL_law_480 : decode code 480 = .ok (.iload_n 3, 1) := by decide +kernel
theorem dL_law_481 : decode code 481 = .ok (.iconst 1, 1) := by decide +kernel
theorem dL_law_482 : decode code 482 = .ok (.iadd, 1) := by decide +kernel
theorem dL_law_483 : decode code 483 = .ok (.iaload, 1) := by decide +kernel
theorem dL_law_484 : decode code 484 = .ok (.aload_n 0, 1) := by decide +kernel
theorem dL_law_485 : decode code 485 = .ok (.iload_n 3, 1) := by decide +kernel
theorem dL_law_486 : decode code 486 = .ok (.iconst 2, 1) := by decide +kernel
theorem dL_law_487 : decode code 487 = .ok (.iadd, 1) := by decide +kernel
theorem dL_law_488 : decode code 488 = .ok (.iaload, 1) := by decide +kernel
theorem dL_law_489 : decode code 489 = .ok (.invokevirtual 72, 3) := by decide +kernel
theorem dL_law_492 : decode code 492 = .ok (.aload_n 2, 1) := by decide +kernel
theorem dL_law_493 : decode code 493 = .ok (.aload_n 0, 1) := by decide +kernel
theorem dL_law_494 : decode code 494 = .ok (.iload_n 3, 1) := by decide +kernel
theorem dL_law_495 : decode code 495 = .ok (.iconst 1, 1) := by decide +kernel
theorem dL_law_496 : decode code 496 = .ok (.iadd, 1) := by decide +kernel
theorem dL_law_497 : decode code 497 = .ok (.iaload, 1) := by decide +kernel
theorem dL_law_498 : decode code 498 = .ok (.aload_n 0, 1) := by decide +kernel
theorem dL_law_499 : decode code 499 = .ok (.iload_n 3, 1) := by decide +kernel
theorem dL_law_500 : decode code 500 = .ok (.iconst 2, 1) := by decide +kernel
theorem dL_law_501 : decode code 501 = .ok (.iadd, 1) := by decide +kernel
theorem dL_law_502 : decode code 502 = .ok (.iaload, 1) := by decide +kernel
theorem dL_law_503 : decode code 503 = .ok (.invokevirtual 75, 3) := by decide +kernel
theorem dL_law_506 : decode code 506 = .ok (.if_icmp .eq 197, 3) := by decide +kernel
theorem dL_law_509 : decode code 509 = .ok (.iconst 0, 1) := by decide +kernel
theorem dL_law_510 : decode code 510 = .ok (.ireturn, 1) := by decide +kernel
theorem dL_law_511 : decode code 511 = .ok (.aload_n 1, 1) := by decide +kernel
theorem dL_law_512 : decode code 512 = .ok (.aload_n 0, 1) := by decide +kernel
theorem dL_law_513 : decode code 513 = .ok (.iload_n 3, 1) := by decide +kernel
theorem dL_law_514 : decode code 514 = .ok (.iconst 1, 1) := by decide +kernel
theorem dL_law_515 : decode code 515 = .ok (.iadd, 1) := by decide +kernel
theorem dL_law_516 : decode code 516 = .ok (.iaload, 1) := by decide +kernel
theorem dL_law_517 : decode code 517 = .ok (.invokevirtual 76, 3) := by decide +kernel
theorem dL_law_520 : decode code 520 = .ok (.aload_n 2, 1) := by decide +kernel
theorem dL_law_521 : decode code 521 = .ok (.aload_n 0, 1) := by decide +kernel
theorem dL_law_522 : decode code 522 = .ok (.iload_n 3, 1) := by decide +kernel
theorem dL_law_523 : decode code 523 = .ok (.iconst 1, 1) := by decide +kernel
theorem dL_law_524 : decode code 524 = .ok (.iadd, 1) := by decide +kernel
theorem dL_law_525 : decode code 525 = .ok (.iaload, 1) := by decide +kernel
theorem dL_law_526 : decode code 526 = .ok (.invokevirtual 79, 3) := by decide +kernel
theorem dL_law_529 : decode code 529 = .ok (.if_icmp .eq 174, 3) := by decide +kernel
theorem dL_law_532 : decode code 532 = .ok (.iconst 0, 1) := by decide +kernel
theorem dL_law_533 : decode code 533 = .ok (.ireturn, 1) := by decide +kernel
theorem dL_law_534 : decode code 534 = .ok (.aload_n 1, 1) := by decide +kernel
theorem dL_law_535 : decode code 535 = .ok (.aload_n 0, 1) := by decide +kernel
theorem dL_law_536 : decode code 536 = .ok (.iload_n 3, 1) := by decide +kernel
theorem dL_law_537 : decode code 537 = .ok (.iconst 1, 1) := by decide +kernel
theorem dL_law_538 : decode code 538 = .ok (.iadd, 1) := by decide +kernel
theorem dL_law_539 : decode code 539 = .ok (.iaload, 1) := by decide +kernel
theorem dL_law_540 : decode code 540 = .ok (.aload_n 0, 1) := by decide +kernel
theorem dL_law_541 : decode code 541 = .ok (.iload_n 3, 1) := by decide +kernel
theorem dL_law_542 : decode code 542 = .ok (.iconst 2, 1) := by decide +kernel
theorem dL_law_543 : decode code 543 = .ok (.iadd, 1) := by decide +kernel
theorem dL_law_544 : decode code 544 = .ok (.iaload, 1) := by decide +kernel
theorem dL_law_545 : decode code 545 = .ok (.invokevirtual 80, 3) := by decide +kernel
theorem dL_law_548 : decode code 548 = .ok (.aload_n 2, 1) := by decide +kernel
theorem dL_law_549 : decode code 549 = .ok (.aload_n 0, 1) := by decide +kernel
theorem dL_law_550 : decode code 550 = .ok (.iload_n 3, 1) := by decide +kernel
theorem dL_law_551 : decode code 551 = .ok (.iconst 1, 1) := by decide +kernel
theorem dL_law_552 : decode code 552 = .ok (.iadd, 1) := by decide +kernel
theorem dL_law_553 : decode code 553 = .ok (.iaload, 1) := by decide +kernel
theorem dL_law_554 : decode code 554 = .ok (.aload_n 0, 1) := by decide +kernel
theorem dL_law_555 : decode code 555 = .ok (.iload_n 3, 1) := by decide +kernel
theorem dL_law_556 : decode code 556 = .ok (.iconst 2, 1) := by decide +kernel
theorem dL_law_557 : decode code 557 = .ok (.iadd, 1) := by decide +kernel
theorem dL_law_558 : decode code 558 = .ok (.iaload, 1) := by decide +kernel
theorem dL_law_559 : decode code 559 = .ok (.invokevirtual 83, 3) := by decide +kernel
theorem dL_law_562 : decode code 562 = .ok (.if_icmp .eq 141, 3) := by decide +kernel
theorem dL_law_565 : decode code 565 = .ok (.iconst 0, 1) := by decide +kernel
theorem dL_law_566 : decode code 566 = .ok (.ireturn, 1) := by decide +kernel
theorem dL_law_567 : decode code 567 = .ok (.aload_n 1, 1) := by decide +kernel
theorem dL_law_568 : decode code 568 = .ok (.aload_n 0, 1) := by decide +kernel
theorem dL_law_569 : decode code 569 = .ok (.iload_n 3, 1) := by decide +kernel
theorem dL_law_570 : decode code 570 = .ok (.iconst 1, 1) := by decide +kernel
theorem dL_law_571 : decode code 571 = .ok (.iadd, 1) := by decide +kernel
theorem dL_law_572 : decode code 572 = .ok (.iaload, 1) := by decide +kernel
theorem dL_law_573 : decode code 573 = .ok (.invokevirtual 84, 3) := by decide +kernel
theorem dL_law_576 : decode code 576 = .ok (.aload_n 2, 1) := by decide +kernel
theorem dL_law_577 : decode code 577 = .ok (.aload_n 0, 1) := by decide +kernel
theorem dL_law_578 : decode code 578 = .ok (.iload_n 3, 1) := by decide +kernel
theorem dL_law_579 : decode code 579 = .ok (.iconst 1, 1) := by decide +kernel
theorem dL_law_580 : decode code 580 = .ok (.iadd, 1) := by decide +kernel
theorem dL_law_581 : decode code 581 = .ok (.iaload, 1) := by decide +kernel
theorem dL_law_582 : decode code 582 = .ok (.invokevirtual 87, 3) := by decide +kernel
theorem dL_law_585 : decode code 585 = .ok (.if_icmp .eq 118, 3) := by decide +kernel
theorem dL_law_588 : decode code 588 = .ok (.iconst 0, 1) := by decide +kernel
theorem dL_law_589 : decode code 589 = .ok (.ireturn, 1) := by decide +kernel
theorem dL_law_590 : decode code 590 = .ok (.aload_n 1, 1) := by decide +kernel
theorem dL_law_591 : decode code 591 = .ok (.aload_n 0, 1) := by decide +kernel
theorem dL_law_592 : decode code 592 = .ok (.iload_n 3, 1) := by decide +kernel
theorem dL_law_593 : decode code 593 = .ok (.iconst 1, 1) := by decide +kernel
theorem dL_law_594 : decode code 594 = .ok (.iadd, 1) := by decide +kernel
theorem dL_law_595 : decode code 595 = .ok (.iaload, 1) := by decide +kernel
theorem dL_law_596 : decode code 596 = .ok (.invokevirtual 88, 3) := by decide +kernel
theorem dL_law_599 : decode code 599 = .ok (.aload_n 2, 1) := by decide +kernel
theorem dL_law_600 : decode code 600 = .ok (.aload_n 0, 1) := by decide +kernel
theorem dL_law_601 : decode code 601 = .ok (.iload_n 3, 1) := by decide +kernel
theorem dL_law_602 : decode code 602 = .ok (.iconst 1, 1) := by decide +kernel
theorem dL_law_603 : decode code 603 = .ok (.iadd, 1) := by decide +kernel
theorem dL_law_604 : decode code 604 = .ok (.iaload, 1) := by decide +kernel
theorem dL_law_605 : decode code 605 = .ok (.invokevirtual 91, 3) := by decide +kernel
theorem dL_law_608 : decode code 608 = .ok (.if_icmp .eq 95, 3) := by decide +kernel
theorem dL_law_611 : decode code 611 = .ok (.iconst 0, 1) := by decide +kernel
theorem dL_law_612 : decode code 612 = .ok (.ireturn, 1) := by decide +kernel
theorem dL_law_613 : decode code 613 = .ok (.aload_n 1, 1) := by decide +kernel
theorem dL_law_614 : decode code 614 = .ok (.aload_n 0, 1) := by decide +kernel
theorem dL_law_615 : decode code 615 = .ok (.iload_n 3, 1) := by decide +kernel
theorem dL_law_616 : decode code 616 = .ok (.iconst 1, 1) := by decide +kernel
theorem dL_law_617 : decode code 617 = .ok (.iadd, 1) := by decide +kernel
theorem dL_law_618 : decode code 618 = .ok (.iaload, 1) := by decide +kernel
theorem dL_law_619 : decode code 619 = .ok (.aload_n 0, 1) := by decide +kernel
theorem dL_law_620 : decode code 620 = .ok (.iload_n 3, 1) := by decide +kernel
theorem dL_law_621 : decode code 621 = .ok (.iconst 2, 1) := by decide +kernel
theorem dL_law_622 : decode code 622 = .ok (.iadd, 1) := by decide +kernel
theorem dL_law_623 : decode code 623 = .ok (.iaload, 1) := by decide +kernel
theorem dL_law_624 : decode code 624 = .ok (.invokevirtual 92, 3) := by decide +kernel
theorem dL_law_627 : decode code 627 = .ok (.aload_n 2, 1) := by decide +kernel
theorem dL_law_628 : decode code 628 = .ok (.aload_n 0, 1) := by decide +kernel
theorem dL_law_629 : decode code 629 = .ok (.iload_n 3, 1) := by decide +kernel
theorem dL_law_630 : decode code 630 = .ok (.iconst 1, 1) := by decide +kernel
theorem dL_law_631 : decode code 631 = .ok (.iadd, 1) := by decide +kernel
theorem dL_law_632 : decode code 632 = .ok (.iaload, 1) := by decide +kernel
theorem dL_law_633 : decode code 633 = .ok (.aload_n 0, 1) := by decide +kernel
theorem dL_law_634 : decode code 634 = .ok (.iload_n 3, 1) := by decide +kernel
theorem dL_law_635 : decode code 635 = .ok (.iconst 2, 1) := by decide +kernel
theorem dL_law_636 : decode code 636 = .ok (.iadd, 1) := by decide +kernel
theorem dL_law_637 : decode code 637 = .ok (.iaload, 1) := by decide +kernel
theorem dL_law_638 : decode code 638 = .ok (.invokevirtual 95, 3) := by decide +kernel
theorem dL_law_641 : decode code 641 = .ok (.if_icmp .eq 62, 3) := by decide +kernel
theorem dL_law_644 : decode code 644 = .ok (.iconst 0, 1) := by decide +kernel
theorem dL_law_645 : decode code 645 = .ok (.ireturn, 1) := by decide +kernel
theorem dL_law_646 : decode code 646 = .ok (.aload_n 1, 1) := by decide +kernel
theorem dL_law_647 : decode code 647 = .ok (.aload_n 0, 1) := by decide +kernel
theorem dL_law_648 : decode code 648 = .ok (.iload_n 3, 1) := by decide +kernel
theorem dL_law_649 : decode code 649 = .ok (.iconst 1, 1) := by decide +kernel
theorem dL_law_650 : decode code 650 = .ok (.iadd, 1) := by decide +kernel
theorem dL_law_651 : decode code 651 = .ok (.iaload, 1) := by decide +kernel
theorem dL_law_652 : decode code 652 = .ok (.invokevirtual 96, 3) := by decide +kernel
theorem dL_law_655 : decode code 655 = .ok (.aload_n 2, 1) := by decide +kernel
theorem dL_law_656 : decode code 656 = .ok (.aload_n 0, 1) := by decide +kernel
theorem dL_law_657 : decode code 657 = .ok (.iload_n 3, 1) := by decide +kernel
theorem dL_law_658 : decode code 658 = .ok (.iconst 1, 1) := by decide +kernel
theorem dL_law_659 : decode code 659 = .ok (.iadd, 1) := by decide +kernel
theorem dL_law_660 : decode code 660 = .ok (.iaload, 1) := by decide +kernel
theorem dL_law_661 : decode code 661 = .ok (.invokevirtual 99, 3) := by decide +kernel
theorem dL_law_664 : decode code 664 = .ok (.if_icmp .eq 39, 3) := by decide +kernel
theorem dL_law_667 : decode code 667 = .ok (.iconst 0, 1) := by decide +kernel
theorem dL_law_668 : decode code 668 = .ok (.ireturn, 1) := by decide +kernel
theorem dL_law_669 : decode code 669 = .ok (.aload_n 1, 1) := by decide +kernel
theorem dL_law_670 : decode code 670 = .ok (.aload_n 0, 1) := by decide +kernel
theorem dL_law_671 : decode code 671 = .ok (.iload_n 3, 1) := by decide +kernel
theorem dL_law_672 : decode code 672 = .ok (.iconst 1, 1) := by decide +kernel
theorem dL_law_673 : decode code 673 = .ok (.iadd, 1) := by decide +kernel
theorem dL_law_674 : decode code 674 = .ok (.iaload, 1) := by decide +kernel
theorem dL_law_675 : decode code 675 = .ok (.aload_n 0, 1) := by decide +kernel
theorem dL_law_676 : decode code 676 = .ok (.iload_n 3, 1) := by decide +kernel
theorem dL_law_677 : decode code 677 = .ok (.iconst 2, 1) := by decide +kernel
theorem dL_law_678 : decode code 678 = .ok (.iadd, 1) := by decide +kernel
theorem dL_law_679 : decode code 679 = .ok (.iaload, 1) := by decide +kernel
theorem dL_law_680 : decode code 680 = .ok (.invokevirtual 100, 3) := by decide +kernel
theorem dL_law_683 : decode code 683 = .ok (.aload_n 2, 1) := by decide +kernel
theorem dL_law_684 : decode code 684 = .ok (.aload_n 0, 1) := by decide +kernel
theorem dL_law_685 : decode code 685 = .ok (.iload_n 3, 1) := by decide +kernel
theorem dL_law_686 : decode code 686 = .ok (.iconst 1, 1) := by decide +kernel
theorem dL_law_687 : decode code 687 = .ok (.iadd, 1) := by decide +kernel
theorem dL_law_688 : decode code 688 = .ok (.iaload, 1) := by decide +kernel
theorem dL_law_689 : decode code 689 = .ok (.aload_n 0, 1) := by decide +kernel
theorem dL_law_690 : decode code 690 = .ok (.iload_n 3, 1) := by decide +kernel
theorem dL_law_691 : decode code 691 = .ok (.iconst 2, 1) := by decide +kernel
theorem dL_law_692 : decode code 692 = .ok (.iadd, 1) := by decide +kernel
theorem dL_law_693 : decode code 693 = .ok (.iaload, 1) := by decide +kernel
theorem dL_law_694 : decode code 694 = .ok (.invokevirtual 104, 3) := by decide +kernel
theorem dL_law_697 : decode code 697 = .ok (.lcmp, 1) := by decide +kernel
theorem dL_law_698 : decode code 698 = .ok (.ifCond .eq 5, 3) := by decide +kernel
theorem dL_law_701 : decode code 701 = .ok (.iconst 0, 1) := by decide +kernel
theorem dL_law_702 : decode code 702 = .ok (.ireturn, 1) := by decide +kernel
theorem dL_law_703 : decode code 703 = .ok (.iinc 3 3, 3) := by decide +kernel
theorem dL_law_706 : decode code 706 = .ok (.goto (-688), 3) := by decide +kernel
theorem dL_law_709 : decode code 709 = .ok (.iconst 1, 1) := by decide +kernel
theorem dL_law_710 : decode code 710 = .ok (.ireturn, 1) := by decide +kernel
end
section
-- printed by wip/whole/gen2.py: THE ABSTRACT MACHINE: 85 cells by their numbers, ints, longs and the four references that change; one rule an instruction
abbrev AM : Type := (Nat → Nat → Int32) × (Nat → Nat → Int64) × (Nat → Nat → Nat)
def sI (M : AM) (k j : Nat) (x : Int32) : AM := (fun a b => if a = k ∧ b = j then x else M.1 a b, M.2)
def sL (M : AM) (k j : Nat) (x : Int64) : AM := (M.1, fun a b => if a = k ∧ b = j then x else M.2.1 a b, M.2.2)
def sR (M : AM) (k j : Nat) (x : Nat) : AM := (M.1, M.2.1, fun a b => if a = k ∧ b = j then x else M.2.2 a b)
def clss : List vw_C := [(RX0, TX0, 4), (RX1, TX1, 3), (RX2, TX2, 13), (RX3, TX3, 3), (RX4, TX4, 8), (RX5, TX5, 1), (RX6, TX6, 5), (RX7, TX7, 2), (RX8, TX8, 15), (RX9, TX9, 3), (RX10, TX10, 16), (RX11, TX11, 38)]
def nfs : List Nat := [4, 3, 13, 3, 8, 1, 5, 2, 15, 3, 16, 38]
def nf (ci : Nat) : Nat := nfs.getD ci 0
def fts : List (List Nat) := [[2, 2, 2, 0], [2, 0, 0], [2, 2, 2, 2, 2, 2, 2, 2, 2, 2, 2, 0, 0], [2, 2, 0], [2, 2, 2, 2, 2, 2, 0, 0], [2], [2, 0, 0, 0, 0], [3, 3], [2, 2, 2, 2, 2, 2, 2, 2, 2, 2, 0, 0, 0, 0, 0], [2, 2, 0], [2, 2, 2, 2, 2, 2, 2, 2, 2, 3, 3, 1, 1, 1, 1, 1], [0, 0, 0, 0, 2, 2, 2, 2, 2, 2, 2, 2, 2, 0, 2, 0, 2, 0, 2, 2, 2, 0, 0, 0, 0, 2, 2, 2, 0, 0, 0, 0, 2, 2, 2, 2, 2, 2]]
/-- a field: 0 int, 1 boolean, 2 a reference that is fixed, 3 one that changes -/
def ft (ci j : Nat) : Nat := (fts.getD ci []).getD j 9
def kds : List (Nat × Nat) := [(0, 10), (0, 6), (1, 200), (0, 1), (1, 60), (0, 0), (1, 12), (1, 12), (1, 12), (0, 2), (1, 1024), (1, 1024), (1, 1024), (1, 1024), (1, 16), (1, 1025), (1, 2048), (1, 2048), (1, 2048), (1, 1025), (1, 2048), (0, 9), (1, 1024), (1, 1024), (0, 3), (2, 1024), (1, 1024), (0, 4), (2, 1024), (2, 1024), (1, 1024), (1, 1024), (1, 1024), (1, 1024), (0, 5), (1, 1024), (0, 7), (3, 1024), (3, 1024), (0, 8), (1, 32), (1, 32), (1, 32), (1, 32), (1, 96), (1, 96), (1, 32), (1, 32), (1, 32), (1, 17), (0, 8), (1, 32), (1, 32), (1, 32), (1, 32), (1, 96), (1, 96), (1, 32), (1, 32), (1, 32), (1, 17), (0, 11), (1, 32), (1, 32), (1, 32), (1, 32), (1, 96), (1, 96), (1, 32), (1, 32), (2, 32), (1, 60), (1, 384), (1, 1024), (1, 1024), (1, 200), (1, 192), (1, 96), (1, 96), (2, 1024), (1, 1024), (2, 1024), (2, 1024), (3, 1024), (3, 1024)]
/-- a cell: (0, class), (1, n) ints, (2, n) booleans, (3, n) longs -/
def kd (k : Nat) : Nat × Nat := kds.getD k (9, 0)
def sr0 : List Nat := [1, 3, 5, 9, 21, 24, 27, 34, 36]
def srM : List Nat := [0, 0, 0, 0, 62, 63, 64, 65, 66, 67, 68, 69, 70, 0, 71, 0, 72, 0, 73, 74, 75, 0, 0, 0, 0, 76, 77, 78, 0, 0, 0, 0, 79, 80, 81, 82, 83, 84]
/-- where a fixed reference leads -/
def sr (k j : Nat) : Nat := if k = 0 then sr0.getD j 0 else if k = 61 then srM.getD j 0 else k + 1 + j
abbrev GG : Type := Launch × va_G × (Nat → Nat) × (ClassId × ClassId × ClassId) × Nat
abbrev gA (g : GG) : Nat → Nat := g.2.2.1
abbrev tyG (g : GG) : List (ClassId × FieldType) := [(g.2.2.2.1.1, .int), (g.2.2.2.1.2.1, .boolean), (g.2.2.2.1.2.2, .long)]
def cv (ad : Nat → Nat) (v : Value) : Value := match v with
  | .ref k => .ref (ad k)
  | v => v
def fv (ad : Nat → Nat) (M : AM) (k ci j : Nat) : Value := match ft ci j with
  | 0 => .int (M.1 k j)
  | 1 => .int (M.1 k j)
  | 2 => .ref (ad (sr k j))
  | _ => .ref (ad (M.2.2 k j))
def cc (g : GG) (M : AM) (k : Nat) : va_E := match kd k with
  | (0, ci) => .inr (ci, (List.range (nf ci)).map (fv (gA g) M k ci))
  | (1, n) => .inl (g.2.2.2.1.1, n, .inl (M.1 k))
  | (2, n) => .inl (g.2.2.2.1.2.1, n, .inl (M.1 k))
  | (_, n) => .inl (g.2.2.2.1.2.2, n, .inr (.inl (M.2.1 k)))
def cw (g : GG) (M : AM) : va_W := (List.range 85).map (fun k => (gA g k, cc g M k))
def Fr (g : GG) : Nat → Prop := fun q => g.2.2.2.2 ≤ q
def gOK (g : GG) : Prop := (∀ i j, i < 85 → j < 85 → gA g i = gA g j → i = j) ∧ ∀ i, i < 85 → Fr g (gA g i)
theorem kd_lt {k t n : Nat} (h : kd k = (t, n)) (ht : t < 4) : k < 85 := by
  rcases Nat.lt_or_ge k 85 with h1 | h1
  · exact h1
  · have : kd k = (9, 0) := by
      unfold kd
      rw [List.getD_eq_getElem?_getD, List.getElem?_eq_none (by simpa [kds] using h1)]; rfl
    rw [this] at h
    cases h
    omega
theorem cw_get (g : GG) (M : AM) {k : Nat} (hk : k < 85) : (cw g M)[k]? = some (gA g k, cc g M k) := by
  unfold cw
  rw [List.getElem?_map, List.getElem?_range hk]; rfl
theorem cw_D {g : GG} (h : gOK g) (M : AM) : va_D (Fr g) (cw g M) := by
  have key : ∀ (k : Nat) (q : Nat × va_E), (cw g M)[k]? = some q → k < 85 ∧ q.1 = gA g k := by
    intro k q hq
    have hl : k < 85 := by
      have := (List.getElem?_eq_some_iff.mp hq).1
      simpa [cw] using this
    rw [cw_get g M hl] at hq
    cases hq
    exact ⟨hl, rfl⟩
  refine ⟨fun i j p q h1 h2 h3 => ?_, fun k q hk => ?_⟩
  · obtain ⟨a1, a2⟩ := key i p h1
    obtain ⟨b1, b2⟩ := key j q h2
    exact h.1 i j a1 b1 (by rw [← a2, ← b2, h3])
  · obtain ⟨a1, a2⟩ := key k q hk
    rw [a2]
    exact h.2 k a1
theorem cc_o {g : GG} {M : AM} {k ci : Nat} (h : kd k = (0, ci)) : cc g M k = .inr (ci, (List.range (nf ci)).map (fv (gA g) M k ci)) := by simp [cc, h]
theorem cc_i {g : GG} {M : AM} {k n : Nat} (h : kd k = (1, n)) : cc g M k = .inl (g.2.2.2.1.1, n, .inl (M.1 k)) := by simp [cc, h]
theorem cc_z {g : GG} {M : AM} {k n : Nat} (h : kd k = (2, n)) : cc g M k = .inl (g.2.2.2.1.2.1, n, .inl (M.1 k)) := by simp [cc, h]
theorem cc_l {g : GG} {M : AM} {k n : Nat} (h : kd k = (3, n)) : cc g M k = .inl (g.2.2.2.1.2.2, n, .inr (.inl (M.2.1 k))) := by simp [cc, h]
theorem cw_ne {g : GG} {M M' : AM} {k : Nat} {e : va_E} (hk : k < 85) (he : e = cc g M' k) (hn : ∀ i, i ≠ k → cc g M' i = cc g M i) : (cw g M).set k (gA g k, e) = cw g M' := by
  apply List.ext_getElem?
  intro i
  by_cases hi : i = k
  · subst hi
    rw [List.getElem?_set_self (by simpa [cw] using hk), cw_get g M' hk, he]
  · rw [List.getElem?_set_ne (fun q => hi q.symm)]
    rcases Nat.lt_or_ge i 85 with h1 | h1
    · rw [cw_get g M h1, cw_get g M' h1, hn i hi]
    · rw [List.getElem?_eq_none (by simpa [cw] using h1), List.getElem?_eq_none (by simpa [cw] using h1)]
theorem fv_ne {ad : Nat → Nat} {M M' : AM} {k ci j : Nat} (h1 : M'.1 k j = M.1 k j) (h2 : M'.2.2 k j = M.2.2 k j) : fv ad M' k ci j = fv ad M k ci j := by
  unfold fv
  rw [h1, h2]
theorem cc_ne {g : GG} {M M' : AM} {i : Nat} (h1 : M'.1 i = M.1 i) (h2 : M'.2.1 i = M.2.1 i) (h3 : M'.2.2 i = M.2.2 i) : cc g M' i = cc g M i := by
  unfold cc
  have : ∀ ci, fv (gA g) M' i ci = fv (gA g) M i ci := fun ci => by
    funext j
    exact fv_ne (by rw [h1]) (by rw [h3])
  simp only [h1, h2, this]
theorem sI_ne {M : AM} {k j i : Nat} {x : Int32} (h : i ≠ k) : (sI M k j x).1 i = M.1 i := by
  funext b
  simp [sI, h]
theorem sI_at {M : AM} {k j : Nat} {x : Int32} : (sI M k j x).1 k = upd (M.1 k) j x := by
  funext b
  simp [sI, upd]
theorem sL_ne {M : AM} {k j i : Nat} {x : Int64} (h : i ≠ k) : (sL M k j x).2.1 i = M.2.1 i := by
  funext b
  simp [sL, h]
theorem sL_at {M : AM} {k j : Nat} {x : Int64} : (sL M k j x).2.1 k = vp_updL (M.2.1 k) j x := by
  funext b
  simp [sL, vp_updL]
theorem sR_ne {M : AM} {k j i : Nat} {x : Nat} (h : i ≠ k) : (sR M k j x).2.2 i = M.2.2 i := by
  funext b
  simp [sR, h]
theorem cw_setI {g : GG} {M : AM} {k n j : Nat} {x : Int32} (h : kd k = (1, n)) : (cw g M).set k (gA g k, .inl (g.2.2.2.1.1, n, .inl (upd (M.1 k) j x))) = cw g (sI M k j x) :=
  cw_ne (kd_lt h (by decide)) (by rw [cc_i h, sI_at]) (fun i hi => cc_ne (sI_ne hi) rfl rfl)
theorem cw_setZ {g : GG} {M : AM} {k n j : Nat} {x : Int32} (h : kd k = (2, n)) : (cw g M).set k (gA g k, .inl (g.2.2.2.1.2.1, n, .inl (upd (M.1 k) j x))) = cw g (sI M k j x) :=
  cw_ne (kd_lt h (by decide)) (by rw [cc_z h, sI_at]) (fun i hi => cc_ne (sI_ne hi) rfl rfl)
theorem cw_setL {g : GG} {M : AM} {k n j : Nat} {x : Int64} (h : kd k = (3, n)) : (cw g M).set k (gA g k, .inl (g.2.2.2.1.2.2, n, .inr (.inl (vp_updL (M.2.1 k) j x)))) = cw g (sL M k j x) :=
  cw_ne (kd_lt h (by decide)) (by rw [cc_l h, sL_at]) (fun i hi => cc_ne rfl (sL_ne hi) rfl)
theorem fl_set {f f' : Nat → Value} {n j : Nat} {v : Value} (hj : j < n) (h1 : f' j = v) (h2 : ∀ i, i ≠ j → f' i = f i) : ((List.range n).map f).set j v = (List.range n).map f' := by
  apply List.ext_getElem?
  intro i
  by_cases hi : i = j
  · subst hi
    rw [List.getElem?_set_self (by simpa using hj), List.getElem?_map, List.getElem?_range hj, ← h1]; rfl
  · rw [List.getElem?_set_ne (fun q => hi q.symm)]
    rcases Nat.lt_or_ge i n with hl | hl
    · rw [List.getElem?_map, List.getElem?_map, List.getElem?_range hl]
      simp [h2 i hi]
    · rw [List.getElem?_eq_none (by simpa using hl), List.getElem?_eq_none (by simpa using hl)]
theorem cw_setF {g : GG} {M : AM} {k ci j : Nat} {x : Int32} (h : kd k = (0, ci)) (hj : j < nf ci) (ht : ft ci j < 2) : (cw g M).set k (gA g k, .inr (ci, ((List.range (nf ci)).map (fv (gA g) M k ci)).set j (.int x))) = cw g (sI M k j x) := by
  refine cw_ne (kd_lt h (by decide)) ?_ (fun i hi => cc_ne (sI_ne hi) rfl rfl)
  rw [cc_o h, fl_set hj]
  · unfold fv
    match hq : ft ci j, ht with
    | 0, _ => simp [sI]
    | 1, _ => simp [sI]
  · intro i hi
    exact fv_ne (by simp [sI, hi]) rfl
theorem cw_setR {g : GG} {M : AM} {k ci j p : Nat} (h : kd k = (0, ci)) (hj : j < nf ci) (ht : ft ci j = 3) : (cw g M).set k (gA g k, .inr (ci, ((List.range (nf ci)).map (fv (gA g) M k ci)).set j (.ref (gA g p)))) = cw g (sR M k j p) := by
  refine cw_ne (kd_lt h (by decide)) ?_ (fun i hi => cc_ne rfl rfl (sR_ne hi))
  rw [cc_o h, fl_set hj]
  · unfold fv
    rw [ht]
    simp [sR]
  · intro i hi
    exact fv_ne rfl (by simp [sR, hi])
theorem fl_at {f : Nat → Value} {n j : Nat} (hj : j < n) : ((List.range n).map f)[j]? = some (f j) := by
  rw [List.getElem?_map, List.getElem?_range hj]; rfl
/-- what is known of a class, once for all -/
def cOK (ci : Nat) (C : String) (T : u_T) (N : Nat) : Prop := N = nf ci ∧ (∀ w ∈ u_ws C T N, w ∈ tbG) ∧ ∃ ty : Nat → FieldType, (∀ k, k < N → parseFieldDescriptor (T k).2.2.1 = some (ty k)) ∧ (∀ a, a < N → ∀ b, b < N → a ≠ b → (T a).2.1 ≠ (T b).2.1) ∧
  ∀ j, j < N → (ft ci j = 0 → (T j).2.2.2 = false ∧ ty j = .int) ∧ (ft ci j = 1 → (T j).2.2.2 = false ∧ ty j = .boolean) ∧ (ft ci j = 3 → (T j).2.2.2 = false ∧ refKind (ty j) = true)
theorem cok0 : cOK 0 RX0 TX0 4 := ⟨by decide, in0, tyX0, tyX0_ok, nmX0, by decide +kernel⟩
theorem cok1 : cOK 1 RX1 TX1 3 := ⟨by decide, in1, tyX1, tyX1_ok, nmX1, by decide +kernel⟩
theorem cok2 : cOK 2 RX2 TX2 13 := ⟨by decide, in2, tyX2, tyX2_ok, nmX2, by decide +kernel⟩
theorem cok3 : cOK 3 RX3 TX3 3 := ⟨by decide, in3, tyX3, tyX3_ok, nmX3, by decide +kernel⟩
theorem cok4 : cOK 4 RX4 TX4 8 := ⟨by decide, in4, tyX4, tyX4_ok, nmX4, by decide +kernel⟩
theorem cok5 : cOK 5 RX5 TX5 1 := ⟨by decide, in5, tyX5, tyX5_ok, nmX5, by decide +kernel⟩
theorem cok6 : cOK 6 RX6 TX6 5 := ⟨by decide, in6, tyX6, tyX6_ok, nmX6, by decide +kernel⟩
theorem cok7 : cOK 7 RX7 TX7 2 := ⟨by decide, in7, tyX7, tyX7_ok, nmX7, by decide +kernel⟩
theorem cok8 : cOK 8 RX8 TX8 15 := ⟨by decide, in8, tyX8, tyX8_ok, nmX8, by decide +kernel⟩
theorem cok9 : cOK 9 RX9 TX9 3 := ⟨by decide, in9, tyX9, tyX9_ok, nmX9, by decide +kernel⟩
theorem cok10 : cOK 10 RX10 TX10 16 := ⟨by decide, in10, tyX10, tyX10_ok, nmX10, by decide +kernel⟩
theorem cok11 : cOK 11 RX11 TX11 38 := ⟨by decide, in11, tyX11, tyX11_ok, nmX11, by decide +kernel⟩
theorem cls_ok {ci : Nat} {C : String} {T : u_T} {N : Nat} (h : clss[ci]? = some (C, T, N)) : cOK ci C T N := by
  match ci, h with
  | 0, h => cases h; exact cok0
  | 1, h => cases h; exact cok1
  | 2, h => cases h; exact cok2
  | 3, h => cases h; exact cok3
  | 4, h => cases h; exact cok4
  | 5, h => cases h; exact cok5
  | 6, h => cases h; exact cok6
  | 7, h => cases h; exact cok7
  | 8, h => cases h; exact cok8
  | 9, h => cases h; exact cok9
  | 10, h => cases h; exact cok10
  | 11, h => cases h; exact cok11
  | k + 12, h => simp [clss] at h
def nst : List Cond := [Cond.methodLinkNest RX8 58 yX10_bit RX10, Cond.methodLinkNest RX3 32 yX10_bit RX10, Cond.methodLinkNest RX9 48 yX10_bit RX10]
def NestOK (U : State) : Prop := ∀ w ∈ nst, va_Nw w U
theorem NestOK.warm {s U : State} (hW : s.WarmedH U.vm) (h : NestOK s) : NestOK U := by
  intro w hw
  have h1 := h w hw
  simp only [nst, List.mem_cons, List.not_mem_nil, or_false] at hw
  rcases hw with rfl | rfl | rfl <;> exact va_Nw.warmM hW h1
theorem NestOK.same {u U : State} (h : u.vm = U.vm) (hn : NestOK u) : NestOK U := by
  intro w hw
  have h1 := hn w hw
  simp only [nst, List.mem_cons, List.not_mem_nil, or_false] at hw
  rcases hw with rfl | rfl | rfl <;> exact va_Nw.same rfl h h1
abbrev fY (q : MI) : MethodName := q.1
abbrev fC (q : MI) : ByteArray := q.2.1
abbrev fL (q : MI) : Nat := q.2.2.1
abbrev fR (q : MI) : Option FieldType := q.2.2.2.1
abbrev fV (q : MI) : Nat := q.2.2.2.2
def wsm (q : MI) : List Cond := .code (fY q) (fC q) (fL q) (fR q) :: tbG
theorem wsm_good {q : MI} (h : Cond.code (fY q) (fC q) (fL q) (fR q) ∈ tbG) : GoodIn tbG (wsm q) := by
  intro w hw
  rcases List.mem_cons.mp hw with rfl | hw
  · exact ⟨h, good_of_word (tbG_good h)⟩
  · exact ⟨hw, good_of_word (tbG_good hw)⟩
abbrev rmq (q : MI) : Room := { frames := fV q, cells := 0, slots := 0, locals := 38 * fV q }
def Fx (g : GG) (q : MI) (p : Program) (s : State) (m : MethodId) (args : Array Value) (meth : Method) (c : Code) : Prop :=
  p.tables.exec = Jvm.exec ∧ c.code = fC q ∧ meth.sig.returnType = fR q ∧ c.maxLocals = fL q ∧ s.vm.findClass (fY q).cls = some m.cls ∧ (∀ w ∈ tbG, w.before args s = true) ∧ meth.locks = false ∧ NestOK s ∧ gOK g ∧ va_K g.2.1 clss (tyG g) s
def Wo (g : GG) (M : AM) (s : State) (H : Heap) (locs : List Loc) : Prop := va_P g.2.1 clss (cw g M) H ∧ va_S (Fr g) s.heap H locs
def lp (ad : Nat → Nat) (ls : List (Option Value)) : List (Nat × Value) := (List.range ls.length).filterMap (fun k => match ls[k]? with
  | some (some v) => some (k, cv ad v)
  | _ => none)
theorem lp_mem {ad : Nat → Nat} {ls : List (Option Value)} {q : Nat × Value} : q ∈ lp ad ls ↔ ∃ v, ls[q.1]? = some (some v) ∧ q.2 = cv ad v := by
  unfold lp
  rw [List.mem_filterMap]
  constructor
  · rintro ⟨k, hk, h⟩
    split at h
    · rename_i v hv
      cases h
      exact ⟨v, hv, rfl⟩
    · cases h
  · rintro ⟨v, h1, h2⟩
    refine ⟨q.1, List.mem_range.mpr (List.getElem?_eq_some_iff.mp h1).1, ?_⟩
    rw [h1]
    show some (q.1, cv ad v) = some q
    rw [← h2]
abbrev TT : Type := Room × Nat × Nat × (List Frame → Array Value → State → State → Prop) × (State → Array Value → Prop)
/-- from here on the method's frame comes to the end that τ names -/
def Ex (g : GG) (q : MI) (τ : TT) (pc : Nat) (ls : List (Option Value)) (st : List Value) (M : AM) : Prop :=
  ∀ (p : Program) (e : Env) (s : State) (m : MethodId) (args : Array Value) (below : List Frame) (meth : Method) (c : Code) (H : Heap) (locs : List Loc) (a : Array Slot),
    Fx g q p s m args meth c → τ.2.2.2.2 s args → Wo g M s H locs → lv_has a (fL q) (lp (gA g) ls) →
    W p g.1 e τ.1 s m args below meth c H locs τ.2.1 τ.2.2.1 (τ.2.2.2.1 below args s) (F0 m pc a (st.map (cv (gA g))))
def QcA (g : GG) (Q : Option Value → AM → Prop) : Array Value → State → Outcome → State → Prop := fun _ st o t =>
  (∃ (v : Option Value) (M' : AM), o = .returned (v.map (cv (gA g))) ∧ Q v M' ∧ va_P g.2.1 clss (cw g M') t.heap) ∧ va_F (Fr g) st t
def PcA (g : GG) (As : List Value) (M : AM) : Array Value → State → Prop := va_Pc (As.map (cv (gA g))) (fun U => va_P g.2.1 clss (cw g M) U.heap ∧ va_K g.2.1 clss (tyG g) U ∧ NestOK U ∧ gOK g)
/-- the method, called with these, ends, and what it answers and leaves has Q -/
def Call (g : GG) (q : MI) (As : List Value) (M : AM) (Q : Option Value → AM → Prop) : Prop := Met g.1 (fY q) (wsm q) (rmq q) (PcA g As M) (QcA g Q) 0 0 (Fr g)
def tm (g : GG) (q : MI) (Q : Option Value → AM → Prop) : TT := (rmq q, 0, 0, fun below args s => MQ below (QcA g Q) args s 0 0 (Fr g), fun _ _ => True)
section EX
variable {g : GG} {q : MI} {τ : TT} {pc : Nat} {ls : List (Option Value)} {st : List Value} {M : AM}
theorem lv_fewer {a : Array Slot} {n : Nat} {l l' : List (Nat × Value)} (h : lv_has a n l) (hs : ∀ x ∈ l', x ∈ l) : lv_has a n l' := ⟨h.1, h.2.1, fun x hx => h.2.2 x (hs x hx)⟩
theorem lp_at {a : Array Slot} {n : Nat} {ad : Nat → Nat} {i : Nat} {v : Value} (h : lv_has a n (lp ad ls)) (hi : ls[i]? = some (some v)) : a[i]? = some (.val (cv ad v)) := h.2.2 (i, cv ad v) (lp_mem.mpr ⟨v, hi, rfl⟩)
/-- no long stands just ahead of i -/
def okl (ls : List (Option Value)) (i : Nat) : Bool := match i with
  | 0 => true
  | k + 1 => match ls[k]? with
    | some (some (.long _)) => false
    | some (some (.double _)) => false
    | _ => true
theorem okl_cat {ad : Nat → Nat} {ls : List (Option Value)} {i k : Nat} {v : Value} (h : okl ls i = true) (hk : ls[k]? = some (some v)) (hi : k + 1 = i) : (cv ad v).category = 1 := by
  subst hi
  unfold okl at h
  simp only [hk] at h
  cases v <;> simp [cv, Value.category] at h ⊢
theorem lp_set1 {ad : Nat → Nat} {ls : List (Option Value)} {i : Nat} {v : Value} (ho : okl ls i = true) : ∀ x ∈ lp ad (ls.set i (some v)), x ∈ (i, cv ad v) :: (lp ad ls).filter (fun q => !(q.1 == i) && !(q.1 + 1 == i && q.2.category == 2)) := by
  intro x hx
  obtain ⟨w, h1, h2⟩ := lp_mem.mp hx
  obtain ⟨k, y⟩ := x
  dsimp only at h1 h2
  subst h2
  by_cases hk : k = i
  · subst hk
    have hl : k < ls.length := by
      have := (List.getElem?_eq_some_iff.mp h1).1
      simpa using this
    rw [List.getElem?_set_self hl] at h1
    cases h1
    exact List.mem_cons_self
  · rw [List.getElem?_set_ne (fun q => hk q.symm)] at h1
    refine List.mem_cons_of_mem _ (List.mem_filter.mpr ⟨lp_mem.mpr ⟨w, h1, rfl⟩, ?_⟩)
    by_cases hq : k + 1 = i
    · have := okl_cat (ad := ad) ho h1 hq
      simp [hk, this]
    · simp [hk, hq]
theorem lp_set2 {ad : Nat → Nat} {ls : List (Option Value)} {i : Nat} {v : Value} (ho : okl ls i = true) : ∀ x ∈ lp ad ((ls.set i (some v)).set (i + 1) none), x ∈ (i, cv ad v) :: (lp ad ls).filter (fun q => !(q.1 == i) && (!(q.1 == i + 1) && !(q.1 + 1 == i && q.2.category == 2))) := by
  intro x hx
  obtain ⟨w, h1, h2⟩ := lp_mem.mp hx
  obtain ⟨k, y⟩ := x
  dsimp only at h1 h2
  subst h2
  by_cases hn : k = i + 1
  · subst hn
    have hl : i + 1 < ls.length := by
      have := (List.getElem?_eq_some_iff.mp h1).1
      simpa using this
    rw [List.getElem?_set_self (by simpa using hl)] at h1
    cases h1
  · rw [List.getElem?_set_ne (fun q => hn q.symm)] at h1
    by_cases hk : k = i
    · subst hk
      have hl : k < ls.length := by
        have := (List.getElem?_eq_some_iff.mp h1).1
        simpa using this
      rw [List.getElem?_set_self hl] at h1
      cases h1
      exact List.mem_cons_self
    · rw [List.getElem?_set_ne (fun q => hk q.symm)] at h1
      refine List.mem_cons_of_mem _ (List.mem_filter.mpr ⟨lp_mem.mpr ⟨w, h1, rfl⟩, ?_⟩)
      by_cases hq : k + 1 = i
      · have := okl_cat (ad := ad) ho h1 hq
        simp [hk, hn, this]
      · simp [hk, hn, hq]
theorem E_iconst {n : Int} {v : Int32} (d : decode (fC q) pc = .ok (.iconst n, 1)) (hv : Int32.ofInt n = v)
    (k : Ex g q τ (pc + 1) ls (.int v :: st) M) : Ex g q τ pc ls st M :=
  fun p e s m args below meth c H locs a hF hX hW hl => lv_iconst hF.1 hF.2.1 d hv (k p e s m args below meth c H locs a hF hX hW hl)
theorem E_bipush {n : Int} {v : Int32} (d : decode (fC q) pc = .ok (.bipush n, 2)) (hv : (Int8.ofInt n).toInt32 = v)
    (k : Ex g q τ (pc + 2) ls (.int v :: st) M) : Ex g q τ pc ls st M :=
  fun p e s m args below meth c H locs a hF hX hW hl => lv_bipush hF.1 hF.2.1 d hv (k p e s m args below meth c H locs a hF hX hW hl)
theorem E_sipush {n : Int} {v : Int32} (d : decode (fC q) pc = .ok (.sipush n, 3)) (hv : (Int16.ofInt n).toInt32 = v)
    (k : Ex g q τ (pc + 3) ls (.int v :: st) M) : Ex g q τ pc ls st M :=
  fun p e s m args below meth c H locs a hF hX hW hl => lv_sipush hF.1 hF.2.1 d hv (k p e s m args below meth c H locs a hF hX hW hl)
theorem E_lconst {n : Fin 2} {v : Int64} (d : decode (fC q) pc = .ok (.lconst n, 1)) (hv : Int64.ofNat (n : Nat) = v)
    (k : Ex g q τ (pc + 1) ls (.long v :: st) M) : Ex g q τ pc ls st M :=
  fun p e s m args below meth c H locs a hF hX hW hl => lv_lconst hF.1 hF.2.1 d hv (k p e s m args below meth c H locs a hF hX hW hl)
theorem E_ldc {idx : Nat} {v : Int32} (d : decode (fC q) pc = .ok (.ldc idx, 2)) (hc : Cond.constant (fY q).cls idx v ∈ tbG)
    (k : Ex g q τ (pc + 2) ls (.int v :: st) M) : Ex g q τ pc ls st M :=
  fun p e s m args below meth c H locs a hF hX hW hl => lv_ldc hF.1 hF.2.1 hF.2.2.2.2.1 (hF.2.2.2.2.2.1 _ hc) d (k p e s m args below meth c H locs a hF hX hW hl)
theorem E_ldc2 {idx : Nat} {v : Int64} (d : decode (fC q) pc = .ok (.ldc2_w idx, 3)) (hc : Cond.constantLong (fY q).cls idx v ∈ tbG)
    (k : Ex g q τ (pc + 3) ls (.long v :: st) M) : Ex g q τ pc ls st M :=
  fun p e s m args below meth c H locs a hF hX hW hl => lv_ldc2 hF.1 hF.2.1 hF.2.2.2.2.1 (hF.2.2.2.2.2.1 _ hc) d (k p e s m args below meth c H locs a hF hX hW hl)
theorem E_iload_n {i : Fin 4} {x : Int32} (d : decode (fC q) pc = .ok (.iload_n i, 1)) (hl0 : ls[(i : Nat)]? = some (some (.int x)))
    (k : Ex g q τ (pc + 1) ls (.int x :: st) M) : Ex g q τ pc ls st M :=
  fun p e s m args below meth c H locs a hF hX hW hl => lv_iload_n hF.1 hF.2.1 d rfl (lp_at hl hl0) (k p e s m args below meth c H locs a hF hX hW hl)
theorem E_iload {i : Nat} {x : Int32} (d : decode (fC q) pc = .ok (.iload i, 2)) (hl0 : ls[i]? = some (some (.int x)))
    (k : Ex g q τ (pc + 2) ls (.int x :: st) M) : Ex g q τ pc ls st M :=
  fun p e s m args below meth c H locs a hF hX hW hl => lv_iload hF.1 hF.2.1 d (lp_at hl hl0) (k p e s m args below meth c H locs a hF hX hW hl)
theorem E_lload_n {i : Fin 4} {x : Int64} (d : decode (fC q) pc = .ok (.lload_n i, 1)) (hl0 : ls[(i : Nat)]? = some (some (.long x)))
    (k : Ex g q τ (pc + 1) ls (.long x :: st) M) : Ex g q τ pc ls st M :=
  fun p e s m args below meth c H locs a hF hX hW hl => lv_lload_n hF.1 hF.2.1 d rfl (lp_at hl hl0) (k p e s m args below meth c H locs a hF hX hW hl)
theorem E_lload {i : Nat} {x : Int64} (d : decode (fC q) pc = .ok (.lload i, 2)) (hl0 : ls[i]? = some (some (.long x)))
    (k : Ex g q τ (pc + 2) ls (.long x :: st) M) : Ex g q τ pc ls st M :=
  fun p e s m args below meth c H locs a hF hX hW hl => lv_lload hF.1 hF.2.1 d (lp_at hl hl0) (k p e s m args below meth c H locs a hF hX hW hl)
theorem E_aload_n {i : Fin 4} {x : Nat} (d : decode (fC q) pc = .ok (.aload_n i, 1)) (hl0 : ls[(i : Nat)]? = some (some (.ref x)))
    (k : Ex g q τ (pc + 1) ls (.ref x :: st) M) : Ex g q τ pc ls st M :=
  fun p e s m args below meth c H locs a hF hX hW hl => lv_aload_n hF.1 hF.2.1 d rfl (lp_at hl hl0) (k p e s m args below meth c H locs a hF hX hW hl)
theorem E_aload {i : Nat} {x : Nat} (d : decode (fC q) pc = .ok (.aload i, 2)) (hl0 : ls[i]? = some (some (.ref x)))
    (k : Ex g q τ (pc + 2) ls (.ref x :: st) M) : Ex g q τ pc ls st M :=
  fun p e s m args below meth c H locs a hF hX hW hl => lv_aload hF.1 hF.2.1 d (lp_at hl hl0) (k p e s m args below meth c H locs a hF hX hW hl)
theorem E_istore_n {i : Fin 4} {x : Int32} (d : decode (fC q) pc = .ok (.istore_n i, 1)) (hi : (i : Nat) < fL q) (ho : okl ls i = true)
    (k : Ex g q τ (pc + 1) (ls.set i (some (.int x))) st M) : Ex g q τ pc ls (.int x :: st) M :=
  fun p e s m args below meth c H locs a hF hX hW hl => lv_istore_n hF.1 hF.2.1 d rfl hl hi rfl (fun a1 hl1 => k p e s m args below meth c H locs a1 hF hX hW (lv_fewer hl1 (lp_set1 ho)))
theorem E_istore {i : Nat} {x : Int32} (d : decode (fC q) pc = .ok (.istore i, 2)) (hi : i < fL q) (ho : okl ls i = true)
    (k : Ex g q τ (pc + 2) (ls.set i (some (.int x))) st M) : Ex g q τ pc ls (.int x :: st) M :=
  fun p e s m args below meth c H locs a hF hX hW hl => lv_istore hF.1 hF.2.1 d hl hi rfl (fun a1 hl1 => k p e s m args below meth c H locs a1 hF hX hW (lv_fewer hl1 (lp_set1 ho)))
theorem E_astore_n {i : Fin 4} {x : Nat} (d : decode (fC q) pc = .ok (.astore_n i, 1)) (hi : (i : Nat) < fL q) (ho : okl ls i = true)
    (k : Ex g q τ (pc + 1) (ls.set i (some (.ref x))) st M) : Ex g q τ pc ls (.ref x :: st) M :=
  fun p e s m args below meth c H locs a hF hX hW hl => lv_astore_n hF.1 hF.2.1 d rfl hl hi rfl (fun a1 hl1 => k p e s m args below meth c H locs a1 hF hX hW (lv_fewer hl1 (lp_set1 ho)))
theorem E_astore {i : Nat} {x : Nat} (d : decode (fC q) pc = .ok (.astore i, 2)) (hi : i < fL q) (ho : okl ls i = true)
    (k : Ex g q τ (pc + 2) (ls.set i (some (.ref x))) st M) : Ex g q τ pc ls (.ref x :: st) M :=
  fun p e s m args below meth c H locs a hF hX hW hl => lv_astore hF.1 hF.2.1 d hl hi rfl (fun a1 hl1 => k p e s m args below meth c H locs a1 hF hX hW (lv_fewer hl1 (lp_set1 ho)))
theorem E_lstore_n {i : Fin 4} {x : Int64} (d : decode (fC q) pc = .ok (.lstore_n i, 1)) (hi : (i : Nat) + 1 < fL q) (ho : okl ls i = true)
    (k : Ex g q τ (pc + 1) ((ls.set i (some (.long x))).set ((i : Nat) + 1) none) st M) : Ex g q τ pc ls (.long x :: st) M :=
  fun p e s m args below meth c H locs a hF hX hW hl => lv_lstore_n hF.1 hF.2.1 d rfl hl hi rfl (fun a1 hl1 => k p e s m args below meth c H locs a1 hF hX hW (lv_fewer hl1 (lp_set2 ho)))
theorem E_lstore {i : Nat} {x : Int64} (d : decode (fC q) pc = .ok (.lstore i, 2)) (hi : i + 1 < fL q) (ho : okl ls i = true)
    (k : Ex g q τ (pc + 2) ((ls.set i (some (.long x))).set (i + 1) none) st M) : Ex g q τ pc ls (.long x :: st) M :=
  fun p e s m args below meth c H locs a hF hX hW hl => lv_lstore hF.1 hF.2.1 d hl hi rfl (fun a1 hl1 => k p e s m args below meth c H locs a1 hF hX hW (lv_fewer hl1 (lp_set2 ho)))
theorem lp_idx {ad : Nat → Nat} {ls : List (Option Value)} {i : Nat} {v : Value} (h : ls[i]? = some (some v)) : ∃ k : Nat, (lp ad ls)[k]? = some (i, cv ad v) := List.getElem?_of_mem (lp_mem.mpr ⟨v, h, rfl⟩)
theorem E_iinc {i : Nat} {n : Int} {x v : Int32} (d : decode (fC q) pc = .ok (.iinc i n, 3)) (hl0 : ls[i]? = some (some (.int x))) (hv : Int32.ofInt n = v) (hi : i < fL q) (ho : okl ls i = true)
    (k : Ex g q τ (pc + 3) (ls.set i (some (.int (x + v)))) st M) : Ex g q τ pc ls st M := by
  intro p e s m args below meth c H locs a hF hX hW hl
  obtain ⟨j, hj⟩ := lp_idx (ad := gA g) hl0
  exact lv_iinc hF.1 hF.2.1 d hl hj (by rw [hv]) hi rfl (fun a1 hl1 => k p e s m args below meth c H locs a1 hF hX hW (lv_fewer hl1 (lp_set1 ho)))
theorem E_iadd {x y : Int32} (d : decode (fC q) pc = .ok (.iadd, 1))
    (k : Ex g q τ (pc + 1) ls (.int (x + y) :: st) M) : Ex g q τ pc ls (.int y :: .int x :: st) M :=
  fun p e s m args below meth c H locs a hF hX hW hl => lv_iadd hF.1 hF.2.1 d (k p e s m args below meth c H locs a hF hX hW hl)
theorem E_isub {x y : Int32} (d : decode (fC q) pc = .ok (.isub, 1))
    (k : Ex g q τ (pc + 1) ls (.int (x - y) :: st) M) : Ex g q τ pc ls (.int y :: .int x :: st) M :=
  fun p e s m args below meth c H locs a hF hX hW hl => lv_isub hF.1 hF.2.1 d (k p e s m args below meth c H locs a hF hX hW hl)
theorem E_imul {x y : Int32} (d : decode (fC q) pc = .ok (.imul, 1))
    (k : Ex g q τ (pc + 1) ls (.int (x * y) :: st) M) : Ex g q τ pc ls (.int y :: .int x :: st) M :=
  fun p e s m args below meth c H locs a hF hX hW hl => lv_imul hF.1 hF.2.1 d (k p e s m args below meth c H locs a hF hX hW hl)
theorem E_iand {x y : Int32} (d : decode (fC q) pc = .ok (.iand, 1))
    (k : Ex g q τ (pc + 1) ls (.int (x &&& y) :: st) M) : Ex g q τ pc ls (.int y :: .int x :: st) M :=
  fun p e s m args below meth c H locs a hF hX hW hl => lv_iand hF.1 hF.2.1 d (k p e s m args below meth c H locs a hF hX hW hl)
theorem E_ior {x y : Int32} (d : decode (fC q) pc = .ok (.ior, 1))
    (k : Ex g q τ (pc + 1) ls (.int (x ||| y) :: st) M) : Ex g q τ pc ls (.int y :: .int x :: st) M :=
  fun p e s m args below meth c H locs a hF hX hW hl => lv_ior hF.1 hF.2.1 d (k p e s m args below meth c H locs a hF hX hW hl)
theorem E_ixor {x y : Int32} (d : decode (fC q) pc = .ok (.ixor, 1))
    (k : Ex g q τ (pc + 1) ls (.int (x ^^^ y) :: st) M) : Ex g q τ pc ls (.int y :: .int x :: st) M :=
  fun p e s m args below meth c H locs a hF hX hW hl => lv_ixor hF.1 hF.2.1 d (k p e s m args below meth c H locs a hF hX hW hl)
theorem E_ishl {x y : Int32} (d : decode (fC q) pc = .ok (.ishl, 1))
    (k : Ex g q τ (pc + 1) ls (.int (x <<< (y &&& 31)) :: st) M) : Ex g q τ pc ls (.int y :: .int x :: st) M :=
  fun p e s m args below meth c H locs a hF hX hW hl => lv_ishl hF.1 hF.2.1 d (k p e s m args below meth c H locs a hF hX hW hl)
theorem E_ishr {x y : Int32} (d : decode (fC q) pc = .ok (.ishr, 1))
    (k : Ex g q τ (pc + 1) ls (.int (x >>> (y &&& 31)) :: st) M) : Ex g q τ pc ls (.int y :: .int x :: st) M :=
  fun p e s m args below meth c H locs a hF hX hW hl => lv_ishr hF.1 hF.2.1 d (k p e s m args below meth c H locs a hF hX hW hl)
theorem E_idiv {x y : Int32} (d : decode (fC q) pc = .ok (.idiv, 1)) (hne : ¬ y = 0)
    (k : Ex g q τ (pc + 1) ls (.int (x / y) :: st) M) : Ex g q τ pc ls (.int y :: .int x :: st) M :=
  fun p e s m args below meth c H locs a hF hX hW hl => lv_idiv hF.1 hF.2.1 d hne (k p e s m args below meth c H locs a hF hX hW hl)
theorem E_irem {x y : Int32} (d : decode (fC q) pc = .ok (.irem, 1)) (hne : ¬ y = 0)
    (k : Ex g q τ (pc + 1) ls (.int (x - x / y * y) :: st) M) : Ex g q τ pc ls (.int y :: .int x :: st) M :=
  fun p e s m args below meth c H locs a hF hX hW hl => lv_irem hF.1 hF.2.1 d hne (k p e s m args below meth c H locs a hF hX hW hl)
theorem E_iushr {x y : Int32} (d : decode (fC q) pc = .ok (.iushr, 1))
    (k : Ex g q τ (pc + 1) ls (.int ((x.toUInt32 >>> (y.toUInt32 &&& Int32.toUInt32 31)).toInt32) :: st) M) : Ex g q τ pc ls (.int y :: .int x :: st) M :=
  fun p e s m args below meth c H locs a hF hX hW hl => lv_iushr hF.1 hF.2.1 d rfl (k p e s m args below meth c H locs a hF hX hW hl)
theorem E_ladd {x y : Int64} (d : decode (fC q) pc = .ok (.ladd, 1))
    (k : Ex g q τ (pc + 1) ls (.long (x + y) :: st) M) : Ex g q τ pc ls (.long y :: .long x :: st) M :=
  fun p e s m args below meth c H locs a hF hX hW hl => lv_ladd hF.1 hF.2.1 d (k p e s m args below meth c H locs a hF hX hW hl)
theorem E_lsub {x y : Int64} (d : decode (fC q) pc = .ok (.lsub, 1))
    (k : Ex g q τ (pc + 1) ls (.long (x - y) :: st) M) : Ex g q τ pc ls (.long y :: .long x :: st) M :=
  fun p e s m args below meth c H locs a hF hX hW hl => lv_lsub hF.1 hF.2.1 d (k p e s m args below meth c H locs a hF hX hW hl)
theorem E_lcmp {x y : Int64} (d : decode (fC q) pc = .ok (.lcmp, 1))
    (k : Ex g q τ (pc + 1) ls (.int (lg_cmp x y) :: st) M) : Ex g q τ pc ls (.long y :: .long x :: st) M :=
  fun p e s m args below meth c H locs a hF hX hW hl => W.lcmp hF.1 hF.2.1 d (k p e s m args below meth c H locs a hF hX hW hl)
theorem E_i2l {x : Int32} (d : decode (fC q) pc = .ok (.i2l, 1))
    (k : Ex g q τ (pc + 1) ls (.long x.toInt64 :: st) M) : Ex g q τ pc ls (.int x :: st) M :=
  fun p e s m args below meth c H locs a hF hX hW hl => lv_i2l hF.1 hF.2.1 d rfl (k p e s m args below meth c H locs a hF hX hW hl)
theorem E_dup {v : Value} (d : decode (fC q) pc = .ok (.dup, 1)) (hv : (cv (gA g) v).category = 1)
    (k : Ex g q τ (pc + 1) ls (v :: v :: st) M) : Ex g q τ pc ls (v :: st) M :=
  fun p e s m args below meth c H locs a hF hX hW hl => lv_dup hF.1 hF.2.1 d hv (k p e s m args below meth c H locs a hF hX hW hl)
theorem E_dup2 {v u : Value} (d : decode (fC q) pc = .ok (.dup2, 1)) (hv : (cv (gA g) v).category = 1) (hu : (cv (gA g) u).category = 1)
    (k : Ex g q τ (pc + 1) ls (v :: u :: v :: u :: st) M) : Ex g q τ pc ls (v :: u :: st) M :=
  fun p e s m args below meth c H locs a hF hX hW hl => lv_dup2_11 hF.1 hF.2.1 d hv hu (k p e s m args below meth c H locs a hF hX hW hl)
theorem E_pop {v : Value} (d : decode (fC q) pc = .ok (.pop, 1)) (hv : (cv (gA g) v).category = 1)
    (k : Ex g q τ (pc + 1) ls st M) : Ex g q τ pc ls (v :: st) M :=
  fun p e s m args below meth c H locs a hF hX hW hl => lv_pop hF.1 hF.2.1 d hv (k p e s m args below meth c H locs a hF hX hW hl)
theorem E_goto {off : Int} {t : Nat} (d : decode (fC q) pc = .ok (.goto off, 3)) (ht : (pc : Int) + off = (t : Int))
    (k : Ex g q τ t ls st M) : Ex g q τ pc ls st M :=
  fun p e s m args below meth c H locs a hF hX hW hl => lv_goto hF.1 hF.2.1 d ht (k p e s m args below meth c H locs a hF hX hW hl)
theorem E_if_eq {x : Int32} {off : Int} {t : Nat} (d : decode (fC q) pc = .ok (.ifCond .eq off, 3)) (ht : (pc : Int) + off = (t : Int))
    (kt : x = 0 → Ex g q τ t ls st M) (kf : ¬ x = 0 → Ex g q τ (pc + 3) ls st M) : Ex g q τ pc ls (.int x :: st) M :=
  fun p e s m args below meth c H locs a hF hX hW hl => lv_if_eq hF.1 hF.2.1 d ht (fun h => kt h p e s m args below meth c H locs a hF hX hW hl) (fun h => kf h p e s m args below meth c H locs a hF hX hW hl)
theorem E_icmp_eq {x y : Int32} {off : Int} {t : Nat} (d : decode (fC q) pc = .ok (.if_icmp .eq off, 3)) (ht : (pc : Int) + off = (t : Int))
    (kt : x = y → Ex g q τ t ls st M) (kf : ¬ x = y → Ex g q τ (pc + 3) ls st M) : Ex g q τ pc ls (.int y :: .int x :: st) M :=
  fun p e s m args below meth c H locs a hF hX hW hl => lv_icmp_eq hF.1 hF.2.1 d ht (fun h => kt h p e s m args below meth c H locs a hF hX hW hl) (fun h => kf h p e s m args below meth c H locs a hF hX hW hl)
theorem E_if_ne {x : Int32} {off : Int} {t : Nat} (d : decode (fC q) pc = .ok (.ifCond .ne off, 3)) (ht : (pc : Int) + off = (t : Int))
    (kt : ¬ x = 0 → Ex g q τ t ls st M) (kf : x = 0 → Ex g q τ (pc + 3) ls st M) : Ex g q τ pc ls (.int x :: st) M :=
  fun p e s m args below meth c H locs a hF hX hW hl => lv_if_ne hF.1 hF.2.1 d ht (fun h => kt h p e s m args below meth c H locs a hF hX hW hl) (fun h => kf h p e s m args below meth c H locs a hF hX hW hl)
theorem E_icmp_ne {x y : Int32} {off : Int} {t : Nat} (d : decode (fC q) pc = .ok (.if_icmp .ne off, 3)) (ht : (pc : Int) + off = (t : Int))
    (kt : ¬ x = y → Ex g q τ t ls st M) (kf : x = y → Ex g q τ (pc + 3) ls st M) : Ex g q τ pc ls (.int y :: .int x :: st) M :=
  fun p e s m args below meth c H locs a hF hX hW hl => lv_icmp_ne hF.1 hF.2.1 d ht (fun h => kt h p e s m args below meth c H locs a hF hX hW hl) (fun h => kf h p e s m args below meth c H locs a hF hX hW hl)
theorem E_if_lt {x : Int32} {off : Int} {t : Nat} (d : decode (fC q) pc = .ok (.ifCond .lt off, 3)) (ht : (pc : Int) + off = (t : Int))
    (kt : x < 0 → Ex g q τ t ls st M) (kf : ¬ x < 0 → Ex g q τ (pc + 3) ls st M) : Ex g q τ pc ls (.int x :: st) M :=
  fun p e s m args below meth c H locs a hF hX hW hl => lv_if_lt hF.1 hF.2.1 d ht (fun h => kt h p e s m args below meth c H locs a hF hX hW hl) (fun h => kf h p e s m args below meth c H locs a hF hX hW hl)
theorem E_icmp_lt {x y : Int32} {off : Int} {t : Nat} (d : decode (fC q) pc = .ok (.if_icmp .lt off, 3)) (ht : (pc : Int) + off = (t : Int))
    (kt : x < y → Ex g q τ t ls st M) (kf : ¬ x < y → Ex g q τ (pc + 3) ls st M) : Ex g q τ pc ls (.int y :: .int x :: st) M :=
  fun p e s m args below meth c H locs a hF hX hW hl => lv_icmp_lt hF.1 hF.2.1 d ht (fun h => kt h p e s m args below meth c H locs a hF hX hW hl) (fun h => kf h p e s m args below meth c H locs a hF hX hW hl)
theorem E_if_ge {x : Int32} {off : Int} {t : Nat} (d : decode (fC q) pc = .ok (.ifCond .ge off, 3)) (ht : (pc : Int) + off = (t : Int))
    (kt : 0 ≤ x → Ex g q τ t ls st M) (kf : ¬ 0 ≤ x → Ex g q τ (pc + 3) ls st M) : Ex g q τ pc ls (.int x :: st) M :=
  fun p e s m args below meth c H locs a hF hX hW hl => lv_if_ge hF.1 hF.2.1 d ht (fun h => kt h p e s m args below meth c H locs a hF hX hW hl) (fun h => kf h p e s m args below meth c H locs a hF hX hW hl)
theorem E_icmp_ge {x y : Int32} {off : Int} {t : Nat} (d : decode (fC q) pc = .ok (.if_icmp .ge off, 3)) (ht : (pc : Int) + off = (t : Int))
    (kt : y ≤ x → Ex g q τ t ls st M) (kf : ¬ y ≤ x → Ex g q τ (pc + 3) ls st M) : Ex g q τ pc ls (.int y :: .int x :: st) M :=
  fun p e s m args below meth c H locs a hF hX hW hl => lv_icmp_ge hF.1 hF.2.1 d ht (fun h => kt h p e s m args below meth c H locs a hF hX hW hl) (fun h => kf h p e s m args below meth c H locs a hF hX hW hl)
theorem E_if_gt {x : Int32} {off : Int} {t : Nat} (d : decode (fC q) pc = .ok (.ifCond .gt off, 3)) (ht : (pc : Int) + off = (t : Int))
    (kt : 0 < x → Ex g q τ t ls st M) (kf : ¬ 0 < x → Ex g q τ (pc + 3) ls st M) : Ex g q τ pc ls (.int x :: st) M :=
  fun p e s m args below meth c H locs a hF hX hW hl => lv_if_gt hF.1 hF.2.1 d ht (fun h => kt h p e s m args below meth c H locs a hF hX hW hl) (fun h => kf h p e s m args below meth c H locs a hF hX hW hl)
theorem E_icmp_gt {x y : Int32} {off : Int} {t : Nat} (d : decode (fC q) pc = .ok (.if_icmp .gt off, 3)) (ht : (pc : Int) + off = (t : Int))
    (kt : y < x → Ex g q τ t ls st M) (kf : ¬ y < x → Ex g q τ (pc + 3) ls st M) : Ex g q τ pc ls (.int y :: .int x :: st) M :=
  fun p e s m args below meth c H locs a hF hX hW hl => lv_icmp_gt hF.1 hF.2.1 d ht (fun h => kt h p e s m args below meth c H locs a hF hX hW hl) (fun h => kf h p e s m args below meth c H locs a hF hX hW hl)
theorem E_if_le {x : Int32} {off : Int} {t : Nat} (d : decode (fC q) pc = .ok (.ifCond .le off, 3)) (ht : (pc : Int) + off = (t : Int))
    (kt : x ≤ 0 → Ex g q τ t ls st M) (kf : ¬ x ≤ 0 → Ex g q τ (pc + 3) ls st M) : Ex g q τ pc ls (.int x :: st) M :=
  fun p e s m args below meth c H locs a hF hX hW hl => lv_if_le hF.1 hF.2.1 d ht (fun h => kt h p e s m args below meth c H locs a hF hX hW hl) (fun h => kf h p e s m args below meth c H locs a hF hX hW hl)
theorem E_icmp_le {x y : Int32} {off : Int} {t : Nat} (d : decode (fC q) pc = .ok (.if_icmp .le off, 3)) (ht : (pc : Int) + off = (t : Int))
    (kt : x ≤ y → Ex g q τ t ls st M) (kf : ¬ x ≤ y → Ex g q τ (pc + 3) ls st M) : Ex g q τ pc ls (.int y :: .int x :: st) M :=
  fun p e s m args below meth c H locs a hF hX hW hl => lv_icmp_le hF.1 hF.2.1 d ht (fun h => kt h p e s m args below meth c H locs a hF hX hW hl) (fun h => kf h p e s m args below meth c H locs a hF hX hW hl)
theorem E_swOut {dflt lo hi : Int} {offs : Array Int} {len : Nat} {x : Int32} {t : Nat} (d : decode (fC q) pc = .ok (.tableswitch dflt lo hi offs, len)) (h : x.toInt < lo ∨ hi < x.toInt) (ht : (pc : Int) + dflt = (t : Int))
    (k : Ex g q τ t ls st M) : Ex g q τ pc ls (.int x :: st) M :=
  fun p e s m args below meth c H locs a hF hX hW hl => lv_tableOut hF.1 hF.2.1 d h ht (k p e s m args below meth c H locs a hF hX hW hl)
theorem E_swIn {dflt lo hi : Int} {offs : Array Int} {len : Nat} {x : Int32} {off : Int} {t : Nat} (d : decode (fC q) pc = .ok (.tableswitch dflt lo hi offs, len)) (h1 : ¬ x.toInt < lo) (h2 : ¬ hi < x.toInt) (ho : offs[(x.toInt - lo).toNat]? = some off) (ht : (pc : Int) + off = (t : Int))
    (k : Ex g q τ t ls st M) : Ex g q τ pc ls (.int x :: st) M :=
  fun p e s m args below meth c H locs a hF hX hW hl => lv_tableIn hF.1 hF.2.1 d h1 h2 ho ht (k p e s m args below meth c H locs a hF hX hW hl)
theorem E_getI {idx ci j i : Nat} {C : String} {T : u_T} {N : Nat} (d : decode (fC q) pc = .ok (.getfield idx, 3)) (hf : Cond.fieldLink (fY q).cls idx (T j).1 (T j).2.1 (T j).2.2.1 ∈ tbG) (hc : clss[ci]? = some (C, T, N)) (hj : j < nf ci) (hk : kd i = (0, ci)) (ht : ft ci j < 2)
    (k : Ex g q τ (pc + 3) ls (.int (M.1 i j) :: st) M) : Ex g q τ pc ls (.ref i :: st) M := by
  intro p e s m args below meth c H locs a hF hX hW hl
  obtain ⟨hN, hin, -⟩ := cls_ok hc
  have hv : fv (gA g) M i ci j = cv (gA g) (.int (M.1 i j)) := by
    unfold fv
    match hq : ft ci j, ht with
    | 0, _ => rfl
    | 1, _ => rfl
  refine va_get hF.1 hF.2.1 hF.2.2.2.2.2.1 hin hF.2.2.2.2.1 hF.2.2.2.2.2.2.2.2.2 hW.1 i (by rw [cw_get g M (kd_lt hk (by decide)), cc_o hk]) hc j (by rw [hN]; exact hj) (hF.2.2.2.2.2.1 _ hf) (fun _ h => h) (fl_at hj) d ?_
  rw [hv]
  exact k p e s m args below meth c H locs a hF hX hW hl
theorem E_getR {idx ci j i : Nat} {C : String} {T : u_T} {N : Nat} (d : decode (fC q) pc = .ok (.getfield idx, 3)) (hf : Cond.fieldLink (fY q).cls idx (T j).1 (T j).2.1 (T j).2.2.1 ∈ tbG) (hc : clss[ci]? = some (C, T, N)) (hj : j < nf ci) (hk : kd i = (0, ci)) (ht : ft ci j = 2)
    (k : Ex g q τ (pc + 3) ls (.ref (sr i j) :: st) M) : Ex g q τ pc ls (.ref i :: st) M := by
  intro p e s m args below meth c H locs a hF hX hW hl
  obtain ⟨hN, hin, -⟩ := cls_ok hc
  have hv : fv (gA g) M i ci j = cv (gA g) (.ref (sr i j)) := by
    unfold fv
    rw [ht]
    rfl
  refine va_get hF.1 hF.2.1 hF.2.2.2.2.2.1 hin hF.2.2.2.2.1 hF.2.2.2.2.2.2.2.2.2 hW.1 i (by rw [cw_get g M (kd_lt hk (by decide)), cc_o hk]) hc j (by rw [hN]; exact hj) (hF.2.2.2.2.2.1 _ hf) (fun _ h => h) (fl_at hj) d ?_
  rw [hv]
  exact k p e s m args below meth c H locs a hF hX hW hl
theorem E_getM {idx ci j i : Nat} {C : String} {T : u_T} {N : Nat} (d : decode (fC q) pc = .ok (.getfield idx, 3)) (hf : Cond.fieldLink (fY q).cls idx (T j).1 (T j).2.1 (T j).2.2.1 ∈ tbG) (hc : clss[ci]? = some (C, T, N)) (hj : j < nf ci) (hk : kd i = (0, ci)) (ht : ft ci j = 3)
    (k : Ex g q τ (pc + 3) ls (.ref (M.2.2 i j) :: st) M) : Ex g q τ pc ls (.ref i :: st) M := by
  intro p e s m args below meth c H locs a hF hX hW hl
  obtain ⟨hN, hin, -⟩ := cls_ok hc
  have hv : fv (gA g) M i ci j = cv (gA g) (.ref (M.2.2 i j)) := by
    unfold fv
    rw [ht]
    rfl
  refine va_get hF.1 hF.2.1 hF.2.2.2.2.2.1 hin hF.2.2.2.2.1 hF.2.2.2.2.2.2.2.2.2 hW.1 i (by rw [cw_get g M (kd_lt hk (by decide)), cc_o hk]) hc j (by rw [hN]; exact hj) (hF.2.2.2.2.2.1 _ hf) (fun _ h => h) (fl_at hj) d ?_
  rw [hv]
  exact k p e s m args below meth c H locs a hF hX hW hl
theorem E_putI {idx ci j i : Nat} {C : String} {T : u_T} {N : Nat} (d : decode (fC q) pc = .ok (.putfield idx, 3)) (hf : Cond.fieldLink (fY q).cls idx (T j).1 (T j).2.1 (T j).2.2.1 ∈ tbG) (hc : clss[ci]? = some (C, T, N)) (hj : j < nf ci) (hk : kd i = (0, ci)) (ht : ft ci j = 0) {x : Int32}
    (k : Ex g q τ (pc + 3) ls st (sI M i j x)) : Ex g q τ pc ls (.int x :: .ref i :: st) M := by
  intro p e s m args below meth c H locs a hF hX hW hl
  obtain ⟨hN, hin, ty, hty, hnm, hj3⟩ := cls_ok hc
  have hjN : j < N := by rw [hN]; exact hj
  have hz : (T j).2.2.2 = false ∧ narrow (ty j) (.int x) = .int x ∧ fits (ty j) (.int x) = true := by
    obtain ⟨h1, h2⟩ := (hj3 j hjN).1 ht
    rw [h2]
    exact ⟨h1, rfl, rfl⟩
  refine va_put hF.1 hF.2.1 hF.2.2.2.2.2.1 hin ty hty hnm hF.2.2.2.2.1 hF.2.2.2.2.2.2.2.2.2 hW.1 (cw_D hF.2.2.2.2.2.2.2.2.1 M) hW.2 i (by rw [cw_get g M (kd_lt hk (by decide)), cc_o hk]) hc j hjN (hF.2.2.2.2.2.1 _ hf) (fun _ h => h) hz.1 (hty j hjN) hz.2.1 hz.2.2 (by simpa using hj) d (fun H1 locs1 hP hD hS => ?_)
  have hP : va_P g.2.1 clss ((cw g M).set i (gA g i, .inr (ci, ((List.range (nf ci)).map (fv (gA g) M i ci)).set j (.int x)))) H1 := hP
  rw [cw_setF hk hj (by rw [ht]; decide)] at hP
  exact k p e s m args below meth c H1 locs1 a hF hX ⟨hP, hS⟩ hl
theorem E_putZ {idx ci j i : Nat} {C : String} {T : u_T} {N : Nat} (d : decode (fC q) pc = .ok (.putfield idx, 3)) (hf : Cond.fieldLink (fY q).cls idx (T j).1 (T j).2.1 (T j).2.2.1 ∈ tbG) (hc : clss[ci]? = some (C, T, N)) (hj : j < nf ci) (hk : kd i = (0, ci)) (ht : ft ci j = 1) {x : Int32} (hx : x = 0 ∨ x = 1)
    (k : Ex g q τ (pc + 3) ls st (sI M i j x)) : Ex g q τ pc ls (.int x :: .ref i :: st) M := by
  intro p e s m args below meth c H locs a hF hX hW hl
  obtain ⟨hN, hin, ty, hty, hnm, hj3⟩ := cls_ok hc
  have hjN : j < N := by rw [hN]; exact hj
  have hz : (T j).2.2.2 = false ∧ narrow (ty j) (.int x) = .int x ∧ fits (ty j) (.int x) = true := by
    obtain ⟨h1, h2⟩ := (hj3 j hjN).2.1 ht
    rw [h2]
    rcases hx with rfl | rfl <;> exact ⟨h1, by decide, by decide⟩
  refine va_put hF.1 hF.2.1 hF.2.2.2.2.2.1 hin ty hty hnm hF.2.2.2.2.1 hF.2.2.2.2.2.2.2.2.2 hW.1 (cw_D hF.2.2.2.2.2.2.2.2.1 M) hW.2 i (by rw [cw_get g M (kd_lt hk (by decide)), cc_o hk]) hc j hjN (hF.2.2.2.2.2.1 _ hf) (fun _ h => h) hz.1 (hty j hjN) hz.2.1 hz.2.2 (by simpa using hj) d (fun H1 locs1 hP hD hS => ?_)
  have hP : va_P g.2.1 clss ((cw g M).set i (gA g i, .inr (ci, ((List.range (nf ci)).map (fv (gA g) M i ci)).set j (.int x)))) H1 := hP
  rw [cw_setF hk hj (by rw [ht]; decide)] at hP
  exact k p e s m args below meth c H1 locs1 a hF hX ⟨hP, hS⟩ hl
theorem E_putR {idx ci j i : Nat} {C : String} {T : u_T} {N : Nat} (d : decode (fC q) pc = .ok (.putfield idx, 3)) (hf : Cond.fieldLink (fY q).cls idx (T j).1 (T j).2.1 (T j).2.2.1 ∈ tbG) (hc : clss[ci]? = some (C, T, N)) (hj : j < nf ci) (hk : kd i = (0, ci)) (ht : ft ci j = 3) {b : Nat}
    (k : Ex g q τ (pc + 3) ls st (sR M i j b)) : Ex g q τ pc ls (.ref b :: .ref i :: st) M := by
  intro p e s m args below meth c H locs a hF hX hW hl
  obtain ⟨hN, hin, ty, hty, hnm, hj3⟩ := cls_ok hc
  have hjN : j < N := by rw [hN]; exact hj
  have hz : (T j).2.2.2 = false ∧ narrow (ty j) (.ref (gA g b)) = .ref (gA g b) ∧ fits (ty j) (.ref (gA g b)) = true := by
    obtain ⟨h1, h2⟩ := (hj3 j hjN).2.2 ht
    refine ⟨h1, ?_, ?_⟩ <;> (cases hty2 : ty j <;> rw [hty2] at h2 <;> first | rfl | (simp [refKind] at h2))
  refine va_put hF.1 hF.2.1 hF.2.2.2.2.2.1 hin ty hty hnm hF.2.2.2.2.1 hF.2.2.2.2.2.2.2.2.2 hW.1 (cw_D hF.2.2.2.2.2.2.2.2.1 M) hW.2 i (by rw [cw_get g M (kd_lt hk (by decide)), cc_o hk]) hc j hjN (hF.2.2.2.2.2.1 _ hf) (fun _ h => h) hz.1 (hty j hjN) hz.2.1 hz.2.2 (by simpa using hj) d (fun H1 locs1 hP hD hS => ?_)
  have hP : va_P g.2.1 clss ((cw g M).set i (gA g i, .inr (ci, ((List.range (nf ci)).map (fv (gA g) M i ci)).set j (.ref (gA g b))))) H1 := hP
  rw [cw_setR hk hj ht] at hP
  exact k p e s m args below meth c H1 locs1 a hF hX ⟨hP, hS⟩ hl
theorem E_iald {i n : Nat} {x : Int32} (d : decode (fC q) pc = .ok (.iaload, 1)) (hk : kd i = (1, n)) (hin : vp_in x n)
    (k : Ex g q τ (pc + 1) ls (.int (M.1 i x.toNatClampNeg) :: st) M) : Ex g q τ pc ls (.int x :: .ref i :: st) M :=
  fun p e s m args below meth c H locs a hF hX hW hl => va_iald hF.1 hF.2.1 hF.2.2.2.2.2.2.2.2.2 hW.1 i 0 (by rw [cw_get g M (kd_lt hk (by decide)), cc_i hk]) rfl hin d (k p e s m args below meth c H locs a hF hX hW hl)
theorem E_zald {i n : Nat} {x : Int32} (d : decode (fC q) pc = .ok (.baload, 1)) (hk : kd i = (2, n)) (hin : vp_in x n)
    (k : Ex g q τ (pc + 1) ls (.int (M.1 i x.toNatClampNeg) :: st) M) : Ex g q τ pc ls (.int x :: .ref i :: st) M :=
  fun p e s m args below meth c H locs a hF hX hW hl => va_zald hF.1 hF.2.1 hF.2.2.2.2.2.2.2.2.2 hW.1 i 1 (by rw [cw_get g M (kd_lt hk (by decide)), cc_z hk]) rfl hin d (k p e s m args below meth c H locs a hF hX hW hl)
theorem E_lald {i n : Nat} {x : Int32} (d : decode (fC q) pc = .ok (.laload, 1)) (hk : kd i = (3, n)) (hin : vp_in x n)
    (k : Ex g q τ (pc + 1) ls (.long (M.2.1 i x.toNatClampNeg) :: st) M) : Ex g q τ pc ls (.int x :: .ref i :: st) M :=
  fun p e s m args below meth c H locs a hF hX hW hl => va_lald hF.1 hF.2.1 hF.2.2.2.2.2.2.2.2.2 hW.1 i 2 (by rw [cw_get g M (kd_lt hk (by decide)), cc_l hk]) rfl hin d (k p e s m args below meth c H locs a hF hX hW hl)
theorem E_iast {i n : Nat} {x : Int32} {v : Int32} (d : decode (fC q) pc = .ok (.iastore, 1)) (hk : kd i = (1, n)) (hin : vp_in x n)
    (k : Ex g q τ (pc + 1) ls st (sI M i x.toNatClampNeg v)) : Ex g q τ pc ls (.int v :: .int x :: .ref i :: st) M := by
  intro p e s m args below meth c H locs a hF hX hW hl
  refine va_iast hF.1 hF.2.1 hF.2.2.2.2.2.2.2.2.2 hW.1 (cw_D hF.2.2.2.2.2.2.2.2.1 M) hW.2 i 0 (by rw [cw_get g M (kd_lt hk (by decide)), cc_i hk]) rfl hin d (fun H1 locs1 hP hD hS => ?_)
  rw [cw_setI hk] at hP
  exact k p e s m args below meth c H1 locs1 a hF hX ⟨hP, hS⟩ hl
theorem E_zast {i n : Nat} {x : Int32} {v : Int32} (d : decode (fC q) pc = .ok (.bastore, 1)) (hk : kd i = (2, n)) (hin : vp_in x n)
    (k : Ex g q τ (pc + 1) ls st (sI M i x.toNatClampNeg (v &&& 1))) : Ex g q τ pc ls (.int v :: .int x :: .ref i :: st) M := by
  intro p e s m args below meth c H locs a hF hX hW hl
  refine va_zast hF.1 hF.2.1 hF.2.2.2.2.2.2.2.2.2 hW.1 (cw_D hF.2.2.2.2.2.2.2.2.1 M) hW.2 i 1 (by rw [cw_get g M (kd_lt hk (by decide)), cc_z hk]) rfl hin d (fun H1 locs1 hP hD hS => ?_)
  rw [cw_setZ hk] at hP
  exact k p e s m args below meth c H1 locs1 a hF hX ⟨hP, hS⟩ hl
theorem E_last {i n : Nat} {x : Int32} {v : Int64} (d : decode (fC q) pc = .ok (.lastore, 1)) (hk : kd i = (3, n)) (hin : vp_in x n)
    (k : Ex g q τ (pc + 1) ls st (sL M i x.toNatClampNeg v)) : Ex g q τ pc ls (.long v :: .int x :: .ref i :: st) M := by
  intro p e s m args below meth c H locs a hF hX hW hl
  refine va_last hF.1 hF.2.1 hF.2.2.2.2.2.2.2.2.2 hW.1 (cw_D hF.2.2.2.2.2.2.2.2.1 M) hW.2 i 2 (by rw [cw_get g M (kd_lt hk (by decide)), cc_l hk]) rfl hin d (fun H1 locs1 hP hD hS => ?_)
  rw [cw_setL hk] at hP
  exact k p e s m args below meth c H1 locs1 a hF hX ⟨hP, hS⟩ hl
theorem E_alen {i t n : Nat} {v : Int32} (d : decode (fC q) pc = .ok (.arraylength, 1)) (hk : kd i = (t + 1, n)) (ht : t < 3) (hv : Int32.ofNat n = v)
    (k : Ex g q τ (pc + 1) ls (.int v :: st) M) : Ex g q τ pc ls (.ref i :: st) M := by
  intro p e s m args below meth c H locs a hF hX hW hl
  match t, ht with
  | 0, _ => exact va_alen hF.1 hF.2.1 hF.2.2.2.2.2.2.2.2.2 hW.1 i 0 (by rw [cw_get g M (kd_lt hk (by decide)), cc_i hk]) rfl hv d (k p e s m args below meth c H locs a hF hX hW hl)
  | 1, _ => exact va_alen hF.1 hF.2.1 hF.2.2.2.2.2.2.2.2.2 hW.1 i 1 (by rw [cw_get g M (kd_lt hk (by decide)), cc_z hk]) rfl hv d (k p e s m args below meth c H locs a hF hX hW hl)
  | 2, _ => exact va_alen hF.1 hF.2.1 hF.2.2.2.2.2.2.2.2.2 hW.1 i 2 (by rw [cw_get g M (kd_lt hk (by decide)), cc_l hk]) rfl hv d (k p e s m args below meth c H locs a hF hX hW hl)
theorem E_iret {Q : Option Value → AM → Prop} {x : Int32} (d : decode (fC q) pc = .ok (.ireturn, 1)) (hr : fR q = some .int) (hq : Q (some (.int x)) M) : Ex g q (tm g q Q) pc ls [.int x] M :=
  fun p e s m args below meth c H locs a hF hX hW hl => W.iret hF.1 hF.2.1 (by rw [hF.2.2.1, hr]) (fun t ht _ => ⟨⟨some (.int x), M, rfl, hq, by rw [ht]; exact hW.1⟩, hW.2.F ht⟩) hW.2.2.2 d hF.2.2.2.2.2.2.1
theorem E_lret {Q : Option Value → AM → Prop} {x : Int64} (d : decode (fC q) pc = .ok (.lreturn, 1)) (hr : fR q = some .long) (hq : Q (some (.long x)) M) : Ex g q (tm g q Q) pc ls [.long x] M :=
  fun p e s m args below meth c H locs a hF hX hW hl => W.lret hF.1 hF.2.1 (by rw [hF.2.2.1, hr]) (fun t ht _ => ⟨⟨some (.long x), M, rfl, hq, by rw [ht]; exact hW.1⟩, hW.2.F ht⟩) hW.2.2.2 d hF.2.2.2.2.2.2.1
theorem E_vret {Q : Option Value → AM → Prop} (d : decode (fC q) pc = .ok (.return_, 1)) (hr : fR q = none) (hq : Q (none) M) : Ex g q (tm g q Q) pc ls [] M :=
  fun p e s m args below meth c H locs a hF hX hW hl => W.vret hF.1 hF.2.1 (by rw [hF.2.2.1, hr]) (fun t ht _ => ⟨⟨none, M, rfl, hq, by rw [ht]; exact hW.1⟩, hW.2.F ht⟩) hW.2.2.2 d hF.2.2.2.2.2.2.1
theorem E_zret {Q : Option Value → AM → Prop} {x : Int32} (d : decode (fC q) pc = .ok (.ireturn, 1)) (hr : fR q = some .boolean) (hx : x = 0 ∨ x = 1) (hq : Q (some (.int x)) M) : Ex g q (tm g q Q) pc ls [.int x] M :=
  fun p e s m args below meth c H locs a hF hX hW hl => W.zret hF.1 hF.2.1 (by rw [hF.2.2.1, hr]) (by rcases hx with rfl | rfl <;> decide) (fun t ht _ => ⟨⟨some (.int x), M, rfl, hq, by rw [ht]; exact hW.1⟩, hW.2.F ht⟩) hW.2.2.2 d hF.2.2.2.2.2.2.1
/-- a method's contract out of the walk of its body -/
theorem Call_of {As : List Value} {Q : Option Value → AM → Prop} {ls0 : List (Option Value)} (hp : plainName (fY q).cls = true) (h0 : lp (gA g) ls0 = lv_args 0 (As.map (cv (gA g)))) (hn : (lg_sl (As.map (cv (gA g)))).length ≤ fL q) (k : Ex g q (tm g q Q) 0 ls0 [] M) : Call g q As M Q := by
  refine Met.ofW (cc := fC q) (maxL := fL q) (ret := fR q) hp rfl ?_
  intro p e s m args below meth c s₁ B hml hv
  obtain ⟨rfl, hP, hK, hN, hG⟩ := hv
  have hts := atoms_spec (ws := wsm q) B.pre
  rw [lg_entry_eq]
  have hl := lv_entry (As.map (cv (gA g))) hn
  refine k p e s m _ below meth c s.heap [] _ ⟨B.exec, B.bytes, B.returns, hml, findClass_of_methodNamed B.named, fun w hw => hts w (List.mem_cons_of_mem _ hw), B.notSynchronized, hN, hG, hK⟩ trivial ⟨hP, va_S.rf⟩ (lv_fewer hl (fun x hx => by rw [← h0]; exact hx))
theorem PcA_blind {As : List Value} : FrameBlind (PcA g As M) := fun a U f mk h => by
  obtain ⟨q0, qP, qK, qN, qG⟩ := h
  exact ⟨q0, qP, va_K.moved (u := U) (U := U.calling f mk a) (Vm.Alike.refl U.vm) qK, NestOK.same (u := U) (U := U.calling f mk a) rfl qN, qG⟩
/-- behind a call -/
theorem E_ran {p : Program} {e : Env} {s : State} {m : MethodId} {args : Array Value} {below : List Frame} {meth : Method} {c : Code} {H : Heap} {locs : List Loc} {a : Array Slot} {st0 : List Value} {A1 : Array Value} {Q' : Option Value → AM → Prop}
    (hr : va_Run p g.1 e τ.1 s m args below meth c H locs τ.2.1 τ.2.2.1 0 0 (F0 m pc a st0) (st.map (cv (gA g))) (QcA g Q' A1) (Fr g)) (hF : Fx g q p s m args meth c) (hX : τ.2.2.2.2 s args) (hS : va_S (Fr g) s.heap H locs) (hl : lv_has a (fL q) (lp (gA g) ls))
    (k : ∀ (v : Option Value) (M' : AM), Q' v M' → Ex g q τ (pc + 3) ls (v.toList ++ st) M') : W p g.1 e τ.1 s m args below meth c H locs τ.2.1 τ.2.2.1 (τ.2.2.2.1 below args s) (F0 m pc a st0) := by
  intro T hT X
  obtain ⟨v, st₀, t, T', L, h0, X', hL, e1, e2, ⟨⟨v', M', hv, hq, hP⟩, hF2⟩, go⟩ := hr T hT X
  have hv : v = v'.map (cv (gA g)) := by cases hv; rfl
  subst hv
  have hS' : va_S (Fr g) s.heap T'.heap (locs ++ L) := by
    refine ⟨Nat.le_trans hS.1 (by rw [e1, ← h0]; exact hF2.1), fun x h1 h2 => ?_, fun x hx => ?_⟩
    · rw [e1, hF2.2 x (by rw [h0]; exact Nat.lt_of_lt_of_le h1 hS.1) h2, h0]
      exact hS.2.1 x h1 h2
    · rcases List.mem_append.mp hx with h | h
      · exact hS.2.2 x h
      · exact hL x h
  obtain ⟨t2, a1, b1⟩ := k v' M' hq p e s m args below meth c T'.heap (locs ++ L) a hF hX ⟨by rw [e1]; exact hP, hS'⟩ hl T' rfl X'
  refine ⟨t2, go t2 ?_, b1⟩
  have hst : (v'.toList ++ st).map (cv (gA g)) = (v'.map (cv (gA g))).toList ++ st.map (cv (gA g)) := by cases v' <;> simp
  rw [hst] at a1
  exact a1
/-- the room that a call needs -/
def rmOK (τ : TT) (r : MI) : Prop := fV r + 1 ≤ τ.1.frames ∧ 8 + (fL r + 11) + 38 * fV r ≤ τ.1.locals ∧ τ.2.1 ≤ τ.1.cells ∧ τ.2.2.1 ≤ τ.1.slots
def catS (ad : Nat → Nat) (st : List Value) : Nat := ((st.map (cv ad)).map fun v => v.category).sum
/-- what is known of a method that is called on an object; of a static one -/
def vOK (r : MI) (n : Nat) : Prop := Cond.code (fY r) (fC r) (fL r) (fR r) ∈ tbG ∧ Cond.instanceMethod (fY r) ∈ tbG ∧ Cond.selects (fY r).cls (fY r) (fY r) ∈ tbG ∧ Cond.initialized (fY r).cls ∈ tbG ∧ ((fY r).cls ≠ "java/lang/invoke/MethodHandle" ∧ (fY r).cls ≠ "java/lang/invoke/VarHandle" ∧ (parseMethodDescriptor (fY r).desc).map (fun d => d.parameters.length) = some n)
def tOK (r : MI) (n : Nat) : Prop := Cond.code (fY r) (fC r) (fL r) (fR r) ∈ tbG ∧ Cond.static (fY r) ∈ tbG ∧ Cond.initialized (fY r).cls ∈ tbG ∧ ((fY r).cls ≠ "java/lang/invoke/MethodHandle" ∧ (fY r).cls ≠ "java/lang/invoke/VarHandle" ∧ (parseMethodDescriptor (fY r).desc).map (fun d => d.parameters.length) = some n)
theorem E_callV {idx i ci n : Nat} {r : MI} {As stk : List Value} {Q' : Option Value → AM → Prop} {T : u_T} {N : Nat} (d : decode (fC q) pc = .ok (.invokevirtual idx, 3)) (hl0 : Cond.methodLink (fY q).cls idx (fY r) ∈ tbG) (hv : vOK r n) (hn : As.length = n) (hk : kd i = (0, ci)) (hc : clss[ci]? = some ((fY r).cls, T, N)) (hm : rmOK τ r) (C : Call g r (.ref i :: As) M Q') (hs : stk = As.reverse ++ .ref i :: st) (h8 : catS (gA g) st ≤ 8)
    (k : ∀ (v : Option Value) (M' : AM), Q' v M' → Ex g q τ (pc + 3) ls (v.toList ++ st) M') : Ex g q τ pc ls stk M := by
  intro p e s m args below meth c H locs a hF hX hW hl
  subst hs
  have hts := hF.2.2.2.2.2.1
  have hrec := va_recv hF.2.2.2.2.2.2.2.2.2 hW.1 hc (show (cw g M)[i]? = some (gA g i, .inr (ci, (List.range (nf ci)).map (fv (gA g) M i ci))) by rw [cw_get g M (kd_lt hk (by decide)), cc_o hk])
  refine E_ran (va_runV (cc := fC q) (nL := fL q) (Ts := tbG) (own := (fY q).cls) (C := (fY r).cls) (y := fY r) (bytes := fC r) (maxL := fL r) (ret := fR r) (ws := wsm r) (rm := rmq r) (n := n) (index := idx) (b := gA g i) (As := As.map (cv (gA g))) (rest := st.map (cv (gA g))) ⟨hF.1, hF.2.1, hF.2.2.2.1, hF.2.2.2.2.1, hts⟩ C
    ⟨callB_of n hts (wsm_good hv.1) rfl rfl rfl (hts _ hv.2.2.2.1) (hts _ hl0) hv.2.2.2.2 ⟨hm.1, hm.2.1⟩, hts _ hv.2.1, hts _ hv.2.2.1⟩
    ⟨PcA_blind, hrec, fun U hU hW1 => ⟨by simp [cv], by rw [hU]; exact hW.1, va_K.moved hW1.alike hF.2.2.2.2.2.2.2.2.2, hF.2.2.2.2.2.2.2.1.warm hW1, hF.2.2.2.2.2.2.2.2.1⟩⟩
    rfl (by simpa using hn) hl.1 (by simp [cv]) (lv_room h8) d ⟨by simpa using hm.2.2.1, by simpa using hm.2.2.2⟩) hF hX hW.2 hl k
theorem E_callS {idx n : Nat} {r : MI} {As stk : List Value} {Q' : Option Value → AM → Prop} (d : decode (fC q) pc = .ok (.invokestatic idx, 3)) (hl0 : Cond.methodLink (fY q).cls idx (fY r) ∈ tbG) (hv : tOK r n) (hn : As.length = n) (hm : rmOK τ r) (C : Call g r As M Q') (hs : stk = As.reverse ++ st) (h8 : catS (gA g) st ≤ 8)
    (k : ∀ (v : Option Value) (M' : AM), Q' v M' → Ex g q τ (pc + 3) ls (v.toList ++ st) M') : Ex g q τ pc ls stk M := by
  intro p e s m args below meth c H locs a hF hX hW hl
  subst hs
  have hts := hF.2.2.2.2.2.1
  refine E_ran (va_runS (cc := fC q) (nL := fL q) (Ts := tbG) (own := (fY q).cls) (y := fY r) (bytes := fC r) (maxL := fL r) (ret := fR r) (ws := wsm r) (rm := rmq r) (n := n) (index := idx) (As := As.map (cv (gA g))) (rest := st.map (cv (gA g))) ⟨hF.1, hF.2.1, hF.2.2.2.1, hF.2.2.2.2.1, hts⟩ C
    ⟨callB_of n hts (wsm_good hv.1) rfl rfl rfl (hts _ hv.2.2.1) (hts _ hl0) hv.2.2.2 ⟨hm.1, hm.2.1⟩, hts _ hv.2.1⟩
    ⟨PcA_blind, fun U hU hW1 => ⟨rfl, by rw [hU]; exact hW.1, va_K.moved hW1.alike hF.2.2.2.2.2.2.2.2.2, hF.2.2.2.2.2.2.2.1.warm hW1, hF.2.2.2.2.2.2.2.2.1⟩⟩
    rfl (by simpa using hn) hl.1 (by simp) (lv_room h8) d ⟨by simpa using hm.2.2.1, by simpa using hm.2.2.2⟩) hF hX hW.2 hl k
theorem E_callN {idx n : Nat} {r : MI} {As stk : List Value} {Q' : Option Value → AM → Prop} {host : String} (d : decode (fC q) pc = .ok (.invokestatic idx, 3)) (hl0 : Cond.methodLinkNest (fY q).cls idx (fY r) host ∈ nst) (hv : tOK r n) (hn : As.length = n) (hm : rmOK τ r) (C : Call g r As M Q') (hs : stk = As.reverse ++ st) (h8 : catS (gA g) st ≤ 8)
    (k : ∀ (v : Option Value) (M' : AM), Q' v M' → Ex g q τ (pc + 3) ls (v.toList ++ st) M') : Ex g q τ pc ls stk M := by
  intro p e s m args below meth c H locs a hF hX hW hl
  subst hs
  have hts := hF.2.2.2.2.2.1
  refine E_ran (va_runSN (cc := fC q) (nL := fL q) (Ts := tbG) (own := (fY q).cls) (host := host) (y := fY r) (bytes := fC r) (maxL := fL r) (ret := fR r) (ws := wsm r) (rm := rmq r) (n := n) (index := idx) (As := As.map (cv (gA g))) (rest := st.map (cv (gA g))) ⟨hF.1, hF.2.1, hF.2.2.2.1, hF.2.2.2.2.1, hts⟩ C
    ⟨va_cnB n hts (wsm_good hv.1) rfl rfl rfl (hF.2.2.2.2.2.2.2.1 _ hl0) (hts _ hv.2.2.1) hv.2.2.2 ⟨hm.1, hm.2.1⟩, hts _ hv.2.1, trivial⟩
    ⟨PcA_blind, fun U hU hW1 => ⟨rfl, by rw [hU]; exact hW.1, va_K.moved hW1.alike hF.2.2.2.2.2.2.2.2.2, hF.2.2.2.2.2.2.2.1.warm hW1, hF.2.2.2.2.2.2.2.2.1⟩⟩
    rfl (by simpa using hn) hl.1 (by simp) (lv_room h8) d ⟨by simpa using hm.2.2.1, by simpa using hm.2.2.2⟩) hF hX hW.2 hl k
/-- weaker ends -/
theorem Call.imp {As : List Value} {Q Q' : Option Value → AM → Prop} (h : Call g q As M Q) (hi : ∀ v M', Q v M' → Q' v M') : Call g q As M Q' := by
  intro p e ha hc hk s m args below hf happ hP ht
  obtain ⟨t, o, h1, h2, h3, ⟨⟨⟨v, M', e1, hq, hp⟩, hF⟩, hL⟩⟩ := h p e ha hc hk s m args below hf happ hP ht
  exact ⟨t, o, h1, h2, h3, ⟨⟨⟨v, M', e1, hi v M' hq, hp⟩, hF⟩, hL⟩⟩
end EX
end
