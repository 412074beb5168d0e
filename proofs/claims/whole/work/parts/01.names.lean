/-- the name of a private method of the class, as the Statement's table has it at this place -/
def nm_of0 (w : Cond) : String := match w with | Cond.privateMethod m => m.name | _ => ""
def nm_at0 : String := nm_of0 (tables_1_3.getD 147 (Cond.initialized ""))
-- printed by wip/whole/gen1.py
-- ===== PART A: goes FIRST, ahead of the names: the tables' words, and 'selects' of the private methods out of them =====
/-- a private method of a class that the tables say can be made, by its rows of tables_1 -/
def lw_okq (q : MethodName × Nat) : Prop := (q.1.cls ≠ "java/lang/invoke/MethodHandle" ∧ q.1.cls ≠ "java/lang/invoke/VarHandle") ∧ Cond.instantiable q.1.cls q.2 ∈ tables_1 ∧ Cond.privateMethod q.1 ∈ tables_1 ∧ Cond.instanceMethod q.1 ∈ tables_1
theorem lw_p0 : lw_okq (⟨"BranchingTalks$Reader", "accept", "(ILBranchingTalks$Script;)I"⟩, 5) := ⟨⟨by decide +kernel, by decide +kernel⟩, List.mem_of_getElem? (i := 26) (by decide +kernel), List.mem_of_getElem? (i := 415) (by decide +kernel), List.mem_of_getElem? (i := 416) (by decide +kernel)⟩
theorem lw_p1 : lw_okq (⟨"BranchingTalks$Reader", "acceptFirstLine", "(ILBranchingTalks$Script;)I"⟩, 5) := ⟨⟨by decide +kernel, by decide +kernel⟩, List.mem_of_getElem? (i := 26) (by decide +kernel), List.mem_of_getElem? (i := 419) (by decide +kernel), List.mem_of_getElem? (i := 420) (by decide +kernel)⟩
theorem lw_p2 : lw_okq (⟨"BranchingTalks$Reader", "goOn", "(I)I"⟩, 5) := ⟨⟨by decide +kernel, by decide +kernel⟩, List.mem_of_getElem? (i := 26) (by decide +kernel), List.mem_of_getElem? (i := 427) (by decide +kernel), List.mem_of_getElem? (i := 428) (by decide +kernel)⟩
theorem lw_p3 : lw_okq (⟨"BranchingTalks$Reader", "acceptArrowOrDot", "(ILBranchingTalks$Script;)I"⟩, 5) := ⟨⟨by decide +kernel, by decide +kernel⟩, List.mem_of_getElem? (i := 26) (by decide +kernel), List.mem_of_getElem? (i := 431) (by decide +kernel), List.mem_of_getElem? (i := 432) (by decide +kernel)⟩
theorem lw_p4 : lw_okq (⟨"BranchingTalks$Reader", "acceptClauseEnd", "(I)I"⟩, 5) := ⟨⟨by decide +kernel, by decide +kernel⟩, List.mem_of_getElem? (i := 26) (by decide +kernel), List.mem_of_getElem? (i := 439) (by decide +kernel), List.mem_of_getElem? (i := 440) (by decide +kernel)⟩
theorem lw_p5 : lw_okq (⟨"BranchingTalks$Reader", "acceptSecondLine", "(ILBranchingTalks$Script;)I"⟩, 5) := ⟨⟨by decide +kernel, by decide +kernel⟩, List.mem_of_getElem? (i := 26) (by decide +kernel), List.mem_of_getElem? (i := 443) (by decide +kernel), List.mem_of_getElem? (i := 444) (by decide +kernel)⟩
theorem lw_p6 : lw_okq (⟨"BranchingTalks$Reader", "acceptCost", "(ILBranchingTalks$Script;)I"⟩, 5) := ⟨⟨by decide +kernel, by decide +kernel⟩, List.mem_of_getElem? (i := 26) (by decide +kernel), List.mem_of_getElem? (i := 447) (by decide +kernel), List.mem_of_getElem? (i := 448) (by decide +kernel)⟩
theorem lw_p7 : lw_okq (⟨"BranchingTalks$Reader", "acceptRest", "(ILBranchingTalks$Script;)I"⟩, 5) := ⟨⟨by decide +kernel, by decide +kernel⟩, List.mem_of_getElem? (i := 26) (by decide +kernel), List.mem_of_getElem? (i := 451) (by decide +kernel), List.mem_of_getElem? (i := 452) (by decide +kernel)⟩
theorem lw_p8 : lw_okq (⟨"BranchingTalks$Reader", "openAlternative", "(LBranchingTalks$Script;)I"⟩, 5) := ⟨⟨by decide +kernel, by decide +kernel⟩, List.mem_of_getElem? (i := 26) (by decide +kernel), List.mem_of_getElem? (i := 455) (by decide +kernel), List.mem_of_getElem? (i := 456) (by decide +kernel)⟩
theorem lw_p9 : lw_okq (⟨"BranchingTalks$Reader", "acceptAsked", "(ILBranchingTalks$Script;)I"⟩, 5) := ⟨⟨by decide +kernel, by decide +kernel⟩, List.mem_of_getElem? (i := 26) (by decide +kernel), List.mem_of_getElem? (i := 463) (by decide +kernel), List.mem_of_getElem? (i := 464) (by decide +kernel)⟩
theorem lw_p10 : lw_okq (⟨"BranchingTalks$Reader", "acceptMoreOfGuard", "(ILBranchingTalks$Script;)I"⟩, 5) := ⟨⟨by decide +kernel, by decide +kernel⟩, List.mem_of_getElem? (i := 26) (by decide +kernel), List.mem_of_getElem? (i := 473) (by decide +kernel), List.mem_of_getElem? (i := 474) (by decide +kernel)⟩
theorem lw_p11 : lw_okq (⟨"BranchingTalks$Reader", "acceptChanged", "(ILBranchingTalks$Script;)I"⟩, 5) := ⟨⟨by decide +kernel, by decide +kernel⟩, List.mem_of_getElem? (i := 26) (by decide +kernel), List.mem_of_getElem? (i := 477) (by decide +kernel), List.mem_of_getElem? (i := 478) (by decide +kernel)⟩
theorem lw_p12 : lw_okq (⟨"BranchingTalks$Reader", "acceptMoreOfEffect", "(ILBranchingTalks$Script;)I"⟩, 5) := ⟨⟨by decide +kernel, by decide +kernel⟩, List.mem_of_getElem? (i := 26) (by decide +kernel), List.mem_of_getElem? (i := 481) (by decide +kernel), List.mem_of_getElem? (i := 482) (by decide +kernel)⟩
theorem lw_p13 : lw_okq (⟨"BranchingTalks", "isAnswer", "(I)Z"⟩, 16) := ⟨⟨by decide +kernel, by decide +kernel⟩, List.mem_of_getElem? (i := 18) (by decide +kernel), List.mem_of_getElem? (i := 506) (by decide +kernel), List.mem_of_getElem? (i := 507) (by decide +kernel)⟩
theorem lw_p14 : lw_okq (⟨"BranchingTalks", "isOpenHere", "(I)Z"⟩, 16) := ⟨⟨by decide +kernel, by decide +kernel⟩, List.mem_of_getElem? (i := 18) (by decide +kernel), List.mem_of_getElem? (i := 510) (by decide +kernel), List.mem_of_getElem? (i := 511) (by decide +kernel)⟩
theorem lw_p15 : lw_okq (⟨"BranchingTalks$Acts", "forgetOldest", "()V"⟩, 4) := ⟨⟨by decide +kernel, by decide +kernel⟩, List.mem_of_getElem? (i := 70) (by decide +kernel), List.mem_of_getElem? (i := 555) (by decide +kernel), List.mem_of_getElem? (i := 556) (by decide +kernel)⟩
def lw_privs_1 : List (MethodName × Nat) := [(⟨"BranchingTalks$Reader", "accept", "(ILBranchingTalks$Script;)I"⟩, 5), (⟨"BranchingTalks$Reader", "acceptFirstLine", "(ILBranchingTalks$Script;)I"⟩, 5), (⟨"BranchingTalks$Reader", "goOn", "(I)I"⟩, 5), (⟨"BranchingTalks$Reader", "acceptArrowOrDot", "(ILBranchingTalks$Script;)I"⟩, 5), (⟨"BranchingTalks$Reader", "acceptClauseEnd", "(I)I"⟩, 5), (⟨"BranchingTalks$Reader", "acceptSecondLine", "(ILBranchingTalks$Script;)I"⟩, 5), (⟨"BranchingTalks$Reader", "acceptCost", "(ILBranchingTalks$Script;)I"⟩, 5), (⟨"BranchingTalks$Reader", "acceptRest", "(ILBranchingTalks$Script;)I"⟩, 5), (⟨"BranchingTalks$Reader", "openAlternative", "(LBranchingTalks$Script;)I"⟩, 5), (⟨"BranchingTalks$Reader", "acceptAsked", "(ILBranchingTalks$Script;)I"⟩, 5), (⟨"BranchingTalks$Reader", "acceptMoreOfGuard", "(ILBranchingTalks$Script;)I"⟩, 5), (⟨"BranchingTalks$Reader", "acceptChanged", "(ILBranchingTalks$Script;)I"⟩, 5), (⟨"BranchingTalks$Reader", "acceptMoreOfEffect", "(ILBranchingTalks$Script;)I"⟩, 5), (⟨"BranchingTalks", "isAnswer", "(I)Z"⟩, 16), (⟨"BranchingTalks", "isOpenHere", "(I)Z"⟩, 16), (⟨"BranchingTalks$Acts", "forgetOldest", "()V"⟩, 4)]
theorem lw_r1 : ∀ q ∈ lw_privs_1, lw_okq q := List.forall_mem_cons.mpr ⟨lw_p0, List.forall_mem_cons.mpr ⟨lw_p1, List.forall_mem_cons.mpr ⟨lw_p2, List.forall_mem_cons.mpr ⟨lw_p3, List.forall_mem_cons.mpr ⟨lw_p4, List.forall_mem_cons.mpr ⟨lw_p5, List.forall_mem_cons.mpr ⟨lw_p6, List.forall_mem_cons.mpr ⟨lw_p7, List.forall_mem_cons.mpr ⟨lw_p8, List.forall_mem_cons.mpr ⟨lw_p9, List.forall_mem_cons.mpr ⟨lw_p10, List.forall_mem_cons.mpr ⟨lw_p11, List.forall_mem_cons.mpr ⟨lw_p12, List.forall_mem_cons.mpr ⟨lw_p13, List.forall_mem_cons.mpr ⟨lw_p14, List.forall_mem_cons.mpr ⟨lw_p15, fun _ h => absurd h List.not_mem_nil⟩⟩⟩⟩⟩⟩⟩⟩⟩⟩⟩⟩⟩⟩⟩⟩
theorem lw_p16 : lw_okq (⟨"BranchingTalks", "alternativeSet", "(II)I"⟩, 16) := ⟨⟨by decide +kernel, by decide +kernel⟩, List.mem_of_getElem? (i := 18) (by decide +kernel), List.mem_of_getElem? (i := 588) (by decide +kernel), List.mem_of_getElem? (i := 589) (by decide +kernel)⟩
theorem lw_p17 : lw_okq (⟨"BranchingTalks", "openHere", "()I"⟩, 16) := ⟨⟨by decide +kernel, by decide +kernel⟩, List.mem_of_getElem? (i := 18) (by decide +kernel), List.mem_of_getElem? (i := 596) (by decide +kernel), List.mem_of_getElem? (i := 597) (by decide +kernel)⟩
theorem lw_p18 : lw_okq (⟨"BranchingTalks", "isLine", "(I)Z"⟩, 16) := ⟨⟨by decide +kernel, by decide +kernel⟩, List.mem_of_getElem? (i := 18) (by decide +kernel), List.mem_of_getElem? (i := 612) (by decide +kernel), List.mem_of_getElem? (i := 613) (by decide +kernel)⟩
theorem lw_p19 : lw_okq (⟨"BranchingTalks", "refreshGraph", "()V"⟩, 16) := ⟨⟨by decide +kernel, by decide +kernel⟩, List.mem_of_getElem? (i := 18) (by decide +kernel), List.mem_of_getElem? (i := 616) (by decide +kernel), List.mem_of_getElem? (i := 617) (by decide +kernel)⟩
theorem lw_p20 : lw_okq (⟨"BranchingTalks$Graph", nm_at0, "(III)Z"⟩, 13) := ⟨⟨by decide +kernel, by decide +kernel⟩, List.mem_of_getElem? (i := 93) (by decide +kernel), List.mem_of_getElem? (i := 627) (by decide +kernel), List.mem_of_getElem? (i := 628) (by decide +kernel)⟩
theorem lw_p21 : lw_okq (⟨"BranchingTalks$Graph", "addMovesFrom", "(ILBranchingTalks$Script;)V"⟩, 13) := ⟨⟨by decide +kernel, by decide +kernel⟩, List.mem_of_getElem? (i := 93) (by decide +kernel), List.mem_of_getElem? (i := 631) (by decide +kernel), List.mem_of_getElem? (i := 632) (by decide +kernel)⟩
theorem lw_p22 : lw_okq (⟨"BranchingTalks$Graph", "addMove", "(III)V"⟩, 13) := ⟨⟨by decide +kernel, by decide +kernel⟩, List.mem_of_getElem? (i := 93) (by decide +kernel), List.mem_of_getElem? (i := 649) (by decide +kernel), List.mem_of_getElem? (i := 650) (by decide +kernel)⟩
theorem lw_p23 : lw_okq (⟨"BranchingTalks$Graph", "turnRound", "()V"⟩, 13) := ⟨⟨by decide +kernel, by decide +kernel⟩, List.mem_of_getElem? (i := 93) (by decide +kernel), List.mem_of_getElem? (i := 653) (by decide +kernel), List.mem_of_getElem? (i := 654) (by decide +kernel)⟩
theorem lw_p24 : lw_okq (⟨"BranchingTalks", "stuckStates", "(I)I"⟩, 16) := ⟨⟨by decide +kernel, by decide +kernel⟩, List.mem_of_getElem? (i := 18) (by decide +kernel), List.mem_of_getElem? (i := 669) (by decide +kernel), List.mem_of_getElem? (i := 670) (by decide +kernel)⟩
theorem lw_p25 : lw_okq (⟨"BranchingTalks", "isStuck", "(I)Z"⟩, 16) := ⟨⟨by decide +kernel, by decide +kernel⟩, List.mem_of_getElem? (i := 18) (by decide +kernel), List.mem_of_getElem? (i := 674) (by decide +kernel), List.mem_of_getElem? (i := 675) (by decide +kernel)⟩
theorem lw_p26 : lw_okq (⟨"BranchingTalks", "lostStates", "(I)I"⟩, 16) := ⟨⟨by decide +kernel, by decide +kernel⟩, List.mem_of_getElem? (i := 18) (by decide +kernel), List.mem_of_getElem? (i := 682) (by decide +kernel), List.mem_of_getElem? (i := 683) (by decide +kernel)⟩
theorem lw_p27 : lw_okq (⟨"BranchingTalks", "refreshHopes", "()V"⟩, 16) := ⟨⟨by decide +kernel, by decide +kernel⟩, List.mem_of_getElem? (i := 18) (by decide +kernel), List.mem_of_getElem? (i := 686) (by decide +kernel), List.mem_of_getElem? (i := 687) (by decide +kernel)⟩
theorem lw_p28 : lw_okq (⟨"BranchingTalks$Hopes", nm_at0, "(I)V"⟩, 3) := ⟨⟨by decide +kernel, by decide +kernel⟩, List.mem_of_getElem? (i := 181) (by decide +kernel), List.mem_of_getElem? (i := 696) (by decide +kernel), List.mem_of_getElem? (i := 697) (by decide +kernel)⟩
theorem lw_p29 : lw_okq (⟨"BranchingTalks", "refreshPrices", "()V"⟩, 16) := ⟨⟨by decide +kernel, by decide +kernel⟩, List.mem_of_getElem? (i := 18) (by decide +kernel), List.mem_of_getElem? (i := 704) (by decide +kernel), List.mem_of_getElem? (i := 705) (by decide +kernel)⟩
theorem lw_p30 : lw_okq (⟨"BranchingTalks$Search", "startAt", "(I)V"⟩, 3) := ⟨⟨by decide +kernel, by decide +kernel⟩, List.mem_of_getElem? (i := 165) (by decide +kernel), List.mem_of_getElem? (i := 741) (by decide +kernel), List.mem_of_getElem? (i := 742) (by decide +kernel)⟩
theorem lw_p31 : lw_okq (⟨"BranchingTalks$Search", "enqueue", "(II)V"⟩, 3) := ⟨⟨by decide +kernel, by decide +kernel⟩, List.mem_of_getElem? (i := 165) (by decide +kernel), List.mem_of_getElem? (i := 746) (by decide +kernel), List.mem_of_getElem? (i := 747) (by decide +kernel)⟩
def lw_privs_2 : List (MethodName × Nat) := [(⟨"BranchingTalks", "alternativeSet", "(II)I"⟩, 16), (⟨"BranchingTalks", "openHere", "()I"⟩, 16), (⟨"BranchingTalks", "isLine", "(I)Z"⟩, 16), (⟨"BranchingTalks", "refreshGraph", "()V"⟩, 16), (⟨"BranchingTalks$Graph", nm_at0, "(III)Z"⟩, 13), (⟨"BranchingTalks$Graph", "addMovesFrom", "(ILBranchingTalks$Script;)V"⟩, 13), (⟨"BranchingTalks$Graph", "addMove", "(III)V"⟩, 13), (⟨"BranchingTalks$Graph", "turnRound", "()V"⟩, 13), (⟨"BranchingTalks", "stuckStates", "(I)I"⟩, 16), (⟨"BranchingTalks", "isStuck", "(I)Z"⟩, 16), (⟨"BranchingTalks", "lostStates", "(I)I"⟩, 16), (⟨"BranchingTalks", "refreshHopes", "()V"⟩, 16), (⟨"BranchingTalks$Hopes", nm_at0, "(I)V"⟩, 3), (⟨"BranchingTalks", "refreshPrices", "()V"⟩, 16), (⟨"BranchingTalks$Search", "startAt", "(I)V"⟩, 3), (⟨"BranchingTalks$Search", "enqueue", "(II)V"⟩, 3)]
theorem lw_r2 : ∀ q ∈ lw_privs_2, lw_okq q := List.forall_mem_cons.mpr ⟨lw_p16, List.forall_mem_cons.mpr ⟨lw_p17, List.forall_mem_cons.mpr ⟨lw_p18, List.forall_mem_cons.mpr ⟨lw_p19, List.forall_mem_cons.mpr ⟨lw_p20, List.forall_mem_cons.mpr ⟨lw_p21, List.forall_mem_cons.mpr ⟨lw_p22, List.forall_mem_cons.mpr ⟨lw_p23, List.forall_mem_cons.mpr ⟨lw_p24, List.forall_mem_cons.mpr ⟨lw_p25, List.forall_mem_cons.mpr ⟨lw_p26, List.forall_mem_cons.mpr ⟨lw_p27, List.forall_mem_cons.mpr ⟨lw_p28, List.forall_mem_cons.mpr ⟨lw_p29, List.forall_mem_cons.mpr ⟨lw_p30, List.forall_mem_cons.mpr ⟨lw_p31, fun _ h => absurd h List.not_mem_nil⟩⟩⟩⟩⟩⟩⟩⟩⟩⟩⟩⟩⟩⟩⟩⟩
theorem lw_p32 : lw_okq (⟨"BranchingTalks", "refreshLoops", "()V"⟩, 16) := ⟨⟨by decide +kernel, by decide +kernel⟩, List.mem_of_getElem? (i := 18) (by decide +kernel), List.mem_of_getElem? (i := 764) (by decide +kernel), List.mem_of_getElem? (i := 765) (by decide +kernel)⟩
theorem lw_p33 : lw_okq (⟨"BranchingTalks$Loops", "finishAll", "(LBranchingTalks$Graph;)V"⟩, 8) := ⟨⟨by decide +kernel, by decide +kernel⟩, List.mem_of_getElem? (i := 199) (by decide +kernel), List.mem_of_getElem? (i := 772) (by decide +kernel), List.mem_of_getElem? (i := 773) (by decide +kernel)⟩
theorem lw_p34 : lw_okq (⟨"BranchingTalks$Loops", "push", "(LBranchingTalks$Graph;I)V"⟩, 8) := ⟨⟨by decide +kernel, by decide +kernel⟩, List.mem_of_getElem? (i := 199) (by decide +kernel), List.mem_of_getElem? (i := 779) (by decide +kernel), List.mem_of_getElem? (i := 780) (by decide +kernel)⟩
theorem lw_p35 : lw_okq (⟨"BranchingTalks$Loops", "gatherComponent", "(LBranchingTalks$Graph;I)V"⟩, 8) := ⟨⟨by decide +kernel, by decide +kernel⟩, List.mem_of_getElem? (i := 199) (by decide +kernel), List.mem_of_getElem? (i := 783) (by decide +kernel), List.mem_of_getElem? (i := 784) (by decide +kernel)⟩
theorem lw_p36 : lw_okq (⟨"BranchingTalks$Loops", "join", "(I)V"⟩, 8) := ⟨⟨by decide +kernel, by decide +kernel⟩, List.mem_of_getElem? (i := 199) (by decide +kernel), List.mem_of_getElem? (i := 787) (by decide +kernel), List.mem_of_getElem? (i := 788) (by decide +kernel)⟩
theorem lw_p37 : lw_okq (⟨"BranchingTalks$Script", "marksOfGuard", "(I)I"⟩, 17) := ⟨⟨by decide +kernel, by decide +kernel⟩, List.mem_of_getElem? (i := 255) (by decide +kernel), List.mem_of_getElem? (i := 811) (by decide +kernel), List.mem_of_getElem? (i := 812) (by decide +kernel)⟩
theorem lw_p38 : lw_okq (⟨"BranchingTalks", "isMarkReached", "(I)Z"⟩, 16) := ⟨⟨by decide +kernel, by decide +kernel⟩, List.mem_of_getElem? (i := 18) (by decide +kernel), List.mem_of_getElem? (i := 819) (by decide +kernel), List.mem_of_getElem? (i := 820) (by decide +kernel)⟩
theorem lw_p39 : lw_okq (⟨"BranchingTalks", "isAskedForInVain", "(I)Z"⟩, 16) := ⟨⟨by decide +kernel, by decide +kernel⟩, List.mem_of_getElem? (i := 18) (by decide +kernel), List.mem_of_getElem? (i := 824) (by decide +kernel), List.mem_of_getElem? (i := 825) (by decide +kernel)⟩
theorem lw_p40 : lw_okq (⟨"BranchingTalks", "leadsOutWithout", "(III)Z"⟩, 16) := ⟨⟨by decide +kernel, by decide +kernel⟩, List.mem_of_getElem? (i := 18) (by decide +kernel), List.mem_of_getElem? (i := 828) (by decide +kernel), List.mem_of_getElem? (i := 829) (by decide +kernel)⟩
theorem lw_p41 : lw_okq (⟨"BranchingTalks", "stuckLines", "()I"⟩, 16) := ⟨⟨by decide +kernel, by decide +kernel⟩, List.mem_of_getElem? (i := 18) (by decide +kernel), List.mem_of_getElem? (i := 842) (by decide +kernel), List.mem_of_getElem? (i := 843) (by decide +kernel)⟩
theorem lw_p42 : lw_okq (⟨"BranchingTalks", "lostLines", "()I"⟩, 16) := ⟨⟨by decide +kernel, by decide +kernel⟩, List.mem_of_getElem? (i := 18) (by decide +kernel), List.mem_of_getElem? (i := 846) (by decide +kernel), List.mem_of_getElem? (i := 847) (by decide +kernel)⟩
theorem lw_p43 : lw_okq (⟨"BranchingTalks", "loopingLines", "()I"⟩, 16) := ⟨⟨by decide +kernel, by decide +kernel⟩, List.mem_of_getElem? (i := 18) (by decide +kernel), List.mem_of_getElem? (i := 850) (by decide +kernel), List.mem_of_getElem? (i := 851) (by decide +kernel)⟩
theorem lw_p44 : lw_okq (⟨"BranchingTalks", "statesAtEndings", "()I"⟩, 16) := ⟨⟨by decide +kernel, by decide +kernel⟩, List.mem_of_getElem? (i := 18) (by decide +kernel), List.mem_of_getElem? (i := 862) (by decide +kernel), List.mem_of_getElem? (i := 863) (by decide +kernel)⟩
theorem lw_p45 : lw_okq (⟨"BranchingTalks$RowCounts", "lengthen", "(LBranchingTalks$Graph;)Z"⟩, 2) := ⟨⟨by decide +kernel, by decide +kernel⟩, List.mem_of_getElem? (i := 241) (by decide +kernel), List.mem_of_getElem? (i := 883) (by decide +kernel), List.mem_of_getElem? (i := 884) (by decide +kernel)⟩
theorem lw_p46 : lw_okq (⟨"BranchingTalksModel", "readsClause", "()V"⟩, 38) := ⟨⟨by decide +kernel, by decide +kernel⟩, List.mem_of_getElem? (i := 890) (by decide +kernel), List.mem_of_getElem? (i := 1025) (by decide +kernel), List.mem_of_getElem? (i := 1026) (by decide +kernel)⟩
theorem lw_p47 : lw_okq (⟨"BranchingTalksModel", "line", "()I"⟩, 38) := ⟨⟨by decide +kernel, by decide +kernel⟩, List.mem_of_getElem? (i := 890) (by decide +kernel), List.mem_of_getElem? (i := 1029) (by decide +kernel), List.mem_of_getElem? (i := 1030) (by decide +kernel)⟩
def lw_privs_3 : List (MethodName × Nat) := [(⟨"BranchingTalks", "refreshLoops", "()V"⟩, 16), (⟨"BranchingTalks$Loops", "finishAll", "(LBranchingTalks$Graph;)V"⟩, 8), (⟨"BranchingTalks$Loops", "push", "(LBranchingTalks$Graph;I)V"⟩, 8), (⟨"BranchingTalks$Loops", "gatherComponent", "(LBranchingTalks$Graph;I)V"⟩, 8), (⟨"BranchingTalks$Loops", "join", "(I)V"⟩, 8), (⟨"BranchingTalks$Script", "marksOfGuard", "(I)I"⟩, 17), (⟨"BranchingTalks", "isMarkReached", "(I)Z"⟩, 16), (⟨"BranchingTalks", "isAskedForInVain", "(I)Z"⟩, 16), (⟨"BranchingTalks", "leadsOutWithout", "(III)Z"⟩, 16), (⟨"BranchingTalks", "stuckLines", "()I"⟩, 16), (⟨"BranchingTalks", "lostLines", "()I"⟩, 16), (⟨"BranchingTalks", "loopingLines", "()I"⟩, 16), (⟨"BranchingTalks", "statesAtEndings", "()I"⟩, 16), (⟨"BranchingTalks$RowCounts", "lengthen", "(LBranchingTalks$Graph;)Z"⟩, 2), (⟨"BranchingTalksModel", "readsClause", "()V"⟩, 38), (⟨"BranchingTalksModel", "line", "()I"⟩, 38)]
theorem lw_r3 : ∀ q ∈ lw_privs_3, lw_okq q := List.forall_mem_cons.mpr ⟨lw_p32, List.forall_mem_cons.mpr ⟨lw_p33, List.forall_mem_cons.mpr ⟨lw_p34, List.forall_mem_cons.mpr ⟨lw_p35, List.forall_mem_cons.mpr ⟨lw_p36, List.forall_mem_cons.mpr ⟨lw_p37, List.forall_mem_cons.mpr ⟨lw_p38, List.forall_mem_cons.mpr ⟨lw_p39, List.forall_mem_cons.mpr ⟨lw_p40, List.forall_mem_cons.mpr ⟨lw_p41, List.forall_mem_cons.mpr ⟨lw_p42, List.forall_mem_cons.mpr ⟨lw_p43, List.forall_mem_cons.mpr ⟨lw_p44, List.forall_mem_cons.mpr ⟨lw_p45, List.forall_mem_cons.mpr ⟨lw_p46, List.forall_mem_cons.mpr ⟨lw_p47, fun _ h => absurd h List.not_mem_nil⟩⟩⟩⟩⟩⟩⟩⟩⟩⟩⟩⟩⟩⟩⟩⟩
theorem lw_p48 : lw_okq (⟨"BranchingTalksModel", "look", "()I"⟩, 38) := ⟨⟨by decide +kernel, by decide +kernel⟩, List.mem_of_getElem? (i := 890) (by decide +kernel), List.mem_of_getElem? (i := 1033) (by decide +kernel), List.mem_of_getElem? (i := 1034) (by decide +kernel)⟩
theorem lw_p49 : lw_okq (⟨"BranchingTalksModel", "wrong", "(I)V"⟩, 38) := ⟨⟨by decide +kernel, by decide +kernel⟩, List.mem_of_getElem? (i := 890) (by decide +kernel), List.mem_of_getElem? (i := 1039) (by decide +kernel), List.mem_of_getElem? (i := 1040) (by decide +kernel)⟩
theorem lw_p50 : lw_okq (⟨"BranchingTalksModel", "readsAnswer", "(I)V"⟩, 38) := ⟨⟨by decide +kernel, by decide +kernel⟩, List.mem_of_getElem? (i := 890) (by decide +kernel), List.mem_of_getElem? (i := 1043) (by decide +kernel), List.mem_of_getElem? (i := 1044) (by decide +kernel)⟩
theorem lw_p51 : lw_okq (⟨"BranchingTalksModel", "passes", "(I)V"⟩, 38) := ⟨⟨by decide +kernel, by decide +kernel⟩, List.mem_of_getElem? (i := 890) (by decide +kernel), List.mem_of_getElem? (i := 1047) (by decide +kernel), List.mem_of_getElem? (i := 1048) (by decide +kernel)⟩
theorem lw_p52 : lw_okq (⟨"BranchingTalksModel", "readsGuard", "(I)V"⟩, 38) := ⟨⟨by decide +kernel, by decide +kernel⟩, List.mem_of_getElem? (i := 890) (by decide +kernel), List.mem_of_getElem? (i := 1053) (by decide +kernel), List.mem_of_getElem? (i := 1054) (by decide +kernel)⟩
theorem lw_p53 : lw_okq (⟨"BranchingTalksModel", "readsAlternative", "(I)V"⟩, 38) := ⟨⟨by decide +kernel, by decide +kernel⟩, List.mem_of_getElem? (i := 890) (by decide +kernel), List.mem_of_getElem? (i := 1057) (by decide +kernel), List.mem_of_getElem? (i := 1058) (by decide +kernel)⟩
theorem lw_p54 : lw_okq (⟨"BranchingTalksModel", "isMark", "()Z"⟩, 38) := ⟨⟨by decide +kernel, by decide +kernel⟩, List.mem_of_getElem? (i := 890) (by decide +kernel), List.mem_of_getElem? (i := 1061) (by decide +kernel), List.mem_of_getElem? (i := 1062) (by decide +kernel)⟩
theorem lw_p55 : lw_okq (⟨"BranchingTalksModel", "readsEffect", "(I)V"⟩, 38) := ⟨⟨by decide +kernel, by decide +kernel⟩, List.mem_of_getElem? (i := 890) (by decide +kernel), List.mem_of_getElem? (i := 1069) (by decide +kernel), List.mem_of_getElem? (i := 1070) (by decide +kernel)⟩
theorem lw_p56 : lw_okq (⟨"BranchingTalksModel", "keeps", "()V"⟩, 38) := ⟨⟨by decide +kernel, by decide +kernel⟩, List.mem_of_getElem? (i := 890) (by decide +kernel), List.mem_of_getElem? (i := 1076) (by decide +kernel), List.mem_of_getElem? (i := 1077) (by decide +kernel)⟩
theorem lw_p57 : lw_okq (⟨"BranchingTalksModel", "isTalk", "()Z"⟩, 38) := ⟨⟨by decide +kernel, by decide +kernel⟩, List.mem_of_getElem? (i := 890) (by decide +kernel), List.mem_of_getElem? (i := 1088) (by decide +kernel), List.mem_of_getElem? (i := 1089) (by decide +kernel)⟩
theorem lw_p58 : lw_okq (⟨"BranchingTalksModel", "isAnswer", "(I)Z"⟩, 38) := ⟨⟨by decide +kernel, by decide +kernel⟩, List.mem_of_getElem? (i := 890) (by decide +kernel), List.mem_of_getElem? (i := 1098) (by decide +kernel), List.mem_of_getElem? (i := 1099) (by decide +kernel)⟩
theorem lw_p59 : lw_okq (⟨"BranchingTalksModel", "here", "()I"⟩, 38) := ⟨⟨by decide +kernel, by decide +kernel⟩, List.mem_of_getElem? (i := 890) (by decide +kernel), List.mem_of_getElem? (i := 1102) (by decide +kernel), List.mem_of_getElem? (i := 1103) (by decide +kernel)⟩
theorem lw_p60 : lw_okq (⟨"BranchingTalksModel", "first", "()I"⟩, 38) := ⟨⟨by decide +kernel, by decide +kernel⟩, List.mem_of_getElem? (i := 890) (by decide +kernel), List.mem_of_getElem? (i := 1106) (by decide +kernel), List.mem_of_getElem? (i := 1107) (by decide +kernel)⟩
theorem lw_p61 : lw_okq (⟨"BranchingTalksModel", "next", "(II)I"⟩, 38) := ⟨⟨by decide +kernel, by decide +kernel⟩, List.mem_of_getElem? (i := 890) (by decide +kernel), List.mem_of_getElem? (i := 1110) (by decide +kernel), List.mem_of_getElem? (i := 1111) (by decide +kernel)⟩
theorem lw_p62 : lw_okq (⟨"BranchingTalksModel", "isOpen", "(III)Z"⟩, 38) := ⟨⟨by decide +kernel, by decide +kernel⟩, List.mem_of_getElem? (i := 890) (by decide +kernel), List.mem_of_getElem? (i := 1114) (by decide +kernel), List.mem_of_getElem? (i := 1115) (by decide +kernel)⟩
theorem lw_p63 : lw_okq (⟨"BranchingTalksModel", "holds", "(III)Z"⟩, 38) := ⟨⟨by decide +kernel, by decide +kernel⟩, List.mem_of_getElem? (i := 890) (by decide +kernel), List.mem_of_getElem? (i := 1118) (by decide +kernel), List.mem_of_getElem? (i := 1119) (by decide +kernel)⟩
def lw_privs_4 : List (MethodName × Nat) := [(⟨"BranchingTalksModel", "look", "()I"⟩, 38), (⟨"BranchingTalksModel", "wrong", "(I)V"⟩, 38), (⟨"BranchingTalksModel", "readsAnswer", "(I)V"⟩, 38), (⟨"BranchingTalksModel", "passes", "(I)V"⟩, 38), (⟨"BranchingTalksModel", "readsGuard", "(I)V"⟩, 38), (⟨"BranchingTalksModel", "readsAlternative", "(I)V"⟩, 38), (⟨"BranchingTalksModel", "isMark", "()Z"⟩, 38), (⟨"BranchingTalksModel", "readsEffect", "(I)V"⟩, 38), (⟨"BranchingTalksModel", "keeps", "()V"⟩, 38), (⟨"BranchingTalksModel", "isTalk", "()Z"⟩, 38), (⟨"BranchingTalksModel", "isAnswer", "(I)Z"⟩, 38), (⟨"BranchingTalksModel", "here", "()I"⟩, 38), (⟨"BranchingTalksModel", "first", "()I"⟩, 38), (⟨"BranchingTalksModel", "next", "(II)I"⟩, 38), (⟨"BranchingTalksModel", "isOpen", "(III)Z"⟩, 38), (⟨"BranchingTalksModel", "holds", "(III)Z"⟩, 38)]
theorem lw_r4 : ∀ q ∈ lw_privs_4, lw_okq q := List.forall_mem_cons.mpr ⟨lw_p48, List.forall_mem_cons.mpr ⟨lw_p49, List.forall_mem_cons.mpr ⟨lw_p50, List.forall_mem_cons.mpr ⟨lw_p51, List.forall_mem_cons.mpr ⟨lw_p52, List.forall_mem_cons.mpr ⟨lw_p53, List.forall_mem_cons.mpr ⟨lw_p54, List.forall_mem_cons.mpr ⟨lw_p55, List.forall_mem_cons.mpr ⟨lw_p56, List.forall_mem_cons.mpr ⟨lw_p57, List.forall_mem_cons.mpr ⟨lw_p58, List.forall_mem_cons.mpr ⟨lw_p59, List.forall_mem_cons.mpr ⟨lw_p60, List.forall_mem_cons.mpr ⟨lw_p61, List.forall_mem_cons.mpr ⟨lw_p62, List.forall_mem_cons.mpr ⟨lw_p63, fun _ h => absurd h List.not_mem_nil⟩⟩⟩⟩⟩⟩⟩⟩⟩⟩⟩⟩⟩⟩⟩⟩
theorem lw_p64 : lw_okq (⟨"BranchingTalksModel", "notes", "()V"⟩, 38) := ⟨⟨by decide +kernel, by decide +kernel⟩, List.mem_of_getElem? (i := 890) (by decide +kernel), List.mem_of_getElem? (i := 1132) (by decide +kernel), List.mem_of_getElem? (i := 1133) (by decide +kernel)⟩
theorem lw_p65 : lw_okq (⟨"BranchingTalksModel", "isVain", "(I)Z"⟩, 38) := ⟨⟨by decide +kernel, by decide +kernel⟩, List.mem_of_getElem? (i := 890) (by decide +kernel), List.mem_of_getElem? (i := 1149) (by decide +kernel), List.mem_of_getElem? (i := 1150) (by decide +kernel)⟩
theorem lw_p66 : lw_okq (⟨"BranchingTalksModel", "openIn", "(I)I"⟩, 38) := ⟨⟨by decide +kernel, by decide +kernel⟩, List.mem_of_getElem? (i := 890) (by decide +kernel), List.mem_of_getElem? (i := 1158) (by decide +kernel), List.mem_of_getElem? (i := 1159) (by decide +kernel)⟩
theorem lw_p67 : lw_okq (⟨"BranchingTalksModel", "costOfSteps", "()I"⟩, 38) := ⟨⟨by decide +kernel, by decide +kernel⟩, List.mem_of_getElem? (i := 890) (by decide +kernel), List.mem_of_getElem? (i := 1162) (by decide +kernel), List.mem_of_getElem? (i := 1163) (by decide +kernel)⟩
theorem lw_p68 : lw_okq (⟨"BranchingTalksModel", "isLine", "(I)Z"⟩, 38) := ⟨⟨by decide +kernel, by decide +kernel⟩, List.mem_of_getElem? (i := 890) (by decide +kernel), List.mem_of_getElem? (i := 1174) (by decide +kernel), List.mem_of_getElem? (i := 1175) (by decide +kernel)⟩
theorem lw_p69 : lw_okq (⟨"BranchingTalksModel", "reachesAll", "()I"⟩, 38) := ⟨⟨by decide +kernel, by decide +kernel⟩, List.mem_of_getElem? (i := 890) (by decide +kernel), List.mem_of_getElem? (i := 1180) (by decide +kernel), List.mem_of_getElem? (i := 1181) (by decide +kernel)⟩
theorem lw_p70 : lw_okq (⟨"BranchingTalksModel", "reaches", "(IIII)I"⟩, 38) := ⟨⟨by decide +kernel, by decide +kernel⟩, List.mem_of_getElem? (i := 890) (by decide +kernel), List.mem_of_getElem? (i := 1184) (by decide +kernel), List.mem_of_getElem? (i := 1185) (by decide +kernel)⟩
theorem lw_p71 : lw_okq (⟨"BranchingTalksModel", "laysEnds", "()V"⟩, 38) := ⟨⟨by decide +kernel, by decide +kernel⟩, List.mem_of_getElem? (i := 890) (by decide +kernel), List.mem_of_getElem? (i := 1188) (by decide +kernel), List.mem_of_getElem? (i := 1189) (by decide +kernel)⟩
theorem lw_p72 : lw_okq (⟨"BranchingTalksModel", "statesOf", "(II)I"⟩, 38) := ⟨⟨by decide +kernel, by decide +kernel⟩, List.mem_of_getElem? (i := 890) (by decide +kernel), List.mem_of_getElem? (i := 1192) (by decide +kernel), List.mem_of_getElem? (i := 1193) (by decide +kernel)⟩
theorem lw_p73 : lw_okq (⟨"BranchingTalksModel", "isStuck", "(I)Z"⟩, 38) := ⟨⟨by decide +kernel, by decide +kernel⟩, List.mem_of_getElem? (i := 890) (by decide +kernel), List.mem_of_getElem? (i := 1196) (by decide +kernel), List.mem_of_getElem? (i := 1197) (by decide +kernel)⟩
theorem lw_p74 : lw_okq (⟨"BranchingTalksModel", "isLost", "(I)Z"⟩, 38) := ⟨⟨by decide +kernel, by decide +kernel⟩, List.mem_of_getElem? (i := 890) (by decide +kernel), List.mem_of_getElem? (i := 1200) (by decide +kernel), List.mem_of_getElem? (i := 1201) (by decide +kernel)⟩
theorem lw_p75 : lw_okq (⟨"BranchingTalksModel", "marksOf", "(IZ)I"⟩, 38) := ⟨⟨by decide +kernel, by decide +kernel⟩, List.mem_of_getElem? (i := 890) (by decide +kernel), List.mem_of_getElem? (i := 1204) (by decide +kernel), List.mem_of_getElem? (i := 1205) (by decide +kernel)⟩
theorem lw_p76 : lw_okq (⟨"BranchingTalksModel", "cheapest", "(I)I"⟩, 38) := ⟨⟨by decide +kernel, by decide +kernel⟩, List.mem_of_getElem? (i := 890) (by decide +kernel), List.mem_of_getElem? (i := 1212) (by decide +kernel), List.mem_of_getElem? (i := 1213) (by decide +kernel)⟩
theorem lw_p77 : lw_okq (⟨"BranchingTalksModel", "fewest", "(I)I"⟩, 38) := ⟨⟨by decide +kernel, by decide +kernel⟩, List.mem_of_getElem? (i := 890) (by decide +kernel), List.mem_of_getElem? (i := 1216) (by decide +kernel), List.mem_of_getElem? (i := 1217) (by decide +kernel)⟩
theorem lw_p78 : lw_okq (⟨"BranchingTalksModel", "laysGood", "(II)V"⟩, 38) := ⟨⟨by decide +kernel, by decide +kernel⟩, List.mem_of_getElem? (i := 890) (by decide +kernel), List.mem_of_getElem? (i := 1224) (by decide +kernel), List.mem_of_getElem? (i := 1225) (by decide +kernel)⟩
theorem lw_p79 : lw_okq (⟨"BranchingTalksModel", "goesOn", "(II)Z"⟩, 38) := ⟨⟨by decide +kernel, by decide +kernel⟩, List.mem_of_getElem? (i := 890) (by decide +kernel), List.mem_of_getElem? (i := 1228) (by decide +kernel), List.mem_of_getElem? (i := 1229) (by decide +kernel)⟩
def lw_privs_5 : List (MethodName × Nat) := [(⟨"BranchingTalksModel", "notes", "()V"⟩, 38), (⟨"BranchingTalksModel", "isVain", "(I)Z"⟩, 38), (⟨"BranchingTalksModel", "openIn", "(I)I"⟩, 38), (⟨"BranchingTalksModel", "costOfSteps", "()I"⟩, 38), (⟨"BranchingTalksModel", "isLine", "(I)Z"⟩, 38), (⟨"BranchingTalksModel", "reachesAll", "()I"⟩, 38), (⟨"BranchingTalksModel", "reaches", "(IIII)I"⟩, 38), (⟨"BranchingTalksModel", "laysEnds", "()V"⟩, 38), (⟨"BranchingTalksModel", "statesOf", "(II)I"⟩, 38), (⟨"BranchingTalksModel", "isStuck", "(I)Z"⟩, 38), (⟨"BranchingTalksModel", "isLost", "(I)Z"⟩, 38), (⟨"BranchingTalksModel", "marksOf", "(IZ)I"⟩, 38), (⟨"BranchingTalksModel", "cheapest", "(I)I"⟩, 38), (⟨"BranchingTalksModel", "fewest", "(I)I"⟩, 38), (⟨"BranchingTalksModel", "laysGood", "(II)V"⟩, 38), (⟨"BranchingTalksModel", "goesOn", "(II)Z"⟩, 38)]
theorem lw_r5 : ∀ q ∈ lw_privs_5, lw_okq q := List.forall_mem_cons.mpr ⟨lw_p64, List.forall_mem_cons.mpr ⟨lw_p65, List.forall_mem_cons.mpr ⟨lw_p66, List.forall_mem_cons.mpr ⟨lw_p67, List.forall_mem_cons.mpr ⟨lw_p68, List.forall_mem_cons.mpr ⟨lw_p69, List.forall_mem_cons.mpr ⟨lw_p70, List.forall_mem_cons.mpr ⟨lw_p71, List.forall_mem_cons.mpr ⟨lw_p72, List.forall_mem_cons.mpr ⟨lw_p73, List.forall_mem_cons.mpr ⟨lw_p74, List.forall_mem_cons.mpr ⟨lw_p75, List.forall_mem_cons.mpr ⟨lw_p76, List.forall_mem_cons.mpr ⟨lw_p77, List.forall_mem_cons.mpr ⟨lw_p78, List.forall_mem_cons.mpr ⟨lw_p79, fun _ h => absurd h List.not_mem_nil⟩⟩⟩⟩⟩⟩⟩⟩⟩⟩⟩⟩⟩⟩⟩⟩
theorem lw_p80 : lw_okq (⟨"BranchingTalksModel", "laysReached", "()V"⟩, 38) := ⟨⟨by decide +kernel, by decide +kernel⟩, List.mem_of_getElem? (i := 890) (by decide +kernel), List.mem_of_getElem? (i := 1244) (by decide +kernel), List.mem_of_getElem? (i := 1245) (by decide +kernel)⟩
theorem lw_p81 : lw_okq (⟨"BranchingTalksModel", "loopOfLine", "(I)I"⟩, 38) := ⟨⟨by decide +kernel, by decide +kernel⟩, List.mem_of_getElem? (i := 890) (by decide +kernel), List.mem_of_getElem? (i := 1248) (by decide +kernel), List.mem_of_getElem? (i := 1249) (by decide +kernel)⟩
theorem lw_p82 : lw_okq (⟨"BranchingTalksModel", "loopOf", "(I)I"⟩, 38) := ⟨⟨by decide +kernel, by decide +kernel⟩, List.mem_of_getElem? (i := 890) (by decide +kernel), List.mem_of_getElem? (i := 1252) (by decide +kernel), List.mem_of_getElem? (i := 1253) (by decide +kernel)⟩
theorem lw_p83 : lw_okq (⟨"BranchingTalksModel", "asked", "(I)I"⟩, 38) := ⟨⟨by decide +kernel, by decide +kernel⟩, List.mem_of_getElem? (i := 890) (by decide +kernel), List.mem_of_getElem? (i := 1264) (by decide +kernel), List.mem_of_getElem? (i := 1265) (by decide +kernel)⟩
theorem lw_p84 : lw_okq (⟨"BranchingTalksModel", "isAskedFor", "(II)Z"⟩, 38) := ⟨⟨by decide +kernel, by decide +kernel⟩, List.mem_of_getElem? (i := 890) (by decide +kernel), List.mem_of_getElem? (i := 1268) (by decide +kernel), List.mem_of_getElem? (i := 1269) (by decide +kernel)⟩
theorem lw_p85 : lw_okq (⟨"BranchingTalksModel", "laid", "(I)I"⟩, 38) := ⟨⟨by decide +kernel, by decide +kernel⟩, List.mem_of_getElem? (i := 890) (by decide +kernel), List.mem_of_getElem? (i := 1272) (by decide +kernel), List.mem_of_getElem? (i := 1273) (by decide +kernel)⟩
theorem lw_p86 : lw_okq (⟨"BranchingTalksModel", "isAnywhere", "(I)Z"⟩, 38) := ⟨⟨by decide +kernel, by decide +kernel⟩, List.mem_of_getElem? (i := 890) (by decide +kernel), List.mem_of_getElem? (i := 1276) (by decide +kernel), List.mem_of_getElem? (i := 1277) (by decide +kernel)⟩
theorem lw_p87 : lw_okq (⟨"BranchingTalksModel", "isIdle", "(I)Z"⟩, 38) := ⟨⟨by decide +kernel, by decide +kernel⟩, List.mem_of_getElem? (i := 890) (by decide +kernel), List.mem_of_getElem? (i := 1280) (by decide +kernel), List.mem_of_getElem? (i := 1281) (by decide +kernel)⟩
theorem lw_p88 : lw_okq (⟨"BranchingTalksModel", "linesThat", "(I)I"⟩, 38) := ⟨⟨by decide +kernel, by decide +kernel⟩, List.mem_of_getElem? (i := 890) (by decide +kernel), List.mem_of_getElem? (i := 1288) (by decide +kernel), List.mem_of_getElem? (i := 1289) (by decide +kernel)⟩
theorem lw_p89 : lw_okq (⟨"BranchingTalksModel", "linesWithLoops", "()I"⟩, 38) := ⟨⟨by decide +kernel, by decide +kernel⟩, List.mem_of_getElem? (i := 890) (by decide +kernel), List.mem_of_getElem? (i := 1292) (by decide +kernel), List.mem_of_getElem? (i := 1293) (by decide +kernel)⟩
theorem lw_p90 : lw_okq (⟨"BranchingTalksModel", "ofStates", "(I)I"⟩, 38) := ⟨⟨by decide +kernel, by decide +kernel⟩, List.mem_of_getElem? (i := 890) (by decide +kernel), List.mem_of_getElem? (i := 1296) (by decide +kernel), List.mem_of_getElem? (i := 1297) (by decide +kernel)⟩
theorem lw_p91 : lw_okq (⟨"BranchingTalksModel", "goes", "()Z"⟩, 38) := ⟨⟨by decide +kernel, by decide +kernel⟩, List.mem_of_getElem? (i := 890) (by decide +kernel), List.mem_of_getElem? (i := 1307) (by decide +kernel), List.mem_of_getElem? (i := 1308) (by decide +kernel)⟩
def lw_privs_6 : List (MethodName × Nat) := [(⟨"BranchingTalksModel", "laysReached", "()V"⟩, 38), (⟨"BranchingTalksModel", "loopOfLine", "(I)I"⟩, 38), (⟨"BranchingTalksModel", "loopOf", "(I)I"⟩, 38), (⟨"BranchingTalksModel", "asked", "(I)I"⟩, 38), (⟨"BranchingTalksModel", "isAskedFor", "(II)Z"⟩, 38), (⟨"BranchingTalksModel", "laid", "(I)I"⟩, 38), (⟨"BranchingTalksModel", "isAnywhere", "(I)Z"⟩, 38), (⟨"BranchingTalksModel", "isIdle", "(I)Z"⟩, 38), (⟨"BranchingTalksModel", "linesThat", "(I)I"⟩, 38), (⟨"BranchingTalksModel", "linesWithLoops", "()I"⟩, 38), (⟨"BranchingTalksModel", "ofStates", "(I)I"⟩, 38), (⟨"BranchingTalksModel", "goes", "()Z"⟩, 38)]
theorem lw_r6 : ∀ q ∈ lw_privs_6, lw_okq q := List.forall_mem_cons.mpr ⟨lw_p80, List.forall_mem_cons.mpr ⟨lw_p81, List.forall_mem_cons.mpr ⟨lw_p82, List.forall_mem_cons.mpr ⟨lw_p83, List.forall_mem_cons.mpr ⟨lw_p84, List.forall_mem_cons.mpr ⟨lw_p85, List.forall_mem_cons.mpr ⟨lw_p86, List.forall_mem_cons.mpr ⟨lw_p87, List.forall_mem_cons.mpr ⟨lw_p88, List.forall_mem_cons.mpr ⟨lw_p89, List.forall_mem_cons.mpr ⟨lw_p90, List.forall_mem_cons.mpr ⟨lw_p91, fun _ h => absurd h List.not_mem_nil⟩⟩⟩⟩⟩⟩⟩⟩⟩⟩⟩⟩
def lw_privs : List (MethodName × Nat) := lw_privs_1 ++ (lw_privs_2 ++ (lw_privs_3 ++ (lw_privs_4 ++ (lw_privs_5 ++ (lw_privs_6)))))
def lw_tbl : List Cond := k2_sels lw_privs ++ tables_1
theorem lw_privs_ok : ∀ q ∈ lw_privs, lw_okq q := by
  show ∀ q ∈ lw_privs_1 ++ (lw_privs_2 ++ (lw_privs_3 ++ (lw_privs_4 ++ (lw_privs_5 ++ (lw_privs_6))))), lw_okq q
  exact List.forall_mem_append.mpr ⟨lw_r1, List.forall_mem_append.mpr ⟨lw_r2, List.forall_mem_append.mpr ⟨lw_r3, List.forall_mem_append.mpr ⟨lw_r4, List.forall_mem_append.mpr ⟨lw_r5, lw_r6⟩⟩⟩⟩⟩

def RL : String := "BranchingTalksLaw"
def RX0 : String := "BranchingTalks$Acts"
def TX0 : u_T := fun k => match k with
  | 0 => ("BranchingTalks$Acts", "answer", "[I", true)
  | 1 => ("BranchingTalks$Acts", "kind", "[I", true)
  | 2 => ("BranchingTalks$Acts", "before", "[I", true)
  | _ => ("BranchingTalks$Acts", "size", "I", false)
def tyX0 : Nat → FieldType := fun k => match k with
  | 0 => .array .int
  | 1 => .array .int
  | 2 => .array .int
  | _ => .int
theorem nmX0 : ∀ a, a < 4 → ∀ b, b < 4 → a ≠ b → (TX0 a).2.1 ≠ (TX0 b).2.1 := by decide +kernel
theorem tyX0_ok : ∀ k, k < 4 → parseFieldDescriptor (TX0 k).2.2.1 = some (tyX0 k) := by decide +kernel
abbrev cX0_init : ByteArray := prog_2_method_1_code
def yX0_init : MethodName := ⟨RX0, "<init>", "()V"⟩
abbrev cX0_keep : ByteArray := prog_2_method_2_code
def yX0_keep : MethodName := ⟨RX0, "keep", "(III)V"⟩
abbrev cX0_forgetOldest : ByteArray := prog_2_method_3_code
def yX0_forgetOldest : MethodName := ⟨RX0, "forgetOldest", "()V"⟩
def RX1 : String := "BranchingTalks$Course"
def TX1 : u_T := fun k => match k with
  | 0 => ("BranchingTalks$Course", "steps", "[I", true)
  | 1 => ("BranchingTalks$Course", "size", "I", false)
  | _ => ("BranchingTalks$Course", "beginning", "I", false)
def tyX1 : Nat → FieldType := fun k => match k with
  | 0 => .array .int
  | 1 => .int
  | _ => .int
theorem nmX1 : ∀ a, a < 3 → ∀ b, b < 3 → a ≠ b → (TX1 a).2.1 ≠ (TX1 b).2.1 := by decide +kernel
theorem tyX1_ok : ∀ k, k < 3 → parseFieldDescriptor (TX1 k).2.2.1 = some (tyX1 k) := by decide +kernel
abbrev cX1_init : ByteArray := prog_3_method_1_code
def yX1_init : MethodName := ⟨RX1, "<init>", "()V"⟩
abbrev cX1_restart : ByteArray := prog_3_method_2_code
def yX1_restart : MethodName := ⟨RX1, "restart", "(I)V"⟩
abbrev cX1_advance : ByteArray := prog_3_method_3_code
def yX1_advance : MethodName := ⟨RX1, "advance", "(I)Z"⟩
abbrev cX1_lineHere : ByteArray := prog_3_method_4_code
def yX1_lineHere : MethodName := ⟨RX1, "lineHere", "(LBranchingTalks$Script;)I"⟩
abbrev cX1_marksHere : ByteArray := prog_3_method_5_code
def yX1_marksHere : MethodName := ⟨RX1, "marksHere", "(LBranchingTalks$Script;)I"⟩
abbrev cX1_priceOfSteps : ByteArray := prog_3_method_6_code
def yX1_priceOfSteps : MethodName := ⟨RX1, "priceOfSteps", "(LBranchingTalks$Script;)I"⟩
def RX2 : String := "BranchingTalks$Graph"
def TX2 : u_T := fun k => match k with
  | 0 => ("BranchingTalks$Graph", "state", "[I", true)
  | 1 => ("BranchingTalks$Graph", "place", "[I", true)
  | 2 => ("BranchingTalks$Graph", "depth", "[I", true)
  | 3 => ("BranchingTalks$Graph", "via", "[I", true)
  | 4 => ("BranchingTalks$Graph", "nearest", "[I", true)
  | 5 => ("BranchingTalks$Graph", "first", "[I", true)
  | 6 => ("BranchingTalks$Graph", "moveFrom", "[I", true)
  | 7 => ("BranchingTalks$Graph", "moveTo", "[I", true)
  | 8 => ("BranchingTalks$Graph", "moveAnswer", "[I", true)
  | 9 => ("BranchingTalks$Graph", "backFirst", "[I", true)
  | 10 => ("BranchingTalks$Graph", "backFrom", "[I", true)
  | 11 => ("BranchingTalks$Graph", "states", "I", false)
  | _ => ("BranchingTalks$Graph", "moves", "I", false)
def tyX2 : Nat → FieldType := fun k => match k with
  | 0 => .array .int
  | 1 => .array .int
  | 2 => .array .int
  | 3 => .array .int
  | 4 => .array .int
  | 5 => .array .int
  | 6 => .array .int
  | 7 => .array .int
  | 8 => .array .int
  | 9 => .array .int
  | 10 => .array .int
  | 11 => .int
  | _ => .int
theorem nmX2 : ∀ a, a < 13 → ∀ b, b < 13 → a ≠ b → (TX2 a).2.1 ≠ (TX2 b).2.1 := by decide +kernel
theorem tyX2_ok : ∀ k, k < 13 → parseFieldDescriptor (TX2 k).2.2.1 = some (tyX2 k) := by decide +kernel
abbrev cX2_init : ByteArray := prog_4_method_1_code
def yX2_init : MethodName := ⟨RX2, "<init>", "()V"⟩
abbrev cX2_explore : ByteArray := prog_4_method_2_code
def yX2_explore : MethodName := ⟨RX2, "explore", "(LBranchingTalks$Script;I)V"⟩
abbrev cX2_admit : ByteArray := prog_4_method_3_code
def yX2_admit : MethodName := ⟨RX2, nm_at0, "(III)Z"⟩
abbrev cX2_addMovesFrom : ByteArray := prog_4_method_4_code
def yX2_addMovesFrom : MethodName := ⟨RX2, "addMovesFrom", "(ILBranchingTalks$Script;)V"⟩
abbrev cX2_addMove : ByteArray := prog_4_method_5_code
def yX2_addMove : MethodName := ⟨RX2, "addMove", "(III)V"⟩
abbrev cX2_turnRound : ByteArray := prog_4_method_6_code
def yX2_turnRound : MethodName := ⟨RX2, "turnRound", "()V"⟩
abbrev cX2_lineAt : ByteArray := prog_4_method_7_code
def yX2_lineAt : MethodName := ⟨RX2, "lineAt", "(I)I"⟩
abbrev cX2_marksAt : ByteArray := prog_4_method_8_code
def yX2_marksAt : MethodName := ⟨RX2, "marksAt", "(I)I"⟩
abbrev cX2_movesFrom : ByteArray := prog_4_method_9_code
def yX2_movesFrom : MethodName := ⟨RX2, "movesFrom", "(I)I"⟩
abbrev cX2_statesOf : ByteArray := prog_4_method_10_code
def yX2_statesOf : MethodName := ⟨RX2, "statesOf", "(I)I"⟩
abbrev cX2_marksInAll : ByteArray := prog_4_method_11_code
def yX2_marksInAll : MethodName := ⟨RX2, "marksInAll", "(I)I"⟩
abbrev cX2_marksInSome : ByteArray := prog_4_method_12_code
def yX2_marksInSome : MethodName := ⟨RX2, "marksInSome", "(I)I"⟩
abbrev cX2_linesReached : ByteArray := prog_4_method_13_code
def yX2_linesReached : MethodName := ⟨RX2, "linesReached", "()I"⟩
abbrev cX2_movesBy : ByteArray := prog_4_method_14_code
def yX2_movesBy : MethodName := ⟨RX2, "movesBy", "(I)I"⟩
abbrev cX2_mostMovesOfAState : ByteArray := prog_4_method_15_code
def yX2_mostMovesOfAState : MethodName := ⟨RX2, "mostMovesOfAState", "()I"⟩
abbrev cX2_greatestDepth : ByteArray := prog_4_method_16_code
def yX2_greatestDepth : MethodName := ⟨RX2, "greatestDepth", "()I"⟩
abbrev cX2_answerOfRow : ByteArray := prog_4_method_17_code
def yX2_answerOfRow : MethodName := ⟨RX2, "answerOfRow", "(II)I"⟩
abbrev cX2_answersOfRow : ByteArray := prog_4_method_18_code
def yX2_answersOfRow : MethodName := ⟨RX2, "answersOfRow", "(I)I"⟩
def RX3 : String := "BranchingTalks$Hopes"
def TX3 : u_T := fun k => match k with
  | 0 => ("BranchingTalks$Hopes", "canEnd", "[Z", true)
  | 1 => ("BranchingTalks$Hopes", "queue", "[I", true)
  | _ => ("BranchingTalks$Hopes", "queued", "I", false)
def tyX3 : Nat → FieldType := fun k => match k with
  | 0 => .array .boolean
  | 1 => .array .int
  | _ => .int
theorem nmX3 : ∀ a, a < 3 → ∀ b, b < 3 → a ≠ b → (TX3 a).2.1 ≠ (TX3 b).2.1 := by decide +kernel
theorem tyX3_ok : ∀ k, k < 3 → parseFieldDescriptor (TX3 k).2.2.1 = some (tyX3 k) := by decide +kernel
abbrev cX3_init : ByteArray := prog_5_method_1_code
def yX3_init : MethodName := ⟨RX3, "<init>", "()V"⟩
abbrev cX3_learn : ByteArray := prog_5_method_2_code
def yX3_learn : MethodName := ⟨RX3, "learn", "(LBranchingTalks$Graph;I)V"⟩
abbrev cX3_admit : ByteArray := prog_5_method_3_code
def yX3_admit : MethodName := ⟨RX3, nm_at0, "(I)V"⟩
def RX4 : String := "BranchingTalks$Loops"
def TX4 : u_T := fun k => match k with
  | 0 => ("BranchingTalks$Loops", "looping", "[Z", true)
  | 1 => ("BranchingTalks$Loops", "seen", "[Z", true)
  | 2 => ("BranchingTalks$Loops", "stack", "[I", true)
  | 3 => ("BranchingTalks$Loops", "nextMove", "[I", true)
  | 4 => ("BranchingTalks$Loops", "finished", "[I", true)
  | 5 => ("BranchingTalks$Loops", "member", "[I", true)
  | 6 => ("BranchingTalks$Loops", "stacked", "I", false)
  | _ => ("BranchingTalks$Loops", "members", "I", false)
def tyX4 : Nat → FieldType := fun k => match k with
  | 0 => .array .boolean
  | 1 => .array .boolean
  | 2 => .array .int
  | 3 => .array .int
  | 4 => .array .int
  | 5 => .array .int
  | 6 => .int
  | _ => .int
theorem nmX4 : ∀ a, a < 8 → ∀ b, b < 8 → a ≠ b → (TX4 a).2.1 ≠ (TX4 b).2.1 := by decide +kernel
theorem tyX4_ok : ∀ k, k < 8 → parseFieldDescriptor (TX4 k).2.2.1 = some (tyX4 k) := by decide +kernel
abbrev cX4_init : ByteArray := prog_6_method_1_code
def yX4_init : MethodName := ⟨RX4, "<init>", "()V"⟩
abbrev cX4_learn : ByteArray := prog_6_method_2_code
def yX4_learn : MethodName := ⟨RX4, "learn", "(LBranchingTalks$Graph;)V"⟩
abbrev cX4_clear : ByteArray := prog_6_method_3_code
def yX4_clear : MethodName := ⟨RX4, "clear", "([Z)V"⟩
abbrev cX4_finishAll : ByteArray := prog_6_method_4_code
def yX4_finishAll : MethodName := ⟨RX4, "finishAll", "(LBranchingTalks$Graph;)V"⟩
abbrev cX4_push : ByteArray := prog_6_method_5_code
def yX4_push : MethodName := ⟨RX4, "push", "(LBranchingTalks$Graph;I)V"⟩
abbrev cX4_gatherComponent : ByteArray := prog_6_method_6_code
def yX4_gatherComponent : MethodName := ⟨RX4, "gatherComponent", "(LBranchingTalks$Graph;I)V"⟩
abbrev cX4_join : ByteArray := prog_6_method_7_code
def yX4_join : MethodName := ⟨RX4, "join", "(I)V"⟩
def RX5 : String := "BranchingTalks$Prices"
def TX5 : u_T := fun k => match k with
  | _ => ("BranchingTalks$Prices", "least", "[I", true)
def tyX5 : Nat → FieldType := fun k => match k with
  | _ => .array .int
theorem nmX5 : ∀ a, a < 1 → ∀ b, b < 1 → a ≠ b → (TX5 a).2.1 ≠ (TX5 b).2.1 := by decide +kernel
theorem tyX5_ok : ∀ k, k < 1 → parseFieldDescriptor (TX5 k).2.2.1 = some (tyX5 k) := by decide +kernel
abbrev cX5_init : ByteArray := prog_7_method_1_code
def yX5_init : MethodName := ⟨RX5, "<init>", "()V"⟩
abbrev cX5_learn : ByteArray := prog_7_method_2_code
def yX5_learn : MethodName := ⟨RX5, "learn", "(LBranchingTalks$Graph;[I)V"⟩
abbrev cX5_cheapestOf : ByteArray := prog_7_method_3_code
def yX5_cheapestOf : MethodName := ⟨RX5, "cheapestOf", "(LBranchingTalks$Graph;I)I"⟩
def RX6 : String := "BranchingTalks$Reader"
def TX6 : u_T := fun k => match k with
  | 0 => ("BranchingTalks$Reader", "letters", "[I", true)
  | 1 => ("BranchingTalks$Reader", "size", "I", false)
  | 2 => ("BranchingTalks$Reader", "latestFault", "I", false)
  | 3 => ("BranchingTalks$Reader", "part", "I", false)
  | _ => ("BranchingTalks$Reader", "lineOfClause", "I", false)
def tyX6 : Nat → FieldType := fun k => match k with
  | 0 => .array .int
  | 1 => .int
  | 2 => .int
  | 3 => .int
  | _ => .int
theorem nmX6 : ∀ a, a < 5 → ∀ b, b < 5 → a ≠ b → (TX6 a).2.1 ≠ (TX6 b).2.1 := by decide +kernel
theorem tyX6_ok : ∀ k, k < 5 → parseFieldDescriptor (TX6 k).2.2.1 = some (tyX6 k) := by decide +kernel
abbrev cX6_init : ByteArray := prog_8_method_1_code
def yX6_init : MethodName := ⟨RX6, "<init>", "()V"⟩
abbrev cX6_append : ByteArray := prog_8_method_2_code
def yX6_append : MethodName := ⟨RX6, "append", "(I)Z"⟩
abbrev cX6_readInto : ByteArray := prog_8_method_3_code
def yX6_readInto : MethodName := ⟨RX6, "readInto", "(LBranchingTalks$Script;)I"⟩
abbrev cX6_accept : ByteArray := prog_8_method_4_code
def yX6_accept : MethodName := ⟨RX6, "accept", "(ILBranchingTalks$Script;)I"⟩
abbrev cX6_goOn : ByteArray := prog_8_method_5_code
def yX6_goOn : MethodName := ⟨RX6, "goOn", "(I)I"⟩
abbrev cX6_acceptFirstLine : ByteArray := prog_8_method_6_code
def yX6_acceptFirstLine : MethodName := ⟨RX6, "acceptFirstLine", "(ILBranchingTalks$Script;)I"⟩
abbrev cX6_acceptArrowOrDot : ByteArray := prog_8_method_7_code
def yX6_acceptArrowOrDot : MethodName := ⟨RX6, "acceptArrowOrDot", "(ILBranchingTalks$Script;)I"⟩
abbrev cX6_acceptClauseEnd : ByteArray := prog_8_method_8_code
def yX6_acceptClauseEnd : MethodName := ⟨RX6, "acceptClauseEnd", "(I)I"⟩
abbrev cX6_acceptSecondLine : ByteArray := prog_8_method_9_code
def yX6_acceptSecondLine : MethodName := ⟨RX6, "acceptSecondLine", "(ILBranchingTalks$Script;)I"⟩
abbrev cX6_acceptCost : ByteArray := prog_8_method_10_code
def yX6_acceptCost : MethodName := ⟨RX6, "acceptCost", "(ILBranchingTalks$Script;)I"⟩
abbrev cX6_acceptRest : ByteArray := prog_8_method_11_code
def yX6_acceptRest : MethodName := ⟨RX6, "acceptRest", "(ILBranchingTalks$Script;)I"⟩
abbrev cX6_openAlternative : ByteArray := prog_8_method_12_code
def yX6_openAlternative : MethodName := ⟨RX6, "openAlternative", "(LBranchingTalks$Script;)I"⟩
abbrev cX6_acceptAsked : ByteArray := prog_8_method_13_code
def yX6_acceptAsked : MethodName := ⟨RX6, "acceptAsked", "(ILBranchingTalks$Script;)I"⟩
abbrev cX6_acceptMoreOfGuard : ByteArray := prog_8_method_14_code
def yX6_acceptMoreOfGuard : MethodName := ⟨RX6, "acceptMoreOfGuard", "(ILBranchingTalks$Script;)I"⟩
abbrev cX6_acceptChanged : ByteArray := prog_8_method_15_code
def yX6_acceptChanged : MethodName := ⟨RX6, "acceptChanged", "(ILBranchingTalks$Script;)I"⟩
abbrev cX6_acceptMoreOfEffect : ByteArray := prog_8_method_16_code
def yX6_acceptMoreOfEffect : MethodName := ⟨RX6, "acceptMoreOfEffect", "(ILBranchingTalks$Script;)I"⟩
abbrev cX6_smallMark : ByteArray := prog_8_method_17_code
def yX6_smallMark : MethodName := ⟨RX6, "smallMark", "(I)I"⟩
abbrev cX6_greatMark : ByteArray := prog_8_method_18_code
def yX6_greatMark : MethodName := ⟨RX6, "greatMark", "(I)I"⟩
def RX7 : String := "BranchingTalks$RowCounts"
def TX7 : u_T := fun k => match k with
  | 0 => ("BranchingTalks$RowCounts", "now", "[J", false)
  | _ => ("BranchingTalks$RowCounts", "next", "[J", false)
def tyX7 : Nat → FieldType := fun k => match k with
  | 0 => .array .long
  | _ => .array .long
theorem nmX7 : ∀ a, a < 2 → ∀ b, b < 2 → a ≠ b → (TX7 a).2.1 ≠ (TX7 b).2.1 := by decide +kernel
theorem tyX7_ok : ∀ k, k < 2 → parseFieldDescriptor (TX7 k).2.2.1 = some (tyX7 k) := by decide +kernel
abbrev cX7_init : ByteArray := prog_9_method_1_code
def yX7_init : MethodName := ⟨RX7, "<init>", "()V"⟩
abbrev cX7_rowsTo : ByteArray := prog_9_method_2_code
def yX7_rowsTo : MethodName := ⟨RX7, "rowsTo", "(LBranchingTalks$Graph;II)J"⟩
abbrev cX7_lengthen : ByteArray := prog_9_method_3_code
def yX7_lengthen : MethodName := ⟨RX7, "lengthen", "(LBranchingTalks$Graph;)Z"⟩
def RX8 : String := "BranchingTalks$Script"
def TX8 : u_T := fun k => match k with
  | 0 => ("BranchingTalks$Script", "from", "[I", true)
  | 1 => ("BranchingTalks$Script", "to", "[I", true)
  | 2 => ("BranchingTalks$Script", "price", "[I", true)
  | 3 => ("BranchingTalks$Script", "alternatives", "[I", true)
  | 4 => ("BranchingTalks$Script", "wants", "[I", true)
  | 5 => ("BranchingTalks$Script", "bars", "[I", true)
  | 6 => ("BranchingTalks$Script", "lays", "[I", true)
  | 7 => ("BranchingTalks$Script", "takes", "[I", true)
  | 8 => ("BranchingTalks$Script", "byLine", "[I", true)
  | 9 => ("BranchingTalks$Script", "firstOfLine", "[I", true)
  | 10 => ("BranchingTalks$Script", "answers", "I", false)
  | 11 => ("BranchingTalks$Script", "there", "I", false)
  | 12 => ("BranchingTalks$Script", "endings", "I", false)
  | 13 => ("BranchingTalks$Script", "start", "I", false)
  | 14 => ("BranchingTalks$Script", "cutAnswers", "I", false)
  | 15 => ("BranchingTalks$Script", "latest", "I", false)
  | _ => ("BranchingTalks$Script", "latestAlternative", "I", false)
def tyX8 : Nat → FieldType := fun k => match k with
  | 0 => .array .int
  | 1 => .array .int
  | 2 => .array .int
  | 3 => .array .int
  | 4 => .array .int
  | 5 => .array .int
  | 6 => .array .int
  | 7 => .array .int
  | 8 => .array .int
  | 9 => .array .int
  | 10 => .int
  | 11 => .int
  | 12 => .int
  | 13 => .int
  | 14 => .int
  | 15 => .int
  | _ => .int
theorem nmX8 : ∀ a, a < 17 → ∀ b, b < 17 → a ≠ b → (TX8 a).2.1 ≠ (TX8 b).2.1 := by decide +kernel
theorem tyX8_ok : ∀ k, k < 17 → parseFieldDescriptor (TX8 k).2.2.1 = some (tyX8 k) := by decide +kernel
abbrev cX8_init : ByteArray := prog_10_method_1_code
def yX8_init : MethodName := ⟨RX8, "<init>", "()V"⟩
abbrev cX8_clear : ByteArray := prog_10_method_2_code
def yX8_clear : MethodName := ⟨RX8, "clear", "()V"⟩
abbrev cX8_nameLine : ByteArray := prog_10_method_3_code
def yX8_nameLine : MethodName := ⟨RX8, "nameLine", "(I)V"⟩
abbrev cX8_addAnswer : ByteArray := prog_10_method_4_code
def yX8_addAnswer : MethodName := ⟨RX8, "addAnswer", "(I)Z"⟩
abbrev cX8_addAlternative : ByteArray := prog_10_method_5_code
def yX8_addAlternative : MethodName := ⟨RX8, "addAlternative", "()Z"⟩
abbrev cX8_sortByLine : ByteArray := prog_10_method_6_code
def yX8_sortByLine : MethodName := ⟨RX8, "sortByLine", "()V"⟩
abbrev cX8_setCut : ByteArray := prog_10_method_7_code
def yX8_setCut : MethodName := ⟨RX8, "setCut", "(II)V"⟩
abbrev cX8_isOpen : ByteArray := prog_10_method_8_code
def yX8_isOpen : MethodName := ⟨RX8, "isOpen", "(III)Z"⟩
abbrev cX8_guardHolds : ByteArray := prog_10_method_9_code
def yX8_guardHolds : MethodName := ⟨RX8, "guardHolds", "(III)Z"⟩
abbrev cX8_guardContradictsItself : ByteArray := prog_10_method_10_code
def yX8_guardContradictsItself : MethodName := ⟨RX8, "guardContradictsItself", "(I)Z"⟩
abbrev cX8_marksBehind : ByteArray := prog_10_method_11_code
def yX8_marksBehind : MethodName := ⟨RX8, "marksBehind", "(II)I"⟩
abbrev cX8_stateBehind : ByteArray := prog_10_method_12_code
def yX8_stateBehind : MethodName := ⟨RX8, "stateBehind", "(II)I"⟩
abbrev cX8_answersThatLay : ByteArray := prog_10_method_13_code
def yX8_answersThatLay : MethodName := ⟨RX8, "answersThatLay", "(I)I"⟩
abbrev cX8_guardsThatName : ByteArray := prog_10_method_14_code
def yX8_guardsThatName : MethodName := ⟨RX8, "guardsThatName", "(I)I"⟩
abbrev cX8_effectsThatName : ByteArray := prog_10_method_15_code
def yX8_effectsThatName : MethodName := ⟨RX8, "effectsThatName", "(I)I"⟩
abbrev cX8_marksOfGuard : ByteArray := prog_10_method_16_code
def yX8_marksOfGuard : MethodName := ⟨RX8, "marksOfGuard", "(I)I"⟩
def RX9 : String := "BranchingTalks$Search"
def TX9 : u_T := fun k => match k with
  | 0 => ("BranchingTalks$Search", "queue", "[I", true)
  | 1 => ("BranchingTalks$Search", "distance", "[I", true)
  | _ => ("BranchingTalks$Search", "queued", "I", false)
def tyX9 : Nat → FieldType := fun k => match k with
  | 0 => .array .int
  | 1 => .array .int
  | _ => .int
theorem nmX9 : ∀ a, a < 3 → ∀ b, b < 3 → a ≠ b → (TX9 a).2.1 ≠ (TX9 b).2.1 := by decide +kernel
theorem tyX9_ok : ∀ k, k < 3 → parseFieldDescriptor (TX9 k).2.2.1 = some (tyX9 k) := by decide +kernel
abbrev cX9_init : ByteArray := prog_11_method_1_code
def yX9_init : MethodName := ⟨RX9, "<init>", "()V"⟩
abbrev cX9_startAt : ByteArray := prog_11_method_2_code
def yX9_startAt : MethodName := ⟨RX9, "startAt", "(I)V"⟩
abbrev cX9_enqueue : ByteArray := prog_11_method_3_code
def yX9_enqueue : MethodName := ⟨RX9, "enqueue", "(II)V"⟩
abbrev cX9_comesTo : ByteArray := prog_11_method_4_code
def yX9_comesTo : MethodName := ⟨RX9, "comesTo", "(LBranchingTalks$Graph;II)Z"⟩
abbrev cX9_shortestLoop : ByteArray := prog_11_method_5_code
def yX9_shortestLoop : MethodName := ⟨RX9, "shortestLoop", "(LBranchingTalks$Graph;II)I"⟩
def RX10 : String := "BranchingTalks"
def TX10 : u_T := fun k => match k with
  | 0 => ("BranchingTalks", "reader", "LBranchingTalks$Reader;", true)
  | 1 => ("BranchingTalks", "course", "LBranchingTalks$Course;", true)
  | 2 => ("BranchingTalks", "acts", "LBranchingTalks$Acts;", true)
  | 3 => ("BranchingTalks", "graph", "LBranchingTalks$Graph;", true)
  | 4 => ("BranchingTalks", "search", "LBranchingTalks$Search;", true)
  | 5 => ("BranchingTalks", "hopes", "LBranchingTalks$Hopes;", true)
  | 6 => ("BranchingTalks", "loops", "LBranchingTalks$Loops;", true)
  | 7 => ("BranchingTalks", "prices", "LBranchingTalks$Prices;", true)
  | 8 => ("BranchingTalks", "rowCounts", "LBranchingTalks$RowCounts;", true)
  | 9 => ("BranchingTalks", "script", "LBranchingTalks$Script;", false)
  | 10 => ("BranchingTalks", "spare", "LBranchingTalks$Script;", false)
  | 11 => ("BranchingTalks", "told", "Z", false)
  | 12 => ("BranchingTalks", "graphIsFresh", "Z", false)
  | 13 => ("BranchingTalks", "hopesAreFresh", "Z", false)
  | 14 => ("BranchingTalks", "loopsAreFresh", "Z", false)
  | _ => ("BranchingTalks", "pricesAreFresh", "Z", false)
def tyX10 : Nat → FieldType := fun k => match k with
  | 0 => .object "BranchingTalks$Reader"
  | 1 => .object "BranchingTalks$Course"
  | 2 => .object "BranchingTalks$Acts"
  | 3 => .object "BranchingTalks$Graph"
  | 4 => .object "BranchingTalks$Search"
  | 5 => .object "BranchingTalks$Hopes"
  | 6 => .object "BranchingTalks$Loops"
  | 7 => .object "BranchingTalks$Prices"
  | 8 => .object "BranchingTalks$RowCounts"
  | 9 => .object "BranchingTalks$Script"
  | 10 => .object "BranchingTalks$Script"
  | 11 => .boolean
  | 12 => .boolean
  | 13 => .boolean
  | 14 => .boolean
  | _ => .boolean
theorem nmX10 : ∀ a, a < 16 → ∀ b, b < 16 → a ≠ b → (TX10 a).2.1 ≠ (TX10 b).2.1 := by decide +kernel
theorem tyX10_ok : ∀ k, k < 16 → parseFieldDescriptor (TX10 k).2.2.1 = some (tyX10 k) := by decide +kernel
abbrev cX10_init : ByteArray := prog_1_method_1_code
def yX10_init : MethodName := ⟨RX10, "<init>", "()V"⟩
abbrev cX10_write : ByteArray := prog_1_method_2_code
def yX10_write : MethodName := ⟨RX10, "write", "(I)I"⟩
abbrev cX10_talk : ByteArray := prog_1_method_3_code
def yX10_talk : MethodName := ⟨RX10, "talk", "()I"⟩
abbrev cX10_fault : ByteArray := prog_1_method_4_code
def yX10_fault : MethodName := ⟨RX10, "fault", "()I"⟩
abbrev cX10_begin : ByteArray := prog_1_method_5_code
def yX10_begin : MethodName := ⟨RX10, "begin", "(I)I"⟩
abbrev cX10_take : ByteArray := prog_1_method_6_code
def yX10_take : MethodName := ⟨RX10, "take", "(I)I"⟩
abbrev cX10_back : ByteArray := prog_1_method_7_code
def yX10_back : MethodName := ⟨RX10, "back", "(I)I"⟩
abbrev cX10_cut : ByteArray := prog_1_method_8_code
def yX10_cut : MethodName := ⟨RX10, "cut", "(II)I"⟩
abbrev cX10_cost : ByteArray := prog_1_method_9_code
def yX10_cost : MethodName := ⟨RX10, "cost", "(II)I"⟩
abbrev cX10_undo : ByteArray := prog_1_method_10_code
def yX10_undo : MethodName := ⟨RX10, "undo", "()I"⟩
abbrev cX10_answer : ByteArray := prog_1_method_11_code
def yX10_answer : MethodName := ⟨RX10, "answer", "(II)I"⟩
abbrev cX10_count : ByteArray := prog_1_method_12_code
def yX10_count : MethodName := ⟨RX10, "count", "(I)I"⟩
abbrev cX10_step : ByteArray := prog_1_method_13_code
def yX10_step : MethodName := ⟨RX10, "step", "(I)I"⟩
abbrev cX10_line : ByteArray := prog_1_method_14_code
def yX10_line : MethodName := ⟨RX10, "line", "(II)I"⟩
abbrev cX10_least : ByteArray := prog_1_method_15_code
def yX10_least : MethodName := ⟨RX10, "least", "(II)I"⟩
abbrev cX10_row : ByteArray := prog_1_method_16_code
def yX10_row : MethodName := ⟨RX10, "row", "(II)I"⟩
abbrev cX10_needs : ByteArray := prog_1_method_17_code
def yX10_needs : MethodName := ⟨RX10, "needs", "(I)I"⟩
abbrev cX10_must : ByteArray := prog_1_method_18_code
def yX10_must : MethodName := ⟨RX10, "must", "(II)I"⟩
abbrev cX10_loop : ByteArray := prog_1_method_19_code
def yX10_loop : MethodName := ⟨RX10, "loop", "(I)I"⟩
abbrev cX10_use : ByteArray := prog_1_method_20_code
def yX10_use : MethodName := ⟨RX10, "use", "(I)I"⟩
abbrev cX10_mark : ByteArray := prog_1_method_21_code
def yX10_mark : MethodName := ⟨RX10, "mark", "(II)I"⟩
abbrev cX10_whole : ByteArray := prog_1_method_22_code
def yX10_whole : MethodName := ⟨RX10, "whole", "(I)I"⟩
abbrev cX10_rows : ByteArray := prog_1_method_23_code
def yX10_rows : MethodName := ⟨RX10, "rows", "(II)J"⟩
abbrev cX10_bit : ByteArray := prog_1_method_24_code
def yX10_bit : MethodName := ⟨RX10, "bit", "(II)I"⟩
abbrev cX10_isLine : ByteArray := prog_1_method_25_code
def yX10_isLine : MethodName := ⟨RX10, "isLine", "(I)Z"⟩
abbrev cX10_isAnswer : ByteArray := prog_1_method_26_code
def yX10_isAnswer : MethodName := ⟨RX10, "isAnswer", "(I)Z"⟩
abbrev cX10_isOpenHere : ByteArray := prog_1_method_27_code
def yX10_isOpenHere : MethodName := ⟨RX10, "isOpenHere", "(I)Z"⟩
abbrev cX10_openHere : ByteArray := prog_1_method_28_code
def yX10_openHere : MethodName := ⟨RX10, "openHere", "()I"⟩
abbrev cX10_alternativeSet : ByteArray := prog_1_method_29_code
def yX10_alternativeSet : MethodName := ⟨RX10, "alternativeSet", "(II)I"⟩
abbrev cX10_refreshGraph : ByteArray := prog_1_method_30_code
def yX10_refreshGraph : MethodName := ⟨RX10, "refreshGraph", "()V"⟩
abbrev cX10_refreshHopes : ByteArray := prog_1_method_31_code
def yX10_refreshHopes : MethodName := ⟨RX10, "refreshHopes", "()V"⟩
abbrev cX10_refreshLoops : ByteArray := prog_1_method_32_code
def yX10_refreshLoops : MethodName := ⟨RX10, "refreshLoops", "()V"⟩
abbrev cX10_refreshPrices : ByteArray := prog_1_method_33_code
def yX10_refreshPrices : MethodName := ⟨RX10, "refreshPrices", "()V"⟩
abbrev cX10_isStuck : ByteArray := prog_1_method_34_code
def yX10_isStuck : MethodName := ⟨RX10, "isStuck", "(I)Z"⟩
abbrev cX10_stuckStates : ByteArray := prog_1_method_35_code
def yX10_stuckStates : MethodName := ⟨RX10, "stuckStates", "(I)I"⟩
abbrev cX10_stuckLines : ByteArray := prog_1_method_36_code
def yX10_stuckLines : MethodName := ⟨RX10, "stuckLines", "()I"⟩
abbrev cX10_lostStates : ByteArray := prog_1_method_37_code
def yX10_lostStates : MethodName := ⟨RX10, "lostStates", "(I)I"⟩
abbrev cX10_lostLines : ByteArray := prog_1_method_38_code
def yX10_lostLines : MethodName := ⟨RX10, "lostLines", "()I"⟩
abbrev cX10_loopingLines : ByteArray := prog_1_method_39_code
def yX10_loopingLines : MethodName := ⟨RX10, "loopingLines", "()I"⟩
abbrev cX10_statesAtEndings : ByteArray := prog_1_method_40_code
def yX10_statesAtEndings : MethodName := ⟨RX10, "statesAtEndings", "()I"⟩
abbrev cX10_isMarkReached : ByteArray := prog_1_method_41_code
def yX10_isMarkReached : MethodName := ⟨RX10, "isMarkReached", "(I)Z"⟩
abbrev cX10_isAskedForInVain : ByteArray := prog_1_method_42_code
def yX10_isAskedForInVain : MethodName := ⟨RX10, "isAskedForInVain", "(I)Z"⟩
abbrev cX10_leadsOutWithout : ByteArray := prog_1_method_43_code
def yX10_leadsOutWithout : MethodName := ⟨RX10, "leadsOutWithout", "(III)Z"⟩
def RX11 : String := "BranchingTalksModel"
def TX11 : u_T := fun k => match k with
  | 0 => ("BranchingTalksModel", "many", "I", false)
  | 1 => ("BranchingTalksModel", "there", "I", false)
  | 2 => ("BranchingTalksModel", "endings", "I", false)
  | 3 => ("BranchingTalksModel", "start", "I", false)
  | 4 => ("BranchingTalksModel", "from", "[I", true)
  | 5 => ("BranchingTalksModel", "to", "[I", true)
  | 6 => ("BranchingTalksModel", "costs", "[I", true)
  | 7 => ("BranchingTalksModel", "alternatives", "[I", true)
  | 8 => ("BranchingTalksModel", "wants", "[I", true)
  | 9 => ("BranchingTalksModel", "bars", "[I", true)
  | 10 => ("BranchingTalksModel", "lays", "[I", true)
  | 11 => ("BranchingTalksModel", "takes", "[I", true)
  | 12 => ("BranchingTalksModel", "isCut", "[Z", true)
  | 13 => ("BranchingTalksModel", "beginning", "I", false)
  | 14 => ("BranchingTalksModel", "taken", "[I", true)
  | 15 => ("BranchingTalksModel", "steps", "I", false)
  | 16 => ("BranchingTalksModel", "past", "[I", true)
  | 17 => ("BranchingTalksModel", "acts", "I", false)
  | 18 => ("BranchingTalksModel", "far", "[I", true)
  | 19 => ("BranchingTalksModel", "queue", "[I", true)
  | 20 => ("BranchingTalksModel", "text", "[I", true)
  | 21 => ("BranchingTalksModel", "size", "I", false)
  | 22 => ("BranchingTalksModel", "latest", "I", false)
  | 23 => ("BranchingTalksModel", "at", "I", false)
  | 24 => ("BranchingTalksModel", "bad", "I", false)
  | 25 => ("BranchingTalksModel", "read", "[I", true)
  | 26 => ("BranchingTalksModel", "readWants", "[I", true)
  | 27 => ("BranchingTalksModel", "readBars", "[I", true)
  | 28 => ("BranchingTalksModel", "readMany", "I", false)
  | 29 => ("BranchingTalksModel", "readThere", "I", false)
  | 30 => ("BranchingTalksModel", "readEndings", "I", false)
  | 31 => ("BranchingTalksModel", "readStart", "I", false)
  | 32 => ("BranchingTalksModel", "ends", "[Z", true)
  | 33 => ("BranchingTalksModel", "dear", "[I", true)
  | 34 => ("BranchingTalksModel", "good", "[Z", true)
  | 35 => ("BranchingTalksModel", "isReached", "[Z", true)
  | 36 => ("BranchingTalksModel", "ways", "[J", true)
  | _ => ("BranchingTalksModel", "waysThen", "[J", true)
def tyX11 : Nat → FieldType := fun k => match k with
  | 0 => .int
  | 1 => .int
  | 2 => .int
  | 3 => .int
  | 4 => .array .int
  | 5 => .array .int
  | 6 => .array .int
  | 7 => .array .int
  | 8 => .array .int
  | 9 => .array .int
  | 10 => .array .int
  | 11 => .array .int
  | 12 => .array .boolean
  | 13 => .int
  | 14 => .array .int
  | 15 => .int
  | 16 => .array .int
  | 17 => .int
  | 18 => .array .int
  | 19 => .array .int
  | 20 => .array .int
  | 21 => .int
  | 22 => .int
  | 23 => .int
  | 24 => .int
  | 25 => .array .int
  | 26 => .array .int
  | 27 => .array .int
  | 28 => .int
  | 29 => .int
  | 30 => .int
  | 31 => .int
  | 32 => .array .boolean
  | 33 => .array .int
  | 34 => .array .boolean
  | 35 => .array .boolean
  | 36 => .array .long
  | _ => .array .long
theorem nmX11 : ∀ a, a < 38 → ∀ b, b < 38 → a ≠ b → (TX11 a).2.1 ≠ (TX11 b).2.1 := by decide +kernel
theorem tyX11_ok : ∀ k, k < 38 → parseFieldDescriptor (TX11 k).2.2.1 = some (tyX11 k) := by decide +kernel
abbrev cX11_init : ByteArray := prog_13_method_1_code
def yX11_init : MethodName := ⟨RX11, "<init>", "()V"⟩
abbrev cX11_in : ByteArray := prog_13_method_2_code
def yX11_in : MethodName := ⟨RX11, "in", "(JJJ)Z"⟩
abbrev cX11_has : ByteArray := prog_13_method_3_code
def yX11_has : MethodName := ⟨RX11, "has", "(II)Z"⟩
abbrev cX11_isTalk : ByteArray := prog_13_method_4_code
def yX11_isTalk : MethodName := ⟨RX11, "isTalk", "()Z"⟩
abbrev cX11_isAnswer : ByteArray := prog_13_method_5_code
def yX11_isAnswer : MethodName := ⟨RX11, "isAnswer", "(I)Z"⟩
abbrev cX11_isLine : ByteArray := prog_13_method_6_code
def yX11_isLine : MethodName := ⟨RX11, "isLine", "(I)Z"⟩
abbrev cX11_holds : ByteArray := prog_13_method_7_code
def yX11_holds : MethodName := ⟨RX11, "holds", "(III)Z"⟩
abbrev cX11_isOpen : ByteArray := prog_13_method_8_code
def yX11_isOpen : MethodName := ⟨RX11, "isOpen", "(III)Z"⟩
abbrev cX11_next : ByteArray := prog_13_method_9_code
def yX11_next : MethodName := ⟨RX11, "next", "(II)I"⟩
abbrev cX11_reaches : ByteArray := prog_13_method_10_code
def yX11_reaches : MethodName := ⟨RX11, "reaches", "(IIII)I"⟩
abbrev cX11_first : ByteArray := prog_13_method_11_code
def yX11_first : MethodName := ⟨RX11, "first", "()I"⟩
abbrev cX11_reachesAll : ByteArray := prog_13_method_12_code
def yX11_reachesAll : MethodName := ⟨RX11, "reachesAll", "()I"⟩
abbrev cX11_fewest : ByteArray := prog_13_method_13_code
def yX11_fewest : MethodName := ⟨RX11, "fewest", "(I)I"⟩
abbrev cX11_here : ByteArray := prog_13_method_14_code
def yX11_here : MethodName := ⟨RX11, "here", "()I"⟩
abbrev cX11_write : ByteArray := prog_13_method_15_code
def yX11_write : MethodName := ⟨RX11, "write", "(I)I"⟩
abbrev cX11_look : ByteArray := prog_13_method_16_code
def yX11_look : MethodName := ⟨RX11, "look", "()I"⟩
abbrev cX11_wrong : ByteArray := prog_13_method_17_code
def yX11_wrong : MethodName := ⟨RX11, "wrong", "(I)V"⟩
abbrev cX11_passes : ByteArray := prog_13_method_18_code
def yX11_passes : MethodName := ⟨RX11, "passes", "(I)V"⟩
abbrev cX11_line : ByteArray := prog_13_method_19_code
def yX11_line : MethodName := ⟨RX11, "line", "()I"⟩
abbrev cX11_isMark : ByteArray := prog_13_method_20_code
def yX11_isMark : MethodName := ⟨RX11, "isMark", "()Z"⟩
abbrev cX11_readsAlternative : ByteArray := prog_13_method_21_code
def yX11_readsAlternative : MethodName := ⟨RX11, "readsAlternative", "(I)V"⟩
abbrev cX11_readsGuard : ByteArray := prog_13_method_22_code
def yX11_readsGuard : MethodName := ⟨RX11, "readsGuard", "(I)V"⟩
abbrev cX11_readsEffect : ByteArray := prog_13_method_23_code
def yX11_readsEffect : MethodName := ⟨RX11, "readsEffect", "(I)V"⟩
abbrev cX11_readsAnswer : ByteArray := prog_13_method_24_code
def yX11_readsAnswer : MethodName := ⟨RX11, "readsAnswer", "(I)V"⟩
abbrev cX11_readsClause : ByteArray := prog_13_method_25_code
def yX11_readsClause : MethodName := ⟨RX11, "readsClause", "()V"⟩
abbrev cX11_keeps : ByteArray := prog_13_method_26_code
def yX11_keeps : MethodName := ⟨RX11, "keeps", "()V"⟩
abbrev cX11_talk : ByteArray := prog_13_method_27_code
def yX11_talk : MethodName := ⟨RX11, "talk", "()I"⟩
abbrev cX11_fault : ByteArray := prog_13_method_28_code
def yX11_fault : MethodName := ⟨RX11, "fault", "()I"⟩
abbrev cX11_begin : ByteArray := prog_13_method_29_code
def yX11_begin : MethodName := ⟨RX11, "begin", "(I)I"⟩
abbrev cX11_take : ByteArray := prog_13_method_30_code
def yX11_take : MethodName := ⟨RX11, "take", "(I)I"⟩
abbrev cX11_back : ByteArray := prog_13_method_31_code
def yX11_back : MethodName := ⟨RX11, "back", "(I)I"⟩
abbrev cX11_notes : ByteArray := prog_13_method_32_code
def yX11_notes : MethodName := ⟨RX11, "notes", "()V"⟩
abbrev cX11_cut : ByteArray := prog_13_method_33_code
def yX11_cut : MethodName := ⟨RX11, "cut", "(II)I"⟩
abbrev cX11_cost : ByteArray := prog_13_method_34_code
def yX11_cost : MethodName := ⟨RX11, "cost", "(II)I"⟩
abbrev cX11_undo : ByteArray := prog_13_method_35_code
def yX11_undo : MethodName := ⟨RX11, "undo", "()I"⟩
abbrev cX11_isVain : ByteArray := prog_13_method_36_code
def yX11_isVain : MethodName := ⟨RX11, "isVain", "(I)Z"⟩
abbrev cX11_answer : ByteArray := prog_13_method_37_code
def yX11_answer : MethodName := ⟨RX11, "answer", "(II)I"⟩
abbrev cX11_openIn : ByteArray := prog_13_method_38_code
def yX11_openIn : MethodName := ⟨RX11, "openIn", "(I)I"⟩
abbrev cX11_costOfSteps : ByteArray := prog_13_method_39_code
def yX11_costOfSteps : MethodName := ⟨RX11, "costOfSteps", "()I"⟩
abbrev cX11_count : ByteArray := prog_13_method_40_code
def yX11_count : MethodName := ⟨RX11, "count", "(I)I"⟩
abbrev cX11_step : ByteArray := prog_13_method_41_code
def yX11_step : MethodName := ⟨RX11, "step", "(I)I"⟩
abbrev cX11_laysEnds : ByteArray := prog_13_method_42_code
def yX11_laysEnds : MethodName := ⟨RX11, "laysEnds", "()V"⟩
abbrev cX11_isStuck : ByteArray := prog_13_method_43_code
def yX11_isStuck : MethodName := ⟨RX11, "isStuck", "(I)Z"⟩
abbrev cX11_isLost : ByteArray := prog_13_method_44_code
def yX11_isLost : MethodName := ⟨RX11, "isLost", "(I)Z"⟩
abbrev cX11_statesOf : ByteArray := prog_13_method_45_code
def yX11_statesOf : MethodName := ⟨RX11, "statesOf", "(II)I"⟩
abbrev cX11_marksOf : ByteArray := prog_13_method_46_code
def yX11_marksOf : MethodName := ⟨RX11, "marksOf", "(IZ)I"⟩
abbrev cX11_line_ : ByteArray := prog_13_method_47_code
def yX11_line_ : MethodName := ⟨RX11, "line", "(II)I"⟩
abbrev cX11_cheapest : ByteArray := prog_13_method_48_code
def yX11_cheapest : MethodName := ⟨RX11, "cheapest", "(I)I"⟩
abbrev cX11_least : ByteArray := prog_13_method_49_code
def yX11_least : MethodName := ⟨RX11, "least", "(II)I"⟩
abbrev cX11_laysGood : ByteArray := prog_13_method_50_code
def yX11_laysGood : MethodName := ⟨RX11, "laysGood", "(II)V"⟩
abbrev cX11_goesOn : ByteArray := prog_13_method_51_code
def yX11_goesOn : MethodName := ⟨RX11, "goesOn", "(II)Z"⟩
abbrev cX11_row : ByteArray := prog_13_method_52_code
def yX11_row : MethodName := ⟨RX11, "row", "(II)I"⟩
abbrev cX11_needs : ByteArray := prog_13_method_53_code
def yX11_needs : MethodName := ⟨RX11, "needs", "(I)I"⟩
abbrev cX11_must : ByteArray := prog_13_method_54_code
def yX11_must : MethodName := ⟨RX11, "must", "(II)I"⟩
abbrev cX11_laysReached : ByteArray := prog_13_method_55_code
def yX11_laysReached : MethodName := ⟨RX11, "laysReached", "()V"⟩
abbrev cX11_loopOf : ByteArray := prog_13_method_56_code
def yX11_loopOf : MethodName := ⟨RX11, "loopOf", "(I)I"⟩
abbrev cX11_loopOfLine : ByteArray := prog_13_method_57_code
def yX11_loopOfLine : MethodName := ⟨RX11, "loopOfLine", "(I)I"⟩
abbrev cX11_loop : ByteArray := prog_13_method_58_code
def yX11_loop : MethodName := ⟨RX11, "loop", "(I)I"⟩
abbrev cX11_use : ByteArray := prog_13_method_59_code
def yX11_use : MethodName := ⟨RX11, "use", "(I)I"⟩
abbrev cX11_isAskedFor : ByteArray := prog_13_method_60_code
def yX11_isAskedFor : MethodName := ⟨RX11, "isAskedFor", "(II)Z"⟩
abbrev cX11_asked : ByteArray := prog_13_method_61_code
def yX11_asked : MethodName := ⟨RX11, "asked", "(I)I"⟩
abbrev cX11_laid : ByteArray := prog_13_method_62_code
def yX11_laid : MethodName := ⟨RX11, "laid", "(I)I"⟩
abbrev cX11_isAnywhere : ByteArray := prog_13_method_63_code
def yX11_isAnywhere : MethodName := ⟨RX11, "isAnywhere", "(I)Z"⟩
abbrev cX11_isIdle : ByteArray := prog_13_method_64_code
def yX11_isIdle : MethodName := ⟨RX11, "isIdle", "(I)Z"⟩
abbrev cX11_mark : ByteArray := prog_13_method_65_code
def yX11_mark : MethodName := ⟨RX11, "mark", "(II)I"⟩
abbrev cX11_linesThat : ByteArray := prog_13_method_66_code
def yX11_linesThat : MethodName := ⟨RX11, "linesThat", "(I)I"⟩
abbrev cX11_linesWithLoops : ByteArray := prog_13_method_67_code
def yX11_linesWithLoops : MethodName := ⟨RX11, "linesWithLoops", "()I"⟩
abbrev cX11_ofStates : ByteArray := prog_13_method_68_code
def yX11_ofStates : MethodName := ⟨RX11, "ofStates", "(I)I"⟩
abbrev cX11_whole : ByteArray := prog_13_method_69_code
def yX11_whole : MethodName := ⟨RX11, "whole", "(I)I"⟩
abbrev cX11_isTooMuch : ByteArray := prog_13_method_70_code
def yX11_isTooMuch : MethodName := ⟨RX11, "isTooMuch", "(JJ)Z"⟩
abbrev cX11_goes : ByteArray := prog_13_method_71_code
def yX11_goes : MethodName := ⟨RX11, "goes", "()Z"⟩
abbrev cX11_rows : ByteArray := prog_13_method_72_code
def yX11_rows : MethodName := ⟨RX11, "rows", "(II)J"⟩
def RJ6 : String := "java/lang/Integer"
abbrev cJ6_bitCount_0f7a4 : ByteArray := prog_14_method_49_code
def yJ6_bitCount_0f7a4 : MethodName := ⟨RJ6, "bitCount", "(I)I"⟩
def RJ9 : String := "java/lang/Math"
abbrev cJ9_max_7cf53 : ByteArray := prog_15_method_65_code
def yJ9_max_7cf53 : MethodName := ⟨RJ9, "max", "(II)I"⟩
abbrev cJ9_min_7cf53 : ByteArray := prog_15_method_69_code
def yJ9_min_7cf53 : MethodName := ⟨RJ9, "min", "(II)I"⟩
def RJ10 : String := "java/lang/System"
def RJ7 : String := "java/util/Arrays"
abbrev cJ7_fill_d0a16 : ByteArray := prog_17_method_101_code
def yJ7_fill_d0a16 : MethodName := ⟨RJ7, "fill", "([JJ)V"⟩
abbrev cJ7_fill_53178 : ByteArray := prog_17_method_103_code
def yJ7_fill_53178 : MethodName := ⟨RJ7, "fill", "([II)V"⟩
/-- the words that every method is given: the tables' good ones -/
def tbG : List Cond := lw_tbl.filter goodWord
theorem tbG_good {w : Cond} (h : w ∈ tbG) : goodWord w = true := (List.mem_filter.mp h).2
theorem tbG_in {w : Cond} (h : w ∈ tbG) : w ∈ lw_tbl := (List.mem_filter.mp h).1
theorem tg {i : Nat} {w : Cond} (h : lw_tbl[i]? = some w) (g : goodWord w = true) : w ∈ tbG := List.mem_filter.mpr ⟨List.mem_of_getElem? h, g⟩
abbrev MI : Type := MethodName × ByteArray × Nat × Option FieldType × Nat
abbrev qX10_init : MI := (yX10_init, cX10_init, 1, none, 2)
abbrev qX6_init : MI := (yX6_init, cX6_init, 1, none, 1)
abbrev qX1_init : MI := (yX1_init, cX1_init, 1, none, 1)
abbrev qX0_init : MI := (yX0_init, cX0_init, 1, none, 1)
abbrev qX2_init : MI := (yX2_init, cX2_init, 1, none, 1)
abbrev qX9_init : MI := (yX9_init, cX9_init, 1, none, 1)
abbrev qX3_init : MI := (yX3_init, cX3_init, 1, none, 1)
abbrev qX4_init : MI := (yX4_init, cX4_init, 1, none, 1)
abbrev qX5_init : MI := (yX5_init, cX5_init, 1, none, 1)
abbrev qX7_init : MI := (yX7_init, cX7_init, 1, none, 1)
abbrev qX8_init : MI := (yX8_init, cX8_init, 1, none, 1)
abbrev qX10_write : MI := (yX10_write, cX10_write, 2, (some .int), 1)
abbrev qX6_append : MI := (yX6_append, cX6_append, 2, (some .boolean), 0)
abbrev qX10_talk : MI := (yX10_talk, cX10_talk, 3, (some .int), 6)
abbrev qX6_readInto : MI := (yX6_readInto, cX6_readInto, 4, (some .int), 5)
abbrev qX8_clear : MI := (yX8_clear, cX8_clear, 1, none, 0)
abbrev qX6_accept : MI := (yX6_accept, cX6_accept, 3, (some .int), 4)
abbrev qX6_acceptFirstLine : MI := (yX6_acceptFirstLine, cX6_acceptFirstLine, 3, (some .int), 1)
abbrev qX8_nameLine : MI := (yX8_nameLine, cX8_nameLine, 2, none, 0)
abbrev qX6_goOn : MI := (yX6_goOn, cX6_goOn, 2, (some .int), 0)
abbrev qX6_acceptArrowOrDot : MI := (yX6_acceptArrowOrDot, cX6_acceptArrowOrDot, 3, (some .int), 1)
abbrev qX8_addAnswer : MI := (yX8_addAnswer, cX8_addAnswer, 2, (some .boolean), 0)
abbrev qX6_acceptClauseEnd : MI := (yX6_acceptClauseEnd, cX6_acceptClauseEnd, 2, (some .int), 1)
abbrev qX6_acceptSecondLine : MI := (yX6_acceptSecondLine, cX6_acceptSecondLine, 3, (some .int), 1)
abbrev qX6_acceptCost : MI := (yX6_acceptCost, cX6_acceptCost, 3, (some .int), 3)
abbrev qX6_acceptRest : MI := (yX6_acceptRest, cX6_acceptRest, 3, (some .int), 2)
abbrev qX6_openAlternative : MI := (yX6_openAlternative, cX6_openAlternative, 2, (some .int), 1)
abbrev qX8_addAlternative : MI := (yX8_addAlternative, cX8_addAlternative, 1, (some .boolean), 0)
abbrev qX6_acceptAsked : MI := (yX6_acceptAsked, cX6_acceptAsked, 5, (some .int), 1)
abbrev qX6_smallMark : MI := (yX6_smallMark, cX6_smallMark, 1, (some .int), 0)
abbrev qX6_greatMark : MI := (yX6_greatMark, cX6_greatMark, 1, (some .int), 0)
abbrev qX6_acceptMoreOfGuard : MI := (yX6_acceptMoreOfGuard, cX6_acceptMoreOfGuard, 3, (some .int), 3)
abbrev qX6_acceptChanged : MI := (yX6_acceptChanged, cX6_acceptChanged, 6, (some .int), 1)
abbrev qX6_acceptMoreOfEffect : MI := (yX6_acceptMoreOfEffect, cX6_acceptMoreOfEffect, 3, (some .int), 2)
abbrev qX8_sortByLine : MI := (yX8_sortByLine, cX8_sortByLine, 4, none, 0)
abbrev qX1_restart : MI := (yX1_restart, cX1_restart, 2, none, 0)
abbrev qX10_fault : MI := (yX10_fault, cX10_fault, 1, (some .int), 0)
abbrev qX10_begin : MI := (yX10_begin, cX10_begin, 2, (some .int), 1)
abbrev qX10_take : MI := (yX10_take, cX10_take, 2, (some .int), 3)
abbrev qX10_isAnswer : MI := (yX10_isAnswer, cX10_isAnswer, 2, (some .boolean), 0)
abbrev qX10_isOpenHere : MI := (yX10_isOpenHere, cX10_isOpenHere, 2, (some .boolean), 2)
abbrev qX1_lineHere : MI := (yX1_lineHere, cX1_lineHere, 2, (some .int), 0)
abbrev qX1_marksHere : MI := (yX1_marksHere, cX1_marksHere, 4, (some .int), 1)
abbrev qX8_marksBehind : MI := (yX8_marksBehind, cX8_marksBehind, 3, (some .int), 0)
abbrev qX8_isOpen : MI := (yX8_isOpen, cX8_isOpen, 4, (some .boolean), 1)
abbrev qX10_bit : MI := (yX10_bit, cX10_bit, 2, (some .int), 0)
abbrev qX8_guardHolds : MI := (yX8_guardHolds, cX8_guardHolds, 8, (some .boolean), 0)
abbrev qX1_advance : MI := (yX1_advance, cX1_advance, 2, (some .boolean), 0)
abbrev qX10_back : MI := (yX10_back, cX10_back, 2, (some .int), 1)
abbrev qX10_cut : MI := (yX10_cut, cX10_cut, 3, (some .int), 3)
abbrev qX0_keep : MI := (yX0_keep, cX0_keep, 4, none, 2)
abbrev qX0_forgetOldest : MI := (yX0_forgetOldest, cX0_forgetOldest, 1, none, 1)
abbrev qX8_setCut : MI := (yX8_setCut, cX8_setCut, 3, none, 0)
abbrev qJ6_bitCount_0f7a4 : MI := (yJ6_bitCount_0f7a4, cJ6_bitCount_0f7a4, 1, (some .int), 0)
abbrev qX10_cost : MI := (yX10_cost, cX10_cost, 4, (some .int), 3)
abbrev qX10_undo : MI := (yX10_undo, cX10_undo, 3, (some .int), 1)
abbrev qX10_answer : MI := (yX10_answer, cX10_answer, 3, (some .int), 3)
abbrev qX8_guardContradictsItself : MI := (yX8_guardContradictsItself, cX8_guardContradictsItself, 4, (some .boolean), 0)
abbrev qX10_alternativeSet : MI := (yX10_alternativeSet, cX10_alternativeSet, 4, (some .int), 0)
abbrev qX10_count : MI := (yX10_count, cX10_count, 2, (some .int), 4)
abbrev qX10_openHere : MI := (yX10_openHere, cX10_openHere, 3, (some .int), 3)
abbrev qX1_priceOfSteps : MI := (yX1_priceOfSteps, cX1_priceOfSteps, 4, (some .int), 0)
abbrev qX10_step : MI := (yX10_step, cX10_step, 2, (some .int), 0)
abbrev qX10_line : MI := (yX10_line, cX10_line, 3, (some .int), 5)
abbrev qX10_isLine : MI := (yX10_isLine, cX10_isLine, 2, (some .boolean), 1)
abbrev qX10_refreshGraph : MI := (yX10_refreshGraph, cX10_refreshGraph, 1, none, 4)
abbrev qX2_explore : MI := (yX2_explore, cX2_explore, 4, none, 3)
abbrev qJ7_fill_53178 : MI := (yJ7_fill_53178, cJ7_fill_53178, 4, none, 0)
abbrev qX2_admit : MI := (yX2_admit, cX2_admit, 4, (some .boolean), 0)
abbrev qX2_addMovesFrom : MI := (yX2_addMovesFrom, cX2_addMovesFrom, 7, none, 2)
abbrev qX2_lineAt : MI := (yX2_lineAt, cX2_lineAt, 2, (some .int), 0)
abbrev qX2_marksAt : MI := (yX2_marksAt, cX2_marksAt, 2, (some .int), 0)
abbrev qX8_stateBehind : MI := (yX8_stateBehind, cX8_stateBehind, 3, (some .int), 1)
abbrev qX2_addMove : MI := (yX2_addMove, cX2_addMove, 4, none, 1)
abbrev qX2_turnRound : MI := (yX2_turnRound, cX2_turnRound, 3, none, 1)
abbrev qX2_statesOf : MI := (yX2_statesOf, cX2_statesOf, 4, (some .int), 1)
abbrev qX2_marksInAll : MI := (yX2_marksInAll, cX2_marksInAll, 4, (some .int), 1)
abbrev qX2_marksInSome : MI := (yX2_marksInSome, cX2_marksInSome, 4, (some .int), 1)
abbrev qX10_stuckStates : MI := (yX10_stuckStates, cX10_stuckStates, 4, (some .int), 2)
abbrev qX10_isStuck : MI := (yX10_isStuck, cX10_isStuck, 2, (some .boolean), 1)
abbrev qX2_movesFrom : MI := (yX2_movesFrom, cX2_movesFrom, 2, (some .int), 0)
abbrev qX10_lostStates : MI := (yX10_lostStates, cX10_lostStates, 4, (some .int), 3)
abbrev qX10_refreshHopes : MI := (yX10_refreshHopes, cX10_refreshHopes, 1, none, 2)
abbrev qX3_learn : MI := (yX3_learn, cX3_learn, 6, none, 1)
abbrev qX3_admit : MI := (yX3_admit, cX3_admit, 2, none, 0)
abbrev qX10_least : MI := (yX10_least, cX10_least, 4, (some .int), 5)
abbrev qX10_refreshPrices : MI := (yX10_refreshPrices, cX10_refreshPrices, 1, none, 2)
abbrev qX5_learn : MI := (yX5_learn, cX5_learn, 7, none, 1)
abbrev qX5_cheapestOf : MI := (yX5_cheapestOf, cX5_cheapestOf, 5, (some .int), 1)
abbrev qJ9_min_7cf53 : MI := (yJ9_min_7cf53, cJ9_min_7cf53, 2, (some .int), 0)
abbrev qX10_row : MI := (yX10_row, cX10_row, 3, (some .int), 5)
abbrev qX2_answerOfRow : MI := (yX2_answerOfRow, cX2_answerOfRow, 5, (some .int), 0)
abbrev qX10_needs : MI := (yX10_needs, cX10_needs, 4, (some .int), 5)
abbrev qX8_answersThatLay : MI := (yX8_answersThatLay, cX8_answersThatLay, 4, (some .int), 1)
abbrev qX9_comesTo : MI := (yX9_comesTo, cX9_comesTo, 7, (some .boolean), 2)
abbrev qX9_startAt : MI := (yX9_startAt, cX9_startAt, 2, none, 1)
abbrev qX9_enqueue : MI := (yX9_enqueue, cX9_enqueue, 3, none, 0)
abbrev qX10_must : MI := (yX10_must, cX10_must, 6, (some .int), 5)
abbrev qX2_answersOfRow : MI := (yX2_answersOfRow, cX2_answersOfRow, 5, (some .int), 0)
abbrev qX10_loop : MI := (yX10_loop, cX10_loop, 5, (some .int), 5)
abbrev qX10_refreshLoops : MI := (yX10_refreshLoops, cX10_refreshLoops, 1, none, 3)
abbrev qX4_learn : MI := (yX4_learn, cX4_learn, 3, none, 2)
abbrev qX4_finishAll : MI := (yX4_finishAll, cX4_finishAll, 6, none, 1)
abbrev qX4_clear : MI := (yX4_clear, cX4_clear, 2, none, 0)
abbrev qX4_push : MI := (yX4_push, cX4_push, 3, none, 0)
abbrev qX4_gatherComponent : MI := (yX4_gatherComponent, cX4_gatherComponent, 7, none, 1)
abbrev qX4_join : MI := (yX4_join, cX4_join, 2, none, 0)
abbrev qX9_shortestLoop : MI := (yX9_shortestLoop, cX9_shortestLoop, 8, (some .int), 2)
abbrev qX10_use : MI := (yX10_use, cX10_use, 3, (some .int), 5)
abbrev qX2_movesBy : MI := (yX2_movesBy, cX2_movesBy, 4, (some .int), 0)
abbrev qX10_mark : MI := (yX10_mark, cX10_mark, 3, (some .int), 6)
abbrev qX8_guardsThatName : MI := (yX8_guardsThatName, cX8_guardsThatName, 4, (some .int), 1)
abbrev qX8_marksOfGuard : MI := (yX8_marksOfGuard, cX8_marksOfGuard, 5, (some .int), 0)
abbrev qX8_effectsThatName : MI := (yX8_effectsThatName, cX8_effectsThatName, 4, (some .int), 1)
abbrev qX10_isMarkReached : MI := (yX10_isMarkReached, cX10_isMarkReached, 3, (some .boolean), 5)
abbrev qX10_isAskedForInVain : MI := (yX10_isAskedForInVain, cX10_isAskedForInVain, 3, (some .boolean), 5)
abbrev qX10_leadsOutWithout : MI := (yX10_leadsOutWithout, cX10_leadsOutWithout, 6, (some .boolean), 2)
abbrev qX10_whole : MI := (yX10_whole, cX10_whole, 2, (some .int), 5)
abbrev qX2_linesReached : MI := (yX2_linesReached, cX2_linesReached, 3, (some .int), 1)
abbrev qX10_stuckLines : MI := (yX10_stuckLines, cX10_stuckLines, 3, (some .int), 2)
abbrev qX10_lostLines : MI := (yX10_lostLines, cX10_lostLines, 3, (some .int), 3)
abbrev qX10_loopingLines : MI := (yX10_loopingLines, cX10_loopingLines, 3, (some .int), 4)
abbrev qX2_mostMovesOfAState : MI := (yX2_mostMovesOfAState, cX2_mostMovesOfAState, 3, (some .int), 1)
abbrev qJ9_max_7cf53 : MI := (yJ9_max_7cf53, cJ9_max_7cf53, 2, (some .int), 0)
abbrev qX10_statesAtEndings : MI := (yX10_statesAtEndings, cX10_statesAtEndings, 3, (some .int), 1)
abbrev qX2_greatestDepth : MI := (yX2_greatestDepth, cX2_greatestDepth, 1, (some .int), 0)
abbrev qX10_rows : MI := (yX10_rows, cX10_rows, 3, (some .long), 5)
abbrev qX7_rowsTo : MI := (yX7_rowsTo, cX7_rowsTo, 7, (some .long), 2)
abbrev qJ7_fill_d0a16 : MI := (yJ7_fill_d0a16, cJ7_fill_d0a16, 5, none, 0)
abbrev qX7_lengthen : MI := (yX7_lengthen, cX7_lengthen, 6, (some .boolean), 1)
abbrev qX11_init : MI := (yX11_init, cX11_init, 1, none, 1)
abbrev qX11_write : MI := (yX11_write, cX11_write, 2, (some .int), 1)
abbrev qX11_in : MI := (yX11_in, cX11_in, 6, (some .boolean), 0)
abbrev qX11_talk : MI := (yX11_talk, cX11_talk, 3, (some .int), 6)
abbrev qX11_readsClause : MI := (yX11_readsClause, cX11_readsClause, 2, none, 5)
abbrev qX11_line : MI := (yX11_line, cX11_line, 2, (some .int), 1)
abbrev qX11_look : MI := (yX11_look, cX11_look, 1, (some .int), 0)
abbrev qX11_wrong : MI := (yX11_wrong, cX11_wrong, 2, none, 0)
abbrev qX11_readsAnswer : MI := (yX11_readsAnswer, cX11_readsAnswer, 4, none, 4)
abbrev qX11_passes : MI := (yX11_passes, cX11_passes, 2, none, 1)
abbrev qX11_readsGuard : MI := (yX11_readsGuard, cX11_readsGuard, 2, none, 3)
abbrev qX11_readsAlternative : MI := (yX11_readsAlternative, cX11_readsAlternative, 4, none, 2)
abbrev qX11_isMark : MI := (yX11_isMark, cX11_isMark, 1, (some .boolean), 1)
abbrev qX11_readsEffect : MI := (yX11_readsEffect, cX11_readsEffect, 4, none, 2)
abbrev qX11_has : MI := (yX11_has, cX11_has, 2, (some .boolean), 0)
abbrev qX11_keeps : MI := (yX11_keeps, cX11_keeps, 2, none, 0)
abbrev qX11_fault : MI := (yX11_fault, cX11_fault, 1, (some .int), 0)
abbrev qX11_begin : MI := (yX11_begin, cX11_begin, 2, (some .int), 1)
abbrev qX11_isTalk : MI := (yX11_isTalk, cX11_isTalk, 1, (some .boolean), 0)
abbrev qX11_take : MI := (yX11_take, cX11_take, 2, (some .int), 2)
abbrev qX11_isAnswer : MI := (yX11_isAnswer, cX11_isAnswer, 2, (some .boolean), 1)
abbrev qX11_here : MI := (yX11_here, cX11_here, 3, (some .int), 1)
abbrev qX11_first : MI := (yX11_first, cX11_first, 1, (some .int), 0)
abbrev qX11_next : MI := (yX11_next, cX11_next, 3, (some .int), 0)
abbrev qX11_isOpen : MI := (yX11_isOpen, cX11_isOpen, 5, (some .boolean), 1)
abbrev qX11_holds : MI := (yX11_holds, cX11_holds, 9, (some .boolean), 0)
abbrev qX11_back : MI := (yX11_back, cX11_back, 2, (some .int), 2)
abbrev qX11_cut : MI := (yX11_cut, cX11_cut, 5, (some .int), 2)
abbrev qX11_notes : MI := (yX11_notes, cX11_notes, 2, none, 0)
abbrev qX11_cost : MI := (yX11_cost, cX11_cost, 4, (some .int), 2)
abbrev qX11_undo : MI := (yX11_undo, cX11_undo, 2, (some .int), 1)
abbrev qX11_answer : MI := (yX11_answer, cX11_answer, 4, (some .int), 2)
abbrev qX11_isVain : MI := (yX11_isVain, cX11_isVain, 4, (some .boolean), 0)
abbrev qX11_count : MI := (yX11_count, cX11_count, 2, (some .int), 3)
abbrev qX11_openIn : MI := (yX11_openIn, cX11_openIn, 4, (some .int), 2)
abbrev qX11_costOfSteps : MI := (yX11_costOfSteps, cX11_costOfSteps, 3, (some .int), 0)
abbrev qX11_step : MI := (yX11_step, cX11_step, 2, (some .int), 1)
abbrev qX11_line_ : MI := (yX11_line_, cX11_line_, 3, (some .int), 5)
abbrev qX11_isLine : MI := (yX11_isLine, cX11_isLine, 2, (some .boolean), 1)
abbrev qX11_reachesAll : MI := (yX11_reachesAll, cX11_reachesAll, 1, (some .int), 3)
abbrev qX11_reaches : MI := (yX11_reaches, cX11_reaches, 11, (some .int), 2)
abbrev qX11_laysEnds : MI := (yX11_laysEnds, cX11_laysEnds, 4, none, 2)
abbrev qX11_statesOf : MI := (yX11_statesOf, cX11_statesOf, 6, (some .int), 4)
abbrev qX11_isStuck : MI := (yX11_isStuck, cX11_isStuck, 2, (some .boolean), 3)
abbrev qX11_isLost : MI := (yX11_isLost, cX11_isLost, 2, (some .boolean), 0)
abbrev qX11_marksOf : MI := (yX11_marksOf, cX11_marksOf, 6, (some .int), 0)
abbrev qX11_least : MI := (yX11_least, cX11_least, 3, (some .int), 4)
abbrev qX11_cheapest : MI := (yX11_cheapest, cX11_cheapest, 7, (some .int), 2)
abbrev qX11_fewest : MI := (yX11_fewest, cX11_fewest, 4, (some .int), 0)
abbrev qX11_row : MI := (yX11_row, cX11_row, 7, (some .int), 4)
abbrev qX11_laysGood : MI := (yX11_laysGood, cX11_laysGood, 6, none, 3)
abbrev qX11_goesOn : MI := (yX11_goesOn, cX11_goesOn, 4, (some .boolean), 2)
abbrev qX11_needs : MI := (yX11_needs, cX11_needs, 4, (some .int), 4)
abbrev qX11_must : MI := (yX11_must, cX11_must, 5, (some .int), 4)
abbrev qX11_loop : MI := (yX11_loop, cX11_loop, 2, (some .int), 5)
abbrev qX11_laysReached : MI := (yX11_laysReached, cX11_laysReached, 2, none, 4)
abbrev qX11_loopOfLine : MI := (yX11_loopOfLine, cX11_loopOfLine, 5, (some .int), 4)
abbrev qX11_loopOf : MI := (yX11_loopOf, cX11_loopOf, 6, (some .int), 3)
abbrev qX11_use : MI := (yX11_use, cX11_use, 5, (some .int), 5)
abbrev qX11_mark : MI := (yX11_mark, cX11_mark, 3, (some .int), 6)
abbrev qX11_asked : MI := (yX11_asked, cX11_asked, 4, (some .int), 2)
abbrev qX11_isAskedFor : MI := (yX11_isAskedFor, cX11_isAskedFor, 5, (some .boolean), 1)
abbrev qX11_laid : MI := (yX11_laid, cX11_laid, 4, (some .int), 1)
abbrev qX11_isAnywhere : MI := (yX11_isAnywhere, cX11_isAnywhere, 4, (some .boolean), 4)
abbrev qX11_isIdle : MI := (yX11_isIdle, cX11_isIdle, 4, (some .boolean), 5)
abbrev qX11_whole : MI := (yX11_whole, cX11_whole, 3, (some .int), 6)
abbrev qX11_linesThat : MI := (yX11_linesThat, cX11_linesThat, 5, (some .int), 5)
abbrev qX11_linesWithLoops : MI := (yX11_linesWithLoops, cX11_linesWithLoops, 3, (some .int), 5)
abbrev qX11_ofStates : MI := (yX11_ofStates, cX11_ofStates, 6, (some .int), 3)
abbrev qX11_rows : MI := (yX11_rows, cX11_rows, 6, (some .long), 3)
abbrev qX11_goes : MI := (yX11_goes, cX11_goes, 4, (some .boolean), 2)
abbrev qX11_isTooMuch : MI := (yX11_isTooMuch, cX11_isTooMuch, 4, (some .boolean), 0)
