-- the class: its reader: accept
section R9
variable {g : GG} {M : AM} {p c l w : Nat} {P : TK}
theorem c_accept (h : RDs (w, l, P) p M) (hw : w < 10) (hc : c < 256) : Call g qX6_accept [.ref 1, .int (nI c), .ref p] M (RDp p (pStp c (w, l, P)) M) := by
  have hB : SB P p M := h.2.2.2.1
  have hs := hB.1
  have hl : l < 16 := h.2.2.1
  have h3 : M.1 1 3 = nI w := h.1
  have h4 : M.1 1 4 = nI l := h.2.1
  have kE : RDp p (pEnd c l P) M (some (.int (nI (if c = 59 then 0 else 1)))) (if c = 59 then sI M 1 3 (nI 0) else M) := by
    unfold pEnd
    by_cases e : c = 59
    · rw [if_pos e, if_pos e, if_pos e]
      exact rd_0 sI_s (by (rw [sI_o (by decide)]; exact h4)) hl (sb_1 hB) (fun e => absurd e (by decide)) (fun e => absurd e (by decide)) (RDF.rf.o hs (by decide))
    · rw [if_neg e, if_neg e, if_neg e]; exact rd_e (by decide) RDF.rf
  refine Call_of (ls0 := [some (.ref 1), some (.int (nI c)), some (.ref p)]) rfl rfl (Nat.le_of_ble_eq_true rfl) ?_
  refine E_aload_n dX6_accept_0 rfl ?_
  refine E_getI' (ci := 6) (j := 3) dX6_accept_1 fkX6_24 rfl (by decide) rfl (by decide) (h3) ?_
  rcases (show w = 0 ∨ w = 1 ∨ w = 2 ∨ w = 3 ∨ w = 4 ∨ w = 5 ∨ w = 6 ∨ w = 7 ∨ w = 8 ∨ w = 9 by omega) with rfl | rfl | rfl | rfl | rfl | rfl | rfl | rfl | rfl | rfl
  · skip
    refine E_swIn (t := 56) (off := 52) dX6_accept_4 (by decide) (by decide) (by decide) (by decide) ?_
    refine E_aload_n dX6_accept_56 rfl ?_
    refine E_iload_n dX6_accept_57 rfl ?_
    refine E_aload_n dX6_accept_58 rfl ?_
    refine E_callV (r := qX6_acceptFirstLine) (ci := 6) dX6_accept_59 mkX6_40 voX6_acceptFirstLine rfl rfl rfl ⟨Nat.le_of_ble_eq_true rfl, Nat.le_of_ble_eq_true rfl, Nat.le_of_ble_eq_true rfl, Nat.le_of_ble_eq_true rfl⟩ (c_firstLine h hc) rfl (Nat.le_of_ble_eq_true rfl) ?_
    rintro _ M2 ⟨rfl, hr1, hr2⟩
    refine E_iret dX6_accept_62 rfl ?_
    exact ⟨rfl, hr1, hr2⟩
  · skip
    refine E_swIn (t := 63) (off := 59) dX6_accept_4 (by decide) (by decide) (by decide) (by decide) ?_
    refine E_aload_n dX6_accept_63 rfl ?_
    refine E_iload_n dX6_accept_64 rfl ?_
    refine E_aload_n dX6_accept_65 rfl ?_
    refine E_callV (r := qX6_acceptArrowOrDot) (ci := 6) dX6_accept_66 mkX6_43 voX6_acceptArrowOrDot rfl rfl rfl ⟨Nat.le_of_ble_eq_true rfl, Nat.le_of_ble_eq_true rfl, Nat.le_of_ble_eq_true rfl, Nat.le_of_ble_eq_true rfl⟩ (c_arrowOrDot h hc) rfl (Nat.le_of_ble_eq_true rfl) ?_
    rintro _ M2 ⟨rfl, hr1, hr2⟩
    refine E_iret dX6_accept_69 rfl ?_
    exact ⟨rfl, hr1, hr2⟩
  · skip
    refine E_swIn (t := 70) (off := 66) dX6_accept_4 (by decide) (by decide) (by decide) (by decide) ?_
    refine E_aload_n dX6_accept_70 rfl ?_
    refine E_iload_n dX6_accept_71 rfl ?_
    refine E_callV (r := qX6_acceptClauseEnd) (ci := 6) dX6_accept_72 mkX6_46 voX6_acceptClauseEnd rfl rfl rfl ⟨Nat.le_of_ble_eq_true rfl, Nat.le_of_ble_eq_true rfl, Nat.le_of_ble_eq_true rfl, Nat.le_of_ble_eq_true rfl⟩ (c_clauseEnd hc) rfl (Nat.le_of_ble_eq_true rfl) ?_
    rintro _ _ ⟨rfl, rfl⟩
    refine E_iret dX6_accept_75 rfl ?_
    exact kE
  · skip
    refine E_swIn (t := 76) (off := 72) dX6_accept_4 (by decide) (by decide) (by decide) (by decide) ?_
    refine E_aload_n dX6_accept_76 rfl ?_
    refine E_iload_n dX6_accept_77 rfl ?_
    refine E_aload_n dX6_accept_78 rfl ?_
    refine E_callV (r := qX6_acceptSecondLine) (ci := 6) dX6_accept_79 mkX6_50 voX6_acceptSecondLine rfl rfl rfl ⟨Nat.le_of_ble_eq_true rfl, Nat.le_of_ble_eq_true rfl, Nat.le_of_ble_eq_true rfl, Nat.le_of_ble_eq_true rfl⟩ (c_secondLine h hc) rfl (Nat.le_of_ble_eq_true rfl) ?_
    rintro _ M2 ⟨rfl, hr1, hr2⟩
    refine E_iret dX6_accept_82 rfl ?_
    exact ⟨rfl, hr1, hr2⟩
  · skip
    refine E_swIn (t := 83) (off := 79) dX6_accept_4 (by decide) (by decide) (by decide) (by decide) ?_
    refine E_aload_n dX6_accept_83 rfl ?_
    refine E_iload_n dX6_accept_84 rfl ?_
    refine E_aload_n dX6_accept_85 rfl ?_
    refine E_callV (r := qX6_acceptCost) (ci := 6) dX6_accept_86 mkX6_53 voX6_acceptCost rfl rfl rfl ⟨Nat.le_of_ble_eq_true rfl, Nat.le_of_ble_eq_true rfl, Nat.le_of_ble_eq_true rfl, Nat.le_of_ble_eq_true rfl⟩ (c_cost h hc) rfl (Nat.le_of_ble_eq_true rfl) ?_
    rintro _ M2 ⟨rfl, hr1, hr2⟩
    refine E_iret dX6_accept_89 rfl ?_
    exact ⟨rfl, hr1, hr2⟩
  · skip
    refine E_swIn (t := 90) (off := 86) dX6_accept_4 (by decide) (by decide) (by decide) (by decide) ?_
    refine E_aload_n dX6_accept_90 rfl ?_
    refine E_iload_n dX6_accept_91 rfl ?_
    refine E_aload_n dX6_accept_92 rfl ?_
    refine E_callV (r := qX6_acceptRest) (ci := 6) dX6_accept_93 mkX6_56 voX6_acceptRest rfl rfl rfl ⟨Nat.le_of_ble_eq_true rfl, Nat.le_of_ble_eq_true rfl, Nat.le_of_ble_eq_true rfl, Nat.le_of_ble_eq_true rfl⟩ (c_rest h (by decide) (by decide) hc) rfl (Nat.le_of_ble_eq_true rfl) ?_
    rintro _ M2 ⟨rfl, hr1, hr2⟩
    refine E_iret dX6_accept_96 rfl ?_
    exact ⟨rfl, hr1, hr2⟩
  · skip
    refine E_swIn (t := 97) (off := 93) dX6_accept_4 (by decide) (by decide) (by decide) (by decide) ?_
    refine E_aload_n dX6_accept_97 rfl ?_
    refine E_iload_n dX6_accept_98 rfl ?_
    refine E_aload_n dX6_accept_99 rfl ?_
    refine E_callV (r := qX6_acceptAsked) (ci := 6) dX6_accept_100 mkX6_59 voX6_acceptAsked rfl rfl rfl ⟨Nat.le_of_ble_eq_true rfl, Nat.le_of_ble_eq_true rfl, Nat.le_of_ble_eq_true rfl, Nat.le_of_ble_eq_true rfl⟩ (c_asked h (Or.inl rfl) hc) rfl (Nat.le_of_ble_eq_true rfl) ?_
    rintro _ M2 ⟨rfl, hr1, hr2⟩
    refine E_iret dX6_accept_103 rfl ?_
    exact ⟨rfl, hr1, hr2⟩
  · skip
    refine E_swIn (t := 104) (off := 100) dX6_accept_4 (by decide) (by decide) (by decide) (by decide) ?_
    refine E_aload_n dX6_accept_104 rfl ?_
    refine E_iload_n dX6_accept_105 rfl ?_
    refine E_aload_n dX6_accept_106 rfl ?_
    refine E_callV (r := qX6_acceptMoreOfGuard) (ci := 6) dX6_accept_107 mkX6_62 voX6_acceptMoreOfGuard rfl rfl rfl ⟨Nat.le_of_ble_eq_true rfl, Nat.le_of_ble_eq_true rfl, Nat.le_of_ble_eq_true rfl, Nat.le_of_ble_eq_true rfl⟩ (c_moreOfGuard h hc) rfl (Nat.le_of_ble_eq_true rfl) ?_
    rintro _ M2 ⟨rfl, hr1, hr2⟩
    refine E_iret dX6_accept_110 rfl ?_
    exact ⟨rfl, hr1, hr2⟩
  · skip
    refine E_swIn (t := 111) (off := 107) dX6_accept_4 (by decide) (by decide) (by decide) (by decide) ?_
    refine E_aload_n dX6_accept_111 rfl ?_
    refine E_iload_n dX6_accept_112 rfl ?_
    refine E_aload_n dX6_accept_113 rfl ?_
    refine E_callV (r := qX6_acceptChanged) (ci := 6) dX6_accept_114 mkX6_65 voX6_acceptChanged rfl rfl rfl ⟨Nat.le_of_ble_eq_true rfl, Nat.le_of_ble_eq_true rfl, Nat.le_of_ble_eq_true rfl, Nat.le_of_ble_eq_true rfl⟩ (c_changed h (by decide) hc) rfl (Nat.le_of_ble_eq_true rfl) ?_
    rintro _ M2 ⟨rfl, hr1, hr2⟩
    refine E_iret dX6_accept_117 rfl ?_
    exact ⟨rfl, hr1, hr2⟩
  · skip
    refine E_swOut (t := 118) dX6_accept_4 (by decide) (by decide) ?_
    refine E_aload_n dX6_accept_118 rfl ?_
    refine E_iload_n dX6_accept_119 rfl ?_
    refine E_aload_n dX6_accept_120 rfl ?_
    refine E_callV (r := qX6_acceptMoreOfEffect) (ci := 6) dX6_accept_121 mkX6_68 voX6_acceptMoreOfEffect rfl rfl rfl ⟨Nat.le_of_ble_eq_true rfl, Nat.le_of_ble_eq_true rfl, Nat.le_of_ble_eq_true rfl, Nat.le_of_ble_eq_true rfl⟩ (c_moreOfEffect h hc) rfl (Nat.le_of_ble_eq_true rfl) ?_
    rintro _ M2 ⟨rfl, hr1, hr2⟩
    refine E_iret dX6_accept_124 rfl ?_
    exact ⟨rfl, hr1, hr2⟩
end R9
