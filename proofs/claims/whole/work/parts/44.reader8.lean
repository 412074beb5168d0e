-- the class: its reader: more of a guard, more of an effect
section R8
variable {g : GG} {M : AM} {p c l : Nat} {P : TK}
theorem c_moreOfGuard (h : RDs (7, l, P) p M) (hc : c < 256) : Call g qX6_acceptMoreOfGuard [.ref 1, .int (nI c), .ref p] M (RDp p (pStp c (7, l, P)) M) := by
  have hs := (show SB P p M from h.2.2.2.1).1
  have hg64 := or_64 (sMk_lt c) (gMk_lt c)
  have s1 : isMk c = true → pStp c (7, l, P) = pAsk c l P := fun e => by
    show (if isMk c = true then pAsk c l P else _) = _
    rw [if_pos e]
  have s2 : isMk c = false → pStp c (7, l, P) = if c = 124 then pAlt l P else pTen c l P := fun e => by
    show (if isMk c = true then _ else if c = 124 then pAlt l P else pTen c l P) = _
    rw [if_neg (by rw [e]; decide)]
  have hr : RDp p (if (7 : Nat) = 7 then pTen c l P else pFive c l P) M = RDp p (pTen c l P) M := rfl
  refine Call_of (ls0 := [some (.ref 1), some (.int (nI c)), some (.ref p)]) rfl rfl (Nat.le_of_ble_eq_true rfl) ?_
  refine E_iload_n dX6_acceptMoreOfGuard_0 rfl ?_
  refine E_callS (r := qX6_smallMark) dX6_acceptMoreOfGuard_1 mkX6_105 toX6_smallMark rfl ⟨Nat.le_of_ble_eq_true rfl, Nat.le_of_ble_eq_true rfl, Nat.le_of_ble_eq_true rfl, Nat.le_of_ble_eq_true rfl⟩ (c_smallMark hc) rfl (Nat.le_of_ble_eq_true rfl) ?_
  rintro _ _ ⟨rfl, rfl⟩
  refine E_iload_n dX6_acceptMoreOfGuard_4 rfl ?_
  refine E_callS (r := qX6_greatMark) dX6_acceptMoreOfGuard_5 mkX6_108 toX6_greatMark rfl ⟨Nat.le_of_ble_eq_true rfl, Nat.le_of_ble_eq_true rfl, Nat.le_of_ble_eq_true rfl, Nat.le_of_ble_eq_true rfl⟩ (c_greatMark hc) rfl (Nat.le_of_ble_eq_true rfl) ?_
  rintro _ _ ⟨rfl, rfl⟩
  refine E_iorN dX6_acceptMoreOfGuard_8 ?_
  refine E_if_eqN (t := 19) dX6_acceptMoreOfGuard_9 (by decide) (by omega) (fun c9 => ?_) (fun c9 => ?_)
  · skip
    refine E_iload_n dX6_acceptMoreOfGuard_19 rfl ?_
    refine E_bipush (v := nI 124) dX6_acceptMoreOfGuard_20 rfl ?_
    refine E_icmp_neN (t := 33) dX6_acceptMoreOfGuard_22 (by decide) (by omega) (by omega) (fun c22 => ?_) (fun c22 => ?_)
    · skip
      refine E_aload_n dX6_acceptMoreOfGuard_33 rfl ?_
      refine E_iload_n dX6_acceptMoreOfGuard_34 rfl ?_
      refine E_aload_n dX6_acceptMoreOfGuard_35 rfl ?_
      refine E_callV (r := qX6_acceptRest) (ci := 6) dX6_acceptMoreOfGuard_36 mkX6_56 voX6_acceptRest rfl rfl rfl ⟨Nat.le_of_ble_eq_true rfl, Nat.le_of_ble_eq_true rfl, Nat.le_of_ble_eq_true rfl, Nat.le_of_ble_eq_true rfl⟩ (c_rest h (by decide) (by decide) hc) rfl (Nat.le_of_ble_eq_true rfl) ?_
      rintro _ M2 ⟨rfl, hr1, hr2⟩
      refine E_iret dX6_acceptMoreOfGuard_39 rfl ?_
      rw [s2 (mk_or0.mp c9)]
      first | (rw [if_pos c22]; exact ⟨rfl, hr1, hr2⟩) | (rw [if_neg c22]; exact ⟨rfl, hr1, hr2⟩)
    · skip
      refine E_aload_n dX6_acceptMoreOfGuard_25 rfl ?_
      refine E_aload_n dX6_acceptMoreOfGuard_26 rfl ?_
      refine E_callV (r := qX6_openAlternative) (ci := 6) dX6_acceptMoreOfGuard_27 mkX6_97 voX6_openAlternative rfl rfl rfl ⟨Nat.le_of_ble_eq_true rfl, Nat.le_of_ble_eq_true rfl, Nat.le_of_ble_eq_true rfl, Nat.le_of_ble_eq_true rfl⟩ (c_openAlt h (by decide)) rfl (Nat.le_of_ble_eq_true rfl) ?_
      rintro _ M2 ⟨rfl, hr1, hr2⟩
      refine E_goto (t := 39) dX6_acceptMoreOfGuard_30 (by decide) ?_
      refine E_iret dX6_acceptMoreOfGuard_39 rfl ?_
      rw [s2 (mk_or0.mp c9)]
      first | (rw [if_pos c22]; exact ⟨rfl, hr1, hr2⟩) | (rw [if_neg c22]; exact ⟨rfl, hr1, hr2⟩)
  · skip
    refine E_aload_n dX6_acceptMoreOfGuard_12 rfl ?_
    refine E_iload_n dX6_acceptMoreOfGuard_13 rfl ?_
    refine E_aload_n dX6_acceptMoreOfGuard_14 rfl ?_
    refine E_callV (r := qX6_acceptAsked) (ci := 6) dX6_acceptMoreOfGuard_15 mkX6_59 voX6_acceptAsked rfl rfl rfl ⟨Nat.le_of_ble_eq_true rfl, Nat.le_of_ble_eq_true rfl, Nat.le_of_ble_eq_true rfl, Nat.le_of_ble_eq_true rfl⟩ (c_asked h (Or.inr rfl) hc) rfl (Nat.le_of_ble_eq_true rfl) ?_
    rintro _ M2 ⟨rfl, hr1, hr2⟩
    refine E_iret dX6_acceptMoreOfGuard_18 rfl ?_
    rw [s1 (mk_t c9)]
    exact ⟨rfl, hr1, hr2⟩
theorem c_moreOfEffect (h : RDs (9, l, P) p M) (hc : c < 256) : Call g qX6_acceptMoreOfEffect [.ref 1, .int (nI c), .ref p] M (RDp p (pStp c (9, l, P)) M) := by
  have hB : SB P p M := h.2.2.2.1
  have hs := hB.1
  have h4 : M.1 1 4 = nI l := h.2.1
  have hl : l < 16 := h.2.2.1
  have s1 : c = 59 → pStp c (9, l, P) = (0, 0, l, P) := fun e => by
    show (if c = 59 then (0, 0, l, P) else _) = _
    rw [if_pos e]
  have s2 : ¬ c = 59 → pStp c (9, l, P) = pChg c l P := fun e => by
    show (if c = 59 then _ else pChg c l P) = _
    rw [if_neg e]
  have k1 : c = 59 → RDp p (pStp c (9, l, P)) M (some (.int (nI 0))) (sI M 1 3 (nI 0)) := fun e => by
    rw [s1 e]
    exact rd_0 sI_s (by (rw [sI_o (by decide)]; exact h4)) hl (sb_1 hB) (fun e => absurd e (by decide)) (fun e => absurd e (by decide)) (RDF.rf.o hs (by decide))
  refine Call_of (ls0 := [some (.ref 1), some (.int (nI c)), some (.ref p)]) rfl rfl (Nat.le_of_ble_eq_true rfl) ?_
  refine E_iload_n dX6_acceptMoreOfEffect_0 rfl ?_
  refine E_bipush (v := nI 59) dX6_acceptMoreOfEffect_1 rfl ?_
  refine E_icmp_neN (t := 14) dX6_acceptMoreOfEffect_3 (by decide) (by omega) (by omega) (fun c3 => ?_) (fun c3 => ?_)
  · skip
    refine E_aload_n dX6_acceptMoreOfEffect_14 rfl ?_
    refine E_iload_n dX6_acceptMoreOfEffect_15 rfl ?_
    refine E_aload_n dX6_acceptMoreOfEffect_16 rfl ?_
    refine E_callV (r := qX6_acceptChanged) (ci := 6) dX6_acceptMoreOfEffect_17 mkX6_65 voX6_acceptChanged rfl rfl rfl ⟨Nat.le_of_ble_eq_true rfl, Nat.le_of_ble_eq_true rfl, Nat.le_of_ble_eq_true rfl, Nat.le_of_ble_eq_true rfl⟩ (c_changed h (by decide) hc) rfl (Nat.le_of_ble_eq_true rfl) ?_
    rintro _ M2 ⟨rfl, hr1, hr2⟩
    refine E_iret dX6_acceptMoreOfEffect_20 rfl ?_
    first | exact k1 c3 | (rw [s2 c3]; exact ⟨rfl, hr1, hr2⟩)
  · skip
    refine E_aload_n dX6_acceptMoreOfEffect_6 rfl ?_
    refine E_iconst (v := nI 0) dX6_acceptMoreOfEffect_7 rfl ?_
    refine E_callV (r := qX6_goOn) (ci := 6) dX6_acceptMoreOfEffect_8 mkX6_78 voX6_goOn rfl rfl rfl ⟨Nat.le_of_ble_eq_true rfl, Nat.le_of_ble_eq_true rfl, Nat.le_of_ble_eq_true rfl, Nat.le_of_ble_eq_true rfl⟩ (c_goOn) rfl (Nat.le_of_ble_eq_true rfl) ?_
    rintro _ _ ⟨rfl, rfl⟩
    refine E_goto (t := 20) dX6_acceptMoreOfEffect_11 (by decide) ?_
    refine E_iret dX6_acceptMoreOfEffect_20 rfl ?_
    first | exact k1 c3 | (rw [s2 c3]; exact ⟨rfl, hr1, hr2⟩)
end R8
