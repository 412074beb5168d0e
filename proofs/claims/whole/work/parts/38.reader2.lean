-- the class: its reader: first line, arrow or dot
abbrev RDp (p : Nat) (r : Nat × PS) (M : AM) : Option Value → AM → Prop := fun v M' => v = some (.int (nI r.1)) ∧ (r.1 = 0 → RDs r.2 p M') ∧ RDF p M M'
theorem sf_1 {p : Nat} (hs : Sp p) {M M' : AM} (h : SF p M M') : M'.1 1 = M.1 1 := (h.1 1 (by unfold SpL; simp only [List.mem_cons, List.not_mem_nil, or_false]; rcases hs with e | e <;> omega)).1
theorem rd_e {f p : Nat} {P : TK} {M M' : AM} (hf : f ≠ 0) (hF : RDF p M M') : RDp p (pB f P) M (some (.int (nI f))) M' := ⟨rfl, fun e => absurd e hf, hF⟩
theorem rd_0 {w l p : Nat} {P : TK} {M M' : AM} (h3 : M'.1 1 3 = nI w) (h4 : M'.1 1 4 = nI l) (hl : l < 16) (hB : SB P p M') (hw : 3 ≤ w → 0 < P 61 0) (h6 : w = 6 ∨ w = 7 → 0 < P 65 (P 61 0 - 1)) (hF : RDF p M M') : RDp p (0, w, l, P) M (some (.int (nI 0))) M' := ⟨rfl, fun _ => ⟨h3, h4, hl, hB, hw, h6⟩, hF⟩
section R2
variable {g : GG} {M : AM} {p c l : Nat} {P : TK}
theorem c_firstLine (h : RDs (0, l, P) p M) (hc : c < 256) : Call g qX6_acceptFirstLine [.ref 1, .int (nI c), .ref p] M (RDp p (pStp c (0, l, P)) M) := by
  have hB : SB P p M := h.2.2.2.1
  have hs := hB.1
  have hno : ¬ (97 ≤ c ∧ c ≤ 112) → pStp c (0, l, P) = pB 1 P := fun e => by
    show (if lnC c = true then _ else pB 1 P) = _
    rw [if_neg (by unfold lnC; rw [decide_eq_true_iff]; exact e)]
  have hys : 97 ≤ c → c ≤ 112 → pStp c (0, l, P) = (0, 1, c - 97, nmL P (c - 97)) := fun e1 e2 => by
    show (if lnC c = true then (0, 1, c - 97, nmL P (c - 97)) else _) = _
    rw [if_pos (by unfold lnC; rw [decide_eq_true_iff]; exact ⟨e1, e2⟩)]
  refine Call_of (ls0 := [some (.ref 1), some (.int (nI c)), some (.ref p)]) rfl rfl (Nat.le_of_ble_eq_true rfl) ?_
  refine E_iload_n dX6_acceptFirstLine_0 rfl ?_
  refine E_bipush (v := nI 97) dX6_acceptFirstLine_1 rfl ?_
  refine E_icmp_ltN (t := 12) dX6_acceptFirstLine_3 (by decide) (by omega) (by omega) (fun c3 => ?_) (fun c3 => ?_)
  · skip
    refine E_iconst (v := nI 1) dX6_acceptFirstLine_12 rfl ?_
    refine E_iret dX6_acceptFirstLine_13 rfl ?_
    rw [hno (by omega)]
    exact rd_e (by decide) RDF.rf
  · skip
    refine E_iload_n dX6_acceptFirstLine_6 rfl ?_
    refine E_bipush (v := nI 112) dX6_acceptFirstLine_7 rfl ?_
    refine E_icmp_leN (t := 14) dX6_acceptFirstLine_9 (by decide) (by omega) (by omega) (fun c9 => ?_) (fun c9 => ?_)
    · skip
      refine E_aload_n dX6_acceptFirstLine_14 rfl ?_
      refine E_iload_n dX6_acceptFirstLine_15 rfl ?_
      refine E_bipush (v := nI 97) dX6_acceptFirstLine_16 rfl ?_
      refine E_isubN dX6_acceptFirstLine_18 (by omega) ?_
      refine E_putI (ci := 6) (j := 4) dX6_acceptFirstLine_19 fkX6_71 rfl (by decide) rfl (by decide) ?_
      refine E_aload_n dX6_acceptFirstLine_22 rfl ?_
      refine E_aload_n dX6_acceptFirstLine_23 rfl ?_
      refine E_getI' (ci := 6) (j := 4) dX6_acceptFirstLine_24 fkX6_71 rfl (by decide) rfl (by decide) (sI_s) ?_
      refine E_callV (r := qX8_nameLine) (ci := 8) dX6_acceptFirstLine_27 mkX6_74 voX8_nameLine rfl (kS hs) rfl ⟨Nat.le_of_ble_eq_true rfl, Nat.le_of_ble_eq_true rfl, Nat.le_of_ble_eq_true rfl, Nat.le_of_ble_eq_true rfl⟩ (c_nameLine (sb_1 hB) (by omega)) rfl (Nat.le_of_ble_eq_true rfl) ?_
      rintro _ M2 ⟨rfl, hB2, hF2⟩
      refine E_aload_n dX6_acceptFirstLine_30 rfl ?_
      refine E_iconst (v := nI 1) dX6_acceptFirstLine_31 rfl ?_
      refine E_callV (r := qX6_goOn) (ci := 6) dX6_acceptFirstLine_32 mkX6_78 voX6_goOn rfl rfl rfl ⟨Nat.le_of_ble_eq_true rfl, Nat.le_of_ble_eq_true rfl, Nat.le_of_ble_eq_true rfl, Nat.le_of_ble_eq_true rfl⟩ (c_goOn) rfl (Nat.le_of_ble_eq_true rfl) ?_
      rintro _ _ ⟨rfl, rfl⟩
      refine E_iret dX6_acceptFirstLine_35 rfl ?_
      rw [hys (by omega) (by omega)]
      refine rd_0 sI_s ?_ (by omega) (sb_1 hB2) (fun e => absurd e (by decide)) (fun e => absurd e (by decide)) (((RDF.rf.o hs (by decide)).s hs hF2).o hs (by decide))
      rw [sI_o (by decide), sf_1 hs hF2, sI_s]
    · skip
      refine E_iconst (v := nI 1) dX6_acceptFirstLine_12 rfl ?_
      refine E_iret dX6_acceptFirstLine_13 rfl ?_
      rw [hno (by omega)]
      exact rd_e (by decide) RDF.rf
theorem c_arrowOrDot (h : RDs (1, l, P) p M) (hc : c < 256) : Call g qX6_acceptArrowOrDot [.ref 1, .int (nI c), .ref p] M (RDp p (pStp c (1, l, P)) M) := by
  have hB : SB P p M := h.2.2.2.1
  have hs := hB.1
  have hl : l < 16 := h.2.2.1
  have hl2 := p2_16 hl
  have h4 : M.1 1 4 = nI l := h.2.1
  have he : M.1 p 12 = nI (P 61 2) := sb_6 hB (j := 2) (by decide)
  have s1 : c = 46 → pStp c (1, l, P) = (0, 2, l, orT P 61 2 (2 ^ l)) := fun e => by
    show (if c = 46 then (0, 2, l, orT P 61 2 (2 ^ l)) else _) = _
    rw [if_pos e]
  have s2 : ¬ c = 46 → ¬ c = 62 → pStp c (1, l, P) = pB 1 P := fun e1 e2 => by
    show (if c = 46 then _ else if c = 62 then _ else pB 1 P) = _
    rw [if_neg e1, if_neg e2]
  have s3 : c = 62 → pStp c (1, l, P) = if 32 ≤ P 61 0 then pB 3 P else (0, 3, l, adA P l) := fun e => by
    show (if c = 46 then _ else if c = 62 then (if 32 ≤ P 61 0 then pB 3 P else (0, 3, l, adA P l)) else _) = _
    rw [if_neg (by omega), if_pos e]
  have hd : RPd (aS p) (dom (orT P 61 2 (2 ^ l))) (orT P 61 2 (2 ^ l)) (sI M p 12 (nI (P 61 2 ||| 1 * 2 ^ l))) := by
    rw [Nat.one_mul]
    exact rp_set aS_inj hB.2.1 (k := 61) (j := 2) (by decide) (by decide) (by decide) (by decide)
  have hB1 : SB (orT P 61 2 (2 ^ l)) p (sI M p 12 (nI (P 61 2 ||| 1 * 2 ^ l))) := ⟨hs, hd, wt_or2 hB.2.2.1 hl, fun b => by unfold orT; rw [upT_ne (by omega)]; exact hB.2.2.2.1 b, hB.2.2.2.2.k (by unfold orT; rw [upT_ne (by omega)]) (fun b => by unfold orT; rw [upT_ne (by omega)]) (sI_o (by omega)) (sI_o (by omega))⟩
  have hF1 : SF p M (sI M p 12 (nI (P 61 2 ||| 1 * 2 ^ l))) := SF.rf.i (by omega) (by omega)
  refine Call_of (ls0 := [some (.ref 1), some (.int (nI c)), some (.ref p)]) rfl rfl (Nat.le_of_ble_eq_true rfl) ?_
  refine E_iload_n dX6_acceptArrowOrDot_0 rfl ?_
  refine E_bipush (v := nI 46) dX6_acceptArrowOrDot_1 rfl ?_
  refine E_icmp_neN (t := 27) dX6_acceptArrowOrDot_3 (by decide) (by omega) (by omega) (fun c3 => ?_) (fun c3 => ?_)
  · skip
    refine E_iload_n dX6_acceptArrowOrDot_27 rfl ?_
    refine E_bipush (v := nI 62) dX6_acceptArrowOrDot_28 rfl ?_
    refine E_icmp_eqN (t := 35) dX6_acceptArrowOrDot_30 (by decide) (by omega) (by omega) (fun c30 => ?_) (fun c30 => ?_)
    · skip
      refine E_aload_n dX6_acceptArrowOrDot_35 rfl ?_
      refine E_aload_n dX6_acceptArrowOrDot_36 rfl ?_
      refine E_getI' (ci := 6) (j := 4) dX6_acceptArrowOrDot_37 fkX6_71 rfl (by decide) rfl (by decide) (h4) ?_
      refine E_callV (r := qX8_addAnswer) (ci := 8) dX6_acceptArrowOrDot_40 mkX6_84 voX8_addAnswer rfl (kS hs) rfl ⟨Nat.le_of_ble_eq_true rfl, Nat.le_of_ble_eq_true rfl, Nat.le_of_ble_eq_true rfl, Nat.le_of_ble_eq_true rfl⟩ (c_addAnswer hB hl) rfl (Nat.le_of_ble_eq_true rfl) ?_
      rintro _ M2 ⟨rfl, hB2, hF2⟩
      refine E_if_eqB (t := 54) dX6_acceptArrowOrDot_43 (by decide) (fun c43 => ?_) (fun c43 => ?_)
      · skip
        have h32 : 32 ≤ P 61 0 := Nat.le_of_not_lt (of_decide_eq_false c43)
        have hr : RDp p (pStp c (1, l, P)) M (some (.int (nI 3))) M2 := by (rw [s3 c30, if_pos h32]; exact rd_e (by decide) (RDF.rf.s hs hF2))
        refine E_iconst (v := nI 3) dX6_acceptArrowOrDot_54 rfl ?_
        refine E_iret dX6_acceptArrowOrDot_55 rfl ?_
        exact hr
      · skip
        have h32 : ¬ 32 ≤ P 61 0 := Nat.not_le.mpr (of_decide_eq_true c43)
        have hr : RDp p (pStp c (1, l, P)) M (some (.int (nI 0))) (sI M2 1 3 (nI 3)) := by (rw [s3 c30, if_neg h32]; exact rd_0 sI_s (by (rw [sI_o (by decide), sf_1 hs hF2]; exact h4)) hl (sb_1 (hB2 (by omega))) (fun _ => by (rw [ad_m]; omega)) (fun e => absurd e (by decide)) ((RDF.rf.s hs hF2).o hs (by decide)))
        refine E_aload_n dX6_acceptArrowOrDot_46 rfl ?_
        refine E_iconst (v := nI 3) dX6_acceptArrowOrDot_47 rfl ?_
        refine E_callV (r := qX6_goOn) (ci := 6) dX6_acceptArrowOrDot_48 mkX6_78 voX6_goOn rfl rfl rfl ⟨Nat.le_of_ble_eq_true rfl, Nat.le_of_ble_eq_true rfl, Nat.le_of_ble_eq_true rfl, Nat.le_of_ble_eq_true rfl⟩ (c_goOn) rfl (Nat.le_of_ble_eq_true rfl) ?_
        rintro _ _ ⟨rfl, rfl⟩
        refine E_goto (t := 55) dX6_acceptArrowOrDot_51 (by decide) ?_
        refine E_iret dX6_acceptArrowOrDot_55 rfl ?_
        exact hr
    · skip
      refine E_iconst (v := nI 1) dX6_acceptArrowOrDot_33 rfl ?_
      refine E_iret dX6_acceptArrowOrDot_34 rfl ?_
      rw [s2 c3 c30]
      exact rd_e (by decide) RDF.rf
  · skip
    refine E_aload_n dX6_acceptArrowOrDot_6 rfl ?_
    refine E_dup dX6_acceptArrowOrDot_7 rfl ?_
    refine E_getI' (ci := 8) (j := 12) dX6_acceptArrowOrDot_8 fkX6_81 rfl (by decide) (kS hs) (by decide) (he) ?_
    refine E_iconst (v := nI 1) dX6_acceptArrowOrDot_11 rfl ?_
    refine E_aload_n dX6_acceptArrowOrDot_12 rfl ?_
    refine E_getI' (ci := 6) (j := 4) dX6_acceptArrowOrDot_13 fkX6_71 rfl (by decide) rfl (by decide) (h4) ?_
    refine E_ishlN dX6_acceptArrowOrDot_16 (by omega) (by omega) ?_
    refine E_iorN dX6_acceptArrowOrDot_17 ?_
    refine E_putI (ci := 8) (j := 12) dX6_acceptArrowOrDot_18 fkX6_81 rfl (by decide) (kS hs) (by decide) ?_
    refine E_aload_n dX6_acceptArrowOrDot_21 rfl ?_
    refine E_iconst (v := nI 2) dX6_acceptArrowOrDot_22 rfl ?_
    refine E_callV (r := qX6_goOn) (ci := 6) dX6_acceptArrowOrDot_23 mkX6_78 voX6_goOn rfl rfl rfl ⟨Nat.le_of_ble_eq_true rfl, Nat.le_of_ble_eq_true rfl, Nat.le_of_ble_eq_true rfl, Nat.le_of_ble_eq_true rfl⟩ (c_goOn) rfl (Nat.le_of_ble_eq_true rfl) ?_
    rintro _ _ ⟨rfl, rfl⟩
    refine E_iret dX6_acceptArrowOrDot_26 rfl ?_
    rw [s1 c3]
    refine rd_0 sI_s ?_ hl (sb_1 hB1) (fun e => absurd e (by decide)) (fun e => absurd e (by decide)) ((RDF.rf.s hs hF1).o hs (by decide))
    rw [sI_o (by decide), sf_1 hs hF1]; exact h4
end R2
