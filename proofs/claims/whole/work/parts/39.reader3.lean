-- the class: its reader: second line, an alternative opened, what may follow
section R3
variable {g : GG} {M : AM} {p c l : Nat} {P : TK}
theorem c_secondLine (h : RDs (3, l, P) p M) (hc : c < 256) : Call g qX6_acceptSecondLine [.ref 1, .int (nI c), .ref p] M (RDp p (pStp c (3, l, P)) M) := by
  have hB : SB P p M := h.2.2.2.1
  have hs := hB.1
  have hl : l < 16 := h.2.2.1
  have h4 : M.1 1 4 = nI l := h.2.1
  have h0 : 0 < P 61 0 := h.2.2.2.2.1 (Nat.le_refl 3)
  have h32 : P 61 0 ≤ 32 := hB.2.2.1.1
  have hno : ¬ (97 ≤ c ∧ c ≤ 112) → pStp c (3, l, P) = pB 1 P := fun e => by
    show (if lnC c = true then _ else pB 1 P) = _
    rw [if_neg (by unfold lnC; rw [decide_eq_true_iff]; exact e)]
  have hys : 97 ≤ c → c ≤ 112 → pStp c (3, l, P) = (0, 4, l, upT (nmL P (c - 97)) 63 (P 61 0 - 1) (c - 97)) := fun e1 e2 => by
    show (if lnC c = true then (0, 4, l, upT (nmL P (c - 97)) 63 (P 61 0 - 1) (c - 97)) else _) = _
    rw [if_pos (by unfold lnC; rw [decide_eq_true_iff]; exact ⟨e1, e2⟩)]
  have hn0 : nmL P (c - 97) 61 0 = P 61 0 := by unfold nmL; rw [upT_ne (by omega), upT_ne (by omega)]
  have st : ∀ M2, SB (nmL P (c - 97)) p M2 → c - 97 < 16 → SB (upT (nmL P (c - 97)) 63 (P 61 0 - 1) (c - 97)) p (sI M2 (p + 2) (P 61 0 - 1) (nI (c - 97))) := fun M2 h2 hlt => ⟨hs, rp_set aS_inj h2.2.1 (k := 63) (j := P 61 0 - 1) (by decide) (by decide) (by omega) (by decide), wt_set h2.2.2.1 (by decide) (by decide) (by decide) (by omega) (fun _ => hlt) (by omega) (by omega) (by omega) (by omega) (by omega), fun b => by rw [upT_ne (by omega)]; exact h2.2.2.2.1 b, h2.2.2.2.2.k (by rw [upT_ne (by omega)]) (fun b => by rw [upT_ne (by omega)]) (sI_o (by omega)) (sI_o (by omega))⟩
  have hlt : ∀ M2, SB (nmL P (c - 97)) p M2 → M2.1 p 15 = nI (P 61 0 - 1) := fun M2 h2 => by
    have h5 := (h2.2.2.2.2 (by rw [hn0]; exact h0)).1
    rw [hn0] at h5
    exact h5
  refine Call_of (ls0 := [some (.ref 1), some (.int (nI c)), some (.ref p)]) rfl rfl (Nat.le_of_ble_eq_true rfl) ?_
  refine E_iload_n dX6_acceptSecondLine_0 rfl ?_
  refine E_bipush (v := nI 97) dX6_acceptSecondLine_1 rfl ?_
  refine E_icmp_ltN (t := 12) dX6_acceptSecondLine_3 (by decide) (by omega) (by omega) (fun c3 => ?_) (fun c3 => ?_)
  · skip
    refine E_iconst (v := nI 1) dX6_acceptSecondLine_12 rfl ?_
    refine E_iret dX6_acceptSecondLine_13 rfl ?_
    rw [hno (by omega)]
    exact rd_e (by decide) RDF.rf
  · skip
    refine E_iload_n dX6_acceptSecondLine_6 rfl ?_
    refine E_bipush (v := nI 112) dX6_acceptSecondLine_7 rfl ?_
    refine E_icmp_leN (t := 14) dX6_acceptSecondLine_9 (by decide) (by omega) (by omega) (fun c9 => ?_) (fun c9 => ?_)
    · skip
      refine E_aload_n dX6_acceptSecondLine_14 rfl ?_
      refine E_iload_n dX6_acceptSecondLine_15 rfl ?_
      refine E_bipush (v := nI 97) dX6_acceptSecondLine_16 rfl ?_
      refine E_isubN dX6_acceptSecondLine_18 (by omega) ?_
      refine E_callV (r := qX8_nameLine) (ci := 8) dX6_acceptSecondLine_19 mkX6_74 voX8_nameLine rfl (kS hs) rfl ⟨Nat.le_of_ble_eq_true rfl, Nat.le_of_ble_eq_true rfl, Nat.le_of_ble_eq_true rfl, Nat.le_of_ble_eq_true rfl⟩ (c_nameLine hB (by omega)) rfl (Nat.le_of_ble_eq_true rfl) ?_
      rintro _ M2 ⟨rfl, hB2, hF2⟩
      refine E_aload_n dX6_acceptSecondLine_22 rfl ?_
      refine E_getR' (ci := 8) (j := 1) (p := p+2) dX6_acceptSecondLine_23 fkX6_88 rfl (by decide) (kS hs) (by decide) ((srS hs) 1 (by decide)) ?_
      refine E_aload_n dX6_acceptSecondLine_26 rfl ?_
      refine E_getI' (ci := 8) (j := 15) dX6_acceptSecondLine_27 fkX6_91 rfl (by decide) (kS hs) (by decide) (hlt M2 hB2) ?_
      refine E_iload_n dX6_acceptSecondLine_30 rfl ?_
      refine E_bipush (v := nI 97) dX6_acceptSecondLine_31 rfl ?_
      refine E_isubN dX6_acceptSecondLine_33 (by omega) ?_
      refine E_iastN dX6_acceptSecondLine_34 (kp2 hs) (by omega) (by decide) ?_
      refine E_aload_n dX6_acceptSecondLine_35 rfl ?_
      refine E_iconst (v := nI 4) dX6_acceptSecondLine_36 rfl ?_
      refine E_callV (r := qX6_goOn) (ci := 6) dX6_acceptSecondLine_37 mkX6_78 voX6_goOn rfl rfl rfl ⟨Nat.le_of_ble_eq_true rfl, Nat.le_of_ble_eq_true rfl, Nat.le_of_ble_eq_true rfl, Nat.le_of_ble_eq_true rfl⟩ (c_goOn) rfl (Nat.le_of_ble_eq_true rfl) ?_
      rintro _ _ ⟨rfl, rfl⟩
      refine E_iret dX6_acceptSecondLine_40 rfl ?_
      rw [hys (by omega) (by omega)]
      refine rd_0 sI_s ?_ hl (sb_1 (st M2 hB2 (by omega))) (fun _ => by (rw [upT_ne (by omega), hn0]; exact h0)) (fun e => absurd e (by decide)) (((RDF.rf.s hs hF2).s hs (SF.rf.i (by omega) (by omega))).o hs (by decide))
      rw [sI_o (by decide), sI_o (by rcases hs with e | e <;> omega), sf_1 hs hF2]; exact h4
    · skip
      refine E_iconst (v := nI 1) dX6_acceptSecondLine_12 rfl ?_
      refine E_iret dX6_acceptSecondLine_13 rfl ?_
      rw [hno (by omega)]
      exact rd_e (by decide) RDF.rf
theorem c_openAlt {w : Nat} (h : RDs (w, l, P) p M) (hw : 3 ≤ w) : Call g qX6_openAlternative [.ref 1, .ref p] M (RDp p (pAlt l P) M) := by
  have hB : SB P p M := h.2.2.2.1
  have hs := hB.1
  have hl : l < 16 := h.2.2.1
  have h4 : M.1 1 4 = nI l := h.2.1
  have h0 : 0 < P 61 0 := h.2.2.2.2.1 hw
  have h32 : P 61 0 ≤ 32 := hB.2.2.1.1
  have ha : P 61 0 = (P 61 0 - 1) + 1 := by omega
  have ho0 : opA P 61 0 = P 61 0 := by unfold opA; rw [upT_ne (by omega), upT_ne (by omega), upT_ne (by omega)]
  have ho5 : opA P 65 (P 61 0 - 1) = P 65 (P 61 0 - 1) + 1 := by unfold opA; rw [upT_at]
  refine Call_of (ls0 := [some (.ref 1), some (.ref p)]) rfl rfl (Nat.le_of_ble_eq_true rfl) ?_
  refine E_aload_n dX6_openAlternative_0 rfl ?_
  refine E_callV (r := qX8_addAlternative) (ci := 8) dX6_openAlternative_1 mkX6_101 voX8_addAlternative rfl (kS hs) rfl ⟨Nat.le_of_ble_eq_true rfl, Nat.le_of_ble_eq_true rfl, Nat.le_of_ble_eq_true rfl, Nat.le_of_ble_eq_true rfl⟩ (c_addAlt hB ha) rfl (Nat.le_of_ble_eq_true rfl) ?_
  rintro _ M2 ⟨rfl, hB2, hF2⟩
  refine E_if_eqB (t := 16) dX6_openAlternative_4 (by decide) (fun c4 => ?_) (fun c4 => ?_)
  · skip
    have hr : RDp p (pAlt l P) M (some (.int (nI 2))) M2 := by (unfold pAlt; rw [if_pos (Nat.le_of_not_lt (of_decide_eq_false c4))]; exact rd_e (by decide) (RDF.rf.s hs hF2))
    refine E_iconst (v := nI 2) dX6_openAlternative_16 rfl ?_
    refine E_iret dX6_openAlternative_17 rfl ?_
    exact hr
  · skip
    have h3 : P 65 (P 61 0 - 1) < 3 := of_decide_eq_true c4
    have hr : RDp p (pAlt l P) M (some (.int (nI 0))) (sI M2 1 3 (nI 6)) := by (unfold pAlt; rw [if_neg (by omega)]; exact rd_0 sI_s (by (rw [sI_o (by decide), sf_1 hs hF2]; exact h4)) hl (sb_1 (hB2 h3)) (fun _ => by (rw [ho0]; exact h0)) (fun _ => by (rw [ho0, ho5]; omega)) ((RDF.rf.s hs hF2).o hs (by decide)))
    refine E_aload_n dX6_openAlternative_7 rfl ?_
    refine E_bipush (v := nI 6) dX6_openAlternative_8 rfl ?_
    refine E_callV (r := qX6_goOn) (ci := 6) dX6_openAlternative_10 mkX6_78 voX6_goOn rfl rfl rfl ⟨Nat.le_of_ble_eq_true rfl, Nat.le_of_ble_eq_true rfl, Nat.le_of_ble_eq_true rfl, Nat.le_of_ble_eq_true rfl⟩ (c_goOn) rfl (Nat.le_of_ble_eq_true rfl) ?_
    rintro _ _ ⟨rfl, rfl⟩
    refine E_goto (t := 17) dX6_openAlternative_13 (by decide) ?_
    refine E_iret dX6_openAlternative_17 rfl ?_
    exact hr
end R3
