-- the class: its reader: marks changed, more of a guard, more of an effect
section R7
variable {g : GG} {M : AM} {p c l w : Nat} {P : TK}
theorem mk_t (h : 0 < sMk c ||| gMk c) : isMk c = true := by
  cases e : isMk c
  · exact absurd (mk_or0.mpr e) (by omega)
  · rfl
theorem c_changed (h : RDs (w, l, P) p M) (hw : 3 ≤ w) (hc : c < 256) : Call g qX6_acceptChanged [.ref 1, .int (nI c), .ref p] M (RDp p (pChg c l P) M) := by
  have hB : SB P p M := h.2.2.2.1
  have hs := hB.1
  have hl : l < 16 := h.2.2.1
  have h4 : M.1 1 4 = nI l := h.2.1
  have h0 : 0 < P 61 0 := h.2.2.2.2.1 hw
  have h32 : P 61 0 ≤ 32 := hB.2.2.1.1
  have hg64 := or_64 (sMk_lt c) (gMk_lt c)
  have hW : M.1 (p + 7) (P 61 0 - 1) = nI (P 68 (P 61 0 - 1)) := (hB.2.1 68 _ (Or.inr (Or.inl ⟨by omega, by omega⟩))).2.2
  have hV : M.1 (p + 8) (P 61 0 - 1) = nI (P 69 (P 61 0 - 1)) := (hB.2.1 69 _ (Or.inr (Or.inl ⟨by omega, by omega⟩))).2.2
  have hbd : (P 68 (P 61 0 - 1) ||| P 69 (P 61 0 - 1)) &&& (sMk c ||| gMk c) < 64 := Nat.lt_of_le_of_lt Nat.and_le_right hg64
  have e0 : chM P c 61 0 = P 61 0 := by unfold chM orT; rw [upT_ne (by omega), upT_ne (by omega)]
  have e5 : ∀ j, chM P c 65 j = P 65 j := fun j => by unfold chM orT; rw [upT_ne (by omega), upT_ne (by omega)]
  have hB2 : (P 68 (P 61 0 - 1) ||| P 69 (P 61 0 - 1)) &&& (sMk c ||| gMk c) = 0 → SB (chM P c) p (sI (sI M (p + 7) (P 61 0 - 1) (nI (P 68 (P 61 0 - 1) ||| sMk c))) (p + 8) (P 61 0 - 1) (nI (P 69 (P 61 0 - 1) ||| gMk c))) := fun hz => by
    have e : chM P c = upT (upT P 68 (P 61 0 - 1) (P 68 (P 61 0 - 1) ||| sMk c)) 69 (P 61 0 - 1) (P 69 (P 61 0 - 1) ||| gMk c) := by unfold chM orT; rw [upT_ne (a := 69) (by omega)]
    refine ⟨hs, ?_, wt_chM hB.2.2.1 (a := P 61 0 - 1) (by omega) hz, fun b => ?_, hB.2.2.2.2.k e0 e5 ((sI_o (by omega)).trans (sI_o (by omega))) ((sI_o (by omega)).trans (sI_o (by omega)))⟩
    · rw [e]
      exact rp_set aS_inj (rp_set aS_inj hB.2.1 (k := 68) (by decide) (by decide) (by omega) (by decide)) (k := 69) (by decide) (by decide) (by omega) (by decide)
    · rw [e, upT_ne (by omega), upT_ne (by omega)]; exact hB.2.2.2.1 b
  refine Call_of (ls0 := [some (.ref 1), some (.int (nI c)), some (.ref p), none, none, none]) rfl rfl (Nat.le_of_ble_eq_true rfl) ?_
  refine E_iload_n dX6_acceptChanged_0 rfl ?_
  refine E_callS (r := qX6_smallMark) dX6_acceptChanged_1 mkX6_105 toX6_smallMark rfl ⟨Nat.le_of_ble_eq_true rfl, Nat.le_of_ble_eq_true rfl, Nat.le_of_ble_eq_true rfl, Nat.le_of_ble_eq_true rfl⟩ (c_smallMark hc) rfl (Nat.le_of_ble_eq_true rfl) ?_
  rintro _ _ ⟨rfl, rfl⟩
  refine E_ist_n (i := 3) dX6_acceptChanged_4 rfl (by decide) rfl ?_
  refine E_iload_n dX6_acceptChanged_5 rfl ?_
  refine E_callS (r := qX6_greatMark) dX6_acceptChanged_6 mkX6_108 toX6_greatMark rfl ⟨Nat.le_of_ble_eq_true rfl, Nat.le_of_ble_eq_true rfl, Nat.le_of_ble_eq_true rfl, Nat.le_of_ble_eq_true rfl⟩ (c_greatMark hc) rfl (Nat.le_of_ble_eq_true rfl) ?_
  rintro _ _ ⟨rfl, rfl⟩
  refine E_istore dX6_acceptChanged_9 (by decide) rfl ?_
  refine E_iload_n dX6_acceptChanged_11 rfl ?_
  refine E_iload dX6_acceptChanged_12 rfl ?_
  refine E_iorN dX6_acceptChanged_14 ?_
  refine E_if_neN (t := 20) dX6_acceptChanged_15 (by decide) (by omega) (fun c15 => ?_) (fun c15 => ?_)
  · skip
    refine E_aload_n dX6_acceptChanged_20 rfl ?_
    refine E_getI' (ci := 8) (j := 15) dX6_acceptChanged_21 fkX6_91 rfl (by decide) (kS hs) (by decide) ((hB.2.2.2.2 h0).1) ?_
    refine E_istore dX6_acceptChanged_24 (by decide) rfl ?_
    refine E_aload_n dX6_acceptChanged_26 rfl ?_
    refine E_getR' (ci := 8) (j := 6) (p := p+7) dX6_acceptChanged_27 fkX6_120 rfl (by decide) (kS hs) (by decide) ((srS hs) 6 (by decide)) ?_
    refine E_iload dX6_acceptChanged_30 rfl ?_
    refine E_ialdN dX6_acceptChanged_32 (kp7 hs) (by omega) (by decide) (hW) ?_
    refine E_aload_n dX6_acceptChanged_33 rfl ?_
    refine E_getR' (ci := 8) (j := 7) (p := p+8) dX6_acceptChanged_34 fkX6_123 rfl (by decide) (kS hs) (by decide) ((srS hs) 7 (by decide)) ?_
    refine E_iload dX6_acceptChanged_37 rfl ?_
    refine E_ialdN dX6_acceptChanged_39 (kp8 hs) (by omega) (by decide) (hV) ?_
    refine E_iorN dX6_acceptChanged_40 ?_
    refine E_iload_n dX6_acceptChanged_41 rfl ?_
    refine E_iload dX6_acceptChanged_42 rfl ?_
    refine E_iorN dX6_acceptChanged_44 ?_
    refine E_iandN dX6_acceptChanged_45 ?_
    refine E_if_eqN (t := 51) dX6_acceptChanged_46 (by decide) (by omega) (fun c46 => ?_) (fun c46 => ?_)
    · skip
      refine E_aload_n dX6_acceptChanged_51 rfl ?_
      refine E_getR' (ci := 8) (j := 6) (p := p+7) dX6_acceptChanged_52 fkX6_120 rfl (by decide) (kS hs) (by decide) ((srS hs) 6 (by decide)) ?_
      refine E_iload dX6_acceptChanged_55 rfl ?_
      refine E_dup2 dX6_acceptChanged_57 rfl rfl ?_
      refine E_ialdN dX6_acceptChanged_58 (kp7 hs) (by omega) (by decide) (hW) ?_
      refine E_iload_n dX6_acceptChanged_59 rfl ?_
      refine E_iorN dX6_acceptChanged_60 ?_
      refine E_iastN dX6_acceptChanged_61 (kp7 hs) (by omega) (by decide) ?_
      refine E_aload_n dX6_acceptChanged_62 rfl ?_
      refine E_getR' (ci := 8) (j := 7) (p := p+8) dX6_acceptChanged_63 fkX6_123 rfl (by decide) (kS hs) (by decide) ((srS hs) 7 (by decide)) ?_
      refine E_iload dX6_acceptChanged_66 rfl ?_
      refine E_dup2 dX6_acceptChanged_68 rfl rfl ?_
      refine E_ialdN dX6_acceptChanged_69 (kp8 hs) (by omega) (by decide) ((sI_o (by omega)).trans hV) ?_
      refine E_iload dX6_acceptChanged_70 rfl ?_
      refine E_iorN dX6_acceptChanged_72 ?_
      refine E_iastN dX6_acceptChanged_73 (kp8 hs) (by omega) (by decide) ?_
      refine E_aload_n dX6_acceptChanged_74 rfl ?_
      refine E_bipush (v := nI 9) dX6_acceptChanged_75 rfl ?_
      refine E_callV (r := qX6_goOn) (ci := 6) dX6_acceptChanged_77 mkX6_78 voX6_goOn rfl rfl rfl ⟨Nat.le_of_ble_eq_true rfl, Nat.le_of_ble_eq_true rfl, Nat.le_of_ble_eq_true rfl, Nat.le_of_ble_eq_true rfl⟩ (c_goOn) rfl (Nat.le_of_ble_eq_true rfl) ?_
      rintro _ _ ⟨rfl, rfl⟩
      refine E_iret dX6_acceptChanged_80 rfl ?_
      unfold pChg
      rw [if_pos (mk_t c15), if_pos c46]
      refine rd_0 sI_s ?_ hl (sb_1 (hB2 c46)) (fun _ => by (rw [e0]; exact h0)) (fun e => absurd e (by decide)) ((RDF.rf.s hs ((SF.rf.i (by omega) (by omega)).i (by omega) (by omega))).o hs (by decide))
      rw [sI_o (by decide), sI_o (by rcases hs with e | e <;> omega), sI_o (by rcases hs with e | e <;> omega)]; exact h4
    · skip
      refine E_iconst (v := nI 4) dX6_acceptChanged_49 rfl ?_
      refine E_iret dX6_acceptChanged_50 rfl ?_
      unfold pChg
      rw [if_pos (mk_t c15), if_neg (by omega)]
      exact rd_e (by decide) RDF.rf
  · skip
    refine E_iconst (v := nI 1) dX6_acceptChanged_18 rfl ?_
    refine E_iret dX6_acceptChanged_19 rfl ?_
    unfold pChg
    rw [if_neg (by rw [mk_or0.mp c15]; decide)]
    exact rd_e (by decide) RDF.rf
end R7
