-- the class: its reader: marks asked for, marks changed
theorem mk_or0 {c : Nat} : sMk c ||| gMk c = 0 ↔ isMk c = false := by
  unfold isMk
  rw [decide_eq_false_iff_not]
  constructor
  · intro h
    have h1 := Nat.or_eq_zero_iff.mp h
    unfold sMk gMk at h1
    rintro (e | e)
    · rw [if_pos e] at h1; exact absurd h1.1 (Nat.ne_of_gt (Nat.two_pow_pos _))
    · rw [if_pos e] at h1; exact absurd h1.2 (Nat.ne_of_gt (Nat.two_pow_pos _))
  · intro h
    unfold sMk gMk
    rw [if_neg (fun e => h (Or.inl e)), if_neg (fun e => h (Or.inr e))]
    rfl
section R6
variable {g : GG} {M : AM} {p c l w : Nat} {P : TK}
theorem c_asked (h : RDs (w, l, P) p M) (hw : w = 6 ∨ w = 7) (hc : c < 256) : Call g qX6_acceptAsked [.ref 1, .int (nI c), .ref p] M (RDp p (pAsk c l P) M) := by
  have hB : SB P p M := h.2.2.2.1
  have hs := hB.1
  have hl : l < 16 := h.2.2.1
  have h4 : M.1 1 4 = nI l := h.2.1
  have h0 : 0 < P 61 0 := h.2.2.2.2.1 (show 3 ≤ w by omega)
  have h6 : 0 < P 65 (P 61 0 - 1) := h.2.2.2.2.2 hw
  have h32 : P 61 0 ≤ 32 := hB.2.2.1.1
  have hal := sb_alts hB (show P 61 0 - 1 < P 61 0 by omega)
  have h3 : P 65 (P 61 0 - 1) ≤ 3 := (wt_a hB.2.2.1 (show P 61 0 - 1 < P 61 0 by omega)).2.2.2.1
  have hg64 := or_64 (sMk_lt c) (gMk_lt c)
  have hai : (P 61 0 - 1) * 3 + P 65 (P 61 0 - 1) - 1 = alI P := by unfold alI; omega
  have hal96 : alI P < 96 := by unfold alI; omega
  have d6 : ∀ k, k = 66 ∨ k = 67 → dom P k (alI P) := fun k hk => Or.inr (Or.inr ⟨hk, P 61 0 - 1, P 65 (P 61 0 - 1) - 1, by omega, by omega, by unfold alI; omega⟩)
  have hW : M.1 (p + 5) (alI P) = nI (P 66 (alI P)) := (hB.2.1 66 _ (d6 66 (by omega))).2.2
  have hV : M.1 (p + 6) (alI P) = nI (P 67 (alI P)) := (hB.2.1 67 _ (d6 67 (by omega))).2.2
  have e0 : asM P c 61 0 = P 61 0 := by unfold asM orT; rw [upT_ne (by omega), upT_ne (by omega)]
  have e5 : ∀ j, asM P c 65 j = P 65 j := fun j => by unfold asM orT; rw [upT_ne (by omega), upT_ne (by omega)]
  have hB2 : SB (asM P c) p (sI (sI M (p + 5) (alI P) (nI (P 66 (alI P) ||| sMk c))) (p + 6) (alI P) (nI (P 67 (alI P) ||| gMk c))) := by
    have e : asM P c = upT (upT P 66 (alI P) (P 66 (alI P) ||| sMk c)) 67 (alI P) (P 67 (alI P) ||| gMk c) := by unfold asM orT; rw [upT_ne (a := 67) (by omega)]
    refine ⟨hs, ?_, wt_asM hB.2.2.1 (a := P 61 0 - 1) (by omega) h6, fun b => ?_, hB.2.2.2.2.k e0 e5 ((sI_o (by omega)).trans (sI_o (by omega))) ((sI_o (by omega)).trans (sI_o (by omega)))⟩
    · rw [e]
      exact rp_set aS_inj (rp_set aS_inj hB.2.1 (k := 66) (by decide) (by decide) (by omega) (by decide)) (k := 67) (by decide) (by decide) (by omega) (by decide)
    · rw [e, upT_ne (by omega), upT_ne (by omega)]; exact hB.2.2.2.1 b
  refine Call_of (ls0 := [some (.ref 1), some (.int (nI c)), some (.ref p), none, none]) rfl rfl (Nat.le_of_ble_eq_true rfl) ?_
  refine E_iload_n dX6_acceptAsked_0 rfl ?_
  refine E_callS (r := qX6_smallMark) dX6_acceptAsked_1 mkX6_105 toX6_smallMark rfl ⟨Nat.le_of_ble_eq_true rfl, Nat.le_of_ble_eq_true rfl, Nat.le_of_ble_eq_true rfl, Nat.le_of_ble_eq_true rfl⟩ (c_smallMark hc) rfl (Nat.le_of_ble_eq_true rfl) ?_
  rintro _ _ ⟨rfl, rfl⟩
  refine E_ist_n (i := 3) dX6_acceptAsked_4 rfl (by decide) rfl ?_
  refine E_iload_n dX6_acceptAsked_5 rfl ?_
  refine E_callS (r := qX6_greatMark) dX6_acceptAsked_6 mkX6_108 toX6_greatMark rfl ⟨Nat.le_of_ble_eq_true rfl, Nat.le_of_ble_eq_true rfl, Nat.le_of_ble_eq_true rfl, Nat.le_of_ble_eq_true rfl⟩ (c_greatMark hc) rfl (Nat.le_of_ble_eq_true rfl) ?_
  rintro _ _ ⟨rfl, rfl⟩
  refine E_istore dX6_acceptAsked_9 (by decide) rfl ?_
  refine E_iload_n dX6_acceptAsked_11 rfl ?_
  refine E_iload dX6_acceptAsked_12 rfl ?_
  refine E_iorN dX6_acceptAsked_14 ?_
  refine E_if_neN (t := 20) dX6_acceptAsked_15 (by decide) (by omega) (fun c15 => ?_) (fun c15 => ?_)
  · skip
    refine E_aload_n dX6_acceptAsked_20 rfl ?_
    refine E_getR' (ci := 8) (j := 4) (p := p+5) dX6_acceptAsked_21 fkX6_111 rfl (by decide) (kS hs) (by decide) ((srS hs) 4 (by decide)) ?_
    refine E_aload_n dX6_acceptAsked_24 rfl ?_
    refine E_getI' (ci := 8) (j := 16) dX6_acceptAsked_25 fkX6_114 rfl (by decide) (kS hs) (by decide) ((hB.2.2.2.2 h0).2 h6) ?_
    refine E_dup2 dX6_acceptAsked_28 rfl rfl ?_
    refine E_ialdN dX6_acceptAsked_29 (kp5 hs) (by omega) (by decide) (hW) ?_
    refine E_iload_n dX6_acceptAsked_30 rfl ?_
    refine E_iorN dX6_acceptAsked_31 ?_
    refine E_iastN dX6_acceptAsked_32 (kp5 hs) (by omega) (by decide) ?_
    refine E_aload_n dX6_acceptAsked_33 rfl ?_
    refine E_getR' (ci := 8) (j := 5) (p := p+6) dX6_acceptAsked_34 fkX6_117 rfl (by decide) (kS hs) (by decide) ((srS hs) 5 (by decide)) ?_
    refine E_aload_n dX6_acceptAsked_37 rfl ?_
    refine E_getI' (ci := 8) (j := 16) dX6_acceptAsked_38 fkX6_114 rfl (by decide) (kS hs) (by decide) ((sI_o (by omega)).trans ((hB.2.2.2.2 h0).2 h6)) ?_
    refine E_dup2 dX6_acceptAsked_41 rfl rfl ?_
    refine E_ialdN dX6_acceptAsked_42 (kp6 hs) (by omega) (by decide) ((sI_o (by omega)).trans hV) ?_
    refine E_iload dX6_acceptAsked_43 rfl ?_
    refine E_iorN dX6_acceptAsked_45 ?_
    refine E_iastN dX6_acceptAsked_46 (kp6 hs) (by omega) (by decide) ?_
    refine E_aload_n dX6_acceptAsked_47 rfl ?_
    refine E_bipush (v := nI 7) dX6_acceptAsked_48 rfl ?_
    refine E_callV (r := qX6_goOn) (ci := 6) dX6_acceptAsked_50 mkX6_78 voX6_goOn rfl rfl rfl ⟨Nat.le_of_ble_eq_true rfl, Nat.le_of_ble_eq_true rfl, Nat.le_of_ble_eq_true rfl, Nat.le_of_ble_eq_true rfl⟩ (c_goOn) rfl (Nat.le_of_ble_eq_true rfl) ?_
    rintro _ _ ⟨rfl, rfl⟩
    refine E_iret dX6_acceptAsked_53 rfl ?_
    unfold pAsk
    rw [if_pos (show isMk c = true by cases e : isMk c; exact absurd (mk_or0.mpr e) (by omega); rfl)]
    refine rd_0 sI_s ?_ hl (sb_1 hB2) (fun _ => by (rw [e0]; exact h0)) (fun _ => by (rw [e0, e5]; exact h6)) ((RDF.rf.s hs ((SF.rf.i (by omega) (by omega)).i (by omega) (by omega))).o hs (by decide))
    rw [sI_o (by decide), sI_o (by rcases hs with e | e <;> omega), sI_o (by rcases hs with e | e <;> omega)]; exact h4
  · skip
    refine E_iconst (v := nI 1) dX6_acceptAsked_18 rfl ?_
    refine E_iret dX6_acceptAsked_19 rfl ?_
    unfold pAsk
    rw [if_neg (by rw [mk_or0.mp c15]; decide)]
    exact rd_e (by decide) RDF.rf
end R6
