-- the class: its reader: costs
section R5
variable {g : GG} {M : AM} {p c l : Nat} {P : TK}
theorem c_cost (h : RDs (4, l, P) p M) (hc : c < 256) : Call g qX6_acceptCost [.ref 1, .int (nI c), .ref p] M (RDp p (pStp c (4, l, P)) M) := by
  have hB : SB P p M := h.2.2.2.1
  have hs := hB.1
  have hl : l < 16 := h.2.2.1
  have h4 : M.1 1 4 = nI l := h.2.1
  have h0 : 0 < P 61 0 := h.2.2.2.2.1 (show 3 ≤ 4 by decide)
  have h32 : P 61 0 ≤ 32 := hB.2.2.1.1
  have hno : ¬ (48 ≤ c ∧ c ≤ 57) → pStp c (4, l, P) = pFive c l P := fun e => by
    show (if dgC c = true then _ else pFive c l P) = _
    rw [if_neg (by unfold dgC; rw [decide_eq_true_iff]; exact e)]
  have hys : 48 ≤ c → c ≤ 57 → pStp c (4, l, P) = (0, 5, l, upT P 64 (P 61 0 - 1) (c - 48)) := fun e1 e2 => by
    show (if dgC c = true then (0, 5, l, upT P 64 (P 61 0 - 1) (c - 48)) else _) = _
    rw [if_pos (by unfold dgC; rw [decide_eq_true_iff]; exact ⟨e1, e2⟩)]
  have st : c - 48 ≤ 9 → SB (upT P 64 (P 61 0 - 1) (c - 48)) p (sI M (p + 3) (P 61 0 - 1) (nI (c - 48))) := fun hlt => ⟨hs, rp_set aS_inj hB.2.1 (k := 64) (j := P 61 0 - 1) (by decide) (by decide) (by omega) (by decide), wt_set hB.2.2.1 (by decide) (by decide) (by decide) (by omega) (by omega) (fun _ => hlt) (by omega) (by omega) (by omega) (by omega), fun b => by rw [upT_ne (by omega)]; exact hB.2.2.2.1 b, hB.2.2.2.2.k (by rw [upT_ne (by omega)]) (fun b => by rw [upT_ne (by omega)]) (sI_o (by omega)) (sI_o (by omega))⟩
  refine Call_of (ls0 := [some (.ref 1), some (.int (nI c)), some (.ref p)]) rfl rfl (Nat.le_of_ble_eq_true rfl) ?_
  refine E_iload_n dX6_acceptCost_0 rfl ?_
  refine E_bipush (v := nI 48) dX6_acceptCost_1 rfl ?_
  refine E_icmp_ltN (t := 12) dX6_acceptCost_3 (by decide) (by omega) (by omega) (fun c3 => ?_) (fun c3 => ?_)
  · skip
    refine E_aload_n dX6_acceptCost_12 rfl ?_
    refine E_iload_n dX6_acceptCost_13 rfl ?_
    refine E_aload_n dX6_acceptCost_14 rfl ?_
    refine E_callV (r := qX6_acceptRest) (ci := 6) dX6_acceptCost_15 mkX6_56 voX6_acceptRest rfl rfl rfl ⟨Nat.le_of_ble_eq_true rfl, Nat.le_of_ble_eq_true rfl, Nat.le_of_ble_eq_true rfl, Nat.le_of_ble_eq_true rfl⟩ (c_rest h (by decide) (by decide) hc) rfl (Nat.le_of_ble_eq_true rfl) ?_
    rintro _ M2 ⟨rfl, hr1, hr2⟩
    refine E_iret dX6_acceptCost_18 rfl ?_
    rw [hno (by omega)]
    exact ⟨rfl, hr1, hr2⟩
  · skip
    refine E_iload_n dX6_acceptCost_6 rfl ?_
    refine E_bipush (v := nI 57) dX6_acceptCost_7 rfl ?_
    refine E_icmp_leN (t := 19) dX6_acceptCost_9 (by decide) (by omega) (by omega) (fun c9 => ?_) (fun c9 => ?_)
    · skip
      refine E_aload_n dX6_acceptCost_19 rfl ?_
      refine E_getR' (ci := 8) (j := 2) (p := p+3) dX6_acceptCost_20 fkX6_94 rfl (by decide) (kS hs) (by decide) ((srS hs) 2 (by decide)) ?_
      refine E_aload_n dX6_acceptCost_23 rfl ?_
      refine E_getI' (ci := 8) (j := 15) dX6_acceptCost_24 fkX6_91 rfl (by decide) (kS hs) (by decide) ((hB.2.2.2.2 h0).1) ?_
      refine E_iload_n dX6_acceptCost_27 rfl ?_
      refine E_bipush (v := nI 48) dX6_acceptCost_28 rfl ?_
      refine E_isubN dX6_acceptCost_30 (by omega) ?_
      refine E_iastN dX6_acceptCost_31 (kp3 hs) (by omega) (by decide) ?_
      refine E_aload_n dX6_acceptCost_32 rfl ?_
      refine E_iconst (v := nI 5) dX6_acceptCost_33 rfl ?_
      refine E_callV (r := qX6_goOn) (ci := 6) dX6_acceptCost_34 mkX6_78 voX6_goOn rfl rfl rfl ⟨Nat.le_of_ble_eq_true rfl, Nat.le_of_ble_eq_true rfl, Nat.le_of_ble_eq_true rfl, Nat.le_of_ble_eq_true rfl⟩ (c_goOn) rfl (Nat.le_of_ble_eq_true rfl) ?_
      rintro _ _ ⟨rfl, rfl⟩
      refine E_iret dX6_acceptCost_37 rfl ?_
      rw [hys (by omega) (by omega)]
      refine rd_0 sI_s ?_ hl (sb_1 (st (by omega))) (fun _ => by (rw [upT_ne (by omega)]; exact h0)) (fun e => absurd e (by decide)) ((RDF.rf.s hs (SF.rf.i (by omega) (by omega))).o hs (by decide))
      rw [sI_o (by decide), sI_o (by rcases hs with e | e <;> omega)]; exact h4
    · skip
      refine E_aload_n dX6_acceptCost_12 rfl ?_
      refine E_iload_n dX6_acceptCost_13 rfl ?_
      refine E_aload_n dX6_acceptCost_14 rfl ?_
      refine E_callV (r := qX6_acceptRest) (ci := 6) dX6_acceptCost_15 mkX6_56 voX6_acceptRest rfl rfl rfl ⟨Nat.le_of_ble_eq_true rfl, Nat.le_of_ble_eq_true rfl, Nat.le_of_ble_eq_true rfl, Nat.le_of_ble_eq_true rfl⟩ (c_rest h (by decide) (by decide) hc) rfl (Nat.le_of_ble_eq_true rfl) ?_
      rintro _ M2 ⟨rfl, hr1, hr2⟩
      refine E_iret dX6_acceptCost_18 rfl ?_
      rw [hno (by omega)]
      exact ⟨rfl, hr1, hr2⟩
end R5
