-- the class: the course
def CO (T : TK) (M : AM) : Prop := M.1 3 1 = nI (T 61 15) ∧ T 61 15 ≤ 60 ∧ M.1 3 2 = nI (T 61 13) ∧ T 61 13 < 64 ∧ ∀ i, i < T 61 15 → M.1 4 i = nI (T 71 i) ∧ T 71 i < T 61 0
theorem nxt_sp {T : TK} (hW : WT T) {a s : Nat} (ha : a < T 61 0) : nxt T a s / 64 = T 63 a ∧ nxt T a s % 64 = mkB T a (s % 64) := by
  have h1 : nxt T a s = 64 * T 63 a + mkB T a (s % 64) := rfl
  have h2 := mkB_lt hW ha (m := s % 64) (by omega)
  rw [h1]
  omega
section CO1
variable {g : GG} {M : AM} {T : TK} {p : Nat}
theorem c_restart {m : Nat} : Call g qX1_restart [.ref 3, .int (nI m)] M (fun v M' => v = none ∧ M' = sI (sI M 3 2 (nI m)) 3 1 (nI 0)) := by
  refine Call_of (ls0 := [some (.ref 3), some (.int (nI m))]) rfl rfl (Nat.le_of_ble_eq_true rfl) ?_
  refine E_aload_n dX1_restart_0 rfl ?_
  refine E_iload_n dX1_restart_1 rfl ?_
  refine E_putI (ci := 1) (j := 2) dX1_restart_2 fkX1_15 rfl (by decide) rfl (by decide) ?_
  refine E_aload_n dX1_restart_5 rfl ?_
  refine E_iconst (v := nI 0) dX1_restart_6 rfl ?_
  refine E_putI (ci := 1) (j := 1) dX1_restart_7 fkX1_19 rfl (by decide) rfl (by decide) ?_
  refine E_vret dX1_restart_10 rfl ?_
  exact ⟨rfl, rfl⟩
theorem c_advance (hC : CO T M) {a : Nat} : Call g qX1_advance [.ref 3, .int (nI a)] M (fun v M' => v = some (.int (bI (decide (T 61 15 < 60)))) ∧ M' = if T 61 15 < 60 then sI (sI M 4 (T 61 15) (nI a)) 3 1 (nI (T 61 15 + 1)) else M) := by
  have h60 := hC.2.1
  refine Call_of (ls0 := [some (.ref 3), some (.int (nI a))]) rfl rfl (Nat.le_of_ble_eq_true rfl) ?_
  refine E_aload_n dX1_advance_0 rfl ?_
  refine E_getI' (ci := 1) (j := 1) dX1_advance_1 fkX1_19 rfl (by decide) rfl (by decide) (hC.1) ?_
  refine E_bipush (v := nI 60) dX1_advance_4 rfl ?_
  refine E_icmp_ltN (t := 11) dX1_advance_6 (by decide) (by omega) (by omega) (fun c6 => ?_) (fun c6 => ?_)
  · skip
    refine E_aload_n dX1_advance_11 rfl ?_
    refine E_getR' (ci := 1) (j := 0) (p := 4) dX1_advance_12 fkX1_9 rfl (by decide) rfl (by decide) (rfl) ?_
    refine E_aload_n dX1_advance_15 rfl ?_
    refine E_getI' (ci := 1) (j := 1) dX1_advance_16 fkX1_19 rfl (by decide) rfl (by decide) (hC.1) ?_
    refine E_iload_n dX1_advance_19 rfl ?_
    refine E_iastN dX1_advance_20 rfl (by omega) (by decide) ?_
    refine E_aload_n dX1_advance_21 rfl ?_
    refine E_dup dX1_advance_22 rfl ?_
    refine E_getI' (ci := 1) (j := 1) dX1_advance_23 fkX1_19 rfl (by decide) rfl (by decide) ((sI_o (by omega)).trans hC.1) ?_
    refine E_iconst (v := nI 1) dX1_advance_26 rfl ?_
    refine E_iaddN dX1_advance_27 ?_
    refine E_putI (ci := 1) (j := 1) dX1_advance_28 fkX1_19 rfl (by decide) rfl (by decide) ?_
    refine E_iconst (v := nI 1) dX1_advance_31 rfl ?_
    refine E_top (show nI 1 = bI true from rfl) ?_
    refine E_zret dX1_advance_32 rfl (bI_01 _) ?_
    exact ⟨by rw [decide_eq_true c6], by rw [if_pos c6]⟩
  · skip
    refine E_iconst (v := nI 0) dX1_advance_9 rfl ?_
    refine E_top (show nI 0 = bI false from rfl) ?_
    refine E_zret dX1_advance_10 rfl (bI_01 _) ?_
    exact ⟨by rw [decide_eq_false (by omega)], by rw [if_neg (by omega)]⟩
theorem c_lineHere (h : SC T p M) (hC : CO T M) : Call g qX1_lineHere [.ref 3, .ref p] M (Rt (nI (herN T (T 61 15) / 64)) M) := by
  have hs := h.1
  have h32 := sc_32 h
  have h60 := hC.2.1
  refine Call_of (ls0 := [some (.ref 3), some (.ref p)]) rfl rfl (Nat.le_of_ble_eq_true rfl) ?_
  refine E_aload_n dX1_lineHere_0 rfl ?_
  refine E_getI' (ci := 1) (j := 1) dX1_lineHere_1 fkX1_19 rfl (by decide) rfl (by decide) (hC.1) ?_
  refine E_if_neN (t := 14) dX1_lineHere_4 (by decide) (by omega) (fun c4 => ?_) (fun c4 => ?_)
  · skip
    have hst := hC.2.2.2.2 (T 61 15 - 1) (by omega)
    have hst2 := hst.2
    refine E_aload_n dX1_lineHere_14 rfl ?_
    refine E_getR' (ci := 8) (j := 1) (p := p+2) dX1_lineHere_15 fkX1_27 rfl (by decide) (kS hs) (by decide) ((srS hs) 1 (by decide)) ?_
    refine E_aload_n dX1_lineHere_18 rfl ?_
    refine E_getR' (ci := 1) (j := 0) (p := 4) dX1_lineHere_19 fkX1_9 rfl (by decide) rfl (by decide) (rfl) ?_
    refine E_aload_n dX1_lineHere_22 rfl ?_
    refine E_getI' (ci := 1) (j := 1) dX1_lineHere_23 fkX1_19 rfl (by decide) rfl (by decide) (hC.1) ?_
    refine E_iconst (v := nI 1) dX1_lineHere_26 rfl ?_
    refine E_isubN dX1_lineHere_27 (by omega) ?_
    refine E_ialdN dX1_lineHere_28 rfl (by omega) (by decide) (hst.1) ?_
    refine E_ialdN dX1_lineHere_29 (kp2 hs) (by omega) (by decide) (sc_to h hst.2) ?_
    refine E_iret dX1_lineHere_30 rfl ?_
    refine Rt_n ?_
    first | (rw [c4]; (show T 61 3 = fst0 T / 64); unfold fst0; have := hC.2.2.2.1; omega) | (obtain ⟨n, hn⟩ : ∃ n, T 61 15 = n + 1 := ⟨T 61 15 - 1, by omega⟩; rw [hn] at hst2 ⊢; exact ((nxt_sp h.2.2.1 hst2).1).symm)
  · skip
    refine E_aload_n dX1_lineHere_7 rfl ?_
    refine E_getI' (ci := 8) (j := 13) dX1_lineHere_8 fkX1_22 rfl (by decide) (kS hs) (by decide) (sc_6 h (j := 3) (by decide)) ?_
    refine E_goto (t := 30) dX1_lineHere_11 (by decide) ?_
    refine E_iret dX1_lineHere_30 rfl ?_
    refine Rt_n ?_
    first | (rw [c4]; (show T 61 3 = fst0 T / 64); unfold fst0; have := hC.2.2.2.1; omega) | (obtain ⟨n, hn⟩ : ∃ n, T 61 15 = n + 1 := ⟨T 61 15 - 1, by omega⟩; rw [hn] at hst2 ⊢; exact ((nxt_sp h.2.2.1 hst2).1).symm)
theorem c_marksHere (h : SC T p M) (hC : CO T M) : Call g qX1_marksHere [.ref 3, .ref p] M (Rt (nI (herN T (T 61 15) % 64)) M) := by
  have hs := h.1
  have h32 := sc_32 h
  have h60 := hC.2.1
  have L : ∀ (n k : Nat), k ≤ T 61 15 → T 61 15 < k + n → Ex g qX1_marksHere (tm g qX1_marksHere (Rt (nI (herN T (T 61 15) % 64)) M)) 7 [some (.ref 3), some (.ref p), some (.int (nI (herN T k % 64))), some (.int (nI k))] [] M := by
    intro n
    induction n with
    | zero => intro k h1 h2; exact absurd h2 (by omega)
    | succ n ih =>
      intro k hk hn
      refine E_iload_n dX1_marksHere_7 rfl ?_
      refine E_aload_n dX1_marksHere_8 rfl ?_
      refine E_getI' (ci := 1) (j := 1) dX1_marksHere_9 fkX1_19 rfl (by decide) rfl (by decide) (hC.1) ?_
      refine E_icmp_geN (t := 33) dX1_marksHere_12 (by decide) (by omega) (by omega) (fun c12 => ?_) (fun c12 => ?_)
      · skip
        refine E_iload_n dX1_marksHere_33 rfl ?_
        refine E_iret dX1_marksHere_34 rfl ?_
        exact Rt_n (by rw [show k = T 61 15 by omega])
      · skip
        have hst := hC.2.2.2.2 k c12
        refine E_aload_n dX1_marksHere_15 rfl ?_
        refine E_aload_n dX1_marksHere_16 rfl ?_
        refine E_getR' (ci := 1) (j := 0) (p := 4) dX1_marksHere_17 fkX1_9 rfl (by decide) rfl (by decide) (rfl) ?_
        refine E_iload_n dX1_marksHere_20 rfl ?_
        refine E_ialdN dX1_marksHere_21 rfl (by omega) (by decide) (hst.1) ?_
        refine E_iload_n dX1_marksHere_22 rfl ?_
        refine E_callV (r := qX8_marksBehind) (ci := 8) dX1_marksHere_23 mkX1_30 voX8_marksBehind rfl (kS hs) rfl ⟨Nat.le_of_ble_eq_true rfl, Nat.le_of_ble_eq_true rfl, Nat.le_of_ble_eq_true rfl, Nat.le_of_ble_eq_true rfl⟩ (c_marksBehind h hst.2) rfl (Nat.le_of_ble_eq_true rfl) ?_
        rintro _ _ ⟨rfl, rfl⟩
        refine E_ist_n (i := 2) dX1_marksHere_26 rfl (by decide) rfl ?_
        refine E_iincN (b := 1) dX1_marksHere_27 rfl rfl (by decide) rfl ?_
        refine E_goto (t := 7) dX1_marksHere_30 (by decide) ?_
        have hnx := ih (k + 1) (by omega) (by omega)
        rw [show herN T (k + 1) % 64 = mkB T (T 71 k) (herN T k % 64) from (nxt_sp h.2.2.1 hst.2).2] at hnx
        exact hnx
  have hb := hC.2.2.2.1
  have h0 : herN T 0 % 64 = T 61 13 := by show fst0 T % 64 = _; unfold fst0; omega
  refine Call_of (ls0 := [some (.ref 3), some (.ref p), none, none]) rfl rfl (Nat.le_of_ble_eq_true rfl) ?_
  refine E_aload_n dX1_marksHere_0 rfl ?_
  refine E_getI' (ci := 1) (j := 2) dX1_marksHere_1 fkX1_15 rfl (by decide) rfl (by decide) (hC.2.2.1.trans (congrArg nI h0.symm)) ?_
  refine E_ist_n (i := 2) dX1_marksHere_4 rfl (by decide) rfl ?_
  refine E_iconst (v := nI 0) dX1_marksHere_5 rfl ?_
  refine E_ist_n (i := 3) dX1_marksHere_6 rfl (by decide) rfl ?_
  exact L (T 61 15 + 1) 0 (Nat.zero_le _) (by omega)
theorem c_priceOfSteps (h : SC T p M) (hC : CO T M) : Call g qX1_priceOfSteps [.ref 3, .ref p] M (Rt (nI (csN T (T 61 15))) M) := by
  have hs := h.1
  have h32 := sc_32 h
  have h60 := hC.2.1
  have L : ∀ (n k : Nat), k ≤ T 61 15 → T 61 15 < k + n → Ex g qX1_priceOfSteps (tm g qX1_priceOfSteps (Rt (nI (csN T (T 61 15))) M)) 4 [some (.ref 3), some (.ref p), some (.int (nI (csN T k))), some (.int (nI k))] [] M := by
    intro n
    induction n with
    | zero => intro k h1 h2; exact absurd h2 (by omega)
    | succ n ih =>
      intro k hk hn
      refine E_iload_n dX1_priceOfSteps_4 rfl ?_
      refine E_aload_n dX1_priceOfSteps_5 rfl ?_
      refine E_getI' (ci := 1) (j := 1) dX1_priceOfSteps_6 fkX1_19 rfl (by decide) rfl (by decide) (hC.1) ?_
      refine E_icmp_geN (t := 32) dX1_priceOfSteps_9 (by decide) (by omega) (by omega) (fun c9 => ?_) (fun c9 => ?_)
      · skip
        refine E_iload_n dX1_priceOfSteps_32 rfl ?_
        refine E_iret dX1_priceOfSteps_33 rfl ?_
        exact Rt_n (by rw [show k = T 61 15 by omega])
      · skip
        have hst := hC.2.2.2.2 k c9
        have hst2 := hst.2
        refine E_iload_n dX1_priceOfSteps_12 rfl ?_
        refine E_aload_n dX1_priceOfSteps_13 rfl ?_
        refine E_getR' (ci := 8) (j := 2) (p := p+3) dX1_priceOfSteps_14 fkX1_34 rfl (by decide) (kS hs) (by decide) ((srS hs) 2 (by decide)) ?_
        refine E_aload_n dX1_priceOfSteps_17 rfl ?_
        refine E_getR' (ci := 1) (j := 0) (p := 4) dX1_priceOfSteps_18 fkX1_9 rfl (by decide) rfl (by decide) (rfl) ?_
        refine E_iload_n dX1_priceOfSteps_21 rfl ?_
        refine E_ialdN dX1_priceOfSteps_22 rfl (by omega) (by decide) (hst.1) ?_
        refine E_ialdN dX1_priceOfSteps_23 (kp3 hs) (by omega) (by decide) (sc_price h hst.2) ?_
        refine E_iaddN dX1_priceOfSteps_24 ?_
        refine E_ist_n (i := 2) dX1_priceOfSteps_25 rfl (by decide) rfl ?_
        refine E_iincN (b := 1) dX1_priceOfSteps_26 rfl rfl (by decide) rfl ?_
        refine E_goto (t := 4) dX1_priceOfSteps_29 (by decide) ?_
        exact ih (k + 1) (by omega) (by omega)
  refine Call_of (ls0 := [some (.ref 3), some (.ref p), none, none]) rfl rfl (Nat.le_of_ble_eq_true rfl) ?_
  refine E_iconst (v := nI 0) dX1_priceOfSteps_0 rfl ?_
  refine E_ist_n (i := 2) dX1_priceOfSteps_1 rfl (by decide) rfl ?_
  refine E_iconst (v := nI 0) dX1_priceOfSteps_2 rfl ?_
  refine E_ist_n (i := 3) dX1_priceOfSteps_3 rfl (by decide) rfl ?_
  exact L (T 61 15 + 1) 0 (Nat.zero_le _) (by omega)
end CO1
