-- the class: hopes, loops, prices refreshed; what they tell
section CX3
variable {g : GG} {M M' : AM} {T : TK} {p q : Nat}
theorem cb_0 (h : CB T p q M) {j : Nat} {x : Int32} (hj : j ≠ 11) : CB T p q (sI M 0 j x) := by
  have hne : ∀ k, k ≠ 0 → (sI M 0 j x).1 k = M.1 k := fun k hk => sI_ne hk
  have hpn := sp_39 (spq_p (cb_pq h))
  refine ⟨h.1, h.2.1, h.2.2.1, ?_, ?_, ?_, ?_, h.2.2.2.2.2.2.2.1, fun ht => ?_, h.2.2.2.2.2.2.2.2.2⟩
  · rw [sI_o (by omega)]; exact h.2.2.2.1
  · rw [hne 1 (by decide), hne 2 (by decide)]; exact h.2.2.2.2.1
  · exact co_fr (cb_co h) (hne 3 (by decide)) (hne 4 (by decide))
  · exact ac_fr (cb_ac h) (hne 5 (by decide)) (hne 6 (by decide)) (hne 7 (by decide)) (hne 8 (by decide))
  · obtain ⟨a, b, c⟩ := cb_tld h ht
    exact ⟨sc_fr a (fun k q1 q2 => hne k (by omega)), sl_fr b (hne _ (by omega)) (hne _ (by omega)), c⟩
/-- the flags, the graph being fresh -/
theorem cf_fl (h : CF T p q M) : ∃ hf lf pf : Bool, M.1 0 13 = bI hf ∧ M.1 0 14 = bI lf ∧ M.1 0 15 = bI pf ∧ (hf = true → HP T M) ∧ (lf = true → LoP T M) ∧ (pf = true → PP T M) := by
  obtain ⟨⟨h0, gf, hf, lf, pf, h1, h2, h3, h4, h5⟩, h6, h7⟩ := h
  rw [h1] at h6
  have := bI_inj h6
  subst this
  exact ⟨hf, lf, pf, h2, h3, h4, (h5 rfl).2⟩
theorem cf_mk (hC : CB T p q M) (hg : M.1 0 12 = bI true) (hG : GR T M) {hf lf pf : Bool} (h1 : M.1 0 13 = bI hf) (h2 : M.1 0 14 = bI lf) (h3 : M.1 0 15 = bI pf) (h4 : hf = true → HP T M) (h5 : lf = true → LoP T M) (h6 : pf = true → PP T M) : CF T p q M := ⟨⟨hC, true, hf, lf, pf, hg, h1, h2, h3, fun _ => ⟨hG, h4, h5, h6⟩⟩, hg, hG⟩
theorem c_refreshHopes (h : CF T p q M) (ht : tlk T = true) (hT : WT T) (hB : T 61 13 < 64) : Call g qX10_refreshHopes [.ref 0] M (fun v M' => v = none ∧ CF T p q M' ∧ HP T M' ∧ F60 M M') := by
  have hCB := h.1.1
  have hs := spq_p (cb_pq hCB)
  have hscr := cb_scr hCB
  obtain ⟨hSC, -, -⟩ := cb_tld hCB ht
  have hend : M.1 p 12 = nI (T 61 2) := sc_6 hSC (j := 2) (by decide)
  obtain ⟨hf, lf, pf, h1, h2, h3, h4, h5, h6⟩ := cf_fl h
  have K1 : hf = true → (fun v M' => v = none ∧ CF T p q M' ∧ HP T M' ∧ F60 M M') (none : Option Value) M := fun e => ⟨rfl, h, h4 e, F60.rf⟩
  have K2 : ∀ M1, HP T M1 → Sb [24, 25, 26] M M1 → (fun v M' => v = none ∧ CF T p q M' ∧ HP T M' ∧ F60 M M') (none : Option Value) (sI M1 0 13 (bI true)) := fun M1 e1 e2 => by
    have hCB1 : CB T p q M1 := cb_fr hCB (fun k hk => ⟨(e2 k (by simp; omega)).1, (e2 k (by simp; omega)).2.2⟩)
    have e0 : M1.1 0 = M.1 0 := (e2 0 (by decide)).1
    have hHP : HP T (sI M1 0 13 (bI true)) := fun i hi => by rw [sI_ne (by decide)]; exact e1 i hi
    refine ⟨rfl, cf_mk (hf := true) (lf := lf) (pf := pf) (cb_0 hCB1 (by decide)) (by rw [sI_o (by decide), e0]; exact h.2.1) (gr_sb (gr_sb h.2.2 e2 (by decide)) (Sb.i (S := [0]) (by decide)) (by decide)) sI_s (by rw [sI_o (by decide), e0]; exact h2) (by rw [sI_o (by decide), e0]; exact h3) (fun _ => hHP) (fun q => ?_) (fun q => ?_), hHP, (F60.s e2 (by decide)).i (by decide)⟩
    · unfold LoP; rw [sI_ne (by decide), (e2 28 (by decide)).1]; exact h5 q
    · unfold PP; rw [sI_ne (by decide), (e2 35 (by decide)).1]; exact h6 q
  refine Call_of (ls0 := [some (.ref 0)]) rfl rfl (Nat.le_of_ble_eq_true rfl) ?_
  refine E_aload_n dX10_refreshHopes_0 rfl ?_
  refine E_getI' (ci := 10) (j := 13) dX10_refreshHopes_1 fkX10_334 rfl (by decide) rfl (by decide) (h1) ?_
  refine E_if_neB (t := 30) dX10_refreshHopes_4 (by decide) (fun c4 => ?_) (fun c4 => ?_)
  · skip
    have key := K1 c4
    refine E_vret dX10_refreshHopes_30 rfl ?_
    exact key
  · skip
    refine E_aload_n dX10_refreshHopes_7 rfl ?_
    refine E_getR' (ci := 10) (j := 5) (p := 24) dX10_refreshHopes_8 fkX10_47 rfl (by decide) rfl (by decide) (rfl) ?_
    refine E_aload_n dX10_refreshHopes_11 rfl ?_
    refine E_getR' (ci := 10) (j := 3) (p := 9) dX10_refreshHopes_12 fkX10_33 rfl (by decide) rfl (by decide) (rfl) ?_
    refine E_aload_n dX10_refreshHopes_15 rfl ?_
    refine E_getM' (ci := 10) (j := 9) (p := p) dX10_refreshHopes_16 fkX10_75 rfl (by decide) rfl (by decide) (hscr) ?_
    refine E_getI' (ci := 8) (j := 12) dX10_refreshHopes_19 fkX10_203 rfl (by decide) (kS hs) (by decide) (hend) ?_
    refine E_callV (r := qX3_learn) (ci := 3) dX10_refreshHopes_22 mkX10_340 voX3_learn rfl rfl rfl ⟨Nat.le_of_ble_eq_true rfl, Nat.le_of_ble_eq_true rfl, Nat.le_of_ble_eq_true rfl, Nat.le_of_ble_eq_true rfl⟩ (c_hopes hT hB h.2.2) rfl (Nat.le_of_ble_eq_true rfl) ?_
    rintro _ M1 ⟨rfl, e1, e2⟩
    refine E_aload_n dX10_refreshHopes_25 rfl ?_
    refine E_iconst (v := nI 1) dX10_refreshHopes_26 rfl ?_
    refine E_putZ (ci := 10) (j := 13) dX10_refreshHopes_27 fkX10_334 rfl (by decide) rfl (by decide) (Or.inr rfl) ?_
    have key := K2 M1 e1 e2
    refine E_vret dX10_refreshHopes_30 rfl ?_
    exact key
theorem c_refreshLoops (h : CF T p q M) (hT : WT T) (hB : T 61 13 < 64) : Call g qX10_refreshLoops [.ref 0] M (fun v M' => v = none ∧ CF T p q M' ∧ LoP T M' ∧ F60 M M') := by
  have hCB := h.1.1
  obtain ⟨hf, lf, pf, h1, h2, h3, h4, h5, h6⟩ := cf_fl h
  have K1 : lf = true → (fun v M' => v = none ∧ CF T p q M' ∧ LoP T M' ∧ F60 M M') (none : Option Value) M := fun e => ⟨rfl, h, h5 e, F60.rf⟩
  have K2 : ∀ M1, LoP T M1 → Sb S27 M M1 → (fun v M' => v = none ∧ CF T p q M' ∧ LoP T M' ∧ F60 M M') (none : Option Value) (sI M1 0 14 (bI true)) := fun M1 e1 e2 => by
    have hb27 : ∀ c ∈ S27, 27 ≤ c ∧ c ≤ 33 := by decide
    have ek : ∀ k, k < 27 ∨ 33 < k → M1.1 k = M.1 k ∧ M1.2.2 k = M.2.2 k := fun k hk => by
      have h := e2 k (fun q => by have := hb27 k q; omega)
      exact ⟨h.1, h.2.2⟩
    have hCB1 : CB T p q M1 := cb_fr hCB (fun k hk => ek k (by omega))
    have e0 : M1.1 0 = M.1 0 := (ek 0 (by decide)).1
    have hLP : LoP T (sI M1 0 14 (bI true)) := fun i hi => by rw [sI_ne (by decide)]; exact e1 i hi
    refine ⟨rfl, cf_mk (hf := hf) (lf := true) (pf := pf) (cb_0 hCB1 (by decide)) (by rw [sI_o (by decide), e0]; exact h.2.1) (gr_sb (gr_sb h.2.2 e2 (by decide)) (Sb.i (S := [0]) (by decide)) (by decide)) (by rw [sI_o (by decide), e0]; exact h1) sI_s (by rw [sI_o (by decide), e0]; exact h3) (fun q => ?_) (fun _ => hLP) (fun q => ?_), hLP, (F60.s e2 (by decide)).i (by decide)⟩
    · unfold HP; rw [sI_ne (by decide), (ek 25 (by decide)).1]; exact h4 q
    · unfold PP; rw [sI_ne (by decide), (ek 35 (by decide)).1]; exact h6 q
  refine Call_of (ls0 := [some (.ref 0)]) rfl rfl (Nat.le_of_ble_eq_true rfl) ?_
  refine E_aload_n dX10_refreshLoops_0 rfl ?_
  refine E_getI' (ci := 10) (j := 14) dX10_refreshLoops_1 fkX10_337 rfl (by decide) rfl (by decide) (h2) ?_
  refine E_if_neB (t := 23) dX10_refreshLoops_4 (by decide) (fun c4 => ?_) (fun c4 => ?_)
  · skip
    have key := K1 c4
    refine E_vret dX10_refreshLoops_23 rfl ?_
    exact key
  · skip
    refine E_aload_n dX10_refreshLoops_7 rfl ?_
    refine E_getR' (ci := 10) (j := 6) (p := 27) dX10_refreshLoops_8 fkX10_54 rfl (by decide) rfl (by decide) (rfl) ?_
    refine E_aload_n dX10_refreshLoops_11 rfl ?_
    refine E_getR' (ci := 10) (j := 3) (p := 9) dX10_refreshLoops_12 fkX10_33 rfl (by decide) rfl (by decide) (rfl) ?_
    refine E_callV (r := qX4_learn) (ci := 4) dX10_refreshLoops_15 mkX10_344 voX4_learn rfl rfl rfl ⟨Nat.le_of_ble_eq_true rfl, Nat.le_of_ble_eq_true rfl, Nat.le_of_ble_eq_true rfl, Nat.le_of_ble_eq_true rfl⟩ (c_loops hT hB h.2.2) rfl (Nat.le_of_ble_eq_true rfl) ?_
    rintro _ M1 ⟨rfl, e1, e2⟩
    refine E_aload_n dX10_refreshLoops_18 rfl ?_
    refine E_iconst (v := nI 1) dX10_refreshLoops_19 rfl ?_
    refine E_putZ (ci := 10) (j := 14) dX10_refreshLoops_20 fkX10_337 rfl (by decide) rfl (by decide) (Or.inr rfl) ?_
    have key := K2 M1 e1 e2
    refine E_vret dX10_refreshLoops_23 rfl ?_
    exact key
theorem c_refreshPrices (h : CF T p q M) (ht : tlk T = true) (hT : WT T) (hB : T 61 13 < 64) : Call g qX10_refreshPrices [.ref 0] M (fun v M' => v = none ∧ CF T p q M' ∧ PP T M' ∧ F60 M M') := by
  have hCB := h.1.1
  have hs := spq_p (cb_pq hCB)
  have hscr := cb_scr hCB
  obtain ⟨hSC, -, -⟩ := cb_tld hCB ht
  obtain ⟨hf, lf, pf, h1, h2, h3, h4, h5, h6⟩ := cf_fl h
  have K1 : pf = true → (fun v M' => v = none ∧ CF T p q M' ∧ PP T M' ∧ F60 M M') (none : Option Value) M := fun e => ⟨rfl, h, h6 e, F60.rf⟩
  have K2 : ∀ M1, PP T M1 → Sb [35] M M1 → (fun v M' => v = none ∧ CF T p q M' ∧ PP T M' ∧ F60 M M') (none : Option Value) (sI M1 0 15 (bI true)) := fun M1 e1 e2 => by
    have hCB1 : CB T p q M1 := cb_fr hCB (fun k hk => ⟨(e2 k (by simp; omega)).1, (e2 k (by simp; omega)).2.2⟩)
    have e0 : M1.1 0 = M.1 0 := (e2 0 (by decide)).1
    have hHP : PP T (sI M1 0 15 (bI true)) := fun i hi => by rw [sI_ne (by decide)]; exact e1 i hi
    refine ⟨rfl, cf_mk (hf := hf) (lf := lf) (pf := true) (cb_0 hCB1 (by decide)) (by rw [sI_o (by decide), e0]; exact h.2.1) (gr_sb (gr_sb h.2.2 e2 (by decide)) (Sb.i (S := [0]) (by decide)) (by decide)) (by rw [sI_o (by decide), e0]; exact h1) (by rw [sI_o (by decide), e0]; exact h2) sI_s (fun q => ?_) (fun q => ?_) (fun _ => hHP), hHP, (F60.s e2 (by decide)).i (by decide)⟩
    · unfold HP; rw [sI_ne (by decide), (e2 25 (by decide)).1]; exact h4 q
    · unfold LoP; rw [sI_ne (by decide), (e2 28 (by decide)).1]; exact h5 q
  refine Call_of (ls0 := [some (.ref 0)]) rfl rfl (Nat.le_of_ble_eq_true rfl) ?_
  refine E_aload_n dX10_refreshPrices_0 rfl ?_
  refine E_getI' (ci := 10) (j := 15) dX10_refreshPrices_1 fkX10_157 rfl (by decide) rfl (by decide) (h3) ?_
  refine E_if_neB (t := 30) dX10_refreshPrices_4 (by decide) (fun c4 => ?_) (fun c4 => ?_)
  · skip
    have key := K1 c4
    refine E_vret dX10_refreshPrices_30 rfl ?_
    exact key
  · skip
    refine E_aload_n dX10_refreshPrices_7 rfl ?_
    refine E_getR' (ci := 10) (j := 7) (p := 34) dX10_refreshPrices_8 fkX10_61 rfl (by decide) rfl (by decide) (rfl) ?_
    refine E_aload_n dX10_refreshPrices_11 rfl ?_
    refine E_getR' (ci := 10) (j := 3) (p := 9) dX10_refreshPrices_12 fkX10_33 rfl (by decide) rfl (by decide) (rfl) ?_
    refine E_aload_n dX10_refreshPrices_15 rfl ?_
    refine E_getM' (ci := 10) (j := 9) (p := p) dX10_refreshPrices_16 fkX10_75 rfl (by decide) rfl (by decide) (hscr) ?_
    refine E_getR' (ci := 8) (j := 2) (p := p+3) dX10_refreshPrices_19 fkX10_153 rfl (by decide) (kS hs) (by decide) ((srS hs) 2 (by decide)) ?_
    refine E_callV (r := qX5_learn) (ci := 5) dX10_refreshPrices_22 mkX10_347 voX5_learn rfl rfl rfl ⟨Nat.le_of_ble_eq_true rfl, Nat.le_of_ble_eq_true rfl, Nat.le_of_ble_eq_true rfl, Nat.le_of_ble_eq_true rfl⟩ (c_prices hT hB h.2.2 hSC) rfl (Nat.le_of_ble_eq_true rfl) ?_
    rintro _ M1 ⟨rfl, e1, e2⟩
    refine E_aload_n dX10_refreshPrices_25 rfl ?_
    refine E_iconst (v := nI 1) dX10_refreshPrices_26 rfl ?_
    refine E_putZ (ci := 10) (j := 15) dX10_refreshPrices_27 fkX10_157 rfl (by decide) rfl (by decide) (Or.inr rfl) ?_
    have key := K2 M1 e1 e2
    refine E_vret dX10_refreshPrices_30 rfl ?_
    exact key
theorem c_isStuck (h : CF T p q M) (ht : tlk T = true) (hT : WT T) (hB : T 61 13 < 64) {i : Nat} (hi : i < LTn T) : Call g qX10_isStuck [.ref 0, .int (nI i)] M (Rt (bI (stP T i)) M) := by
  have hCB := h.1.1
  have hs := spq_p (cb_pq hCB)
  have hscr := cb_scr hCB
  have hG := h.2.2
  obtain ⟨hSC, -, -⟩ := cb_tld hCB ht
  have hend : M.1 p 12 = nI (T 61 2) := sc_6 hSC (j := 2) (by decide)
  have hm : (mvA T (Qn T i)).length ≤ 32 := mvA_32 hT
  have k1 : 0 < (mvA T (Qn T i)).length → false = stP T i := fun e => by unfold stP; rw [decide_eq_false (by omega)]; rfl
  have k2 : (T 61 2).testBit (Qn T i / 64) = true → false = stP T i := fun e => by unfold stP; rw [e, Bool.not_true, Bool.and_false]
  have k3 : (mvA T (Qn T i)).length = 0 → (T 61 2).testBit (Qn T i / 64) = false → true = stP T i := fun e1 e2 => by unfold stP; rw [e1, e2]; rfl
  refine Call_of (ls0 := [some (.ref 0), some (.int (nI i))]) rfl rfl (Nat.le_of_ble_eq_true rfl) ?_
  refine E_aload_n dX10_isStuck_0 rfl ?_
  refine E_getR' (ci := 10) (j := 3) (p := 9) dX10_isStuck_1 fkX10_33 rfl (by decide) rfl (by decide) (rfl) ?_
  refine E_iload_n dX10_isStuck_4 rfl ?_
  refine E_callV (r := qX2_movesFrom) (ci := 2) dX10_isStuck_5 mkX10_350 voX2_movesFrom rfl rfl rfl ⟨Nat.le_of_ble_eq_true rfl, Nat.le_of_ble_eq_true rfl, Nat.le_of_ble_eq_true rfl, Nat.le_of_ble_eq_true rfl⟩ (c_movesFrom hT hB hG hi) rfl (Nat.le_of_ble_eq_true rfl) ?_
  rintro _ _ ⟨rfl, rfl⟩
  refine E_if_neN (t := 36) dX10_isStuck_8 (by decide) (by omega) (fun c8 => ?_) (fun c8 => ?_)
  · skip
    have key := k1 c8
    refine E_iconst (v := nI 0) dX10_isStuck_36 rfl ?_
    refine E_top (show nI 0 = bI false from rfl) ?_
    refine E_zret dX10_isStuck_37 rfl (bI_01 _) ?_
    exact Rt_b key
  · skip
    refine E_aload_n dX10_isStuck_11 rfl ?_
    refine E_getM' (ci := 10) (j := 9) (p := p) dX10_isStuck_12 fkX10_75 rfl (by decide) rfl (by decide) (hscr) ?_
    refine E_getI' (ci := 8) (j := 12) dX10_isStuck_15 fkX10_203 rfl (by decide) (kS hs) (by decide) (hend) ?_
    refine E_aload_n dX10_isStuck_18 rfl ?_
    refine E_getR' (ci := 10) (j := 3) (p := 9) dX10_isStuck_19 fkX10_33 rfl (by decide) rfl (by decide) (rfl) ?_
    refine E_iload_n dX10_isStuck_22 rfl ?_
    refine E_callV (r := qX2_lineAt) (ci := 2) dX10_isStuck_23 mkX10_265 voX2_lineAt rfl rfl rfl ⟨Nat.le_of_ble_eq_true rfl, Nat.le_of_ble_eq_true rfl, Nat.le_of_ble_eq_true rfl, Nat.le_of_ble_eq_true rfl⟩ (c_line hT hB hG hi) rfl (Nat.le_of_ble_eq_true rfl) ?_
    rintro _ _ ⟨rfl, rfl⟩
    refine E_callS (r := qX10_bit) dX10_isStuck_26 mkX10_135 toX10_bit rfl ⟨Nat.le_of_ble_eq_true rfl, Nat.le_of_ble_eq_true rfl, Nat.le_of_ble_eq_true rfl, Nat.le_of_ble_eq_true rfl⟩ (c_bit (by have := Qn_lt hT hB hi; omega)) rfl (Nat.le_of_ble_eq_true rfl) ?_
    rintro _ _ ⟨rfl, rfl⟩
    refine E_if_neB (t := 36) dX10_isStuck_29 (by decide) (fun c29 => ?_) (fun c29 => ?_)
    · skip
      have key := k2 c29
      refine E_iconst (v := nI 0) dX10_isStuck_36 rfl ?_
      refine E_top (show nI 0 = bI false from rfl) ?_
      refine E_zret dX10_isStuck_37 rfl (bI_01 _) ?_
      exact Rt_b key
    · skip
      have key := k3 c8 c29
      refine E_iconst (v := nI 1) dX10_isStuck_32 rfl ?_
      refine E_goto (t := 37) dX10_isStuck_33 (by decide) ?_
      refine E_top (show nI 1 = bI true from rfl) ?_
      refine E_zret dX10_isStuck_37 rfl (bI_01 _) ?_
      exact Rt_b key
theorem c_stuckStates (h : CF T p q M) (ht : tlk T = true) (hT : WT T) (hB : T 61 13 < 64) {l : Nat} (hl : l < 16) : Call g qX10_stuckStates [.ref 0, .int (nI l)] M (Rt (nI (cntN (fun i => (Qn T i / 64 == l) && stP T i) (LTn T))) M) := by
  have hG := h.2.2
  have hL := q_le hT hB
  have L : ∀ (n k : Nat), k ≤ LTn T → LTn T < k + n → Ex g qX10_stuckStates (tm g qX10_stuckStates (Rt (nI (cntN (fun i => (Qn T i / 64 == l) && stP T i) (LTn T))) M)) 4 [some (.ref 0), some (.int (nI l)), some (.int (nI (cntN (fun i => (Qn T i / 64 == l) && stP T i) k))), some (.int (nI k))] [] M := by
    intro n
    induction n with
    | zero => intro k h1 h2; exact absurd h2 (by omega)
    | succ n ih =>
      intro k hk hn
      have hq : k < LTn T → Qn T k / 64 < 16 := fun e => by have := Qn_lt hT hB e; omega
      have e1 : ¬ Qn T k / 64 = l → cntN (fun i => (Qn T i / 64 == l) && stP T i) (k + 1) = cntN (fun i => (Qn T i / 64 == l) && stP T i) k := fun e => cntN_f (by rw [beq_eq_false_iff_ne.mpr e]; rfl)
      have e2 : stP T k = false → cntN (fun i => (Qn T i / 64 == l) && stP T i) (k + 1) = cntN (fun i => (Qn T i / 64 == l) && stP T i) k := fun e => cntN_f (by rw [e, Bool.and_false])
      have e3 : Qn T k / 64 = l → stP T k = true → cntN (fun i => (Qn T i / 64 == l) && stP T i) (k + 1) = cntN (fun i => (Qn T i / 64 == l) && stP T i) k + 1 := fun e e' => cntN_t (by rw [beq_iff_eq.mpr e, e']; rfl)
      refine E_iload_n dX10_stuckStates_4 rfl ?_
      refine E_aload_n dX10_stuckStates_5 rfl ?_
      refine E_getR' (ci := 10) (j := 3) (p := 9) dX10_stuckStates_6 fkX10_33 rfl (by decide) rfl (by decide) (rfl) ?_
      refine E_getI' (ci := 2) (j := 11) dX10_stuckStates_9 fkX10_262 rfl (by decide) rfl (by decide) (gr_st hG) ?_
      refine E_icmp_geN (t := 44) dX10_stuckStates_12 (by decide) (by omega) (by omega) (fun c12 => ?_) (fun c12 => ?_)
      · skip
        refine E_iload_n dX10_stuckStates_44 rfl ?_
        refine E_iret dX10_stuckStates_45 rfl ?_
        obtain rfl : k = LTn T := by omega
        exact Rt_n rfl
      · skip
        refine E_aload_n dX10_stuckStates_15 rfl ?_
        refine E_getR' (ci := 10) (j := 3) (p := 9) dX10_stuckStates_16 fkX10_33 rfl (by decide) rfl (by decide) (rfl) ?_
        refine E_iload_n dX10_stuckStates_19 rfl ?_
        refine E_callV (r := qX2_lineAt) (ci := 2) dX10_stuckStates_20 mkX10_265 voX2_lineAt rfl rfl rfl ⟨Nat.le_of_ble_eq_true rfl, Nat.le_of_ble_eq_true rfl, Nat.le_of_ble_eq_true rfl, Nat.le_of_ble_eq_true rfl⟩ (c_line hT hB hG c12) rfl (Nat.le_of_ble_eq_true rfl) ?_
        rintro _ _ ⟨rfl, rfl⟩
        refine E_iload_n dX10_stuckStates_23 rfl ?_
        refine E_icmp_neN (t := 38) dX10_stuckStates_24 (by decide) (by have := hq c12; omega) (by omega) (fun c24 => ?_) (fun c24 => ?_)
        · skip
          have e4 := e1 c24
          refine E_iincN (b := 1) dX10_stuckStates_38 rfl rfl (by decide) rfl ?_
          refine E_goto (t := 4) dX10_stuckStates_41 (by decide) ?_
          rw [← e4]
          exact ih (k + 1) (by omega) (by omega)
        · skip
          refine E_aload_n dX10_stuckStates_27 rfl ?_
          refine E_iload_n dX10_stuckStates_28 rfl ?_
          refine E_callV (r := qX10_isStuck) (ci := 10) dX10_stuckStates_29 mkX10_353 voX10_isStuck rfl rfl rfl ⟨Nat.le_of_ble_eq_true rfl, Nat.le_of_ble_eq_true rfl, Nat.le_of_ble_eq_true rfl, Nat.le_of_ble_eq_true rfl⟩ (c_isStuck h ht hT hB c12) rfl (Nat.le_of_ble_eq_true rfl) ?_
          rintro _ _ ⟨rfl, rfl⟩
          refine E_if_eqB (t := 38) dX10_stuckStates_32 (by decide) (fun c32 => ?_) (fun c32 => ?_)
          · skip
            have e4 := e2 c32
            refine E_iincN (b := 1) dX10_stuckStates_38 rfl rfl (by decide) rfl ?_
            refine E_goto (t := 4) dX10_stuckStates_41 (by decide) ?_
            rw [← e4]
            exact ih (k + 1) (by omega) (by omega)
          · skip
            have e4 := e3 c24 c32
            refine E_iincN (b := 1) dX10_stuckStates_35 rfl rfl (by decide) rfl ?_
            refine E_iincN (b := 1) dX10_stuckStates_38 rfl rfl (by decide) rfl ?_
            refine E_goto (t := 4) dX10_stuckStates_41 (by decide) ?_
            rw [← e4]
            exact ih (k + 1) (by omega) (by omega)
  refine Call_of (ls0 := [some (.ref 0), some (.int (nI l)), none, none]) rfl rfl (Nat.le_of_ble_eq_true rfl) ?_
  refine E_iconst (v := nI 0) dX10_stuckStates_0 rfl ?_
  refine E_ist_n (i := 2) dX10_stuckStates_1 rfl (by decide) rfl ?_
  refine E_iconst (v := nI 0) dX10_stuckStates_2 rfl ?_
  refine E_ist_n (i := 3) dX10_stuckStates_3 rfl (by decide) rfl ?_
  exact L (LTn T + 1) 0 (Nat.zero_le _) (by omega)
theorem c_stuckLines (h : CF T p q M) (ht : tlk T = true) (hT : WT T) (hB : T 61 13 < 64) : Call g qX10_stuckLines [.ref 0] M (Rt (nI (orF (stP T) (fun i => 1 * 2 ^ (Qn T i / 64)) (LTn T))) M) := by
  have hG := h.2.2
  have hL := q_le hT hB
  have L : ∀ (n k : Nat), k ≤ LTn T → LTn T < k + n → Ex g qX10_stuckLines (tm g qX10_stuckLines (Rt (nI (orF (stP T) (fun i => 1 * 2 ^ (Qn T i / 64)) (LTn T))) M)) 4 [some (.ref 0), some (.int (nI (orF (stP T) (fun i => 1 * 2 ^ (Qn T i / 64)) k))), some (.int (nI k))] [] M := by
    intro n
    induction n with
    | zero => intro k h1 h2; exact absurd h2 (by omega)
    | succ n ih =>
      intro k hk hn
      have hq : k < LTn T → Qn T k / 64 < 16 := fun e => by have := Qn_lt hT hB e; omega
      have hsh : k < LTn T → 1 * 2 ^ (Qn T k / 64) < 2 ^ 32 := fun e => by have := p2_16 (hq e); omega
      have e2 : stP T k = false → orF (stP T) (fun i => 1 * 2 ^ (Qn T i / 64)) (k + 1) = orF (stP T) (fun i => 1 * 2 ^ (Qn T i / 64)) k := fun e => by rw [orF, if_neg (by rw [e]; decide)]
      have e3 : stP T k = true → orF (stP T) (fun i => 1 * 2 ^ (Qn T i / 64)) (k + 1) = orF (stP T) (fun i => 1 * 2 ^ (Qn T i / 64)) k ||| 1 * 2 ^ (Qn T k / 64) := fun e => by rw [orF, if_pos e]
      refine E_iload_n dX10_stuckLines_4 rfl ?_
      refine E_aload_n dX10_stuckLines_5 rfl ?_
      refine E_getR' (ci := 10) (j := 3) (p := 9) dX10_stuckLines_6 fkX10_33 rfl (by decide) rfl (by decide) (rfl) ?_
      refine E_getI' (ci := 2) (j := 11) dX10_stuckLines_9 fkX10_262 rfl (by decide) rfl (by decide) (gr_st hG) ?_
      refine E_icmp_geN (t := 42) dX10_stuckLines_12 (by decide) (by omega) (by omega) (fun c12 => ?_) (fun c12 => ?_)
      · skip
        refine E_iload_n dX10_stuckLines_42 rfl ?_
        refine E_iret dX10_stuckLines_43 rfl ?_
        obtain rfl : k = LTn T := by omega
        exact Rt_n rfl
      · skip
        refine E_aload_n dX10_stuckLines_15 rfl ?_
        refine E_iload_n dX10_stuckLines_16 rfl ?_
        refine E_callV (r := qX10_isStuck) (ci := 10) dX10_stuckLines_17 mkX10_353 voX10_isStuck rfl rfl rfl ⟨Nat.le_of_ble_eq_true rfl, Nat.le_of_ble_eq_true rfl, Nat.le_of_ble_eq_true rfl, Nat.le_of_ble_eq_true rfl⟩ (c_isStuck h ht hT hB c12) rfl (Nat.le_of_ble_eq_true rfl) ?_
        rintro _ _ ⟨rfl, rfl⟩
        refine E_if_eqB (t := 36) dX10_stuckLines_20 (by decide) (fun c20 => ?_) (fun c20 => ?_)
        · skip
          have e4 := e2 c20
          refine E_iincN (b := 1) dX10_stuckLines_36 rfl rfl (by decide) rfl ?_
          refine E_goto (t := 4) dX10_stuckLines_39 (by decide) ?_
          rw [← e4]
          exact ih (k + 1) (by omega) (by omega)
        · skip
          have e4 := e3 c20
          refine E_iload_n dX10_stuckLines_23 rfl ?_
          refine E_iconst (v := nI 1) dX10_stuckLines_24 rfl ?_
          refine E_aload_n dX10_stuckLines_25 rfl ?_
          refine E_getR' (ci := 10) (j := 3) (p := 9) dX10_stuckLines_26 fkX10_33 rfl (by decide) rfl (by decide) (rfl) ?_
          refine E_iload_n dX10_stuckLines_29 rfl ?_
          refine E_callV (r := qX2_lineAt) (ci := 2) dX10_stuckLines_30 mkX10_265 voX2_lineAt rfl rfl rfl ⟨Nat.le_of_ble_eq_true rfl, Nat.le_of_ble_eq_true rfl, Nat.le_of_ble_eq_true rfl, Nat.le_of_ble_eq_true rfl⟩ (c_line hT hB hG c12) rfl (Nat.le_of_ble_eq_true rfl) ?_
          rintro _ _ ⟨rfl, rfl⟩
          refine E_ishlN dX10_stuckLines_33 (by have := hq c12; omega) (hsh c12) ?_
          refine E_iorN dX10_stuckLines_34 ?_
          refine E_ist_n (i := 1) dX10_stuckLines_35 rfl (by decide) rfl ?_
          refine E_iincN (b := 1) dX10_stuckLines_36 rfl rfl (by decide) rfl ?_
          refine E_goto (t := 4) dX10_stuckLines_39 (by decide) ?_
          rw [← e4]
          exact ih (k + 1) (by omega) (by omega)
  refine Call_of (ls0 := [some (.ref 0), none, none]) rfl rfl (Nat.le_of_ble_eq_true rfl) ?_
  refine E_iconst (v := nI 0) dX10_stuckLines_0 rfl ?_
  refine E_ist_n (i := 1) dX10_stuckLines_1 rfl (by decide) rfl ?_
  refine E_iconst (v := nI 0) dX10_stuckLines_2 rfl ?_
  refine E_ist_n (i := 2) dX10_stuckLines_3 rfl (by decide) rfl ?_
  exact L (LTn T + 1) 0 (Nat.zero_le _) (by omega)
theorem c_lostStates (h : CF T p q M) (ht : tlk T = true) (hT : WT T) (hB : T 61 13 < 64) {l : Nat} (hl : l < 16) : Call g qX10_lostStates [.ref 0, .int (nI l)] M (RtC (nI (cntN (fun i => (Qn T i / 64 == l) && !canB T (Qn T i)) (LTn T))) T p q M) := by
  have hL := q_le hT hB
  have L : ∀ M1, CF T p q M1 → HP T M1 → F60 M M1 → ∀ (n k : Nat), k ≤ LTn T → LTn T < k + n → Ex g qX10_lostStates (tm g qX10_lostStates (RtC (nI (cntN (fun i => (Qn T i / 64 == l) && !canB T (Qn T i)) (LTn T))) T p q M)) 8 [some (.ref 0), some (.int (nI l)), some (.int (nI (cntN (fun i => (Qn T i / 64 == l) && !canB T (Qn T i)) k))), some (.int (nI k))] [] M1 := by
    intro M1 h1 hP hF n
    have hG := h1.2.2
    induction n with
    | zero => intro k h1 h2; exact absurd h2 (by omega)
    | succ n ih =>
      intro k hk hn
      have hq : k < LTn T → Qn T k / 64 < 16 := fun e => by have := Qn_lt hT hB e; omega
      have e1 : ¬ Qn T k / 64 = l → cntN (fun i => (Qn T i / 64 == l) && !canB T (Qn T i)) (k + 1) = cntN (fun i => (Qn T i / 64 == l) && !canB T (Qn T i)) k := fun e => cntN_f (by rw [beq_eq_false_iff_ne.mpr e]; rfl)
      have e2 : canB T (Qn T k) = true → cntN (fun i => (Qn T i / 64 == l) && !canB T (Qn T i)) (k + 1) = cntN (fun i => (Qn T i / 64 == l) && !canB T (Qn T i)) k := fun e => cntN_f (by rw [e, Bool.not_true, Bool.and_false])
      have e3 : Qn T k / 64 = l → canB T (Qn T k) = false → cntN (fun i => (Qn T i / 64 == l) && !canB T (Qn T i)) (k + 1) = cntN (fun i => (Qn T i / 64 == l) && !canB T (Qn T i)) k + 1 := fun e e' => cntN_t (by rw [beq_iff_eq.mpr e, e']; rfl)
      refine E_iload_n dX10_lostStates_8 rfl ?_
      refine E_aload_n dX10_lostStates_9 rfl ?_
      refine E_getR' (ci := 10) (j := 3) (p := 9) dX10_lostStates_10 fkX10_33 rfl (by decide) rfl (by decide) (rfl) ?_
      refine E_getI' (ci := 2) (j := 11) dX10_lostStates_13 fkX10_262 rfl (by decide) rfl (by decide) (gr_st hG) ?_
      refine E_icmp_geN (t := 52) dX10_lostStates_16 (by decide) (by omega) (by omega) (fun c16 => ?_) (fun c16 => ?_)
      · skip
        refine E_iload_n dX10_lostStates_52 rfl ?_
        refine E_iret dX10_lostStates_53 rfl ?_
        obtain rfl : k = LTn T := by omega
        exact rtc rfl h1.1 hF
      · skip
        refine E_aload_n dX10_lostStates_19 rfl ?_
        refine E_getR' (ci := 10) (j := 3) (p := 9) dX10_lostStates_20 fkX10_33 rfl (by decide) rfl (by decide) (rfl) ?_
        refine E_iload_n dX10_lostStates_23 rfl ?_
        refine E_callV (r := qX2_lineAt) (ci := 2) dX10_lostStates_24 mkX10_265 voX2_lineAt rfl rfl rfl ⟨Nat.le_of_ble_eq_true rfl, Nat.le_of_ble_eq_true rfl, Nat.le_of_ble_eq_true rfl, Nat.le_of_ble_eq_true rfl⟩ (c_line hT hB hG c16) rfl (Nat.le_of_ble_eq_true rfl) ?_
        rintro _ _ ⟨rfl, rfl⟩
        refine E_iload_n dX10_lostStates_27 rfl ?_
        refine E_icmp_neN (t := 46) dX10_lostStates_28 (by decide) (by have := hq c16; omega) (by omega) (fun c28 => ?_) (fun c28 => ?_)
        · skip
          have e4 := e1 c28
          refine E_iincN (b := 1) dX10_lostStates_46 rfl rfl (by decide) rfl ?_
          refine E_goto (t := 8) dX10_lostStates_49 (by decide) ?_
          rw [← e4]
          exact ih (k + 1) (by omega) (by omega)
        · skip
          refine E_aload_n dX10_lostStates_31 rfl ?_
          refine E_getR' (ci := 10) (j := 5) (p := 24) dX10_lostStates_32 fkX10_47 rfl (by decide) rfl (by decide) (rfl) ?_
          refine E_getR' (ci := 3) (j := 0) (p := 25) dX10_lostStates_35 fkX10_359 rfl (by decide) rfl (by decide) (rfl) ?_
          refine E_iload_n dX10_lostStates_38 rfl ?_
          refine E_zaldN dX10_lostStates_39 rfl (by omega) (by decide) (hP k c16) ?_
          refine E_if_neB (t := 46) dX10_lostStates_40 (by decide) (fun c40 => ?_) (fun c40 => ?_)
          · skip
            have e4 := e2 c40
            refine E_iincN (b := 1) dX10_lostStates_46 rfl rfl (by decide) rfl ?_
            refine E_goto (t := 8) dX10_lostStates_49 (by decide) ?_
            rw [← e4]
            exact ih (k + 1) (by omega) (by omega)
          · skip
            have e4 := e3 c28 c40
            refine E_iincN (b := 1) dX10_lostStates_43 rfl rfl (by decide) rfl ?_
            refine E_iincN (b := 1) dX10_lostStates_46 rfl rfl (by decide) rfl ?_
            refine E_goto (t := 8) dX10_lostStates_49 (by decide) ?_
            rw [← e4]
            exact ih (k + 1) (by omega) (by omega)
  refine Call_of (ls0 := [some (.ref 0), some (.int (nI l)), none, none]) rfl rfl (Nat.le_of_ble_eq_true rfl) ?_
  refine E_aload_n dX10_lostStates_0 rfl ?_
  refine E_callV (r := qX10_refreshHopes) (ci := 10) dX10_lostStates_1 mkX10_356 voX10_refreshHopes rfl rfl rfl ⟨Nat.le_of_ble_eq_true rfl, Nat.le_of_ble_eq_true rfl, Nat.le_of_ble_eq_true rfl, Nat.le_of_ble_eq_true rfl⟩ (c_refreshHopes h ht hT hB) rfl (Nat.le_of_ble_eq_true rfl) ?_
  rintro _ M1 ⟨rfl, g1, g2, g3⟩
  refine E_iconst (v := nI 0) dX10_lostStates_4 rfl ?_
  refine E_ist_n (i := 2) dX10_lostStates_5 rfl (by decide) rfl ?_
  refine E_iconst (v := nI 0) dX10_lostStates_6 rfl ?_
  refine E_ist_n (i := 3) dX10_lostStates_7 rfl (by decide) rfl ?_
  exact L M1 g1 g2 g3 (LTn T + 1) 0 (Nat.zero_le _) (by omega)
theorem c_lostLines (h : CF T p q M) (ht : tlk T = true) (hT : WT T) (hB : T 61 13 < 64) : Call g qX10_lostLines [.ref 0] M (RtC (nI (orF (fun i => !canB T (Qn T i)) (fun i => 1 * 2 ^ (Qn T i / 64)) (LTn T))) T p q M) := by
  have hL := q_le hT hB
  have L : ∀ M1, CF T p q M1 → HP T M1 → F60 M M1 → ∀ (n k : Nat), k ≤ LTn T → LTn T < k + n → Ex g qX10_lostLines (tm g qX10_lostLines (RtC (nI (orF (fun i => !canB T (Qn T i)) (fun i => 1 * 2 ^ (Qn T i / 64)) (LTn T))) T p q M)) 8 [some (.ref 0), some (.int (nI (orF (fun i => !canB T (Qn T i)) (fun i => 1 * 2 ^ (Qn T i / 64)) k))), some (.int (nI k))] [] M1 := by
    intro M1 h1 hP hF n
    have hG := h1.2.2
    induction n with
    | zero => intro k h1 h2; exact absurd h2 (by omega)
    | succ n ih =>
      intro k hk hn
      have hq : k < LTn T → Qn T k / 64 < 16 := fun e => by have := Qn_lt hT hB e; omega
      have hsh : k < LTn T → 1 * 2 ^ (Qn T k / 64) < 2 ^ 32 := fun e => by have := p2_16 (hq e); omega
      have e2 : canB T (Qn T k) = true → orF (fun i => !canB T (Qn T i)) (fun i => 1 * 2 ^ (Qn T i / 64)) (k + 1) = orF (fun i => !canB T (Qn T i)) (fun i => 1 * 2 ^ (Qn T i / 64)) k := fun e => by rw [orF, if_neg (by rw [e]; decide)]
      have e3 : canB T (Qn T k) = false → orF (fun i => !canB T (Qn T i)) (fun i => 1 * 2 ^ (Qn T i / 64)) (k + 1) = orF (fun i => !canB T (Qn T i)) (fun i => 1 * 2 ^ (Qn T i / 64)) k ||| 1 * 2 ^ (Qn T k / 64) := fun e => by rw [orF, if_pos (by rw [e]; rfl)]
      refine E_iload_n dX10_lostLines_8 rfl ?_
      refine E_aload_n dX10_lostLines_9 rfl ?_
      refine E_getR' (ci := 10) (j := 3) (p := 9) dX10_lostLines_10 fkX10_33 rfl (by decide) rfl (by decide) (rfl) ?_
      refine E_getI' (ci := 2) (j := 11) dX10_lostLines_13 fkX10_262 rfl (by decide) rfl (by decide) (gr_st hG) ?_
      refine E_icmp_geN (t := 50) dX10_lostLines_16 (by decide) (by omega) (by omega) (fun c16 => ?_) (fun c16 => ?_)
      · skip
        refine E_iload_n dX10_lostLines_50 rfl ?_
        refine E_iret dX10_lostLines_51 rfl ?_
        obtain rfl : k = LTn T := by omega
        exact rtc rfl h1.1 hF
      · skip
        refine E_aload_n dX10_lostLines_19 rfl ?_
        refine E_getR' (ci := 10) (j := 5) (p := 24) dX10_lostLines_20 fkX10_47 rfl (by decide) rfl (by decide) (rfl) ?_
        refine E_getR' (ci := 3) (j := 0) (p := 25) dX10_lostLines_23 fkX10_359 rfl (by decide) rfl (by decide) (rfl) ?_
        refine E_iload_n dX10_lostLines_26 rfl ?_
        refine E_zaldN dX10_lostLines_27 rfl (by omega) (by decide) (hP k c16) ?_
        refine E_if_neB (t := 44) dX10_lostLines_28 (by decide) (fun c28 => ?_) (fun c28 => ?_)
        · skip
          have e4 := e2 c28
          refine E_iincN (b := 1) dX10_lostLines_44 rfl rfl (by decide) rfl ?_
          refine E_goto (t := 8) dX10_lostLines_47 (by decide) ?_
          rw [← e4]
          exact ih (k + 1) (by omega) (by omega)
        · skip
          have e4 := e3 c28
          refine E_iload_n dX10_lostLines_31 rfl ?_
          refine E_iconst (v := nI 1) dX10_lostLines_32 rfl ?_
          refine E_aload_n dX10_lostLines_33 rfl ?_
          refine E_getR' (ci := 10) (j := 3) (p := 9) dX10_lostLines_34 fkX10_33 rfl (by decide) rfl (by decide) (rfl) ?_
          refine E_iload_n dX10_lostLines_37 rfl ?_
          refine E_callV (r := qX2_lineAt) (ci := 2) dX10_lostLines_38 mkX10_265 voX2_lineAt rfl rfl rfl ⟨Nat.le_of_ble_eq_true rfl, Nat.le_of_ble_eq_true rfl, Nat.le_of_ble_eq_true rfl, Nat.le_of_ble_eq_true rfl⟩ (c_line hT hB hG c16) rfl (Nat.le_of_ble_eq_true rfl) ?_
          rintro _ _ ⟨rfl, rfl⟩
          refine E_ishlN dX10_lostLines_41 (by have := hq c16; omega) (hsh c16) ?_
          refine E_iorN dX10_lostLines_42 ?_
          refine E_ist_n (i := 1) dX10_lostLines_43 rfl (by decide) rfl ?_
          refine E_iincN (b := 1) dX10_lostLines_44 rfl rfl (by decide) rfl ?_
          refine E_goto (t := 8) dX10_lostLines_47 (by decide) ?_
          rw [← e4]
          exact ih (k + 1) (by omega) (by omega)
  refine Call_of (ls0 := [some (.ref 0), none, none]) rfl rfl (Nat.le_of_ble_eq_true rfl) ?_
  refine E_aload_n dX10_lostLines_0 rfl ?_
  refine E_callV (r := qX10_refreshHopes) (ci := 10) dX10_lostLines_1 mkX10_356 voX10_refreshHopes rfl rfl rfl ⟨Nat.le_of_ble_eq_true rfl, Nat.le_of_ble_eq_true rfl, Nat.le_of_ble_eq_true rfl, Nat.le_of_ble_eq_true rfl⟩ (c_refreshHopes h ht hT hB) rfl (Nat.le_of_ble_eq_true rfl) ?_
  rintro _ M1 ⟨rfl, g1, g2, g3⟩
  refine E_iconst (v := nI 0) dX10_lostLines_4 rfl ?_
  refine E_ist_n (i := 1) dX10_lostLines_5 rfl (by decide) rfl ?_
  refine E_iconst (v := nI 0) dX10_lostLines_6 rfl ?_
  refine E_ist_n (i := 2) dX10_lostLines_7 rfl (by decide) rfl ?_
  exact L M1 g1 g2 g3 (LTn T + 1) 0 (Nat.zero_le _) (by omega)
theorem lo_b (hT : WT T) (hB : T 61 13 < 64) (h : LoP T M) {i : Nat} (hi : i < LTn T) : M.1 28 i = bI (lpS T (Qn T i)).isSome := by
  obtain ⟨b, h1, h2⟩ := h i hi
  rw [h1]
  congr 1
  rw [Bool.eq_iff_iff, h2, onC_lp hT hB hi]
  cases lpS T (Qn T i) <;> simp
theorem c_loopingLines (h : CF T p q M) (ht : tlk T = true) (hT : WT T) (hB : T 61 13 < 64) : Call g qX10_loopingLines [.ref 0] M (RtC (nI (orF (fun i => (lpS T (Qn T i)).isSome) (fun i => 1 * 2 ^ (Qn T i / 64)) (LTn T))) T p q M) := by
  have hL := q_le hT hB
  have L : ∀ M1, CF T p q M1 → LoP T M1 → F60 M M1 → ∀ (n k : Nat), k ≤ LTn T → LTn T < k + n → Ex g qX10_loopingLines (tm g qX10_loopingLines (RtC (nI (orF (fun i => (lpS T (Qn T i)).isSome) (fun i => 1 * 2 ^ (Qn T i / 64)) (LTn T))) T p q M)) 8 [some (.ref 0), some (.int (nI (orF (fun i => (lpS T (Qn T i)).isSome) (fun i => 1 * 2 ^ (Qn T i / 64)) k))), some (.int (nI k))] [] M1 := by
    intro M1 h1 hP hF n
    have hG := h1.2.2
    induction n with
    | zero => intro k h1 h2; exact absurd h2 (by omega)
    | succ n ih =>
      intro k hk hn
      have hq : k < LTn T → Qn T k / 64 < 16 := fun e => by have := Qn_lt hT hB e; omega
      have hsh : k < LTn T → 1 * 2 ^ (Qn T k / 64) < 2 ^ 32 := fun e => by have := p2_16 (hq e); omega
      have e2 : (lpS T (Qn T k)).isSome = false → orF (fun i => (lpS T (Qn T i)).isSome) (fun i => 1 * 2 ^ (Qn T i / 64)) (k + 1) = orF (fun i => (lpS T (Qn T i)).isSome) (fun i => 1 * 2 ^ (Qn T i / 64)) k := fun e => by rw [orF, if_neg (by rw [e]; decide)]
      have e3 : (lpS T (Qn T k)).isSome = true → orF (fun i => (lpS T (Qn T i)).isSome) (fun i => 1 * 2 ^ (Qn T i / 64)) (k + 1) = orF (fun i => (lpS T (Qn T i)).isSome) (fun i => 1 * 2 ^ (Qn T i / 64)) k ||| 1 * 2 ^ (Qn T k / 64) := fun e => by rw [orF, if_pos e]
      refine E_iload_n dX10_loopingLines_8 rfl ?_
      refine E_aload_n dX10_loopingLines_9 rfl ?_
      refine E_getR' (ci := 10) (j := 3) (p := 9) dX10_loopingLines_10 fkX10_33 rfl (by decide) rfl (by decide) (rfl) ?_
      refine E_getI' (ci := 2) (j := 11) dX10_loopingLines_13 fkX10_262 rfl (by decide) rfl (by decide) (gr_st hG) ?_
      refine E_icmp_geN (t := 50) dX10_loopingLines_16 (by decide) (by omega) (by omega) (fun c16 => ?_) (fun c16 => ?_)
      · skip
        refine E_iload_n dX10_loopingLines_50 rfl ?_
        refine E_iret dX10_loopingLines_51 rfl ?_
        obtain rfl : k = LTn T := by omega
        exact rtc rfl h1.1 hF
      · skip
        refine E_aload_n dX10_loopingLines_19 rfl ?_
        refine E_getR' (ci := 10) (j := 6) (p := 27) dX10_loopingLines_20 fkX10_54 rfl (by decide) rfl (by decide) (rfl) ?_
        refine E_getR' (ci := 4) (j := 0) (p := 28) dX10_loopingLines_23 fkX10_268 rfl (by decide) rfl (by decide) (rfl) ?_
        refine E_iload_n dX10_loopingLines_26 rfl ?_
        refine E_zaldN dX10_loopingLines_27 rfl (by omega) (by decide) (lo_b hT hB hP c16) ?_
        refine E_if_eqB (t := 44) dX10_loopingLines_28 (by decide) (fun c28 => ?_) (fun c28 => ?_)
        · skip
          have e4 := e2 c28
          refine E_iincN (b := 1) dX10_loopingLines_44 rfl rfl (by decide) rfl ?_
          refine E_goto (t := 8) dX10_loopingLines_47 (by decide) ?_
          rw [← e4]
          exact ih (k + 1) (by omega) (by omega)
        · skip
          have e4 := e3 c28
          refine E_iload_n dX10_loopingLines_31 rfl ?_
          refine E_iconst (v := nI 1) dX10_loopingLines_32 rfl ?_
          refine E_aload_n dX10_loopingLines_33 rfl ?_
          refine E_getR' (ci := 10) (j := 3) (p := 9) dX10_loopingLines_34 fkX10_33 rfl (by decide) rfl (by decide) (rfl) ?_
          refine E_iload_n dX10_loopingLines_37 rfl ?_
          refine E_callV (r := qX2_lineAt) (ci := 2) dX10_loopingLines_38 mkX10_265 voX2_lineAt rfl rfl rfl ⟨Nat.le_of_ble_eq_true rfl, Nat.le_of_ble_eq_true rfl, Nat.le_of_ble_eq_true rfl, Nat.le_of_ble_eq_true rfl⟩ (c_line hT hB hG c16) rfl (Nat.le_of_ble_eq_true rfl) ?_
          rintro _ _ ⟨rfl, rfl⟩
          refine E_ishlN dX10_loopingLines_41 (by have := hq c16; omega) (hsh c16) ?_
          refine E_iorN dX10_loopingLines_42 ?_
          refine E_ist_n (i := 1) dX10_loopingLines_43 rfl (by decide) rfl ?_
          refine E_iincN (b := 1) dX10_loopingLines_44 rfl rfl (by decide) rfl ?_
          refine E_goto (t := 8) dX10_loopingLines_47 (by decide) ?_
          rw [← e4]
          exact ih (k + 1) (by omega) (by omega)
  refine Call_of (ls0 := [some (.ref 0), none, none]) rfl rfl (Nat.le_of_ble_eq_true rfl) ?_
  refine E_aload_n dX10_loopingLines_0 rfl ?_
  refine E_callV (r := qX10_refreshLoops) (ci := 10) dX10_loopingLines_1 mkX10_259 voX10_refreshLoops rfl rfl rfl ⟨Nat.le_of_ble_eq_true rfl, Nat.le_of_ble_eq_true rfl, Nat.le_of_ble_eq_true rfl, Nat.le_of_ble_eq_true rfl⟩ (c_refreshLoops h hT hB) rfl (Nat.le_of_ble_eq_true rfl) ?_
  rintro _ M1 ⟨rfl, g1, g2, g3⟩
  refine E_iconst (v := nI 0) dX10_loopingLines_4 rfl ?_
  refine E_ist_n (i := 1) dX10_loopingLines_5 rfl (by decide) rfl ?_
  refine E_iconst (v := nI 0) dX10_loopingLines_6 rfl ?_
  refine E_ist_n (i := 2) dX10_loopingLines_7 rfl (by decide) rfl ?_
  exact L M1 g1 g2 g3 (LTn T + 1) 0 (Nat.zero_le _) (by omega)
theorem c_statesAtEndings (h : CF T p q M) (ht : tlk T = true) (hT : WT T) (hB : T 61 13 < 64) : Call g qX10_statesAtEndings [.ref 0] M (Rt (nI (cntN (fun i => (T 61 2).testBit (Qn T i / 64)) (LTn T))) M) := by
  have hCB := h.1.1
  have hs := spq_p (cb_pq hCB)
  have hscr := cb_scr hCB
  have hG := h.2.2
  have hL := q_le hT hB
  obtain ⟨hSC, -, -⟩ := cb_tld hCB ht
  have hend : M.1 p 12 = nI (T 61 2) := sc_6 hSC (j := 2) (by decide)
  have L : ∀ (n k : Nat), k ≤ LTn T → LTn T < k + n → Ex g qX10_statesAtEndings (tm g qX10_statesAtEndings (Rt (nI (cntN (fun i => (T 61 2).testBit (Qn T i / 64)) (LTn T))) M)) 4 [some (.ref 0), some (.int (nI (cntN (fun i => (T 61 2).testBit (Qn T i / 64)) k))), some (.int (nI k))] [] M := by
    intro n
    induction n with
    | zero => intro k h1 h2; exact absurd h2 (by omega)
    | succ n ih =>
      intro k hk hn
      refine E_iload_n dX10_statesAtEndings_4 rfl ?_
      refine E_aload_n dX10_statesAtEndings_5 rfl ?_
      refine E_getR' (ci := 10) (j := 3) (p := 9) dX10_statesAtEndings_6 fkX10_33 rfl (by decide) rfl (by decide) (rfl) ?_
      refine E_getI' (ci := 2) (j := 11) dX10_statesAtEndings_9 fkX10_262 rfl (by decide) rfl (by decide) (gr_st hG) ?_
      refine E_icmp_geN (t := 42) dX10_statesAtEndings_12 (by decide) (by omega) (by omega) (fun c12 => ?_) (fun c12 => ?_)
      · skip
        refine E_iload_n dX10_statesAtEndings_42 rfl ?_
        refine E_iret dX10_statesAtEndings_43 rfl ?_
        obtain rfl : k = LTn T := by omega
        exact Rt_n rfl
      · skip
        refine E_iload_n dX10_statesAtEndings_15 rfl ?_
        refine E_aload_n dX10_statesAtEndings_16 rfl ?_
        refine E_getM' (ci := 10) (j := 9) (p := p) dX10_statesAtEndings_17 fkX10_75 rfl (by decide) rfl (by decide) (hscr) ?_
        refine E_getI' (ci := 8) (j := 12) dX10_statesAtEndings_20 fkX10_203 rfl (by decide) (kS hs) (by decide) (hend) ?_
        refine E_aload_n dX10_statesAtEndings_23 rfl ?_
        refine E_getR' (ci := 10) (j := 3) (p := 9) dX10_statesAtEndings_24 fkX10_33 rfl (by decide) rfl (by decide) (rfl) ?_
        refine E_iload_n dX10_statesAtEndings_27 rfl ?_
        refine E_callV (r := qX2_lineAt) (ci := 2) dX10_statesAtEndings_28 mkX10_265 voX2_lineAt rfl rfl rfl ⟨Nat.le_of_ble_eq_true rfl, Nat.le_of_ble_eq_true rfl, Nat.le_of_ble_eq_true rfl, Nat.le_of_ble_eq_true rfl⟩ (c_line hT hB hG c12) rfl (Nat.le_of_ble_eq_true rfl) ?_
        rintro _ _ ⟨rfl, rfl⟩
        refine E_callS (r := qX10_bit) dX10_statesAtEndings_31 mkX10_135 toX10_bit rfl ⟨Nat.le_of_ble_eq_true rfl, Nat.le_of_ble_eq_true rfl, Nat.le_of_ble_eq_true rfl, Nat.le_of_ble_eq_true rfl⟩ (c_bit (by have := Qn_lt hT hB c12; omega)) rfl (Nat.le_of_ble_eq_true rfl) ?_
        rintro _ _ ⟨rfl, rfl⟩
        refine E_top (bI_nI _) ?_
        refine E_iaddN dX10_statesAtEndings_34 ?_
        refine E_ist_n (i := 1) dX10_statesAtEndings_35 rfl (by decide) rfl ?_
        refine E_iincN (b := 1) dX10_statesAtEndings_36 rfl rfl (by decide) rfl ?_
        refine E_goto (t := 4) dX10_statesAtEndings_39 (by decide) ?_
        exact ih (k + 1) (by omega) (by omega)
  refine Call_of (ls0 := [some (.ref 0), none, none]) rfl rfl (Nat.le_of_ble_eq_true rfl) ?_
  refine E_iconst (v := nI 0) dX10_statesAtEndings_0 rfl ?_
  refine E_ist_n (i := 1) dX10_statesAtEndings_1 rfl (by decide) rfl ?_
  refine E_iconst (v := nI 0) dX10_statesAtEndings_2 rfl ?_
  refine E_ist_n (i := 2) dX10_statesAtEndings_3 rfl (by decide) rfl ?_
  exact L (LTn T + 1) 0 (Nat.zero_le _) (by omega)
end CX3
