-- the class's public methods: talk
section PU8
variable {g : GG} {M : AM} {T : TK} {p q : Nat}
theorem nI_m1 {n : Nat} (hn : n < 2 ^ 31) : ¬ nI n = -1 := fun e => by
  have h1 := congrArg Int32.toInt e
  have h2 : (-1 : Int32).toInt = -1 := by decide
  rw [nI_toInt hn, h2] at h1
  omega
theorem spl_le {p k : Nat} (h : k ∈ SpL p) : p ≤ k ∧ k ≤ p + 10 := by
  unfold SpL at h
  simp only [List.mem_cons, List.not_mem_nil, or_false] at h
  omega
/-- a script as read, its cut set empty -/
theorem sc_new {P : TK} (hB : SB P q M) (h14 : M.1 q 14 = nI 0) : SC (nxTalkG T P) q M := by
  refine ⟨hB.1, fun k j hd => ?_, wt_tg hB.2.2.1, 0, h14, by decide, fun i => ?_⟩
  · have hd2 : dom P k j := by
      unfold dom at *
      rw [tg_4 (by decide), show nxTalkG T P 65 = P 65 from funext (fun j => tg_k (by decide))] at hd
      exact hd
    obtain ⟨e1, e2, e3⟩ := hB.2.1 k j hd2
    refine ⟨e1, e2, ?_⟩
    rw [e3]
    by_cases e : k = 61
    · subst e
      rcases hd2 with z | z | z
      · rw [tg_4 z.2]
      · omega
      · omega
    · rw [tg_k (by omega)]
  · rw [Nat.zero_testBit, tg_70]
    exact (Bool.and_false _).symm
set_option maxRecDepth 8000 in
theorem c_talk (hM : MS T M) (hC : CX T p q M) : Call g qX10_talk [.ref 0] M (RtY (mrTalk T) (nxTalk T) M) := by
  have hT := rm_wt hM.1
  have hB := ms_B hM
  have hpq := cb_pq hC.1
  have hs := spq_p hpq
  have hq := spq_q hpq
  have hpn := sp_39 hs
  have hqn := sp_39 hq
  have hdis : ∀ k, p ≤ k → k ≤ p + 10 → ¬ k ∈ (1 :: SpL q) := fun k q1 q2 h => by
    rcases List.mem_cons.mp h with z | z
    · omega
    · have := spl_le z
      rcases hpq with ⟨a, b⟩ | ⟨a, b⟩ <;> omega
  have hout : ∀ k, k < 39 → k ≠ 1 → ¬ k ∈ (1 :: SpL q) := fun k q1 q2 h => by
    rcases List.mem_cons.mp h with z | z
    · exact q2 z
    · have := spl_le z; omega
  have hscr := cb_scr hC.1
  have hspa := cb_spa hC.1
  have hX := hM.2.2.2.2
  have hTX : TX T := ⟨hX.2.1, fun i hi => (hX.2.2.1 i hi).2⟩
  have cR : Call g qX6_readInto [.ref 1, .ref q] M (RdQ T q M) := c_readInto hq hTX (cb_siz hC.1) (cb_let hC.1)
  have h60 : ∀ M1, Sb (1 :: SpL q) M M1 → F60 M M1 := fun M1 hS => F60.s hS (fun c hc => by
    rcases List.mem_cons.mp hc with z | z
    · omega
    · have := spl_le z; omega)
  by_cases hok : (prs T).1 = 0
  · have KG : ∀ M1, RdQ T q M (some (.int (-1))) M1 → RtY (mrTalk T) (nxTalk T) M (some (.int (nI ((prs T).2.2 61 0)))) (sI (sI (sI (sI (sI (sR (sR M1 0 9 q) 0 10 p) 0 11 (bI true)) 5 3 (nI 0)) 3 2 (nI 0)) 3 1 (nI 0)) 0 12 (bI false)) := fun M1 hR => by
      obtain ⟨-, r1, r2, r3, r4, r5⟩ := hR
      obtain ⟨hSB, hSL⟩ := r3 hok
      obtain ⟨hNL, hne0⟩ := nl_prs hok
      rw [hok] at r2
      have hne : ∀ k, k ≠ 0 → k ≠ 3 → k ≠ 5 → (sI (sI (sI (sI (sI (sR (sR M1 0 9 q) 0 10 p) 0 11 (bI true)) 5 3 (nI 0)) 3 2 (nI 0)) 3 1 (nI 0)) 0 12 (bI false)).1 k = M1.1 k := fun k z0 z3 z5 => by
        rw [sI_ne z0, sI_ne z3, sI_ne z3, sI_ne z5, sI_ne z0]; rfl
      have e0 : M1.1 0 = M.1 0 := (r5 0 (hout 0 (by decide) (by decide))).1
      have e36 : M1.2.2 36 = M.2.2 36 := (r5 36 (hout 36 (by decide) (by decide))).2.2
      have htk : tlk (nxTalkG T (prs T).2.2) = true := by
        unfold tlk
        rw [tg_4 (by decide), beq_eq_false_iff_ne.mpr hne0]; rfl
      have hFG := hC.2
      refine rty (by unfold mrTalk; rw [if_pos hok]) (show nxTalkG T (prs T).2.2 = _ by unfold nxTalk; rw [if_pos hok]) (p := q) (q := p) ⟨⟨spq_s hpq, ?_, ?_, ?_, ⟨?_, fun i hi => ?_, ?_⟩, ⟨?_, ?_, ?_, ?_, fun i hi => ?_⟩, ⟨?_, ?_, fun i hi => ?_⟩, ?_, fun _ => ⟨sc_fr (sc_new hSB r4) (fun k z1 z2 => hne k (by omega) (by omega) (by omega)), sl_ag (sl_fr hSL (hne _ (by omega) (by omega) (by omega)) (hne _ (by omega) (by omega) (by omega))) (tg_4 (by decide)) (funext (fun j => tg_k (by decide))), nl_ag hNL (tg_4 (by decide)) (tg_4 (by decide)) (tg_4 (by decide)) (fun a => tg_k (by decide))⟩, fun e => ?_⟩, fg_st hFG sI_s ?_ ?_ ?_⟩ ((((((((h60 M1 r5).r (by decide)).r (by decide)).i (by decide)).i (by decide)).i (by decide)).i (by decide)).i (by decide))
      · show (sR (sR M1 0 9 q) 0 10 p).2.2 0 9 = q
        rw [sR_get, if_neg (by decide), sR_get, if_pos ⟨rfl, rfl⟩]
      · show (sR (sR M1 0 9 q) 0 10 p).2.2 0 10 = p
        rw [sR_get, if_pos ⟨rfl, rfl⟩]
      · rw [htk, sI_o (by decide), sI_ne (by decide), sI_ne (by decide), sI_ne (by decide), sI_s]
      · rw [hne 1 (by decide) (by decide) (by decide), tg_0 (by decide)]; exact r1
      · rw [tg_0 (by decide)] at hi; exact absurd hi (Nat.not_lt_zero i)
      · rw [hne 1 (by decide) (by decide) (by decide), tg_0 (by decide)]; exact r2
      · rw [sI_ne (by decide), sI_s, tg_0 (by decide)]
      · rw [tg_0 (by decide)]; decide
      · rw [sI_ne (by decide), sI_o (by decide), sI_s, tg_0 (by decide)]
      · rw [tg_0 (by decide)]; decide
      · rw [tg_0 (by decide)] at hi; exact absurd hi (Nat.not_lt_zero i)
      · rw [sI_ne (by decide), sI_ne (by decide), sI_ne (by decide), sI_s, tg_0 (by decide)]
      · rw [tg_0 (by decide)]; decide
      · rw [tg_0 (by decide)] at hi; exact absurd hi (Nat.not_lt_zero i)
      · show ∃ a b, Rab a b ∧ (sR (sR M1 0 9 q) 0 10 p).2.2 36 0 = a ∧ (sR (sR M1 0 9 q) 0 10 p).2.2 36 1 = b
        rw [sR_ne (by decide), sR_ne (by decide), e36]
        exact cb_row hC.1
      · rw [htk] at e; cases e
      · rw [sI_o (by decide), sI_ne (by decide), sI_ne (by decide), sI_ne (by decide), sI_o (by decide)]
        show M1.1 0 13 = _
        rw [e0]
      · rw [sI_o (by decide), sI_ne (by decide), sI_ne (by decide), sI_ne (by decide), sI_o (by decide)]
        show M1.1 0 14 = _
        rw [e0]
      · rw [sI_o (by decide), sI_ne (by decide), sI_ne (by decide), sI_ne (by decide), sI_o (by decide)]
        show M1.1 0 15 = _
        rw [e0]
    have hans : ∀ M1, RdQ T q M (some (.int (-1))) M1 → (sI (sI (sI (sI (sI (sR (sR M1 0 9 q) 0 10 p) 0 11 (bI true)) 5 3 (nI 0)) 3 2 (nI 0)) 3 1 (nI 0)) 0 12 (bI false)).1 q 10 = nI ((prs T).2.2 61 0) := fun M1 hR => by
      obtain ⟨-, r1, r2, r3, r4, r5⟩ := hR
      rw [sI_ne (by omega), sI_ne (by omega), sI_ne (by omega), sI_ne (by omega), sI_ne (by omega)]
      exact sb_6 (r3 hok).1 (j := 0) (by decide)
    have hve : (if (prs T).1 = 0 then (-1 : Int32) else nI (prs T).2.1) = -1 := by rw [if_pos hok]
    have K11 : ∀ M1, RdQ T q M (some (.int (-1))) M1 → Ex g qX10_talk (tm g qX10_talk (RtY (mrTalk T) (nxTalk T) M)) 11 [some (.ref 0), none, none] [.int (-1)] M1 := fun M1 hR => by
      have hR5 := hR.2.2.2.2.2
      have hs1 : M1.2.2 0 9 = p := by rw [(hR5 0 (hout 0 (by decide) (by decide))).2.2]; exact hscr
      have hs2 : M1.2.2 0 10 = q := by rw [(hR5 0 (hout 0 (by decide) (by decide))).2.2]; exact hspa
      have K66 : Ex g qX10_talk (tm g qX10_talk (RtY (mrTalk T) (nxTalk T) M)) 66 [some (.ref 0), some (.int (-1)), some (.ref p)] [] (sI (sI (sI (sI (sI (sR (sR M1 0 9 q) 0 10 p) 0 11 (bI true)) 5 3 (nI 0)) 3 2 (nI 0)) 3 1 (nI 0)) 0 12 (bI false)) := by
        have hs3 : (sI (sI (sI (sI (sI (sR (sR M1 0 9 q) 0 10 p) 0 11 (bI true)) 5 3 (nI 0)) 3 2 (nI 0)) 3 1 (nI 0)) 0 12 (bI false)).2.2 0 9 = q := by
          show (sR (sR M1 0 9 q) 0 10 p).2.2 0 9 = q
          rw [sR_get, if_neg (by decide), sR_get, if_pos ⟨rfl, rfl⟩]
        refine E_aload_n dX10_talk_66 rfl ?_
        refine E_getM' (ci := 10) (j := 9) (p := q) dX10_talk_67 fkX10_75 rfl (by decide) rfl (by decide) (hs3) ?_
        refine E_getI' (ci := 8) (j := 10) dX10_talk_70 fkX10_108 rfl (by decide) (kS hq) (by decide) (hans M1 hR) ?_
        refine E_iret dX10_talk_73 rfl ?_
        exact KG M1 hR
      refine E_ist_n (i := 1) dX10_talk_11 rfl (by decide) rfl ?_
      refine E_iload_n dX10_talk_12 rfl ?_
      refine E_iconst (v := -1) dX10_talk_13 rfl ?_
      refine E_icmp_eq (t := 22) dX10_talk_14 (by decide) (fun c14 => ?_) (fun c14 => ?_)
      · skip
        refine E_aload_n dX10_talk_22 rfl ?_
        refine E_getM' (ci := 10) (j := 9) (p := p) dX10_talk_23 fkX10_75 rfl (by decide) rfl (by decide) (hs1) ?_
        refine E_ast_n (i := 2) dX10_talk_26 rfl (by decide) rfl ?_
        refine E_aload_n dX10_talk_27 rfl ?_
        refine E_aload_n dX10_talk_28 rfl ?_
        refine E_getM' (ci := 10) (j := 10) (p := q) dX10_talk_29 fkX10_79 rfl (by decide) rfl (by decide) (hs2) ?_
        refine E_putR (ci := 10) (j := 9) dX10_talk_32 fkX10_75 rfl (by decide) rfl (by decide) ?_
        refine E_aload_n dX10_talk_35 rfl ?_
        refine E_aload_n dX10_talk_36 rfl ?_
        refine E_putR (ci := 10) (j := 10) dX10_talk_37 fkX10_79 rfl (by decide) rfl (by decide) ?_
        refine E_aload_n dX10_talk_40 rfl ?_
        refine E_iconst (v := nI 1) dX10_talk_41 rfl ?_
        refine E_putZ (ci := 10) (j := 11) dX10_talk_42 fkX10_96 rfl (by decide) rfl (by decide) (Or.inr rfl) ?_
        refine E_aload_n dX10_talk_45 rfl ?_
        refine E_getR' (ci := 10) (j := 2) (p := 5) dX10_talk_46 fkX10_26 rfl (by decide) rfl (by decide) (rfl) ?_
        refine E_iconst (v := nI 0) dX10_talk_49 rfl ?_
        refine E_putI (ci := 0) (j := 3) dX10_talk_50 fkX10_100 rfl (by decide) rfl (by decide) ?_
        refine E_aload_n dX10_talk_53 rfl ?_
        refine E_getR' (ci := 10) (j := 1) (p := 3) dX10_talk_54 fkX10_19 rfl (by decide) rfl (by decide) (rfl) ?_
        refine E_iconst (v := nI 0) dX10_talk_57 rfl ?_
        refine E_callV (r := qX1_restart) (ci := 1) dX10_talk_58 mkX10_101 voX1_restart rfl rfl rfl ⟨Nat.le_of_ble_eq_true rfl, Nat.le_of_ble_eq_true rfl, Nat.le_of_ble_eq_true rfl, Nat.le_of_ble_eq_true rfl⟩ (c_restart) rfl (Nat.le_of_ble_eq_true rfl) ?_
        rintro _ _ ⟨rfl, rfl⟩
        refine E_aload_n dX10_talk_61 rfl ?_
        refine E_iconst (v := nI 0) dX10_talk_62 rfl ?_
        refine E_putZ (ci := 10) (j := 12) dX10_talk_63 fkX10_105 rfl (by decide) rfl (by decide) (Or.inl rfl) ?_
        exact K66
      · skip
        exact absurd rfl c14
    refine Call_of (ls0 := [some (.ref 0), none, none]) rfl rfl (Nat.le_of_ble_eq_true rfl) ?_
    refine E_aload_n dX10_talk_0 rfl ?_
    refine E_getR' (ci := 10) (j := 0) (p := 1) dX10_talk_1 fkX10_10 rfl (by decide) rfl (by decide) (rfl) ?_
    refine E_aload_n dX10_talk_4 rfl ?_
    refine E_getM' (ci := 10) (j := 10) (p := q) dX10_talk_5 fkX10_79 rfl (by decide) rfl (by decide) (hspa) ?_
    refine E_callV (r := qX6_readInto) (ci := 6) dX10_talk_8 mkX10_92 voX6_readInto rfl rfl rfl ⟨Nat.le_of_ble_eq_true rfl, Nat.le_of_ble_eq_true rfl, Nat.le_of_ble_eq_true rfl, Nat.le_of_ble_eq_true rfl⟩ (cR) rfl (Nat.le_of_ble_eq_true rfl) ?_
    rintro _ M1 ⟨rfl, hR⟩
    refine E_top hve ?_
    exact K11 M1 ⟨by rw [hve], hR⟩
  · have hve : (if (prs T).1 = 0 then (-1 : Int32) else nI (prs T).2.1) = nI (prs T).2.1 := by rw [if_neg hok]
    have hb := (prs T).2.1
    have KB : ∀ M1, RdQ T q M (some (.int (if (prs T).1 = 0 then (-1 : Int32) else nI (prs T).2.1))) M1 → RtY (mrTalk T) (nxTalk T) M (some (.int (-100 - nI (prs T).2.1))) M1 := fun M1 hR => by
      obtain ⟨-, r1, r2, r3, r4, r5⟩ := hR
      have hne : ∀ k, k < 39 → k ≠ 1 → M1.1 k = M.1 k := fun k z1 z2 => (r5 k (hout k z1 z2)).1
      have hnp : ∀ k, p ≤ k → k ≤ p + 10 → M1.1 k = M.1 k := fun k z1 z2 => (r5 k (hdis k z1 z2)).1
      have h61 : ∀ i, i ≠ 21 → i ≠ 22 → nxTalkB T (prs T).1 61 i = T 61 i := fun i z1 z2 => by unfold nxTalkB; rw [u6 z2, u6 z1]
      have hk : ∀ k, k ≠ 61 → nxTalkB T (prs T).1 k = T k := fun k z => by unfold nxTalkB; rw [uk z, uk z]
      refine rty (by unfold mrTalk; rw [if_neg hok]) (show nxTalkB T (prs T).1 = _ by unfold nxTalk; rw [if_neg hok]) (p := p) (q := q) ⟨cb_x hC.1 (r5 0 (hout 0 (by decide) (by decide))).2.2 (r5 36 (hout 36 (by decide) (by decide))).2.2 (by rw [hne 0 (by decide) (by decide)]) (h61 1 (by decide) (by decide)) (h61 0 (by decide) (by decide)) ⟨?_, fun i hi => ?_, ?_⟩ (co_ag (co_fr (cb_co hC.1) (hne 3 (by decide) (by decide)) (hne 4 (by decide) (by decide))) (h61 15 (by decide) (by decide)) (h61 13 (by decide) (by decide)) (h61 0 (by decide) (by decide)) (hk 71 (by decide))) (ac_ag (ac_fr (cb_ac hC.1) (hne 5 (by decide) (by decide)) (hne 6 (by decide) (by decide)) (hne 7 (by decide) (by decide)) (hne 8 (by decide) (by decide))) (h61 17 (by decide) (by decide)) (h61 0 (by decide) (by decide)) (hk 72 (by decide)) (hk 64 (by decide)) (hk 70 (by decide))) (fun _ a b c => ⟨sc_ag (sc_fr a (fun k q1 q2 => hnp k q1 (by omega))) (fun i hi => h61 i (by omega) (by omega)) (fun k q1 q2 => hk k (by omega)), sl_ag (sl_fr b (hnp _ (by omega) (by omega)) (hnp _ (by omega) (by omega))) (h61 0 (by decide) (by decide)) (hk 62 (by decide)), nl_ag c (h61 0 (by decide) (by decide)) (h61 1 (by decide) (by decide)) (h61 3 (by decide) (by decide)) (fun i => by rw [hk 63 (by decide)])⟩), fg_ag hT hB ⟨fun i hi => h61 i (by omega) (by omega), fun k hk2 => hk k (by omega)⟩ (hk 64 (by decide)) (fg_fr hC.2 (fun k hk2 => hne k (by omega) (by omega)))⟩ (h60 M1 r5)
      · rw [r1]; unfold nxTalkB; rw [u6 (by decide), upT_at]
      · unfold nxTalkB at hi; rw [u6 (by decide), upT_at] at hi; exact absurd hi (Nat.not_lt_zero i)
      · rw [r2]; unfold nxTalkB; rw [upT_at]
    have hpl : (prs T).2.1 ≤ 200 := by
      have key : ∀ n pl s, pl + n ≤ 200 → (pRun T n pl s).2.1 ≤ 200 := by
        intro n
        induction n with
        | zero => intro pl s h; rw [pRun]; split <;> exact h
        | succ n ih =>
          intro pl s h
          rw [pRun]
          split
          · exact ih (pl + 1) s (by omega)
          · split
            · exact ih (pl + 1) _ (by omega)
            · show pl ≤ 200; omega
      exact key _ _ _ (by have := hTX.1; omega)
    refine Call_of (ls0 := [some (.ref 0), none, none]) rfl rfl (Nat.le_of_ble_eq_true rfl) ?_
    refine E_aload_n dX10_talk_0 rfl ?_
    refine E_getR' (ci := 10) (j := 0) (p := 1) dX10_talk_1 fkX10_10 rfl (by decide) rfl (by decide) (rfl) ?_
    refine E_aload_n dX10_talk_4 rfl ?_
    refine E_getM' (ci := 10) (j := 10) (p := q) dX10_talk_5 fkX10_79 rfl (by decide) rfl (by decide) (hspa) ?_
    refine E_callV (r := qX6_readInto) (ci := 6) dX10_talk_8 mkX10_92 voX6_readInto rfl rfl rfl ⟨Nat.le_of_ble_eq_true rfl, Nat.le_of_ble_eq_true rfl, Nat.le_of_ble_eq_true rfl, Nat.le_of_ble_eq_true rfl⟩ (cR) rfl (Nat.le_of_ble_eq_true rfl) ?_
    rintro _ M1 ⟨rfl, hR⟩
    refine E_top hve ?_
    refine E_ist_n (i := 1) dX10_talk_11 rfl (by decide) rfl ?_
    refine E_iload_n dX10_talk_12 rfl ?_
    refine E_iconst (v := -1) dX10_talk_13 rfl ?_
    refine E_icmp_eq (t := 22) dX10_talk_14 (by decide) (fun c14 => ?_) (fun c14 => ?_)
    · skip
      exact absurd c14 (nI_m1 (by omega))
    · skip
      refine E_bipush (v := -100) dX10_talk_17 rfl ?_
      refine E_iload_n dX10_talk_19 rfl ?_
      refine E_isub dX10_talk_20 ?_
      refine E_iret dX10_talk_21 rfl ?_
      exact KB M1 ⟨rfl, hR⟩
end PU8
