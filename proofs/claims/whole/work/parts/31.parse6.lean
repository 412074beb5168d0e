-- the model: readsClause
theorem pr_0l {T P : TK} {l l' : Nat} : ∀ (n p : Nat), pRun T n p (0, l, P) = pRun T n p (0, l', P)
  | 0, p => rfl
  | n + 1, p => by
    have e : pStp (T 75 p) (0, l, P) = pStp (T 75 p) (0, l', P) := rfl
    rw [pRun, pRun, e, pr_0l n (p + 1)]
theorem rn_0l {T P : TK} {l l' p : Nat} : rn T p (0, l, P) = rn T p (0, l', P) := pr_0l _ _
section M24
variable {g : GG} {M : AM} {T P : TK} {p : Nat}
set_option maxRecDepth 8000 in
theorem m_readsClause (hX : RT T M) (hP : RPm P M) (hp : p ≤ T 61 21) (hnE : P 61 1 = 0 ∨ (p < T 61 21 ∧ T 75 p ≠ 32)) : Call g qX11_readsClause [.ref 61] (AB M p 0) (PO T (rn T p (0, 0, P)) 0 0 (fun P' q => P' 61 1 ≠ 0 ∧ p < q) M) := by
  have hsz := hX.1.1
  have h29 : M.1 61 29 = nI (P 61 1) := (hP.1 61 1 (Or.inl ⟨rfl, by decide⟩)).2.2
  have h31 : M.1 61 31 = nI (P 61 3) := (hP.1 61 3 (Or.inl ⟨rfl, by decide⟩)).2.2
  have J75b : ∀ (M1 : AM) (q b : Nat) (y : Option Value), PF M M1 → FL T (rn T p (0, 0, P)) q b → Ex g qX11_readsClause (tm g qX11_readsClause (PO T (rn T p (0, 0, P)) 0 0 (fun P' q => P' 61 1 ≠ 0 ∧ p < q) M)) 75 [some (.ref 61), y] [] (AB M1 q b) := by
    intro M1 q b y hF hL
    have hb4 := hL.2.1
    refine E_aload_n dX11_readsClause_75 rfl ?_
    refine E_getI' (ci := 11) (j := 24) dX11_readsClause_76 fkX11_139 rfl (by decide) rfl (by decide) (ab_24) ?_
    refine E_if_neN (t := 88) dX11_readsClause_79 (by decide) (by omega) (fun c79 => ?_) (fun c79 => ?_)
    · skip
      refine E_vret dX11_readsClause_88 rfl ?_
      exact ⟨rfl, _, q, b, rfl, hF, Or.inr hL⟩
    · skip
      exact absurd c79 hL.1
  have J75 : ∀ (M1 : AM) (P1 : TK) (q l : Nat) (y : Option Value), PF M M1 → RPm P1 M1 → P1 61 1 ≠ 0 → p < q → q ≤ T 61 21 → rn T q (2, l, P1) = (rn T p (0, 0, P)) → Ex g qX11_readsClause (tm g qX11_readsClause (PO T (rn T p (0, 0, P)) 0 0 (fun P' q => P' 61 1 ≠ 0 ∧ p < q) M)) 75 [some (.ref 61), y] [] (AB M1 q 0) := by
    intro M1 P1 q0 l y hF hP1 hth1 hpq hq hrn
    have hX1 := rt_pf hX hF
    have K : ∀ q, SK T q0 q → (PO T (rn T p (0, 0, P)) 0 0 (fun P' q => P' 61 1 ≠ 0 ∧ p < q) M) none (AB M1 (if psB T q 0 59 = 0 then q + 1 else q) (psB T q 0 59)) := by
      intro q hk
      by_cases e : q < T 61 21 ∧ T 75 q = 59
      · have h0 : psB T q 0 59 = 0 := by unfold psB; rw [if_pos rfl, if_pos e]
        rw [h0, if_pos rfl]
        have hst : pStp (T 75 q) (2, l, P1) = (0, 0, l, P1) := by
          show pEnd (T 75 q) l P1 = _
          unfold pEnd
          rw [if_pos e.2]
        have hrn2 := rn_ok e.1 (hk.2.2.1 e.1) hst
        rw [hk.2.2.2.1, hrn] at hrn2
        exact ⟨rfl, M1, q + 1, 0, rfl, hF, Or.inl ⟨rfl, by omega, P1, hP1, by rw [hrn2]; exact rn_0l, hth1, by have := hk.1; omega⟩⟩
      · have h0 : psB T q 0 59 = 1 := by unfold psB; rw [if_pos rfl, if_neg e]
        rw [h0, if_neg (by decide)]
        refine ⟨rfl, M1, q, 1, rfl, hF, Or.inr ?_⟩
        rw [← hrn, ← hk.2.2.2.1]
        refine fl_1 hk.2.1 hk.2.2.1 (Or.inl (show (2 : Nat) ≠ 0 by decide)) (fun h => ?_)
        show pEnd (T 75 q) l P1 = pB 1 P1
        unfold pEnd
        rw [if_neg (fun h2 => e ⟨h, h2⟩)]
    refine E_aload_n dX11_readsClause_75 rfl ?_
    refine E_getI' (ci := 11) (j := 24) dX11_readsClause_76 fkX11_139 rfl (by decide) rfl (by decide) (ab_24) ?_
    refine E_if_neN (t := 88) dX11_readsClause_79 (by decide) (by decide) (fun c79 => ?_) (fun c79 => ?_)
    · skip
      exact absurd c79 (by decide)
    · skip
      refine E_aload_n dX11_readsClause_82 rfl ?_
      refine E_bipush (v := nI 59) dX11_readsClause_83 rfl ?_
      refine E_callV (r := qX11_passes) (ci := 11) dX11_readsClause_85 mkX11_171 voX11_passes rfl rfl rfl ⟨Nat.le_of_ble_eq_true rfl, Nat.le_of_ble_eq_true rfl, Nat.le_of_ble_eq_true rfl, Nat.le_of_ble_eq_true rfl⟩ (m_passes hX1 hq (c := 59) (by decide) (by decide)) rfl (Nat.le_of_ble_eq_true rfl) ?_
      rintro _ _ ⟨q2, rfl, rfl, hk2⟩
      refine E_vret dX11_readsClause_88 rfl ?_
      exact K q2 hk2
  have J46b : ∀ (M1 : AM) (q b : Nat) (y : Option Value), PF M M1 → FL T (rn T p (0, 0, P)) q b → Ex g qX11_readsClause (tm g qX11_readsClause (PO T (rn T p (0, 0, P)) 0 0 (fun P' q => P' 61 1 ≠ 0 ∧ p < q) M)) 46 [some (.ref 61), y] [] (AB M1 q b) := by
    intro M1 q b y hF hL
    have hb4 := hL.2.1
    refine E_aload_n dX11_readsClause_46 rfl ?_
    refine E_getI' (ci := 11) (j := 24) dX11_readsClause_47 fkX11_139 rfl (by decide) rfl (by decide) (ab_24) ?_
    refine E_if_neN (t := 70) dX11_readsClause_50 (by decide) (by omega) (fun c50 => ?_) (fun c50 => ?_)
    · skip
      refine E_aload_n dX11_readsClause_70 rfl ?_
      refine E_iconst (v := nI 1) dX11_readsClause_71 rfl ?_
      refine E_callV (r := qX11_wrong) (ci := 11) dX11_readsClause_72 mkX11_145 voX11_wrong rfl rfl rfl ⟨Nat.le_of_ble_eq_true rfl, Nat.le_of_ble_eq_true rfl, Nat.le_of_ble_eq_true rfl, Nat.le_of_ble_eq_true rfl⟩ (m_wrong (k := 1) hb4) rfl (Nat.le_of_ble_eq_true rfl) ?_
      rintro _ _ ⟨rfl, rfl⟩
      rw [if_neg hL.1]
      exact J75b M1 q b _ hF hL
    · skip
      exact absurd c50 hL.1
  have J46 : ∀ (M1 : AM) (P1 : TK) (q l : Nat), PF M M1 → RPm P1 M1 → P1 61 1 ≠ 0 → l < 16 → p < q → q ≤ T 61 21 → (q < T 61 21 → T 75 q ≠ 32) → ¬ (q < T 61 21 ∧ T 75 q = 46) → rn T q (1, l, P1) = (rn T p (0, 0, P)) → Ex g qX11_readsClause (tm g qX11_readsClause (PO T (rn T p (0, 0, P)) 0 0 (fun P' q => P' 61 1 ≠ 0 ∧ p < q) M)) 46 [some (.ref 61), some (.int (nI l))] [] (AB M1 q 0) := by
    intro M1 P1 q l hF hP1 hth1 hl hpq hq hbl hnd hrn
    have hX1 := rt_pf hX hF
    have K1 : ∀ (M2 : AM) (q3 b3 : Nat), PF M1 M2 → ((b3 = 0 ∧ q3 ≤ T 61 21 ∧ ∃ P2, RPm P2 M2 ∧ rn T q3 (2, l, P2) = rn T q (1, l, P1) ∧ q ≤ q3 ∧ (q3 < T 61 21 → T 75 q3 ≠ 32) ∧ P2 61 1 ≠ 0) ∨ FL T (rn T q (1, l, P1)) q3 b3) → Ex g qX11_readsClause (tm g qX11_readsClause (PO T (rn T p (0, 0, P)) 0 0 (fun P' q => P' 61 1 ≠ 0 ∧ p < q) M)) 75 [some (.ref 61), some (.int (nI l))] [] (AB M2 q3 b3) := by
      intro M2 q3 b3 hF2 hr2
      rw [hrn] at hr2
      rcases hr2 with ⟨rfl, h1, P2, h2, h3, h4, h5, h6⟩ | hL
      · exact J75 M2 P2 q3 l _ (hF.tr hF2) h2 h6 (by omega) h1 h3
      · exact J75b M2 q3 b3 _ (hF.tr hF2) hL
    have K2 : ¬ (q < T 61 21 ∧ T 75 q = 62) → Ex g qX11_readsClause (tm g qX11_readsClause (PO T (rn T p (0, 0, P)) 0 0 (fun P' q => P' 61 1 ≠ 0 ∧ p < q) M)) 75 [some (.ref 61), some (.int (nI l))] [] (AB M1 q 1) := by
      intro hno
      refine J75b M1 q 1 _ hF ?_
      rw [← hrn]
      refine fl_1 hq hbl (Or.inl (show (1 : Nat) ≠ 0 by decide)) (fun h => ?_)
      show (if T 75 q = 46 then _ else if T 75 q = 62 then _ else pB 1 P1) = pB 1 P1
      rw [if_neg (fun e => hnd ⟨h, e⟩), if_neg (fun e => hno ⟨h, e⟩)]
    refine E_aload_n dX11_readsClause_46 rfl ?_
    refine E_getI' (ci := 11) (j := 24) dX11_readsClause_47 fkX11_139 rfl (by decide) rfl (by decide) (ab_24) ?_
    refine E_if_neN (t := 70) dX11_readsClause_50 (by decide) (by decide) (fun c50 => ?_) (fun c50 => ?_)
    · skip
      exact absurd c50 (by decide)
    · skip
      refine E_aload_n dX11_readsClause_53 rfl ?_
      refine E_callV (r := qX11_look) (ci := 11) dX11_readsClause_54 mkX11_142 voX11_look rfl rfl rfl ⟨Nat.le_of_ble_eq_true rfl, Nat.le_of_ble_eq_true rfl, Nat.le_of_ble_eq_true rfl, Nat.le_of_ble_eq_true rfl⟩ (m_look hX1 hq) rfl (Nat.le_of_ble_eq_true rfl) ?_
      rintro _ _ ⟨q', rfl, rfl, hq'⟩
      obtain rfl : q = q' := (hq'.2.2.2.2 hbl).symm
      refine E_bipush (v := nI 62) dX11_readsClause_57 rfl ?_
      refine E_icmp_ne (t := 70) dX11_readsClause_59 (by decide) (fun c59 => ?_) (fun c59 => ?_)
      · skip
        have hno : ¬ (q < T 61 21 ∧ T 75 q = 62) := fun e => c59 ((ch_eq hX.1 (by decide)).mpr e)
        refine E_aload_n dX11_readsClause_70 rfl ?_
        refine E_iconst (v := nI 1) dX11_readsClause_71 rfl ?_
        refine E_callV (r := qX11_wrong) (ci := 11) dX11_readsClause_72 mkX11_145 voX11_wrong rfl rfl rfl ⟨Nat.le_of_ble_eq_true rfl, Nat.le_of_ble_eq_true rfl, Nat.le_of_ble_eq_true rfl, Nat.le_of_ble_eq_true rfl⟩ (m_wrong (k := 1) (by decide)) rfl (Nat.le_of_ble_eq_true rfl) ?_
        rintro _ _ ⟨rfl, rfl⟩
        rw [if_pos rfl]
        first | exact K1 M2 q3 b3 hF2 hr2 | exact K2 hno
      · skip
        obtain ⟨hqs, hqc⟩ := (ch_eq hX.1 (by decide)).mp c59
        refine E_aload_n dX11_readsClause_62 rfl ?_
        refine E_iload_n dX11_readsClause_63 rfl ?_
        refine E_callV (r := qX11_readsAnswer) (ci := 11) dX11_readsClause_64 mkX11_196 voX11_readsAnswer rfl rfl rfl ⟨Nat.le_of_ble_eq_true rfl, Nat.le_of_ble_eq_true rfl, Nat.le_of_ble_eq_true rfl, Nat.le_of_ble_eq_true rfl⟩ (m_readsAnswer hX1 hP1 hl hqs hqc hth1) rfl (Nat.le_of_ble_eq_true rfl) ?_
        rintro _ _ ⟨rfl, M2, q3, b3, rfl, hF2, hr2⟩
        refine E_goto (t := 75) dX11_readsClause_67 (by decide) ?_
        first | exact K1 M2 q3 b3 hF2 hr2 | exact K2 hno
  have J5b : ∀ (M1 : AM) (q b : Nat) (y : Option Value), PF M M1 → FL T (rn T p (0, 0, P)) q b → Ex g qX11_readsClause (tm g qX11_readsClause (PO T (rn T p (0, 0, P)) 0 0 (fun P' q => P' 61 1 ≠ 0 ∧ p < q) M)) 5 [some (.ref 61), y] [] (AB M1 q b) := by
    intro M1 q b y hF hL
    have hb4 := hL.2.1
    refine E_aload_n dX11_readsClause_5 rfl ?_
    refine E_getI' (ci := 11) (j := 24) dX11_readsClause_6 fkX11_139 rfl (by decide) rfl (by decide) (ab_24) ?_
    refine E_if_neN (t := 46) dX11_readsClause_9 (by decide) (by omega) (fun c9 => ?_) (fun c9 => ?_)
    · skip
      exact J46b M1 q b _ hF hL
    · skip
      exact absurd c9 hL.1
  have J5 : ∀ (M1 : AM) (P1 : TK) (q l : Nat), PF M M1 → RPm P1 M1 → P1 61 1 ≠ 0 → l < 16 → p < q → q ≤ T 61 21 → rn T q (1, l, P1) = (rn T p (0, 0, P)) → Ex g qX11_readsClause (tm g qX11_readsClause (PO T (rn T p (0, 0, P)) 0 0 (fun P' q => P' 61 1 ≠ 0 ∧ p < q) M)) 5 [some (.ref 61), some (.int (nI l))] [] (AB M1 q 0) := by
    intro M1 P1 q0 l hF hP1 hth1 hl hpq hq hrn
    have hX1 := rt_pf hX hF
    have h30 : M1.1 61 30 = nI (P1 61 2) := (hP1.1 61 2 (Or.inl ⟨rfl, by decide⟩)).2.2
    have hl2 := p2_16 hl
    have K1 : ∀ q, SK T q0 q → q < T 61 21 → T 75 q = 46 → Ex g qX11_readsClause (tm g qX11_readsClause (PO T (rn T p (0, 0, P)) 0 0 (fun P' q => P' 61 1 ≠ 0 ∧ p < q) M)) 75 [some (.ref 61), some (.int (nI l))] [] (AB (sI M1 61 30 (nI (P1 61 2 ||| 1 * 2 ^ l))) (q + 1) 0) := by
      intro q hk hqs hqc
      have hst : pStp (T 75 q) (1, l, P1) = (0, 2, l, orT P1 61 2 (2 ^ l)) := by
        show (if T 75 q = 46 then (0, 2, l, orT P1 61 2 (2 ^ l)) else _) = _
        rw [if_pos hqc]
      have hrn2 := rn_ok hqs (hk.2.2.1 hqs) hst
      rw [hk.2.2.2.1, hrn] at hrn2
      rw [Nat.one_mul]
      exact J75 _ (orT P1 61 2 (2 ^ l)) (q + 1) l _ (hF.i (by omega)) ⟨rp_set aM_inj hP1.1 (by decide) (by decide) (by decide) (by decide), wt_or2 hP1.2.1 hl, fun b => by unfold orT; rw [upT_ne (by omega)]; exact hP1.2.2 b⟩ (by unfold orT; rw [upT_ne (by decide)]; exact hth1) (by have := hk.1; omega) (by omega) hrn2.symm
    have K2 : ∀ q, SK T q0 q → ¬ (q < T 61 21 ∧ T 75 q = 46) → Ex g qX11_readsClause (tm g qX11_readsClause (PO T (rn T p (0, 0, P)) 0 0 (fun P' q => P' 61 1 ≠ 0 ∧ p < q) M)) 46 [some (.ref 61), some (.int (nI l))] [] (AB M1 q 0) := fun q hk hno => J46 M1 P1 q l hF hP1 hth1 hl (by have := hk.1; omega) hk.2.1 hk.2.2.1 hno (by rw [hk.2.2.2.1]; exact hrn)
    refine E_aload_n dX11_readsClause_5 rfl ?_
    refine E_getI' (ci := 11) (j := 24) dX11_readsClause_6 fkX11_139 rfl (by decide) rfl (by decide) (ab_24) ?_
    refine E_if_neN (t := 46) dX11_readsClause_9 (by decide) (by decide) (fun c9 => ?_) (fun c9 => ?_)
    · skip
      exact absurd c9 (by decide)
    · skip
      refine E_aload_n dX11_readsClause_12 rfl ?_
      refine E_callV (r := qX11_look) (ci := 11) dX11_readsClause_13 mkX11_142 voX11_look rfl rfl rfl ⟨Nat.le_of_ble_eq_true rfl, Nat.le_of_ble_eq_true rfl, Nat.le_of_ble_eq_true rfl, Nat.le_of_ble_eq_true rfl⟩ (m_look hX1 hq) rfl (Nat.le_of_ble_eq_true rfl) ?_
      rintro _ _ ⟨q, rfl, rfl, hk⟩
      refine E_bipush (v := nI 46) dX11_readsClause_16 rfl ?_
      refine E_icmp_ne (t := 46) dX11_readsClause_18 (by decide) (fun c18 => ?_) (fun c18 => ?_)
      · skip
        exact K2 q hk (fun e => c18 ((ch_eq hX.1 (by decide)).mpr e))
      · skip
        obtain ⟨hqs, hqc⟩ := (ch_eq hX.1 (by decide)).mp c18
        refine E_aload_n dX11_readsClause_21 rfl ?_
        refine E_dup dX11_readsClause_22 rfl ?_
        refine E_getI' (ci := 11) (j := 23) dX11_readsClause_23 fkX11_136 rfl (by decide) rfl (by decide) (ab_23) ?_
        refine E_iconst (v := nI 1) dX11_readsClause_26 rfl ?_
        refine E_iaddN dX11_readsClause_27 ?_
        refine E_putI (ci := 11) (j := 23) dX11_readsClause_28 fkX11_136 rfl (by decide) rfl (by decide) ?_
        refine E_mem ab_s23 ?_
        refine E_aload_n dX11_readsClause_31 rfl ?_
        refine E_dup dX11_readsClause_32 rfl ?_
        refine E_getI' (ci := 11) (j := 30) dX11_readsClause_33 fkX11_193 rfl (by decide) rfl (by decide) ((ab_o (by decide) (by decide)).trans h30) ?_
        refine E_iconst (v := nI 1) dX11_readsClause_36 rfl ?_
        refine E_iload_n dX11_readsClause_37 rfl ?_
        refine E_ishlN dX11_readsClause_38 (by omega) (by omega) ?_
        refine E_iorN dX11_readsClause_39 ?_
        refine E_putI (ci := 11) (j := 30) dX11_readsClause_40 fkX11_193 rfl (by decide) rfl (by decide) ?_
        refine E_mem (ab_s (by decide) (by decide)) ?_
        refine E_goto (t := 75) dX11_readsClause_43 (by decide) ?_
        exact K1 q hk hqs hqc
  refine Call_of (ls0 := [some (.ref 61), none]) rfl rfl (Nat.le_of_ble_eq_true rfl) ?_
  refine E_aload_n dX11_readsClause_0 rfl ?_
  refine E_callV (r := qX11_line) (ci := 11) dX11_readsClause_1 mkX11_180 voX11_line rfl rfl rfl ⟨Nat.le_of_ble_eq_true rfl, Nat.le_of_ble_eq_true rfl, Nat.le_of_ble_eq_true rfl, Nat.le_of_ble_eq_true rfl⟩ (m_line hX hp h29 hP.2.1.2.1 h31) rfl (Nat.le_of_ble_eq_true rfl) ?_
  rintro _ _ ⟨q, hk, ⟨c, hc16, hqs, hqc, rfl, rfl⟩ | ⟨hno, rfl, rfl⟩⟩
  · refine E_ist_n (i := 1) dX11_readsClause_4 rfl (by decide) rfl ?_
    have hst : pStp (T 75 q) (0, 0, P) = (0, 1, c, nmL P c) := by
      show (if lnC (T 75 q) = true then (0, 1, T 75 q - 97, nmL P (T 75 q - 97)) else _) = _
      rw [if_pos (by unfold lnC; rw [decide_eq_true_iff]; omega), hqc, Nat.add_sub_cancel_left]
    have hrn2 := rn_ok hqs (hk.2.2.1 hqs) hst
    rw [hk.2.2.2.1] at hrn2
    have hp1 := rp_set aM_inj (rp_set aM_inj hP.1 (k := 61) (j := 3) (v := if P 61 1 = 0 then c else P 61 3) (by decide) (by decide) (by decide) (by decide)) (k := 61) (j := 1) (v := P 61 1 ||| 2 ^ c) (by decide) (by decide) (by decide) (by decide)
    refine J5 _ (nmL P c) (q + 1) c ((PF.rf.i (by omega)).i (by omega)) ⟨hp1, wt_nmL hP.2.1 hc16, fun b => by unfold nmL; rw [upT_ne (by omega), upT_ne (by omega)]; exact hP.2.2 b⟩ ?_ hc16 (by have := hk.1; omega) (by omega) hrn2.symm
    unfold nmL
    rw [upT_at]
    intro e
    have h7 := (Nat.or_eq_zero_iff.mp e).2
    exact absurd h7 (Nat.ne_of_gt (Nat.two_pow_pos c))
  · refine E_ist_n (i := 1) dX11_readsClause_4 rfl (by decide) rfl ?_
    refine J5b M q 1 _ PF.rf ?_
    rw [← hk.2.2.2.1]
    refine fl_1 hk.2.1 hk.2.2.1 ?_ (fun h => ?_)
    · rcases hnE with h | ⟨h1, h2⟩
      · exact Or.inr (Or.inl h)
      · exact Or.inr (Or.inr (by rw [hk.2.2.2.2 (fun _ => h2)]; exact h1))
    · show (if lnC (T 75 q) = true then _ else pB 1 P) = pB 1 P
      rw [hno h]
      rfl
end M24
