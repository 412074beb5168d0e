-- the model: talk
theorem rpm_fr {P : TK} {M M' : AM} (h : RPm P M) (hf : ∀ k j, k = 76 ∨ k = 77 ∨ k = 78 ∨ (k = 61 ∧ 28 ≤ j ∧ j ≤ 31) → M'.1 k j = M.1 k j) : RPm P M' := by
  refine ⟨fun k j hd => ?_, h.2⟩
  have h1 := h.1 k j hd
  refine ⟨h1.1, h1.2.1, ?_⟩
  rw [hf]
  · exact h1.2.2
  · unfold dom at hd
    unfold aM
    rcases hd with ⟨e, hd⟩ | ⟨e, hd⟩ | ⟨e, -⟩
    · subst e; simp; omega
    · rw [if_neg (by omega), if_neg (by omega), if_neg (by omega)]; split <;> simp
    · rcases e with e | e <;> subst e <;> simp
section M26
variable {g : GG} {M : AM} {T : TK}
theorem tk_b (hM : MS T M) {M1 : AM} {q b : Nat} (hF : PF M M1) (hL : FL T (prs T) q b) : RtM (mrTalk T) (nxTalk T) M (some (.int (-100 - nI q))) (AB (sI (sI M1 61 21 (nI 0)) 61 22 (nI b)) q b)   := by
  obtain ⟨hR, hB, hS, hA, hX⟩ := id hM
  have hb4 := hL.2.1
  refine ⟨?_, ?_, ?_⟩
  · unfold mrTalk
    rw [if_neg (by rw [hL.2.2.2.2.1]; exact hL.1), hL.2.2.2.2.2]
  · exact (hF.1.sub (by decide)).tr ((((Sb.i (by decide)).tr (Sb.i (by decide))).tr (Sb.i (by decide))).tr (Sb.i (by decide)))
  · unfold nxTalk
    rw [if_neg (by rw [hL.2.2.2.2.1]; exact hL.1), hL.2.2.2.2.1]
    have q6 : ∀ j, j < 21 → (AB (sI (sI M1 61 21 (nI 0)) 61 22 (nI b)) q b).1 61 j = M.1 61 j := fun j hj => by rw [ab_o (by omega) (by omega), sI_o (by omega), sI_o (by omega)]; exact hF.2 j (by omega)
    have qk : ∀ k, k ≠ 61 → k ≠ 76 → k ≠ 77 → k ≠ 78 → (AB (sI (sI M1 61 21 (nI 0)) 61 22 (nI b)) q b).1 k = M.1 k := fun k h1 h2 h3 h4 => by rw [ab_k h1, sI_ne h1, sI_ne h1]; exact (hF.1 k (by simp; omega)).1
    have t6 : ∀ j, j < 21 → nxTalkB T b 61 j = T 61 j := fun j hj => by unfold nxTalkB; rw [upT_ne (by omega), upT_ne (by omega)]
    have tk : ∀ k, k ≠ 61 → nxTalkB T b k = T k := fun k h1 => by funext j; unfold nxTalkB; rw [upT_ne (by omega), upT_ne (by omega)]
    refine ⟨rm_ag hR (fun j hj => ⟨q6 j (by omega), t6 j (by omega)⟩) (fun i hi => ⟨qk _ (by omega) (by omega) (by omega) (by omega), tk _ (by omega)⟩), rb_ag hB (q6 13 (by decide)) (t6 13 (by decide)), rs_ag hS (q6 15 (by decide)) (t6 15 (by decide)) (qk 71 (by decide) (by decide) (by decide) (by decide)) (tk 71 (by decide)) (t6 0 (by decide)), ra_ag hA (q6 17 (by decide)) (t6 17 (by decide)) (qk 70 (by decide) (by decide) (by decide) (by decide)) (qk 72 (by decide) (by decide) (by decide) (by decide)) (tk 72 (by decide)) (t6 0 (by decide)), ?_⟩
    have e21 : nxTalkB T b 61 21 = 0 := by unfold nxTalkB; rw [upT_ne (by decide), upT_at]
    have e22 : nxTalkB T b 61 22 = b := by unfold nxTalkB; rw [upT_at]
    unfold RX
    rw [e21, e22]
    exact ⟨by rw [ab_o (by decide) (by decide), sI_o (by decide), sI_s], by decide, fun i hi => absurd hi (Nat.not_lt_zero i), by rw [ab_o (by decide) (by decide), sI_s], hb4⟩
theorem tk_g {M1 : AM} {P : TK} {q : Nat} (hF : PF M M1) (hP : RPm P M1) (hP2 : RPm P (AB (sI (sI M1 61 21 (nI 0)) 61 22 (nI 0)) q 0)) (hr : prs T = (0, q, P)) : ∀ M3, KP P (AB (sI (sI M1 61 21 (nI 0)) 61 22 (nI 0)) q 0) M3 (P 61 0) 96 → RtM (mrTalk T) (nxTalk T) M (some (.int (nI (P 61 0)))) (sI (sI (sI M3 61 13 (nI 0)) 61 15 (nI 0)) 61 17 (nI 0)) := by
  intro M3 hK
  obtain ⟨k1, k2, k3, k4, k5, k6⟩ := hK
  have hS3 : Sb mdlP M M3 := ((hF.1.sub (by decide)).tr ((((Sb.i (by decide)).tr (Sb.i (by decide))).tr (Sb.i (by decide))).tr (Sb.i (by decide)))).tr (k1.sub (by decide))
  refine ⟨?_, hS3.tr (((Sb.i (by decide)).tr (Sb.i (by decide))).tr (Sb.i (by decide))), ?_⟩
  · unfold mrTalk
    rw [hr, if_pos rfl]
  · unfold nxTalk
    rw [hr, if_pos rfl]
    show MS (nxTalkG T P) _
    have h32 : P 61 0 ≤ 32 := hP.2.1.1
    have q6 : ∀ j, j ≠ 13 → j ≠ 15 → j ≠ 17 → (sI (sI (sI M3 61 13 (nI 0)) 61 15 (nI 0)) 61 17 (nI 0)).1 61 j = M3.1 61 j := fun j h1 h2 h3 => by rw [sI_o (by omega), sI_o (by omega), sI_o (by omega)]
    have qk : ∀ k, k ≠ 61 → (sI (sI (sI M3 61 13 (nI 0)) 61 15 (nI 0)) 61 17 (nI 0)).1 k = M3.1 k := fun k h1 => by rw [sI_ne h1, sI_ne h1, sI_ne h1]
    refine ⟨⟨fun j hj => ?_, fun a ha i hi n4 n5 => ?_, fun a ha r hr2 => ?_, wt_tg hP.2.1⟩, ⟨?_, ?_⟩, ⟨?_, ?_, ?_⟩, ⟨?_, ?_, ?_, ?_⟩, ⟨?_, ?_, ?_, ?_, ?_⟩⟩
    · rw [q6 j (by omega) (by omega) (by omega), tg_4 hj]; exact k3 j hj
    · rw [tg_4 (by decide)] at ha
      rw [qk _ (by omega)]
      obtain ⟨j1, j2, j3, j4, j5, j6, j7⟩ := k4 a ha
      rcases (show i = 0 ∨ i = 1 ∨ i = 2 ∨ i = 3 ∨ i = 6 ∨ i = 7 ∨ i = 8 by omega) with e | e | e | e | e | e | e <;> subst e
      · rw [tg_k (by decide)]; exact j1
      · rw [tg_k (by decide)]; exact j2
      · rw [tg_k (by decide)]; exact j3
      · rw [tg_k (by decide)]; exact j4
      · rw [tg_k (by decide)]; exact j5
      · rw [tg_k (by decide)]; exact j6
      · rw [tg_70]; exact j7
    · rw [tg_4 (by decide)] at ha
      rw [tg_k (by decide)] at hr2
      rw [qk _ (by decide), qk _ (by decide), tg_k (by decide), tg_k (by decide)]
      have h3 : P 65 a ≤ 3 := (wt_a hP.2.1 ha).2.2.2.1
      have h5 := k5 (3 * a + r) (by omega)
      rw [h5.1, h5.2]
      exact ⟨(hP2.1 66 (3 * a + r) (Or.inr (Or.inr ⟨Or.inl rfl, a, r, ha, hr2, rfl⟩))).2.2, (hP2.1 67 (3 * a + r) (Or.inr (Or.inr ⟨Or.inr rfl, a, r, ha, hr2, rfl⟩))).2.2⟩
    · rw [tg_0 (by omega), sI_o (by decide), sI_o (by decide), sI_s]
    · rw [tg_0 (by omega)]; decide
    · rw [tg_0 (by omega), sI_o (by decide), sI_s]
    · rw [tg_0 (by omega)]; decide
    · intro k hk; rw [tg_0 (by omega)] at hk; exact absurd hk (Nat.not_lt_zero k)
    · rw [tg_0 (by omega), sI_s]
    · rw [tg_0 (by omega)]; decide
    · intro b hb; rw [qk _ (by decide)]; exact k6 b hb
    · intro i hi; rw [tg_0 (by omega)] at hi; exact absurd hi (Nat.not_lt_zero i)
    · rw [tg_0 (by omega), q6 21 (by decide) (by decide) (by decide), k2 21 (by decide), ab_o (by decide) (by decide), sI_o (by decide), sI_s]
    · rw [tg_0 (by omega)]; decide
    · intro i hi; rw [tg_0 (by omega)] at hi; exact absurd hi (Nat.not_lt_zero i)
    · rw [tg_0 (by omega), q6 22 (by decide) (by decide) (by decide), k2 22 (by decide), ab_o (by decide) (by decide), sI_s]
    · rw [tg_0 (by omega)]; decide
theorem tk_0 : RPm (fun _ _ => 0) (sI (sI (sI (sI M 61 28 (nI 0)) 61 29 (nI 0)) 61 30 (nI 0)) 61 31 (nI 0)) := by
  refine ⟨fun k j hd => ?_, ⟨by decide, by decide, by decide, by decide, fun a ha => absurd ha (Nat.not_lt_zero a)⟩, fun a => Nat.zero_le 1⟩
  rcases hd with ⟨e, hd⟩ | ⟨e, hd⟩ | ⟨e, a, r, hd, -⟩
  · subst e
    refine ⟨by decide, by decide, ?_⟩
    rcases (show j = 0 ∨ j = 1 ∨ j = 2 ∨ j = 3 by omega) with e | e | e | e <;> subst e <;> simp [sI_get, aM]
  · exact absurd hd (Nat.not_lt_zero j)
  · exact absurd hd (Nat.not_lt_zero a)
set_option maxRecDepth 8000 in
theorem tk_J55b (hM : MS T M) : ∀ (M1 : AM) (q b : Nat), PF M M1 → FL T (prs T) q b → Ex g qX11_talk (tm g qX11_talk (RtM (mrTalk T) (nxTalk T) M)) 55 [some (.ref 61), none, none] [] (AB M1 q b) := by
  obtain ⟨hR, hB, hS, hA, hX⟩ := id hM
  have hX0 : RT T M := ⟨⟨hX.2.1, fun i hi => (hX.2.2.1 i hi).2⟩, hX.1, fun i hi => (hX.2.2.1 i hi).1⟩
  have hsz := hX.2.1
  intro M1 q b hF hL
  have hb4 := hL.2.1
  have hX1 := rt_pf hX0 hF
  refine E_aload_n dX11_talk_55 rfl ?_
  refine E_callV (r := qX11_look) (ci := 11) dX11_talk_56 mkX11_142 voX11_look rfl rfl rfl ⟨Nat.le_of_ble_eq_true rfl, Nat.le_of_ble_eq_true rfl, Nat.le_of_ble_eq_true rfl, Nat.le_of_ble_eq_true rfl⟩ (m_look hX1 hL.2.2.1) rfl (Nat.le_of_ble_eq_true rfl) ?_
  rintro _ _ ⟨q', rfl, rfl, hq'⟩
  obtain rfl : q = q' := (hq'.2.2.2.2 hL.2.2.2.1).symm
  refine E_ist_n (i := 1) dX11_talk_59 rfl (by decide) rfl ?_
  refine E_iload_n dX11_talk_60 rfl ?_
  refine E_if_ge (t := 71) dX11_talk_61 (by decide) (fun c61 => ?_) (fun c61 => ?_)
  · skip
    refine E_aload_n dX11_talk_71 rfl ?_
    refine E_getI' (ci := 11) (j := 23) dX11_talk_72 fkX11_136 rfl (by decide) rfl (by decide) (ab_23) ?_
    refine E_ist_n (i := 2) dX11_talk_75 rfl (by decide) rfl ?_
    refine E_aload_n dX11_talk_76 rfl ?_
    refine E_iconst (v := nI 0) dX11_talk_77 rfl ?_
    refine E_putI (ci := 11) (j := 21) dX11_talk_78 fkX11_132 rfl (by decide) rfl (by decide) ?_
    refine E_mem (ab_s (by decide) (by decide)) ?_
    refine E_aload_n dX11_talk_81 rfl ?_
    refine E_aload_n dX11_talk_82 rfl ?_
    refine E_getI' (ci := 11) (j := 24) dX11_talk_83 fkX11_139 rfl (by decide) rfl (by decide) (ab_24) ?_
    refine E_putI (ci := 11) (j := 22) dX11_talk_86 fkX11_202 rfl (by decide) rfl (by decide) ?_
    refine E_mem (ab_s (by decide) (by decide)) ?_
    refine E_aload_n dX11_talk_89 rfl ?_
    refine E_getI' (ci := 11) (j := 24) dX11_talk_90 fkX11_139 rfl (by decide) rfl (by decide) (ab_24) ?_
    refine E_if_leN (t := 101) dX11_talk_93 (by decide) (by omega) (fun c93 => ?_) (fun c93 => ?_)
    · skip
      exact absurd c93 hL.1
    · skip
      refine E_bipush (v := -100) dX11_talk_96 rfl ?_
      refine E_iload_n dX11_talk_98 rfl ?_
      refine E_isub dX11_talk_99 ?_
      refine E_iret dX11_talk_100 rfl ?_
      exact tk_b hM hF hL
  · skip
    have hsq : T 61 21 = q := by (have h1 : T 61 21 ≤ q := (ch_lt hX0.1).mp (Int32.not_le.mp c61)); have := hL.2.2.1; omega
    refine E_aload_n dX11_talk_64 rfl ?_
    refine E_getI' (ci := 11) (j := 21) dX11_talk_65 fkX11_132 rfl (by decide) rfl (by decide) ((ab_o (by decide) (by decide)).trans (hX1.2.1.trans (congrArg nI hsq))) ?_
    refine E_goto (t := 75) dX11_talk_68 (by decide) ?_
    refine E_ist_n (i := 2) dX11_talk_75 rfl (by decide) rfl ?_
    refine E_aload_n dX11_talk_76 rfl ?_
    refine E_iconst (v := nI 0) dX11_talk_77 rfl ?_
    refine E_putI (ci := 11) (j := 21) dX11_talk_78 fkX11_132 rfl (by decide) rfl (by decide) ?_
    refine E_mem (ab_s (by decide) (by decide)) ?_
    refine E_aload_n dX11_talk_81 rfl ?_
    refine E_aload_n dX11_talk_82 rfl ?_
    refine E_getI' (ci := 11) (j := 24) dX11_talk_83 fkX11_139 rfl (by decide) rfl (by decide) (ab_24) ?_
    refine E_putI (ci := 11) (j := 22) dX11_talk_86 fkX11_202 rfl (by decide) rfl (by decide) ?_
    refine E_mem (ab_s (by decide) (by decide)) ?_
    refine E_aload_n dX11_talk_89 rfl ?_
    refine E_getI' (ci := 11) (j := 24) dX11_talk_90 fkX11_139 rfl (by decide) rfl (by decide) (ab_24) ?_
    refine E_if_leN (t := 101) dX11_talk_93 (by decide) (by omega) (fun c93 => ?_) (fun c93 => ?_)
    · skip
      exact absurd c93 hL.1
    · skip
      refine E_bipush (v := -100) dX11_talk_96 rfl ?_
      refine E_iload_n dX11_talk_98 rfl ?_
      refine E_isub dX11_talk_99 ?_
      refine E_iret dX11_talk_100 rfl ?_
      exact tk_b hM hF hL
set_option maxRecDepth 8000 in
theorem tk_J55g (hM : MS T M) : ∀ (M1 : AM) (P : TK) (q : Nat), PF M M1 → RPm P M1 → prs T = (0, q, P) → q = T 61 21 → Ex g qX11_talk (tm g qX11_talk (RtM (mrTalk T) (nxTalk T) M)) 55 [some (.ref 61), none, none] [] (AB M1 q 0) := by
  obtain ⟨hR, hB, hS, hA, hX⟩ := id hM
  have hX0 : RT T M := ⟨⟨hX.2.1, fun i hi => (hX.2.2.1 i hi).2⟩, hX.1, fun i hi => (hX.2.2.1 i hi).1⟩
  have hsz := hX.2.1
  have J55b := @tk_J55b g M T hM
  intro M1 P q hF hP hr hq
  have hX1 := rt_pf hX0 hF
  have hZ1 : ∀ b, b < 32 → (AB (sI (sI M1 61 21 (nI 0)) 61 22 (nI 0)) q 0).1 70 b = 0 ∨ (AB (sI (sI M1 61 21 (nI 0)) 61 22 (nI 0)) q 0).1 70 b = 1 := fun b hb => by
    rw [ab_o (by omega) (by omega), sI_o (by omega), sI_o (by omega), (hF.1 70 (by decide)).1]
    exact hA.2.2.1 b hb
  have hP2 : RPm P (AB (sI (sI M1 61 21 (nI 0)) 61 22 (nI 0)) q 0) := rpm_fr hP (fun k j h => by rw [ab_o (by omega) (by omega), sI_o (by omega), sI_o (by omega)])
  refine E_aload_n dX11_talk_55 rfl ?_
  refine E_callV (r := qX11_look) (ci := 11) dX11_talk_56 mkX11_142 voX11_look rfl rfl rfl ⟨Nat.le_of_ble_eq_true rfl, Nat.le_of_ble_eq_true rfl, Nat.le_of_ble_eq_true rfl, Nat.le_of_ble_eq_true rfl⟩ (m_look hX1 (Nat.le_of_eq hq)) rfl (Nat.le_of_ble_eq_true rfl) ?_
  rintro _ _ ⟨q', rfl, rfl, hq'⟩
  obtain rfl : q = q' := (hq'.2.2.2.2 (fun h => absurd h (by omega))).symm
  refine E_ist_n (i := 1) dX11_talk_59 rfl (by decide) rfl ?_
  refine E_iload_n dX11_talk_60 rfl ?_
  refine E_if_ge (t := 71) dX11_talk_61 (by decide) (fun c61 => ?_) (fun c61 => ?_)
  · skip
    refine E_aload_n dX11_talk_71 rfl ?_
    refine E_getI' (ci := 11) (j := 23) dX11_talk_72 fkX11_136 rfl (by decide) rfl (by decide) (ab_23) ?_
    refine E_ist_n (i := 2) dX11_talk_75 rfl (by decide) rfl ?_
    refine E_aload_n dX11_talk_76 rfl ?_
    refine E_iconst (v := nI 0) dX11_talk_77 rfl ?_
    refine E_putI (ci := 11) (j := 21) dX11_talk_78 fkX11_132 rfl (by decide) rfl (by decide) ?_
    refine E_mem (ab_s (by decide) (by decide)) ?_
    refine E_aload_n dX11_talk_81 rfl ?_
    refine E_aload_n dX11_talk_82 rfl ?_
    refine E_getI' (ci := 11) (j := 24) dX11_talk_83 fkX11_139 rfl (by decide) rfl (by decide) (ab_24) ?_
    refine E_putI (ci := 11) (j := 22) dX11_talk_86 fkX11_202 rfl (by decide) rfl (by decide) ?_
    refine E_mem (ab_s (by decide) (by decide)) ?_
    refine E_aload_n dX11_talk_89 rfl ?_
    refine E_getI' (ci := 11) (j := 24) dX11_talk_90 fkX11_139 rfl (by decide) rfl (by decide) (ab_24) ?_
    refine E_if_leN (t := 101) dX11_talk_93 (by decide) (by decide) (fun c93 => ?_) (fun c93 => ?_)
    · skip
      refine E_aload_n dX11_talk_101 rfl ?_
      refine E_callV (r := qX11_keeps) (ci := 11) dX11_talk_102 mkX11_205 voX11_keeps rfl rfl rfl ⟨Nat.le_of_ble_eq_true rfl, Nat.le_of_ble_eq_true rfl, Nat.le_of_ble_eq_true rfl, Nat.le_of_ble_eq_true rfl⟩ (m_keeps hP2 hZ1) rfl (Nat.le_of_ble_eq_true rfl) ?_
      rintro _ M3 ⟨rfl, hK⟩
      refine E_aload_n dX11_talk_105 rfl ?_
      refine E_iconst (v := nI 0) dX11_talk_106 rfl ?_
      refine E_putI (ci := 11) (j := 13) dX11_talk_107 fkX11_115 rfl (by decide) rfl (by decide) ?_
      refine E_aload_n dX11_talk_110 rfl ?_
      refine E_iconst (v := nI 0) dX11_talk_111 rfl ?_
      refine E_putI (ci := 11) (j := 15) dX11_talk_112 fkX11_126 rfl (by decide) rfl (by decide) ?_
      refine E_aload_n dX11_talk_115 rfl ?_
      refine E_iconst (v := nI 0) dX11_talk_116 rfl ?_
      refine E_putI (ci := 11) (j := 17) dX11_talk_117 fkX11_208 rfl (by decide) rfl (by decide) ?_
      refine E_aload_n dX11_talk_120 rfl ?_
      refine E_getI' (ci := 11) (j := 0) dX11_talk_121 fkX11_85 rfl (by decide) rfl (by decide) ((sI_o (by decide)).trans ((sI_o (by decide)).trans ((sI_o (by decide)).trans (hK.2.2.1 0 (by decide))))) ?_
      refine E_iret dX11_talk_124 rfl ?_
      exact tk_g hF hP hP2 hr M3 hK
    · skip
      exact absurd c93 (by decide)
  · skip
    refine E_aload_n dX11_talk_64 rfl ?_
    refine E_getI' (ci := 11) (j := 21) dX11_talk_65 fkX11_132 rfl (by decide) rfl (by decide) ((ab_o (by decide) (by decide)).trans hX1.2.1) ?_
    refine E_goto (t := 75) dX11_talk_68 (by decide) ?_
    refine E_ist_n (i := 2) dX11_talk_75 rfl (by decide) rfl ?_
    refine E_aload_n dX11_talk_76 rfl ?_
    refine E_iconst (v := nI 0) dX11_talk_77 rfl ?_
    refine E_putI (ci := 11) (j := 21) dX11_talk_78 fkX11_132 rfl (by decide) rfl (by decide) ?_
    refine E_mem (ab_s (by decide) (by decide)) ?_
    refine E_aload_n dX11_talk_81 rfl ?_
    refine E_aload_n dX11_talk_82 rfl ?_
    refine E_getI' (ci := 11) (j := 24) dX11_talk_83 fkX11_139 rfl (by decide) rfl (by decide) (ab_24) ?_
    refine E_putI (ci := 11) (j := 22) dX11_talk_86 fkX11_202 rfl (by decide) rfl (by decide) ?_
    refine E_mem (ab_s (by decide) (by decide)) ?_
    refine E_aload_n dX11_talk_89 rfl ?_
    refine E_getI' (ci := 11) (j := 24) dX11_talk_90 fkX11_139 rfl (by decide) rfl (by decide) (ab_24) ?_
    refine E_if_leN (t := 101) dX11_talk_93 (by decide) (by decide) (fun c93 => ?_) (fun c93 => ?_)
    · skip
      refine E_aload_n dX11_talk_101 rfl ?_
      refine E_callV (r := qX11_keeps) (ci := 11) dX11_talk_102 mkX11_205 voX11_keeps rfl rfl rfl ⟨Nat.le_of_ble_eq_true rfl, Nat.le_of_ble_eq_true rfl, Nat.le_of_ble_eq_true rfl, Nat.le_of_ble_eq_true rfl⟩ (m_keeps hP2 hZ1) rfl (Nat.le_of_ble_eq_true rfl) ?_
      rintro _ M3 ⟨rfl, hK⟩
      refine E_aload_n dX11_talk_105 rfl ?_
      refine E_iconst (v := nI 0) dX11_talk_106 rfl ?_
      refine E_putI (ci := 11) (j := 13) dX11_talk_107 fkX11_115 rfl (by decide) rfl (by decide) ?_
      refine E_aload_n dX11_talk_110 rfl ?_
      refine E_iconst (v := nI 0) dX11_talk_111 rfl ?_
      refine E_putI (ci := 11) (j := 15) dX11_talk_112 fkX11_126 rfl (by decide) rfl (by decide) ?_
      refine E_aload_n dX11_talk_115 rfl ?_
      refine E_iconst (v := nI 0) dX11_talk_116 rfl ?_
      refine E_putI (ci := 11) (j := 17) dX11_talk_117 fkX11_208 rfl (by decide) rfl (by decide) ?_
      refine E_aload_n dX11_talk_120 rfl ?_
      refine E_getI' (ci := 11) (j := 0) dX11_talk_121 fkX11_85 rfl (by decide) rfl (by decide) ((sI_o (by decide)).trans ((sI_o (by decide)).trans ((sI_o (by decide)).trans (hK.2.2.1 0 (by decide))))) ?_
      refine E_iret dX11_talk_124 rfl ?_
      exact tk_g hF hP hP2 hr M3 hK
    · skip
      exact absurd c93 (by decide)
set_option maxRecDepth 8000 in
theorem tk_J34b (hM : MS T M) : ∀ (M1 : AM) (q b : Nat), PF M M1 → FL T (prs T) q b → Ex g qX11_talk (tm g qX11_talk (RtM (mrTalk T) (nxTalk T) M)) 34 [some (.ref 61), none, none] [] (AB M1 q b) := by
  obtain ⟨hR, hB, hS, hA, hX⟩ := id hM
  have hX0 : RT T M := ⟨⟨hX.2.1, fun i hi => (hX.2.2.1 i hi).2⟩, hX.1, fun i hi => (hX.2.2.1 i hi).1⟩
  have hsz := hX.2.1
  have J55b := @tk_J55b g M T hM
  have J55g := @tk_J55g g M T hM
  intro M1 q b hF hL
  have hb4 := hL.2.1
  refine E_aload_n dX11_talk_34 rfl ?_
  refine E_getI' (ci := 11) (j := 24) dX11_talk_35 fkX11_139 rfl (by decide) rfl (by decide) (ab_24) ?_
  refine E_if_neN (t := 55) dX11_talk_38 (by decide) (by omega) (fun c38 => ?_) (fun c38 => ?_)
  · skip
    exact J55b M1 q b hF hL
  · skip
    exact absurd c38 hL.1
set_option maxRecDepth 8000 in
theorem tk_L (hM : MS T M) : ∀ (n : Nat) (M1 : AM) (P1 : TK) (q : Nat), T 61 21 < q + n → q ≤ T 61 21 → PF M M1 → RPm P1 M1 → rn T q (0, 0, P1) = prs T → P1 61 1 ≠ 0 → Ex g qX11_talk (tm g qX11_talk (RtM (mrTalk T) (nxTalk T) M)) 34 [some (.ref 61), none, none] [] (AB M1 q 0) := by
  obtain ⟨hR, hB, hS, hA, hX⟩ := id hM
  have hX0 : RT T M := ⟨⟨hX.2.1, fun i hi => (hX.2.2.1 i hi).2⟩, hX.1, fun i hi => (hX.2.2.1 i hi).1⟩
  have hsz := hX.2.1
  have J55b := @tk_J55b g M T hM
  have J55g := @tk_J55g g M T hM
  have J34b := @tk_J34b g M T hM
  intro n
  induction n with
  | zero => intro M1 P1 q h1 h2; exact absurd h1 (by omega)
  | succ n ih =>
    intro M1 P1 q0 hn hq hF hP1 hrn hth1
    have hX1 := rt_pf hX0 hF
    have K1 : ∀ (q : Nat) (M2 : AM) (q3 b3 : Nat), SK T q0 q → PF M1 M2 → ((b3 = 0 ∧ q3 ≤ T 61 21 ∧ ∃ P2, RPm P2 M2 ∧ rn T q3 (0, 0, P2) = rn T q (0, 0, P1) ∧ P2 61 1 ≠ 0 ∧ q < q3) ∨ FL T (rn T q (0, 0, P1)) q3 b3) → Ex g qX11_talk (tm g qX11_talk (RtM (mrTalk T) (nxTalk T) M)) 34 [some (.ref 61), none, none] [] (AB M2 q3 b3) := by
      intro q M2 q3 b3 hk hF2 hr2
      rw [hk.2.2.2.1, hrn] at hr2
      rcases hr2 with ⟨rfl, h1, P2, h2, h3, h4, h5⟩ | hL
      · exact ih M2 P2 q3 (by have := hk.1; omega) h1 (hF.tr hF2) h2 h3 h4
      · exact J34b M2 q3 b3 (hF.tr hF2) hL
    have K2 : ∀ q, SK T q0 q → T 61 21 ≤ q → Ex g qX11_talk (tm g qX11_talk (RtM (mrTalk T) (nxTalk T) M)) 55 [some (.ref 61), none, none] [] (AB M1 q 0) := by
      intro q hk he
      have hqe : q = T 61 21 := by have := hk.2.1; omega
      refine J55g M1 P1 q hF hP1 ?_ hqe
      rw [← hrn, ← hk.2.2.2.1]
      unfold rn
      rw [show T 61 21 - q = 0 by omega, pRun, if_pos ⟨rfl, hth1⟩]
    refine E_aload_n dX11_talk_34 rfl ?_
    refine E_getI' (ci := 11) (j := 24) dX11_talk_35 fkX11_139 rfl (by decide) rfl (by decide) (ab_24) ?_
    refine E_if_neN (t := 55) dX11_talk_38 (by decide) (by decide) (fun c38 => ?_) (fun c38 => ?_)
    · skip
      exact absurd c38 (by decide)
    · skip
      refine E_aload_n dX11_talk_41 rfl ?_
      refine E_callV (r := qX11_look) (ci := 11) dX11_talk_42 mkX11_142 voX11_look rfl rfl rfl ⟨Nat.le_of_ble_eq_true rfl, Nat.le_of_ble_eq_true rfl, Nat.le_of_ble_eq_true rfl, Nat.le_of_ble_eq_true rfl⟩ (m_look hX1 hq) rfl (Nat.le_of_ble_eq_true rfl) ?_
      rintro _ _ ⟨q, rfl, rfl, hk⟩
      refine E_if_lt (t := 55) dX11_talk_45 (by decide) (fun c45 => ?_) (fun c45 => ?_)
      · skip
        exact K2 q hk ((ch_lt hX0.1).mp c45)
      · skip
        have hqs : q < T 61 21 := Nat.lt_of_not_le (fun e => c45 ((ch_lt hX0.1).mpr e))
        refine E_aload_n dX11_talk_48 rfl ?_
        refine E_callV (r := qX11_readsClause) (ci := 11) dX11_talk_49 mkX11_199 voX11_readsClause rfl rfl rfl ⟨Nat.le_of_ble_eq_true rfl, Nat.le_of_ble_eq_true rfl, Nat.le_of_ble_eq_true rfl, Nat.le_of_ble_eq_true rfl⟩ (m_readsClause hX1 hP1 hk.2.1 (Or.inr ⟨hqs, hk.2.2.1 hqs⟩)) rfl (Nat.le_of_ble_eq_true rfl) ?_
        rintro _ _ ⟨rfl, M2, q3, b3, rfl, hF2, hr2⟩
        refine E_goto (t := 34) dX11_talk_52 (by decide) ?_
        exact K1 q M2 q3 b3 hk hF2 hr2
set_option maxRecDepth 8000 in
theorem m_talk (hM : MS T M) : Call g qX11_talk [.ref 61] M (RtM (mrTalk T) (nxTalk T) M) := by
  obtain ⟨hR, hB, hS, hA, hX⟩ := id hM
  have hX0 : RT T M := ⟨⟨hX.2.1, fun i hi => (hX.2.2.1 i hi).2⟩, hX.1, fun i hi => (hX.2.2.1 i hi).1⟩
  have hsz := hX.2.1
  have J34b := @tk_J34b g M T hM
  have L := @tk_L g M T hM
  have hF0 : PF M (sI (sI (sI (sI M 61 28 (nI 0)) 61 29 (nI 0)) 61 30 (nI 0)) 61 31 (nI 0)) := (((PF.rf.i (by decide)).i (by decide)).i (by decide)).i (by decide)
  refine Call_of (ls0 := [some (.ref 61), none, none]) rfl rfl (Nat.le_of_ble_eq_true rfl) ?_
  refine E_aload_n dX11_talk_0 rfl ?_
  refine E_iconst (v := nI 0) dX11_talk_1 rfl ?_
  refine E_putI (ci := 11) (j := 23) dX11_talk_2 fkX11_136 rfl (by decide) rfl (by decide) ?_
  refine E_aload_n dX11_talk_5 rfl ?_
  refine E_iconst (v := nI 0) dX11_talk_6 rfl ?_
  refine E_putI (ci := 11) (j := 24) dX11_talk_7 fkX11_139 rfl (by decide) rfl (by decide) ?_
  refine E_mem (show _ = AB M 0 0 from rfl) ?_
  refine E_aload_n dX11_talk_10 rfl ?_
  refine E_iconst (v := nI 0) dX11_talk_11 rfl ?_
  refine E_putI (ci := 11) (j := 28) dX11_talk_12 fkX11_177 rfl (by decide) rfl (by decide) ?_
  refine E_mem (ab_s (by decide) (by decide)) ?_
  refine E_aload_n dX11_talk_15 rfl ?_
  refine E_iconst (v := nI 0) dX11_talk_16 rfl ?_
  refine E_putI (ci := 11) (j := 29) dX11_talk_17 fkX11_153 rfl (by decide) rfl (by decide) ?_
  refine E_mem (ab_s (by decide) (by decide)) ?_
  refine E_aload_n dX11_talk_20 rfl ?_
  refine E_iconst (v := nI 0) dX11_talk_21 rfl ?_
  refine E_putI (ci := 11) (j := 30) dX11_talk_22 fkX11_193 rfl (by decide) rfl (by decide) ?_
  refine E_mem (ab_s (by decide) (by decide)) ?_
  refine E_aload_n dX11_talk_25 rfl ?_
  refine E_iconst (v := nI 0) dX11_talk_26 rfl ?_
  refine E_putI (ci := 11) (j := 31) dX11_talk_27 fkX11_156 rfl (by decide) rfl (by decide) ?_
  refine E_mem (ab_s (by decide) (by decide)) ?_
  refine E_aload_n dX11_talk_30 rfl ?_
  refine E_callV (r := qX11_readsClause) (ci := 11) dX11_talk_31 mkX11_199 voX11_readsClause rfl rfl rfl ⟨Nat.le_of_ble_eq_true rfl, Nat.le_of_ble_eq_true rfl, Nat.le_of_ble_eq_true rfl, Nat.le_of_ble_eq_true rfl⟩ (m_readsClause (rt_pf hX0 hF0) tk_0 (Nat.zero_le _) (Or.inl rfl)) rfl (Nat.le_of_ble_eq_true rfl) ?_
  rintro _ _ ⟨rfl, M2, q3, b3, rfl, hF2, hr2⟩
  rcases hr2 with ⟨rfl, h1, P2, h2, h3, h4, h5⟩ | hL
  · exact L (T 61 21 + 1) M2 P2 q3 (by omega) h1 (hF0.tr hF2) h2 h3 h4
  · exact J34b M2 q3 b3 (hF0.tr hF2) hL
end M26
