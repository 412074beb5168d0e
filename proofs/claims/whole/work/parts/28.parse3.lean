-- the model: readsAlternative
theorem mk_s {c : Nat} (h : isMk c = true) (h1 : 113 ≤ c) : 1 * 2 ^ (c - 113) = sMk c := by
  unfold isMk at h; rw [decide_eq_true_iff] at h; unfold sMk; rw [if_pos (by omega), Nat.one_mul]
theorem mk_s0 {c : Nat} (h1 : c < 113) : 0 = sMk c := by unfold sMk; rw [if_neg (by omega)]
theorem mk_g {c : Nat} (h : isMk c = true) (h1 : c < 113) : 1 * 2 ^ (c - 81) = gMk c := by
  unfold isMk at h; rw [decide_eq_true_iff] at h; unfold gMk; rw [if_pos (by omega), Nat.one_mul]
theorem mk_g0 {c : Nat} (h1 : 113 ≤ c) : 0 = gMk c := by unfold gMk; rw [if_neg (by omega)]
theorem mk_c {c : Nat} (h : isMk c = true) : (113 ≤ c ∧ c ≤ 118) ∨ (81 ≤ c ∧ c ≤ 86) := by unfold isMk at h; rw [decide_eq_true_iff] at h; exact h
theorem mkA_t {T : TK} {q : Nat} (h : mkA T q = true) : q < T 61 21 ∧ isMk (T 75 q) = true := by
  unfold mkA at h; rw [Bool.and_eq_true, decide_eq_true_iff] at h; exact h
theorem mkA_f {T : TK} {q : Nat} (h : mkA T q = false) (hq : q < T 61 21) : isMk (T 75 q) = false := by
  unfold mkA at h; rw [decide_eq_true hq, Bool.true_and] at h; exact h
section M20
variable {g : GG} {M : AM} {T P : TK} {p a lc : Nat}
set_option maxRecDepth 8000 in
theorem m_readsAlt (hX : RT T M) (hP : RPm P M) (ha : P 61 0 = a + 1) (h3 : P 65 a < 3) (hp : p ≤ T 61 21) : Call g qX11_readsAlternative [.ref 61, .int (nI a)] (AB M p 0) (PO T (rn T p (6, lc, opA P)) 7 lc (fun P' q => P' 61 0 = a + 1 ∧ p ≤ q ∧ mkA T q = false ∧ (q < T 61 21 → T 75 q ≠ 32) ∧ P' 61 1 = P 61 1) M) := by
  have hsz := hX.1.1
  have h32 : a + 1 ≤ 32 := by rw [← ha]; exact hP.2.1.1
  have hal : M.1 76 (6 * a + 3) = nI (P 65 a) := (hP.1 65 a (Or.inr (Or.inl ⟨by omega, by omega⟩))).2.2
  have Jb : ∀ (M1 : AM) (q : Nat) (y : Option Value), PF M M1 → FL T (rn T p (6, lc, opA P)) q 1 → Ex g qX11_readsAlternative (tm g qX11_readsAlternative (PO T (rn T p (6, lc, opA P)) 7 lc (fun P' q => P' 61 0 = a + 1 ∧ p ≤ q ∧ mkA T q = false ∧ (q < T 61 21 → T 75 q ≠ 32) ∧ P' 61 1 = P 61 1) M)) 42 [some (.ref 61), some (.int (nI a)), some (.int (nI (3 * a + P 65 a))), y] [] (AB M1 q 1) := by
    intro M1 q y hF hL
    refine E_aload_n dX11_readsAlternative_42 rfl ?_
    refine E_getI' (ci := 11) (j := 24) dX11_readsAlternative_43 fkX11_139 rfl (by decide) rfl (by decide) (ab_24) ?_
    refine E_if_neN (t := 124) dX11_readsAlternative_46 (by decide) (by decide) (fun c46 => ?_) (fun c46 => ?_)
    · skip
      refine E_aload_n dX11_readsAlternative_124 rfl ?_
      refine E_getR' (ci := 11) (j := 25) (p := 76) dX11_readsAlternative_125 fkX11_53 rfl (by decide) rfl (by decide) (rfl) ?_
      refine E_bipush (v := nI 6) dX11_readsAlternative_128 rfl ?_
      refine E_iload_n dX11_readsAlternative_130 rfl ?_
      refine E_imulN dX11_readsAlternative_131 ?_
      refine E_iconst (v := nI 3) dX11_readsAlternative_132 rfl ?_
      refine E_iaddN dX11_readsAlternative_133 ?_
      refine E_dup2 dX11_readsAlternative_134 rfl rfl ?_
      refine E_ialdN dX11_readsAlternative_135 rfl (by omega) (by decide) rfl ?_
      refine E_iconst (v := nI 1) dX11_readsAlternative_136 rfl ?_
      refine E_iadd dX11_readsAlternative_137 ?_
      refine E_iastN dX11_readsAlternative_138 rfl (by omega) (by decide) ?_
      refine E_mem (ab_s (by omega) (by omega)) ?_
      refine E_vret dX11_readsAlternative_139 rfl ?_
      exact ⟨rfl, _, q, 1, rfl, hF.i (by omega), Or.inr hL⟩
    · skip
      exact absurd c46 (by decide)
  have L : ∀ (n : Nat) (M1 : AM) (P1 : TK) (q w : Nat) (y : Option Value), p ≤ q → q ≤ T 61 21 → T 61 21 < q + n → (w = 7 ∨ (w = 6 ∧ (q < T 61 21 → T 75 q ≠ 32) ∧ mkA T q = true)) → PF M M1 → RPd aM (fun k j => dom P1 k j ∧ ¬ (k = 65 ∧ j = a)) P1 M1 → M1.1 76 (6 * a + 3) = nI (P 65 a) → P1 61 0 = a + 1 → P1 65 a = P 65 a + 1 → WT P1 → (∀ a, P1 70 a ≤ 1) → P1 61 1 = P 61 1 → rn T q (w, lc, P1) = (rn T p (6, lc, opA P)) → Ex g qX11_readsAlternative (tm g qX11_readsAlternative (PO T (rn T p (6, lc, opA P)) 7 lc (fun P' q => P' 61 0 = a + 1 ∧ p ≤ q ∧ mkA T q = false ∧ (q < T 61 21 → T 75 q ≠ 32) ∧ P' 61 1 = P 61 1) M)) 42 [some (.ref 61), some (.int (nI a)), some (.int (nI (3 * a + P 65 a))), y] [] (AB M1 q 0) := by
    intro n
    induction n with
    | zero => intro M1 P1 q w y h1 h2 h3; exact absurd h3 (by omega)
    | succ n ih =>
      intro M1 P1 q0 w y hpq hq hn hw hF hD h65 hm1 h651 hW1 h701 h611 hrn
      have hX1 := rt_pf hX hF
      have hai : alI P1 = 3 * a + P 65 a := by rw [alI_lt hm1 (by omega), h651]; rfl
      have d66 : dom P1 66 (3 * a + P 65 a) := Or.inr (Or.inr ⟨Or.inl rfl, a, P 65 a, by omega, by omega, rfl⟩)
      have d67 : dom P1 67 (3 * a + P 65 a) := Or.inr (Or.inr ⟨Or.inr rfl, a, P 65 a, by omega, by omega, rfl⟩)
      have h66 : M1.1 77 (3 * a + P 65 a) = nI (P1 66 (3 * a + P 65 a)) := (hD 66 _ ⟨d66, by omega⟩).2.2
      have h67 : M1.1 78 (3 * a + P 65 a) = nI (P1 67 (3 * a + P 65 a)) := (hD 67 _ ⟨d67, by omega⟩).2.2
      refine E_aload_n dX11_readsAlternative_42 rfl ?_
      refine E_getI' (ci := 11) (j := 24) dX11_readsAlternative_43 fkX11_139 rfl (by decide) rfl (by decide) (ab_24) ?_
      refine E_if_neN (t := 124) dX11_readsAlternative_46 (by decide) (by decide) (fun c46 => ?_) (fun c46 => ?_)
      · skip
        exact absurd c46 (by decide)
      · skip
        refine E_aload_n dX11_readsAlternative_49 rfl ?_
        refine E_callV (r := qX11_isMark) (ci := 11) dX11_readsAlternative_50 mkX11_167 voX11_isMark rfl rfl rfl ⟨Nat.le_of_ble_eq_true rfl, Nat.le_of_ble_eq_true rfl, Nat.le_of_ble_eq_true rfl, Nat.le_of_ble_eq_true rfl⟩ (m_isMark hX1 hq) rfl (Nat.le_of_ble_eq_true rfl) ?_
        rintro _ _ ⟨q, rfl, rfl, hk⟩
        refine E_if_eqB (t := 124) dX11_readsAlternative_53 (by decide) (fun c53 => ?_) (fun c53 => ?_)
        · skip
          refine E_aload_n dX11_readsAlternative_124 rfl ?_
          refine E_getR' (ci := 11) (j := 25) (p := 76) dX11_readsAlternative_125 fkX11_53 rfl (by decide) rfl (by decide) (rfl) ?_
          refine E_bipush (v := nI 6) dX11_readsAlternative_128 rfl ?_
          refine E_iload_n dX11_readsAlternative_130 rfl ?_
          refine E_imulN dX11_readsAlternative_131 ?_
          refine E_iconst (v := nI 3) dX11_readsAlternative_132 rfl ?_
          refine E_iaddN dX11_readsAlternative_133 ?_
          refine E_dup2 dX11_readsAlternative_134 rfl rfl ?_
          refine E_ialdN dX11_readsAlternative_135 rfl (by omega) (by decide) ((ab_o (by omega) (by omega)).trans h65) ?_
          refine E_iconst (v := nI 1) dX11_readsAlternative_136 rfl ?_
          refine E_iaddN dX11_readsAlternative_137 ?_
          refine E_iastN dX11_readsAlternative_138 rfl (by omega) (by decide) ?_
          refine E_mem (ab_s (by omega) (by omega)) ?_
          refine E_vret dX11_readsAlternative_139 rfl ?_
          have hw7 : w = 7 := by (rcases hw with e | ⟨e, e1, e2⟩; exact e; exact absurd e2 (by rw [← hk.2.2.2.2 e1, c53]; decide))
          subst hw7
          have hp1 := rp_up aM_inj hD (k := 65) (j := a) (v := P 65 a + 1) (by decide) (by decide)
          rw [← h651, upT_id] at hp1
          refine ⟨rfl, _, q, 0, rfl, hF.i (by omega), Or.inl ⟨rfl, hk.2.1, P1, ⟨rp_sub (by rw [← h651]; exact hp1) (fun k j hd => ?_), hW1, h701⟩, by rw [hk.2.2.2.1]; exact hrn, hm1, Nat.le_trans hpq hk.1, c53, hk.2.2.1, h611⟩⟩
          by_cases e : k = 65 ∧ j = a
          · exact Or.inr e
          · exact Or.inl ⟨hd, e⟩
        · skip
          obtain ⟨hqs, hmk⟩ := mkA_t c53
          have hmc := mk_c hmk
          refine E_aload_n dX11_readsAlternative_56 rfl ?_
          refine E_callV (r := qX11_look) (ci := 11) dX11_readsAlternative_57 mkX11_142 voX11_look rfl rfl rfl ⟨Nat.le_of_ble_eq_true rfl, Nat.le_of_ble_eq_true rfl, Nat.le_of_ble_eq_true rfl, Nat.le_of_ble_eq_true rfl⟩ (m_look hX1 hk.2.1) rfl (Nat.le_of_ble_eq_true rfl) ?_
          rintro _ _ ⟨q', rfl, rfl, hq'⟩
          obtain rfl : q' = q := hq'.2.2.2.2 hk.2.2.1
          rw [ch_p hqs]
          refine E_ist_n (i := 3) dX11_readsAlternative_60 rfl (by decide) rfl ?_
          refine E_aload_n dX11_readsAlternative_61 rfl ?_
          refine E_getR' (ci := 11) (j := 26) (p := 77) dX11_readsAlternative_62 fkX11_56 rfl (by decide) rfl (by decide) (rfl) ?_
          refine E_iload_n dX11_readsAlternative_65 rfl ?_
          refine E_dup2 dX11_readsAlternative_66 rfl rfl ?_
          refine E_ialdN dX11_readsAlternative_67 rfl (by omega) (by decide) ((ab_o (by omega) (by omega)).trans h66) ?_
          refine E_iload_n dX11_readsAlternative_68 rfl ?_
          refine E_bipush (v := nI 113) dX11_readsAlternative_69 rfl ?_
          refine E_icmp_ltN (t := 83) dX11_readsAlternative_71 (by decide) (by omega) (by omega) (fun c71 => ?_) (fun c71 => ?_)
          · skip
            have hs := mk_s0 c71
            refine E_iconst (v := nI 0) dX11_readsAlternative_83 rfl ?_
            refine E_top (congrArg nI hs) ?_
            refine E_iorN dX11_readsAlternative_84 ?_
            refine E_iastN dX11_readsAlternative_85 rfl (by omega) (by decide) ?_
            refine E_mem (ab_s (by omega) (by omega)) ?_
            refine E_aload_n dX11_readsAlternative_86 rfl ?_
            refine E_getR' (ci := 11) (j := 27) (p := 78) dX11_readsAlternative_87 fkX11_59 rfl (by decide) rfl (by decide) (rfl) ?_
            refine E_iload_n dX11_readsAlternative_90 rfl ?_
            refine E_dup2 dX11_readsAlternative_91 rfl rfl ?_
            refine E_ialdN dX11_readsAlternative_92 rfl (by omega) (by decide) ((ab_o (by omega) (by omega)).trans ((sI_o (by omega)).trans h67)) ?_
            refine E_iload_n dX11_readsAlternative_93 rfl ?_
            refine E_bipush (v := nI 113) dX11_readsAlternative_94 rfl ?_
            refine E_icmp_ltN (t := 103) dX11_readsAlternative_96 (by decide) (by omega) (by omega) (fun c96 => ?_) (fun c96 => ?_)
            · skip
              have hg := mk_g hmk c96
              have hp3 := p2_64 (l := T 75 q' - 81) (by omega)
              refine E_iconst (v := nI 1) dX11_readsAlternative_103 rfl ?_
              refine E_iload_n dX11_readsAlternative_104 rfl ?_
              refine E_bipush (v := nI 81) dX11_readsAlternative_105 rfl ?_
              refine E_isubN dX11_readsAlternative_107 (by omega) ?_
              refine E_ishlN dX11_readsAlternative_108 (by omega) (by omega) ?_
              refine E_top (congrArg nI hg) ?_
              refine E_iorN dX11_readsAlternative_109 ?_
              refine E_iastN dX11_readsAlternative_110 rfl (by omega) (by decide) ?_
              refine E_mem (ab_s (by omega) (by omega)) ?_
              refine E_aload_n dX11_readsAlternative_111 rfl ?_
              refine E_dup dX11_readsAlternative_112 rfl ?_
              refine E_getI' (ci := 11) (j := 23) dX11_readsAlternative_113 fkX11_136 rfl (by decide) rfl (by decide) (ab_23) ?_
              refine E_iconst (v := nI 1) dX11_readsAlternative_116 rfl ?_
              refine E_iaddN dX11_readsAlternative_117 ?_
              refine E_putI (ci := 11) (j := 23) dX11_readsAlternative_118 fkX11_136 rfl (by decide) rfl (by decide) ?_
              refine E_mem ab_s23 ?_
              refine E_goto (t := 42) dX11_readsAlternative_121 (by decide) ?_
              have hst : pStp (T 75 q') (w, lc, P1) = (0, 7, lc, asM P1 (T 75 q')) := by (rcases hw with e | ⟨e, -⟩ <;> subst e <;> (unfold pStp pS; simp only [pAsk, hmk, if_true]))
              have hp1 := rp_up aM_inj (rp_up aM_inj hD (k := 66) (j := 3 * a + P 65 a) (v := P1 66 (3 * a + P 65 a) ||| sMk (T 75 q')) (by decide) (by decide)) (k := 67) (j := 3 * a + P 65 a) (v := P1 67 (3 * a + P 65 a) ||| gMk (T 75 q')) (by decide) (by decide)
              have has : asM P1 (T 75 q') = upT (upT P1 66 (3 * a + P 65 a) (P1 66 (3 * a + P 65 a) ||| sMk (T 75 q'))) 67 (3 * a + P 65 a) (P1 67 (3 * a + P 65 a) ||| gMk (T 75 q')) := by unfold asM orT; rw [hai, upT_ne (a := 67) (by omega)]
              refine ih _ (asM P1 (T 75 q')) (q' + 1) 7 _ (by have := hk.1; omega) (by omega) (by have := hk.1; omega) (Or.inl rfl) ((hF.i (by omega)).i (by omega)) ?_ ?_ ?_ ?_ (wt_asM hW1 hm1 (by omega)) ?_ ?_ ?_
              · rw [has]; exact rp_sub hp1 (fun k j hd => Or.inl (Or.inl ⟨dom_up (by omega) (by decide) (dom_up (by omega) (by decide) hd.1), hd.2⟩))
              · rw [sI_o (by omega), sI_o (by omega)]; exact h65
              · rw [has, upT_ne (by omega), upT_ne (by omega)]; exact hm1
              · rw [has, upT_ne (by omega), upT_ne (by omega)]; exact h651
              · intro b; rw [has, upT_ne (by omega), upT_ne (by omega)]; exact h701 b
              · rw [has, upT_ne (by omega), upT_ne (by omega)]; exact h611
              · rw [← rn_ok hqs (hk.2.2.1 hqs) hst, hk.2.2.2.1]; exact hrn
            · skip
              have hg := mk_g0 c96
              refine E_iconst (v := nI 0) dX11_readsAlternative_99 rfl ?_
              refine E_goto (t := 109) dX11_readsAlternative_100 (by decide) ?_
              refine E_top (congrArg nI hg) ?_
              refine E_iorN dX11_readsAlternative_109 ?_
              refine E_iastN dX11_readsAlternative_110 rfl (by omega) (by decide) ?_
              refine E_mem (ab_s (by omega) (by omega)) ?_
              refine E_aload_n dX11_readsAlternative_111 rfl ?_
              refine E_dup dX11_readsAlternative_112 rfl ?_
              refine E_getI' (ci := 11) (j := 23) dX11_readsAlternative_113 fkX11_136 rfl (by decide) rfl (by decide) (ab_23) ?_
              refine E_iconst (v := nI 1) dX11_readsAlternative_116 rfl ?_
              refine E_iaddN dX11_readsAlternative_117 ?_
              refine E_putI (ci := 11) (j := 23) dX11_readsAlternative_118 fkX11_136 rfl (by decide) rfl (by decide) ?_
              refine E_mem ab_s23 ?_
              refine E_goto (t := 42) dX11_readsAlternative_121 (by decide) ?_
              have hst : pStp (T 75 q') (w, lc, P1) = (0, 7, lc, asM P1 (T 75 q')) := by (rcases hw with e | ⟨e, -⟩ <;> subst e <;> (unfold pStp pS; simp only [pAsk, hmk, if_true]))
              have hp1 := rp_up aM_inj (rp_up aM_inj hD (k := 66) (j := 3 * a + P 65 a) (v := P1 66 (3 * a + P 65 a) ||| sMk (T 75 q')) (by decide) (by decide)) (k := 67) (j := 3 * a + P 65 a) (v := P1 67 (3 * a + P 65 a) ||| gMk (T 75 q')) (by decide) (by decide)
              have has : asM P1 (T 75 q') = upT (upT P1 66 (3 * a + P 65 a) (P1 66 (3 * a + P 65 a) ||| sMk (T 75 q'))) 67 (3 * a + P 65 a) (P1 67 (3 * a + P 65 a) ||| gMk (T 75 q')) := by unfold asM orT; rw [hai, upT_ne (a := 67) (by omega)]
              refine ih _ (asM P1 (T 75 q')) (q' + 1) 7 _ (by have := hk.1; omega) (by omega) (by have := hk.1; omega) (Or.inl rfl) ((hF.i (by omega)).i (by omega)) ?_ ?_ ?_ ?_ (wt_asM hW1 hm1 (by omega)) ?_ ?_ ?_
              · rw [has]; exact rp_sub hp1 (fun k j hd => Or.inl (Or.inl ⟨dom_up (by omega) (by decide) (dom_up (by omega) (by decide) hd.1), hd.2⟩))
              · rw [sI_o (by omega), sI_o (by omega)]; exact h65
              · rw [has, upT_ne (by omega), upT_ne (by omega)]; exact hm1
              · rw [has, upT_ne (by omega), upT_ne (by omega)]; exact h651
              · intro b; rw [has, upT_ne (by omega), upT_ne (by omega)]; exact h701 b
              · rw [has, upT_ne (by omega), upT_ne (by omega)]; exact h611
              · rw [← rn_ok hqs (hk.2.2.1 hqs) hst, hk.2.2.2.1]; exact hrn
          · skip
            have hs := mk_s hmk c71
            have hp2 := p2_64 (l := T 75 q' - 113) (by omega)
            refine E_iconst (v := nI 1) dX11_readsAlternative_74 rfl ?_
            refine E_iload_n dX11_readsAlternative_75 rfl ?_
            refine E_bipush (v := nI 113) dX11_readsAlternative_76 rfl ?_
            refine E_isubN dX11_readsAlternative_78 (by omega) ?_
            refine E_ishlN dX11_readsAlternative_79 (by omega) (by omega) ?_
            refine E_goto (t := 84) dX11_readsAlternative_80 (by decide) ?_
            refine E_top (congrArg nI hs) ?_
            refine E_iorN dX11_readsAlternative_84 ?_
            refine E_iastN dX11_readsAlternative_85 rfl (by omega) (by decide) ?_
            refine E_mem (ab_s (by omega) (by omega)) ?_
            refine E_aload_n dX11_readsAlternative_86 rfl ?_
            refine E_getR' (ci := 11) (j := 27) (p := 78) dX11_readsAlternative_87 fkX11_59 rfl (by decide) rfl (by decide) (rfl) ?_
            refine E_iload_n dX11_readsAlternative_90 rfl ?_
            refine E_dup2 dX11_readsAlternative_91 rfl rfl ?_
            refine E_ialdN dX11_readsAlternative_92 rfl (by omega) (by decide) ((ab_o (by omega) (by omega)).trans ((sI_o (by omega)).trans h67)) ?_
            refine E_iload_n dX11_readsAlternative_93 rfl ?_
            refine E_bipush (v := nI 113) dX11_readsAlternative_94 rfl ?_
            refine E_icmp_ltN (t := 103) dX11_readsAlternative_96 (by decide) (by omega) (by omega) (fun c96 => ?_) (fun c96 => ?_)
            · skip
              have hg := mk_g hmk c96
              have hp3 := p2_64 (l := T 75 q' - 81) (by omega)
              refine E_iconst (v := nI 1) dX11_readsAlternative_103 rfl ?_
              refine E_iload_n dX11_readsAlternative_104 rfl ?_
              refine E_bipush (v := nI 81) dX11_readsAlternative_105 rfl ?_
              refine E_isubN dX11_readsAlternative_107 (by omega) ?_
              refine E_ishlN dX11_readsAlternative_108 (by omega) (by omega) ?_
              refine E_top (congrArg nI hg) ?_
              refine E_iorN dX11_readsAlternative_109 ?_
              refine E_iastN dX11_readsAlternative_110 rfl (by omega) (by decide) ?_
              refine E_mem (ab_s (by omega) (by omega)) ?_
              refine E_aload_n dX11_readsAlternative_111 rfl ?_
              refine E_dup dX11_readsAlternative_112 rfl ?_
              refine E_getI' (ci := 11) (j := 23) dX11_readsAlternative_113 fkX11_136 rfl (by decide) rfl (by decide) (ab_23) ?_
              refine E_iconst (v := nI 1) dX11_readsAlternative_116 rfl ?_
              refine E_iaddN dX11_readsAlternative_117 ?_
              refine E_putI (ci := 11) (j := 23) dX11_readsAlternative_118 fkX11_136 rfl (by decide) rfl (by decide) ?_
              refine E_mem ab_s23 ?_
              refine E_goto (t := 42) dX11_readsAlternative_121 (by decide) ?_
              have hst : pStp (T 75 q') (w, lc, P1) = (0, 7, lc, asM P1 (T 75 q')) := by (rcases hw with e | ⟨e, -⟩ <;> subst e <;> (unfold pStp pS; simp only [pAsk, hmk, if_true]))
              have hp1 := rp_up aM_inj (rp_up aM_inj hD (k := 66) (j := 3 * a + P 65 a) (v := P1 66 (3 * a + P 65 a) ||| sMk (T 75 q')) (by decide) (by decide)) (k := 67) (j := 3 * a + P 65 a) (v := P1 67 (3 * a + P 65 a) ||| gMk (T 75 q')) (by decide) (by decide)
              have has : asM P1 (T 75 q') = upT (upT P1 66 (3 * a + P 65 a) (P1 66 (3 * a + P 65 a) ||| sMk (T 75 q'))) 67 (3 * a + P 65 a) (P1 67 (3 * a + P 65 a) ||| gMk (T 75 q')) := by unfold asM orT; rw [hai, upT_ne (a := 67) (by omega)]
              refine ih _ (asM P1 (T 75 q')) (q' + 1) 7 _ (by have := hk.1; omega) (by omega) (by have := hk.1; omega) (Or.inl rfl) ((hF.i (by omega)).i (by omega)) ?_ ?_ ?_ ?_ (wt_asM hW1 hm1 (by omega)) ?_ ?_ ?_
              · rw [has]; exact rp_sub hp1 (fun k j hd => Or.inl (Or.inl ⟨dom_up (by omega) (by decide) (dom_up (by omega) (by decide) hd.1), hd.2⟩))
              · rw [sI_o (by omega), sI_o (by omega)]; exact h65
              · rw [has, upT_ne (by omega), upT_ne (by omega)]; exact hm1
              · rw [has, upT_ne (by omega), upT_ne (by omega)]; exact h651
              · intro b; rw [has, upT_ne (by omega), upT_ne (by omega)]; exact h701 b
              · rw [has, upT_ne (by omega), upT_ne (by omega)]; exact h611
              · rw [← rn_ok hqs (hk.2.2.1 hqs) hst, hk.2.2.2.1]; exact hrn
            · skip
              have hg := mk_g0 c96
              refine E_iconst (v := nI 0) dX11_readsAlternative_99 rfl ?_
              refine E_goto (t := 109) dX11_readsAlternative_100 (by decide) ?_
              refine E_top (congrArg nI hg) ?_
              refine E_iorN dX11_readsAlternative_109 ?_
              refine E_iastN dX11_readsAlternative_110 rfl (by omega) (by decide) ?_
              refine E_mem (ab_s (by omega) (by omega)) ?_
              refine E_aload_n dX11_readsAlternative_111 rfl ?_
              refine E_dup dX11_readsAlternative_112 rfl ?_
              refine E_getI' (ci := 11) (j := 23) dX11_readsAlternative_113 fkX11_136 rfl (by decide) rfl (by decide) (ab_23) ?_
              refine E_iconst (v := nI 1) dX11_readsAlternative_116 rfl ?_
              refine E_iaddN dX11_readsAlternative_117 ?_
              refine E_putI (ci := 11) (j := 23) dX11_readsAlternative_118 fkX11_136 rfl (by decide) rfl (by decide) ?_
              refine E_mem ab_s23 ?_
              refine E_goto (t := 42) dX11_readsAlternative_121 (by decide) ?_
              have hst : pStp (T 75 q') (w, lc, P1) = (0, 7, lc, asM P1 (T 75 q')) := by (rcases hw with e | ⟨e, -⟩ <;> subst e <;> (unfold pStp pS; simp only [pAsk, hmk, if_true]))
              have hp1 := rp_up aM_inj (rp_up aM_inj hD (k := 66) (j := 3 * a + P 65 a) (v := P1 66 (3 * a + P 65 a) ||| sMk (T 75 q')) (by decide) (by decide)) (k := 67) (j := 3 * a + P 65 a) (v := P1 67 (3 * a + P 65 a) ||| gMk (T 75 q')) (by decide) (by decide)
              have has : asM P1 (T 75 q') = upT (upT P1 66 (3 * a + P 65 a) (P1 66 (3 * a + P 65 a) ||| sMk (T 75 q'))) 67 (3 * a + P 65 a) (P1 67 (3 * a + P 65 a) ||| gMk (T 75 q')) := by unfold asM orT; rw [hai, upT_ne (a := 67) (by omega)]
              refine ih _ (asM P1 (T 75 q')) (q' + 1) 7 _ (by have := hk.1; omega) (by omega) (by have := hk.1; omega) (Or.inl rfl) ((hF.i (by omega)).i (by omega)) ?_ ?_ ?_ ?_ (wt_asM hW1 hm1 (by omega)) ?_ ?_ ?_
              · rw [has]; exact rp_sub hp1 (fun k j hd => Or.inl (Or.inl ⟨dom_up (by omega) (by decide) (dom_up (by omega) (by decide) hd.1), hd.2⟩))
              · rw [sI_o (by omega), sI_o (by omega)]; exact h65
              · rw [has, upT_ne (by omega), upT_ne (by omega)]; exact hm1
              · rw [has, upT_ne (by omega), upT_ne (by omega)]; exact h651
              · intro b; rw [has, upT_ne (by omega), upT_ne (by omega)]; exact h701 b
              · rw [has, upT_ne (by omega), upT_ne (by omega)]; exact h611
              · rw [← rn_ok hqs (hk.2.2.1 hqs) hst, hk.2.2.2.1]; exact hrn
  have hop : opA P = upT (upT (upT P 66 (3 * a + P 65 a) 0) 67 (3 * a + P 65 a) 0) 65 a (P 65 a + 1) := by unfold opA; rw [ha, Nat.add_sub_cancel]
  have J0 : ∀ (q : Nat) (y : Option Value), SK T p q → mkA T q = true → Ex g qX11_readsAlternative (tm g qX11_readsAlternative (PO T (rn T p (6, lc, opA P)) 7 lc (fun P' q => P' 61 0 = a + 1 ∧ p ≤ q ∧ mkA T q = false ∧ (q < T 61 21 → T 75 q ≠ 32) ∧ P' 61 1 = P 61 1) M)) 42 [some (.ref 61), some (.int (nI a)), some (.int (nI (3 * a + P 65 a))), y] [] (AB (sI (sI M 77 (3 * a + P 65 a) (nI 0)) 78 (3 * a + P 65 a) (nI 0)) q 0) := by
    intro q y hk c20
    have hp1 := rp_up aM_inj (rp_up aM_inj hP.1 (k := 66) (j := 3 * a + P 65 a) (v := 0) (by decide) (by decide)) (k := 67) (j := 3 * a + P 65 a) (v := 0) (by decide) (by decide)
    refine L (T 61 21 + 1) _ (opA P) q 6 _ hk.1 hk.2.1 (by omega) (Or.inr ⟨rfl, hk.2.2.1, c20⟩) ((PF.rf.i (by omega)).i (by omega)) ?_ ?_ ?_ ?_ (wt_opA hP.2.1 (by rw [ha, Nat.add_sub_cancel]; exact h3)) ?_ ?_ (hk.2.2.2.1 _)
    · intro k j hd
      have hd2 : dom P k j ∨ (k = 66 ∧ j = 3 * a + P 65 a) ∨ (k = 67 ∧ j = 3 * a + P 65 a) := by
        have hd1 := hd.1
        rw [hop] at hd1
        unfold dom at hd1
        rw [upT_ne (a := 61) (b := 0) (by omega), upT_ne (a := 61) (b := 0) (by omega), upT_ne (a := 61) (b := 0) (by omega)] at hd1
        rcases hd1 with h | h | ⟨h, b, r, h1, h2, h4⟩
        · exact Or.inl (Or.inl h)
        · exact Or.inl (Or.inr (Or.inl h))
        · by_cases e : b = a
          · rw [e, upT_at] at h2
            by_cases e2 : r = P 65 a
            · rw [e, e2] at h4; rcases h with h | h; exact Or.inr (Or.inl ⟨h, h4⟩); exact Or.inr (Or.inr ⟨h, h4⟩)
            · exact Or.inl (Or.inr (Or.inr ⟨h, b, r, h1, by rw [e]; omega, h4⟩))
          · rw [upT_ne (fun x => e x.2), upT_ne (by omega), upT_ne (by omega)] at h2
            exact Or.inl (Or.inr (Or.inr ⟨h, b, r, h1, h2, h4⟩))
      have h5 := hp1 k j (by rcases hd2 with h | h | h; exact Or.inl (Or.inl h); exact Or.inl (Or.inr h); exact Or.inr h)
      refine ⟨h5.1, h5.2.1, ?_⟩
      rw [hop, upT_ne hd.2]
      exact h5.2.2
    · rw [sI_o (by omega), sI_o (by omega)]; exact hal
    · rw [hop, upT_ne (by omega), upT_ne (by omega), upT_ne (by omega)]; exact ha
    · rw [hop, upT_at]
    · intro b; rw [hop, upT_ne (by omega), upT_ne (by omega), upT_ne (by omega)]; exact hP.2.2 b
    · rw [hop, upT_ne (by omega), upT_ne (by omega), upT_ne (by omega)]
  refine Call_of (ls0 := [some (.ref 61), some (.int (nI a)), none, none]) rfl rfl (Nat.le_of_ble_eq_true rfl) ?_
  refine E_iconst (v := nI 3) dX11_readsAlternative_0 rfl ?_
  refine E_iload_n dX11_readsAlternative_1 rfl ?_
  refine E_imulN dX11_readsAlternative_2 ?_
  refine E_aload_n dX11_readsAlternative_3 rfl ?_
  refine E_getR' (ci := 11) (j := 25) (p := 76) dX11_readsAlternative_4 fkX11_53 rfl (by decide) rfl (by decide) (rfl) ?_
  refine E_bipush (v := nI 6) dX11_readsAlternative_7 rfl ?_
  refine E_iload_n dX11_readsAlternative_9 rfl ?_
  refine E_imulN dX11_readsAlternative_10 ?_
  refine E_iconst (v := nI 3) dX11_readsAlternative_11 rfl ?_
  refine E_iaddN dX11_readsAlternative_12 ?_
  refine E_ialdN dX11_readsAlternative_13 rfl (by omega) (by decide) ((ab_o (by omega) (by omega)).trans hal) ?_
  refine E_iaddN dX11_readsAlternative_14 ?_
  refine E_ist_n (i := 2) dX11_readsAlternative_15 rfl (by decide) rfl ?_
  refine E_aload_n dX11_readsAlternative_16 rfl ?_
  refine E_callV (r := qX11_isMark) (ci := 11) dX11_readsAlternative_17 mkX11_167 voX11_isMark rfl rfl rfl ⟨Nat.le_of_ble_eq_true rfl, Nat.le_of_ble_eq_true rfl, Nat.le_of_ble_eq_true rfl, Nat.le_of_ble_eq_true rfl⟩ (m_isMark hX hp) rfl (Nat.le_of_ble_eq_true rfl) ?_
  rintro _ _ ⟨q, rfl, rfl, hk⟩
  refine E_if_neB (t := 28) dX11_readsAlternative_20 (by decide) (fun c20 => ?_) (fun c20 => ?_)
  · skip
    refine E_aload_n dX11_readsAlternative_28 rfl ?_
    refine E_getR' (ci := 11) (j := 26) (p := 77) dX11_readsAlternative_29 fkX11_56 rfl (by decide) rfl (by decide) (rfl) ?_
    refine E_iload_n dX11_readsAlternative_32 rfl ?_
    refine E_iconst (v := nI 0) dX11_readsAlternative_33 rfl ?_
    refine E_iastN dX11_readsAlternative_34 rfl (by omega) (by decide) ?_
    refine E_mem (ab_s (by omega) (by omega)) ?_
    refine E_aload_n dX11_readsAlternative_35 rfl ?_
    refine E_getR' (ci := 11) (j := 27) (p := 78) dX11_readsAlternative_36 fkX11_59 rfl (by decide) rfl (by decide) (rfl) ?_
    refine E_iload_n dX11_readsAlternative_39 rfl ?_
    refine E_iconst (v := nI 0) dX11_readsAlternative_40 rfl ?_
    refine E_iastN dX11_readsAlternative_41 rfl (by omega) (by decide) ?_
    refine E_mem (ab_s (by omega) (by omega)) ?_
    first | exact J0 q _ hk c20 | exact Jb _ q _ ((PF.rf.i (by omega)).i (by omega)) hL
  · skip
    have hL : FL T (rn T p (6, lc, opA P)) q 1 := by (rw [← hk.2.2.2.1]; exact fl_1 hk.2.1 hk.2.2.1 (Or.inl (show (6 : Nat) ≠ 0 by decide)) (fun h => by (show pAsk _ _ _ = _); unfold pAsk; rw [mkA_f c20 h]; rfl))
    refine E_aload_n dX11_readsAlternative_23 rfl ?_
    refine E_iconst (v := nI 1) dX11_readsAlternative_24 rfl ?_
    refine E_callV (r := qX11_wrong) (ci := 11) dX11_readsAlternative_25 mkX11_145 voX11_wrong rfl rfl rfl ⟨Nat.le_of_ble_eq_true rfl, Nat.le_of_ble_eq_true rfl, Nat.le_of_ble_eq_true rfl, Nat.le_of_ble_eq_true rfl⟩ (m_wrong (k := 1) (by decide)) rfl (Nat.le_of_ble_eq_true rfl) ?_
    rintro _ _ ⟨rfl, rfl⟩
    rw [if_pos rfl]
    refine E_aload_n dX11_readsAlternative_28 rfl ?_
    refine E_getR' (ci := 11) (j := 26) (p := 77) dX11_readsAlternative_29 fkX11_56 rfl (by decide) rfl (by decide) (rfl) ?_
    refine E_iload_n dX11_readsAlternative_32 rfl ?_
    refine E_iconst (v := nI 0) dX11_readsAlternative_33 rfl ?_
    refine E_iastN dX11_readsAlternative_34 rfl (by omega) (by decide) ?_
    refine E_mem (ab_s (by omega) (by omega)) ?_
    refine E_aload_n dX11_readsAlternative_35 rfl ?_
    refine E_getR' (ci := 11) (j := 27) (p := 78) dX11_readsAlternative_36 fkX11_59 rfl (by decide) rfl (by decide) (rfl) ?_
    refine E_iload_n dX11_readsAlternative_39 rfl ?_
    refine E_iconst (v := nI 0) dX11_readsAlternative_40 rfl ?_
    refine E_iastN dX11_readsAlternative_41 rfl (by omega) (by decide) ?_
    refine E_mem (ab_s (by omega) (by omega)) ?_
    first | exact J0 q _ hk c20 | exact Jb _ q _ ((PF.rf.i (by omega)).i (by omega)) hL
end M20
