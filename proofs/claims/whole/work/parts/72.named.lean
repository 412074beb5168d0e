-- each line that is come to is named
def NL (P : TK) : Prop := (P 61 1 ≠ 0 → (P 61 1).testBit (P 61 3) = true) ∧ ∀ a, a < P 61 0 → (P 61 1).testBit (P 63 a) = true
def NLs (s : PS) : Prop := NL s.2.2 ∧ (s.1 = 1 → (s.2.2 61 1).testBit s.2.1 = true)
def nOK (r : Nat × PS) : Prop := r.1 = 0 → NLs r.2
section N1
variable {P P' : TK} {c l w f : Nat}
theorem nl_ag (h : NL P) (h0 : P' 61 0 = P 61 0) (h1 : P' 61 1 = P 61 1) (h3 : P' 61 3 = P 61 3) (h6 : ∀ a, P' 63 a = P 63 a) : NL P' := ⟨by rw [h1, h3]; exact h.1, fun a ha => by rw [h1, h6]; rw [h0] at ha; exact h.2 a ha⟩
theorem nok_B (hf : f ≠ 0) : nOK (pB f P) := fun e => absurd e hf
theorem nok_0 (h : NL P) (hw : w ≠ 1) : nOK (0, w, l, P) := fun _ => ⟨h, fun e => absurd e hw⟩
theorem nl_up {k j v : Nat} (h : NL P) (h1 : k ≠ 61) (h3 : k ≠ 63) : NL (upT P k j v) := nl_ag h (upT_ne (fun e => h1 e.1.symm)) (upT_ne (fun e => h1 e.1.symm)) (upT_ne (fun e => h1 e.1.symm)) (fun a => upT_ne (fun e => h3 e.1.symm))
theorem nl_opA (h : NL P) : NL (opA P) := nl_up (nl_up (nl_up h (by decide) (by decide)) (by decide) (by decide)) (by decide) (by decide)
theorem nl_or {k j v : Nat} (h : NL P) (h1 : k ≠ 61) (h3 : k ≠ 63) : NL (orT P k j v) := nl_up h h1 h3
theorem nl_asM (h : NL P) : NL (asM P c) := nl_or (nl_or h (by decide) (by decide)) (by decide) (by decide)
theorem nl_chM (h : NL P) : NL (chM P c) := nl_or (nl_or h (by decide) (by decide)) (by decide) (by decide)
theorem nl_end (h : NL P) : NL (orT P 61 2 w) := nl_ag h (upT_ne (by omega)) (upT_ne (by omega)) (upT_ne (by omega)) (fun a => upT_ne (by omega))
theorem nm_1 : nmL P l 61 1 = P 61 1 ||| 2 ^ l := by unfold nmL; rw [upT_at]
theorem nm_3 : nmL P l 61 3 = if P 61 1 = 0 then l else P 61 3 := by unfold nmL; rw [upT_ne (by omega), upT_at]
theorem nm_0 : nmL P l 61 0 = P 61 0 := by unfold nmL; rw [upT_ne (by omega), upT_ne (by omega)]
theorem nm_63 {a : Nat} : nmL P l 63 a = P 63 a := by unfold nmL; rw [upT_ne (by omega), upT_ne (by omega)]
theorem nm_b : (nmL P l 61 1).testBit l = true := by rw [nm_1, Nat.testBit_or, Nat.testBit_two_pow, decide_eq_true rfl, Bool.or_true]
theorem nm_p {i : Nat} (h : (P 61 1).testBit i = true) : (nmL P l 61 1).testBit i = true := by rw [nm_1, Nat.testBit_or, h, Bool.true_or]
theorem nl_nm (h : NL P) : NL (nmL P l) := by
  refine ⟨fun _ => ?_, fun a ha => ?_⟩
  · rw [nm_3]
    by_cases e : P 61 1 = 0
    · rw [if_pos e]; exact nm_b
    · rw [if_neg e]; exact nm_p (h.1 e)
  · rw [nm_0] at ha
    rw [nm_63]
    exact nm_p (h.2 a ha)
theorem nl_ad (h : NL P) (hl : (P 61 1).testBit l = true) : NL (adA P l) := by
  refine ⟨?_, fun a ha => ?_⟩
  · rw [ad_6 (by decide), ad_6 (by decide)]; exact h.1
  · rw [ad_m] at ha
    rw [ad_6 (by decide)]
    by_cases e : a = P 61 0
    · rw [e, ad_63]; exact hl
    · rw [ad_o e (by decide)]; exact h.2 a (by omega)
theorem nok_End (h : NL P) : nOK (pEnd c l P) := by unfold pEnd; split; exact nok_0 h (by decide); exact nok_B (by decide)
theorem nok_Ten (h : NL P) : nOK (pTen c l P) := by unfold pTen; split; exact nok_0 h (by decide); exact nok_End h
theorem nok_Alt (h : NL P) : nOK (pAlt l P) := by unfold pAlt; split; exact nok_B (by decide); exact nok_0 (nl_opA h) (by decide)
theorem nok_Five (h : NL P) : nOK (pFive c l P) := by unfold pFive; split; exact nok_Alt h; exact nok_Ten h
theorem nok_Ask (h : NL P) : nOK (pAsk c l P) := by unfold pAsk; split; exact nok_0 (nl_asM h) (by decide); exact nok_B (by decide)
theorem nok_Chg (h : NL P) : nOK (pChg c l P) := by unfold pChg; split; split; exact nok_0 (nl_chM h) (by decide); exact nok_B (by decide); exact nok_B (by decide)
theorem nok_S (h : NL P) (h1 : w = 1 → (P 61 1).testBit l = true) : nOK (pS w c l P) := by
  unfold pS
  split
  · split
    · exact fun _ => ⟨nl_nm h, fun _ => nm_b⟩
    · exact nok_B (by decide)
  · split
    · exact nok_0 (nl_end h) (by decide)
    · split
      · split
        · exact nok_B (by decide)
        · exact nok_0 (nl_ad h (h1 rfl)) (by decide)
      · exact nok_B (by decide)
  · exact nok_End h
  · split
    · refine nok_0 (w := 4) ⟨?_, fun a ha => ?_⟩ (by decide)
      · rw [upT_ne (by omega), upT_ne (by omega)]; exact (nl_nm h).1
      · rw [upT_ne (by omega)] at ha ⊢
        by_cases e : a = P 61 0 - 1
        · rw [e, upT_at]; exact nm_b
        · rw [upT_ne (fun q => e q.2)]; exact (nl_nm h).2 a ha
    · exact nok_B (by decide)
  · split
    · exact nok_0 (nl_up h (by decide) (by decide)) (by decide)
    · exact nok_Five h
  · exact nok_Five h
  · exact nok_Ask h
  · split
    · exact nok_Ask h
    · split
      · exact nok_Alt h
      · exact nok_Ten h
  · exact nok_Chg h
  · split
    · exact nok_0 h (by decide)
    · exact nok_Chg h
  · exact nok_Ten h
theorem nl_run {T : TK} : ∀ (n p : Nat) (s : PS), NLs s → (pRun T n p s).1 = 0 → NL (pRun T n p s).2.2 ∧ (pRun T n p s).2.2 61 1 ≠ 0
  | 0, p, s, h, e => by
    rw [pRun] at e ⊢
    by_cases q : s.1 = 0 ∧ s.2.2 61 1 ≠ 0
    · rw [if_pos q]; exact ⟨h.1, q.2⟩
    · rw [if_neg q] at e; cases e
  | n + 1, p, s, h, e => by
    rw [pRun] at e ⊢
    by_cases q : T 75 p = 32
    · rw [if_pos q] at e ⊢; exact nl_run n (p + 1) s h e
    · rw [if_neg q] at e ⊢
      by_cases q2 : (pStp (T 75 p) s).1 = 0
      · rw [if_pos q2] at e ⊢
        exact nl_run n (p + 1) _ (nok_S h.1 h.2 q2) e
      · rw [if_neg q2] at e
        exact absurd e q2
theorem nl_prs {T : TK} (h : (prs T).1 = 0) : NL (prs T).2.2 ∧ (prs T).2.2 61 1 ≠ 0 := nl_run _ _ _ ⟨⟨fun e => absurd rfl e, fun a ha => absurd ha (Nat.not_lt_zero a)⟩, fun e => by cases e⟩ h
/-- a reached state's line is named -/
theorem nl_D {T : TK} (hT : WT T) (hB : T 61 13 < 64) (hN : NL T) (ht : T 61 1 ≠ 0) {s : Nat} (h : ¬ DT T s = none) : (T 61 1).testBit (s / 64) = true := by
  obtain ⟨d, hd⟩ := Option.ne_none_iff_exists'.mp h
  have h1 := ((DT_isD hT hB s d).mp hd).1
  cases d with
  | zero =>
    have h1 : s = fst0 T := h1
    rw [h1, show fst0 T / 64 = T 61 3 by unfold fst0; omega]
    exact hN.1 ht
  | succ d =>
    obtain ⟨u, -, h2⟩ := h1
    obtain ⟨a, ha, -, hx⟩ := sx0_mem.mp h2
    rw [← hx, (nxt_sp hT ha).1]
    exact hN.2 a ha
theorem nl_Q {T : TK} (hT : WT T) (hB : T 61 13 < 64) (hN : NL T) (ht : T 61 1 ≠ 0) {i : Nat} (hi : i < LTn T) : (T 61 1).testBit (Qn T i / 64) = true := nl_D hT hB hN ht (by rw [Qn_D hT hB hi]; exact fun e => by cases e)
end N1
/-! pictures that agree have the same graph -/
def agG (T T' : TK) : Prop := (∀ j, j < 4 ∨ j = 13 → T' 61 j = T 61 j) ∧ ∀ k, (62 ≤ k ∧ k ≤ 70 ∧ k ≠ 64) → T' k = T k
section AG
variable {T T' : TK} {M : AM}
theorem ag_opn (h : agG T T') : opn T' = opn T := by
  funext a s o
  unfold opn hold altOK
  rw [h.2 70 (by decide), h.2 62 (by decide), h.2 65 (by decide), h.2 66 (by decide), h.2 67 (by decide), h.1 2 (by decide)]
theorem ag_nxt (h : agG T T') : nxt T' = nxt T := by
  funext a s
  unfold nxt
  rw [h.2 63 (by decide), h.2 69 (by decide), h.2 68 (by decide)]
theorem ag_fst (h : agG T T') : fst0 T' = fst0 T := by unfold fst0; rw [h.1 3 (by decide), h.1 13 (by decide)]
theorem ag_sx (h : agG T T') : sx0 T' = sx0 T := by
  funext s
  show (List.range (T' 61 0)).filterMap (sxF T' none none none s) = (List.range (T 61 0)).filterMap (sxF T none none none s)
  rw [h.1 0 (by decide)]
  congr 1
  funext a
  unfold sxF okA
  rw [ag_opn h, ag_nxt h]
theorem ag_bfs (h : agG T T') : bfs (sx0 T') (fst0 T') 1024 = bfs (sx0 T) (fst0 T) 1024 := by rw [ag_sx h, ag_fst h]
theorem ag_D (h : agG T T') : DT T' = DT T := by unfold DT; rw [ag_bfs h]
theorem ag_L (h : agG T T') : LTn T' = LTn T := by unfold LTn; rw [ag_bfs h]
theorem ag_Q (h : agG T T') : Qn T' = Qn T := by funext i; unfold Qn QT; rw [ag_bfs h]
theorem ag_dQ (h : agG T T') : dQ T' = dQ T := by funext i; unfold dQ; rw [ag_D h, ag_Q h]
theorem ag_mvA (h : agG T T') : mvA T' = mvA T := by funext s; unfold mvA; rw [ag_opn h, h.1 0 (by decide)]
theorem ag_mvP (h : agG T T') : ∀ k, mvP T' k = mvP T k
  | 0 => rfl
  | k + 1 => by rw [mvP, mvP, ag_mvP h k, ag_mvA h, ag_Q h]
theorem ag_fO (h : agG T T') : fO T' = fO T := by funext k; unfold fO; rw [ag_mvP h]
theorem ag_mF (h : agG T T') : mF T' = mF T := by funext k; unfold mF; rw [ag_mvP h, ag_L h]
theorem ag_mA (h : agG T T') : mA T' = mA T := by funext k; unfold mA; rw [ag_mvP h, ag_L h]
theorem ag_mN (h : agG T T') : mN T' = mN T := by unfold mN; rw [ag_fO h, ag_L h]
theorem ag_mT (h : agG T T') : mT T' = mT T := by funext k; unfold mT plT; rw [ag_mA h, ag_mF h, ag_nxt h, ag_Q h, ag_L h]
theorem ag_bF (h : agG T T') : bF T' = bF T := by funext k; unfold bF cM; rw [ag_mT h, ag_mN h]
theorem ag_pM (h : agG T T') : pM T' = pM T := by funext k; unfold pM cM; rw [ag_bF h, ag_mT h]
theorem ag_GR (h : agG T T') (hG : GR T M) : GR T' M := by
  unfold GR G3 GS GMv GV GB at *
  rw [ag_L h, ag_mN h, ag_Q h, ag_dQ h, ag_mF h, ag_mT h, ag_mA h, ag_fO h, ag_bF h, ag_pM h]
  exact hG
theorem ag_HP (h : agG T T') (hG : HP T M) : HP T' M := by
  unfold HP at *
  rw [ag_L h, ag_Q h]
  intro i hi
  have : canB T' (Qn T i) = canB T (Qn T i) := by
    rw [Bool.eq_iff_iff, canB_iff, canB_iff]
    unfold canE
    rw [ag_sx h, h.1 2 (by decide)]
  rw [this]
  exact hG i hi
theorem ag_slP (h : agG T T') {ok : Nat → Bool} {i : Nat} : ∀ j, slP T' ok i j = slP T ok i j
  | 0 => rfl
  | j + 1 => by rw [slP, slP, ag_slP h j, ag_fO h, ag_mT h]
theorem ag_sP (h : agG T T') {ok : Nat → Bool} : sP T' ok = sP T ok := by funext i; unfold sP; rw [ag_slP h, ag_fO h]
theorem ag_LoP (h : agG T T') (hG : LoP T M) : LoP T' M := by
  unfold LoP onC at *
  rw [ag_L h, ag_sP h]
  exact hG
theorem ag_crch (h : agG T T') (h4 : T' 64 = T 64) : ∀ n k c, crch T' n k c ↔ crch T n k c
  | 0, k, c => by unfold crch; rw [ag_fst h]
  | n + 1, k, c => by
    unfold crch
    rw [ag_opn h, ag_nxt h, h4, h.1 0 (by decide)]
    exact ⟨fun ⟨u, a, b, q⟩ => ⟨u, a, b, (ag_crch h h4 n u b).mp q.1, q.2⟩, fun ⟨u, a, b, q⟩ => ⟨u, a, b, (ag_crch h h4 n u b).mpr q.1, q.2⟩⟩
theorem ag_PP (hT : WT T) (hB : T 61 13 < 64) (h : agG T T') (h4 : T' 64 = T 64) (hG : PP T M) : PP T' M := by
  unfold PP at *
  rw [ag_L h]
  intro i hi
  have hlt := Qn_lt hT hB hi
  have e : CT T' (Qn T i) = CT T (Qn T i) := isC_one (T := T) (C := CT T') (fun k c hk => by
    rw [CT_isC T' k c hk]
    constructor
    · rintro ⟨⟨n, h1⟩, h2⟩
      exact ⟨⟨n, (ag_crch h h4 n k c).mp h1⟩, fun n c' q => h2 n c' ((ag_crch h h4 n k c').mpr q)⟩
    · rintro ⟨⟨n, h1⟩, h2⟩
      exact ⟨⟨n, (ag_crch h h4 n k c).mpr h1⟩, fun n c' q => h2 n c' ((ag_crch h h4 n k c').mp q)⟩) (CT_isC T) hlt
  have : cQ T' i = cQ T i := by unfold cQ; rw [ag_Q h, e]
  rw [this]
  exact hG i hi
end AG
