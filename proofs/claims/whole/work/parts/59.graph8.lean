-- the class's graph: rows
section Q4
variable {T : TK}
noncomputable def viT (T : TK) (i : Nat) : Nat := (fdN (fun m => mT T m == i) (mN T)).getD 0
noncomputable def par (T : TK) (i : Nat) : Nat := mF T (viT T i)
noncomputable def ancT (T : TK) (e : Nat) : Nat → Nat
  | 0 => e
  | r + 1 => par T (ancT T e r)
theorem mF_mono (hT : WT T) (hB : T 61 13 < 64) {m m' : Nat} (h : m ≤ m') (hm : m' < mN T) : mF T m ≤ mF T m' := by
  have h1 := mv_ok hT hB (show m < mN T by omega)
  have h2 := mv_ok hT hB hm
  rcases Nat.lt_or_ge (mF T m') (mF T m) with h3 | h3
  · have := fO_le (T := T) (show mF T m' + 1 ≤ mF T m from h3); omega
  · exact h3
theorem mT_of (hT : WT T) (hB : T 61 13 < 64) {m i : Nat} (hi : i < LTn T) (h : nxt T (mA T m) (Qn T (mF T m)) = Qn T i) : mT T m = i := by
  unfold mT
  rw [h]
  exact pl_Qn hT hB hi
theorem dQ_rch (hT : WT T) (hB : T 61 13 < 64) {i : Nat} (hi : i < LTn T) : rch (sx0 T) (fst0 T) (dQ T i) (Qn T i) ∧ ∀ m, m < dQ T i → ¬ rch (sx0 T) (fst0 T) m (Qn T i) := (DT_isD hT hB _ _).mp (Qn_D hT hB hi)
theorem dQ_z (hT : WT T) (hB : T 61 13 < 64) {i : Nat} (hi : i < LTn T) : dQ T i = 0 ↔ i = 0 := by
  have hp := q_pos hT hB
  constructor
  · intro e
    have h1 := (dQ_rch hT hB hi).1
    rw [e] at h1
    exact Qn_inj hT hB hi hp.1 ((show Qn T i = fst0 T from h1).trans hp.2.symm)
  · rintro rfl
    have h1 := (dQ_rch hT hB hi).2
    rcases Nat.eq_zero_or_pos (dQ T 0) with h | h
    · exact h
    · exact absurd hp.2 (h1 0 h)
theorem dQ_step (hT : WT T) (hB : T 61 13 < 64) {m : Nat} (hm : m < mN T) : dQ T (mT T m) ≤ dQ T (mF T m) + 1 := by
  have h := mv_ok hT hB hm
  have h1 := (dQ_rch hT hB h.1).1
  have h2 : rch (sx0 T) (fst0 T) (dQ T (mF T m) + 1) (Qn T (mT T m)) := ⟨_, h1, sx0_mem.mpr ⟨mA T m, h.2.2.2.1, h.2.2.2.2.1, h.2.2.2.2.2.2.symm⟩⟩
  rcases Nat.lt_or_ge (dQ T (mF T m) + 1) (dQ T (mT T m)) with h3 | h3
  · exact absurd h2 ((dQ_rch hT hB h.2.2.2.2.2.1).2 _ h3)
  · exact h3
/-- before each place but the first there is one that is a step nearer -/
theorem dQ_pred (hT : WT T) (hB : T 61 13 < 64) {i : Nat} (h0 : 0 < i) (hi : i < LTn T) : ∃ m, m < mN T ∧ mT T m = i ∧ dQ T (mF T m) + 1 = dQ T i := by
  have hD := DT_isD hT hB
  obtain ⟨h1, h2⟩ := dQ_rch hT hB hi
  cases hd : dQ T i with
  | zero => exact absurd ((dQ_z hT hB hi).mp hd) (by omega)
  | succ d =>
    rw [hd] at h1 h2
    obtain ⟨u, h3, h4⟩ := h1
    obtain ⟨n, h5, h6⟩ := pk_least _ (show ∃ n, rch (sx0 T) (fst0 T) n u from ⟨d, h3⟩)
    have h7 : DT T u = some n := (hD u n).mpr ⟨h5, h6⟩
    have h8 : n = d := by
      rcases Nat.lt_trichotomy n d with h | h | h
      · exact absurd (show rch (sx0 T) (fst0 T) (n + 1) (Qn T i) from ⟨u, h5, h4⟩) (h2 (n + 1) (by omega))
      · exact h
      · exact absurd h3 (h6 d h)
    obtain ⟨j, hj, hq⟩ := D_Qn hT hB (s := u) (by rw [h7]; exact fun e => by cases e)
    obtain ⟨a, ha, ho, hx⟩ := sx0_mem.mp h4
    rw [← hq] at ho hx
    obtain ⟨m, e1, e2, e3, e4⟩ := mv_of hj ha ho
    have e5 := (mv_sl hj e1 e2).2
    refine ⟨m, e5, mT_of hT hB hi (by rw [e3, e4]; exact hx), ?_⟩
    rw [e3]
    have h9 := Qn_D hT hB hj
    rw [hq, h7] at h9
    have := Option.some.inj h9
    omega
theorem vi_ok (hT : WT T) (hB : T 61 13 < 64) {i : Nat} (h0 : 0 < i) (hi : i < LTn T) : viT T i < mN T ∧ mT T (viT T i) = i ∧ (∀ m', m' < viT T i → mT T m' ≠ i) ∧ par T i < LTn T ∧ dQ T (par T i) + 1 = dQ T i ∧ mA T (viT T i) < 32 := by
  obtain ⟨m, h1, h2, h3⟩ := dQ_pred hT hB h0 hi
  have h4 : ¬ fdN (fun m => mT T m == i) (mN T) = none := fun e => by
    have := fdN_none.mp e m h1
    rw [h2, beq_self_eq_true] at this
    cases this
  obtain ⟨v, hv⟩ := Option.ne_none_iff_exists'.mp h4
  have e : viT T i = v := by unfold viT; rw [hv]; rfl
  obtain ⟨f1, f2, f3⟩ := fdN_some.mp hv
  have f2 : mT T v = i := beq_iff_eq.mp f2
  have f4 : v ≤ m := Nat.le_of_not_lt (fun h => by have := f3 m h; rw [h2, beq_self_eq_true] at this; cases this)
  have ok := mv_ok hT hB f1
  have d1 := dQ_mono hT hB (mF_mono hT hB f4 h1) (mv_ok hT hB h1).1
  have d2 := dQ_step hT hB f1
  have h32 := hT.1
  unfold par
  rw [e]
  rw [f2] at d2
  exact ⟨f1, f2, fun m' hm' => beq_eq_false_iff_ne.mp (f3 m' hm'), ok.1, by omega, by omega⟩
theorem anc_ok (hT : WT T) (hB : T 61 13 < 64) {e : Nat} (he : e < LTn T) : ∀ r, r ≤ dQ T e → ancT T e r < LTn T ∧ dQ T (ancT T e r) + r = dQ T e
  | 0, _ => ⟨he, rfl⟩
  | r + 1, hr => by
    have ih := anc_ok hT hB he r (by omega)
    have h0 : 0 < ancT T e r := Nat.pos_of_ne_zero (fun h => by
      have := (dQ_z hT hB ih.1).mpr h
      omega)
    have h1 := vi_ok hT hB h0 ih.1
    exact ⟨h1.2.2.2.1, by show dQ T (par T (ancT T e r)) + (r + 1) = _; omega⟩
theorem anc_pos (hT : WT T) (hB : T 61 13 < 64) {e r : Nat} (he : e < LTn T) (hr : r < dQ T e) : 0 < ancT T e r := Nat.pos_of_ne_zero (fun h => by
  have h1 := anc_ok hT hB he r (by omega)
  have := (dQ_z hT hB h1.1).mpr h
  omega)
theorem dQ_lt (hT : WT T) (hB : T 61 13 < 64) {i : Nat} (hi : i < LTn T) : dQ T i ≤ 1024 := DL_DT _ _ (Qn_D hT hB hi)
noncomputable def roA (T : TK) (o : Option Nat) (j : Nat) : Option Nat := match o with
  | none => none
  | some e => if j < dQ T e then some (mA T (viT T (ancT T e (dQ T e - 1 - j)))) else none
noncomputable def rsA (T : TK) (o : Option Nat) : Nat := match o with
  | none => 0
  | some e => orF (fun _ => true) (fun r => 1 * 2 ^ mA T (viT T (ancT T e r))) (dQ T e)
end Q4
section G8
variable {g : GG} {M : AM} {T : TK}
theorem gr_via (hT : WT T) (hB : T 61 13 < 64) (h : GR T M) {i : Nat} (h0 : 0 < i) (hi : i < LTn T) : M.1 13 i = nI (viT T i) ∧ ∀ m', m' < viT T i → mT T m' < i := by
  obtain ⟨m, h1, h2, h3, h4⟩ := h.1.2.2.2.1 i h0 hi
  have hv := vi_ok hT hB h0 hi
  have e : viT T i = m := by
    rcases Nat.lt_trichotomy (viT T i) m with h5 | h5 | h5
    · have := h4 _ h5; rw [hv.2.1] at this; omega
    · exact h5
    · exact absurd h3 (hv.2.2.1 m h5)
  rw [e]
  exact ⟨h2, h4⟩
theorem c_answerOfRow (hT : WT T) (hB : T 61 13 < 64) (h : GR T M) {o : Option Nat} {j : Nat} (hj : j < 2 ^ 31) (ho : ∀ e, o = some e → e < LTn T) : Call g qX2_answerOfRow [.ref 9, .int (oI o), .int (nI j)] M (Rt (oI (roA T o j)) M) := by
  have hL := q_le hT hB
  have hN := mN_le hT hB
  cases o with
  | none =>
    refine Call_of (ls0 := [some (.ref 9), some (.int (oI none)), some (.int (nI j)), none, none]) rfl rfl (Nat.le_of_ble_eq_true rfl) ?_
    refine E_iload_n dX2_answerOfRow_0 rfl ?_
    refine E_iconst (v := -1) dX2_answerOfRow_1 rfl ?_
    refine E_icmp_eqO (t := 15) dX2_answerOfRow_2 (by decide) (fun d e => by cases e) (fun c2 => ?_) (fun c2 => ?_)
    · skip
      refine E_iconst (v := -1) dX2_answerOfRow_15 rfl ?_
      refine E_iret dX2_answerOfRow_16 rfl ?_
      exact ⟨rfl, rfl⟩
    · skip
      exact absurd rfl c2
  | some e =>
    have he := ho e rfl
    have hd := dQ_lt hT hB he
    have kN : dQ T e ≤ j → oI none = oI (roA T (some e) j) := fun h1 => by unfold roA; dsimp only; rw [if_neg (by omega)]
    have kS : j < dQ T e → nI (mA T (viT T (ancT T e (dQ T e - 1 - j)))) = oI (roA T (some e) j) := fun h1 => by unfold roA; dsimp only; rw [if_pos h1]; rfl
    have L : j < dQ T e → ∀ (n r : Nat), r + n = dQ T e - 1 - j → Ex g qX2_answerOfRow (tm g qX2_answerOfRow (Rt (oI (roA T (some e) j)) M)) 29 [some (.ref 9), some (.int (oI (some e))), some (.int (nI j)), some (.int (nI (ancT T e r))), some (.int (nI (dQ T e - 1 - r)))] [] M := by
      intro hj2 n
      induction n with
      | zero =>
        intro r hr
        have hA := anc_ok hT hB he r (by omega)
        have hp := anc_pos hT hB he (r := r) (by omega)
        have hv := vi_ok hT hB hp hA.1
        have key := kS hj2
        rw [← hr] at key
        refine E_iload dX2_answerOfRow_29 rfl ?_
        refine E_iload_n dX2_answerOfRow_31 rfl ?_
        refine E_icmp_leN (t := 53) dX2_answerOfRow_32 (by decide) (by omega) (by omega) (fun c32 => ?_) (fun c32 => ?_)
        · skip
          refine E_aload_n dX2_answerOfRow_53 rfl ?_
          refine E_getR' (ci := 2) (j := 8) (p := 18) dX2_answerOfRow_54 fkX2_36 rfl (by decide) rfl (by decide) (rfl) ?_
          refine E_aload_n dX2_answerOfRow_57 rfl ?_
          refine E_getR' (ci := 2) (j := 3) (p := 13) dX2_answerOfRow_58 fkX2_21 rfl (by decide) rfl (by decide) (rfl) ?_
          refine E_iload_n dX2_answerOfRow_61 rfl ?_
          refine E_ialdN dX2_answerOfRow_62 rfl (by omega) (by decide) ((gr_via hT hB h hp hA.1).1) ?_
          refine E_ialdN dX2_answerOfRow_63 rfl (by omega) (by decide) (gr_ma h hv.1) ?_
          refine E_iret dX2_answerOfRow_64 rfl ?_
          exact Rt_i key
        · skip
          exact absurd c32 (by omega)
      | succ n ih =>
        intro r hr
        have hA := anc_ok hT hB he r (by omega)
        have hp := anc_pos hT hB he (r := r) (by omega)
        have hv := vi_ok hT hB hp hA.1
        have key := ih (r + 1) (by omega)
        rw [show dQ T e - 1 - (r + 1) = dQ T e - 1 - r - 1 by omega] at key
        refine E_iload dX2_answerOfRow_29 rfl ?_
        refine E_iload_n dX2_answerOfRow_31 rfl ?_
        refine E_icmp_leN (t := 53) dX2_answerOfRow_32 (by decide) (by omega) (by omega) (fun c32 => ?_) (fun c32 => ?_)
        · skip
          exact absurd c32 (by omega)
        · skip
          refine E_aload_n dX2_answerOfRow_35 rfl ?_
          refine E_getR' (ci := 2) (j := 6) (p := 16) dX2_answerOfRow_36 fkX2_30 rfl (by decide) rfl (by decide) (rfl) ?_
          refine E_aload_n dX2_answerOfRow_39 rfl ?_
          refine E_getR' (ci := 2) (j := 3) (p := 13) dX2_answerOfRow_40 fkX2_21 rfl (by decide) rfl (by decide) (rfl) ?_
          refine E_iload_n dX2_answerOfRow_43 rfl ?_
          refine E_ialdN dX2_answerOfRow_44 rfl (by omega) (by decide) ((gr_via hT hB h hp hA.1).1) ?_
          refine E_ialdN dX2_answerOfRow_45 rfl (by omega) (by decide) (gr_mf h hv.1) ?_
          refine E_ist_n (i := 3) dX2_answerOfRow_46 rfl (by decide) rfl ?_
          refine E_idecN dX2_answerOfRow_47 rfl rfl (by omega) (by decide) rfl ?_
          refine E_goto (t := 29) dX2_answerOfRow_50 (by decide) ?_
          exact key
    refine Call_of (ls0 := [some (.ref 9), some (.int (oI (some e))), some (.int (nI j)), none, none]) rfl rfl (Nat.le_of_ble_eq_true rfl) ?_
    refine E_iload_n dX2_answerOfRow_0 rfl ?_
    refine E_iconst (v := -1) dX2_answerOfRow_1 rfl ?_
    refine E_icmp_eqO (t := 15) dX2_answerOfRow_2 (by decide) (fun d e2 => by cases e2; omega) (fun c2 => ?_) (fun c2 => ?_)
    · skip
      cases c2
    · skip
      refine E_iload_n dX2_answerOfRow_5 rfl ?_
      refine E_aload_n dX2_answerOfRow_6 rfl ?_
      refine E_getR' (ci := 2) (j := 2) (p := 12) dX2_answerOfRow_7 fkX2_18 rfl (by decide) rfl (by decide) (rfl) ?_
      refine E_iload_n dX2_answerOfRow_10 rfl ?_
      refine E_ialdN dX2_answerOfRow_11 rfl (by omega) (by decide) (gr_d h he) ?_
      refine E_icmp_ltN (t := 17) dX2_answerOfRow_12 (by decide) (by omega) (by omega) (fun c12 => ?_) (fun c12 => ?_)
      · skip
        refine E_iload_n dX2_answerOfRow_17 rfl ?_
        refine E_ist_n (i := 3) dX2_answerOfRow_18 rfl (by decide) rfl ?_
        refine E_aload_n dX2_answerOfRow_19 rfl ?_
        refine E_getR' (ci := 2) (j := 2) (p := 12) dX2_answerOfRow_20 fkX2_18 rfl (by decide) rfl (by decide) (rfl) ?_
        refine E_iload_n dX2_answerOfRow_23 rfl ?_
        refine E_ialdN dX2_answerOfRow_24 rfl (by omega) (by decide) (gr_d h he) ?_
        refine E_iconst (v := nI 1) dX2_answerOfRow_25 rfl ?_
        refine E_isubN dX2_answerOfRow_26 (by omega) ?_
        refine E_istore dX2_answerOfRow_27 (by decide) rfl ?_
        exact L c12 (dQ T e - 1 - j) 0 (by omega)
      · skip
        refine E_iconst (v := -1) dX2_answerOfRow_15 rfl ?_
        refine E_iret dX2_answerOfRow_16 rfl ?_
        exact Rt_i (kN c12)
theorem c_answersOfRow (hT : WT T) (hB : T 61 13 < 64) (h : GR T M) {o : Option Nat} (ho : ∀ e, o = some e → e < LTn T) : Call g qX2_answersOfRow [.ref 9, .int (oI o)] M (Rt (nI (rsA T o)) M) := by
  have hL := q_le hT hB
  have hN := mN_le hT hB
  cases o with
  | none =>
    refine Call_of (ls0 := [some (.ref 9), some (.int (oI none)), none, none, none]) rfl rfl (Nat.le_of_ble_eq_true rfl) ?_
    refine E_iconst (v := nI 0) dX2_answersOfRow_0 rfl ?_
    refine E_ist_n (i := 2) dX2_answersOfRow_1 rfl (by decide) rfl ?_
    refine E_iload_n dX2_answersOfRow_2 rfl ?_
    refine E_iconst (v := -1) dX2_answersOfRow_3 rfl ?_
    refine E_icmp_eqO (t := 56) dX2_answersOfRow_4 (by decide) (fun d e => by cases e) (fun c4 => ?_) (fun c4 => ?_)
    · skip
      refine E_iload_n dX2_answersOfRow_56 rfl ?_
      refine E_iret dX2_answersOfRow_57 rfl ?_
      exact ⟨rfl, rfl⟩
    · skip
      exact absurd rfl c4
  | some e =>
    have he := ho e rfl
    have hd := dQ_lt hT hB he
    have L : ∀ (n r : Nat), r + n = dQ T e → Ex g qX2_answersOfRow (tm g qX2_answersOfRow (Rt (nI (rsA T (some e))) M)) 17 [some (.ref 9), some (.int (oI (some e))), some (.int (nI (orF (fun _ => true) (fun r => 1 * 2 ^ mA T (viT T (ancT T e r))) r))), some (.int (nI (ancT T e r))), some (.int (nI n))] [] M := by
      intro n
      induction n with
      | zero =>
        intro r hr
        have hr2 : r = dQ T e := by omega
        subst hr2
        refine E_iload dX2_answersOfRow_17 rfl ?_
        refine E_if_leN (t := 56) dX2_answersOfRow_19 (by decide) (by omega) (fun c19 => ?_) (fun c19 => ?_)
        · skip
          refine E_iload_n dX2_answersOfRow_56 rfl ?_
          refine E_iret dX2_answersOfRow_57 rfl ?_
          exact Rt_n rfl
        · skip
          exact absurd c19 (by omega)
      | succ n ih =>
        intro r hr
        have hA := anc_ok hT hB he r (by omega)
        have hp := anc_pos hT hB he (r := r) (by omega)
        have hv := vi_ok hT hB hp hA.1
        have hsh : 1 * 2 ^ mA T (viT T (ancT T e r)) < 2 ^ 32 := by rw [Nat.one_mul]; exact Nat.pow_lt_pow_right (by decide) (by omega)
        have key := ih (r + 1) (by omega)
        rw [orF, if_pos rfl] at key
        refine E_iload dX2_answersOfRow_17 rfl ?_
        refine E_if_leN (t := 56) dX2_answersOfRow_19 (by decide) (by omega) (fun c19 => ?_) (fun c19 => ?_)
        · skip
          exact absurd c19 (by omega)
        · skip
          refine E_iload_n dX2_answersOfRow_22 rfl ?_
          refine E_iconst (v := nI 1) dX2_answersOfRow_23 rfl ?_
          refine E_aload_n dX2_answersOfRow_24 rfl ?_
          refine E_getR' (ci := 2) (j := 8) (p := 18) dX2_answersOfRow_25 fkX2_36 rfl (by decide) rfl (by decide) (rfl) ?_
          refine E_aload_n dX2_answersOfRow_28 rfl ?_
          refine E_getR' (ci := 2) (j := 3) (p := 13) dX2_answersOfRow_29 fkX2_21 rfl (by decide) rfl (by decide) (rfl) ?_
          refine E_iload_n dX2_answersOfRow_32 rfl ?_
          refine E_ialdN dX2_answersOfRow_33 rfl (by omega) (by decide) ((gr_via hT hB h hp hA.1).1) ?_
          refine E_ialdN dX2_answersOfRow_34 rfl (by omega) (by decide) (gr_ma h hv.1) ?_
          refine E_ishlN dX2_answersOfRow_35 (by omega) hsh ?_
          refine E_iorN dX2_answersOfRow_36 ?_
          refine E_ist_n (i := 2) dX2_answersOfRow_37 rfl (by decide) rfl ?_
          refine E_aload_n dX2_answersOfRow_38 rfl ?_
          refine E_getR' (ci := 2) (j := 6) (p := 16) dX2_answersOfRow_39 fkX2_30 rfl (by decide) rfl (by decide) (rfl) ?_
          refine E_aload_n dX2_answersOfRow_42 rfl ?_
          refine E_getR' (ci := 2) (j := 3) (p := 13) dX2_answersOfRow_43 fkX2_21 rfl (by decide) rfl (by decide) (rfl) ?_
          refine E_iload_n dX2_answersOfRow_46 rfl ?_
          refine E_ialdN dX2_answersOfRow_47 rfl (by omega) (by decide) ((gr_via hT hB h hp hA.1).1) ?_
          refine E_ialdN dX2_answersOfRow_48 rfl (by omega) (by decide) (gr_mf h hv.1) ?_
          refine E_ist_n (i := 3) dX2_answersOfRow_49 rfl (by decide) rfl ?_
          refine E_idecN dX2_answersOfRow_50 rfl rfl (by omega) (by decide) rfl ?_
          refine E_goto (t := 17) dX2_answersOfRow_53 (by decide) ?_
          exact key
    refine Call_of (ls0 := [some (.ref 9), some (.int (oI (some e))), none, none, none]) rfl rfl (Nat.le_of_ble_eq_true rfl) ?_
    refine E_iconst (v := nI 0) dX2_answersOfRow_0 rfl ?_
    refine E_ist_n (i := 2) dX2_answersOfRow_1 rfl (by decide) rfl ?_
    refine E_iload_n dX2_answersOfRow_2 rfl ?_
    refine E_iconst (v := -1) dX2_answersOfRow_3 rfl ?_
    refine E_icmp_eqO (t := 56) dX2_answersOfRow_4 (by decide) (fun d e2 => by cases e2; omega) (fun c4 => ?_) (fun c4 => ?_)
    · skip
      cases c4
    · skip
      refine E_iload_n dX2_answersOfRow_7 rfl ?_
      refine E_ist_n (i := 3) dX2_answersOfRow_8 rfl (by decide) rfl ?_
      refine E_aload_n dX2_answersOfRow_9 rfl ?_
      refine E_getR' (ci := 2) (j := 2) (p := 12) dX2_answersOfRow_10 fkX2_18 rfl (by decide) rfl (by decide) (rfl) ?_
      refine E_iload_n dX2_answersOfRow_13 rfl ?_
      refine E_ialdN dX2_answersOfRow_14 rfl (by omega) (by decide) (gr_d h he) ?_
      refine E_istore dX2_answersOfRow_15 (by decide) rfl ?_
      exact L (dQ T e) 0 (by omega)
end G8
