-- the class: its acts
def shA (T : TK) : Nat := if T 61 17 = 12 then 1 else 0
def snp (T : TK) (i a : Nat) : Nat := if i < T 61 17 then T 72 (32 * i + a) else T 64 a + 10 * T 70 a
def ACk (x y k b : Nat) : Prop := (k = 0 ∧ b ≤ 1 ∧ x = y % 10 + 10 * b) ∨ (k = 1 ∧ b ≤ 9 ∧ x = b + 10 * (y / 10))
def ACe (T : TK) (i a k b : Nat) : Prop := a < T 61 0 ∧ ACk (snp T i a) (snp T (i + 1) a) k b ∧ ∀ a', a' < T 61 0 → a' ≠ a → snp T i a' = snp T (i + 1) a'
def AC (T : TK) (M : AM) : Prop := M.1 5 3 = nI (T 61 17) ∧ T 61 17 ≤ 12 ∧ ∀ i, i < T 61 17 → ∃ a k b, M.1 6 i = nI a ∧ M.1 7 i = nI k ∧ M.1 8 i = nI b ∧ ACe T i a k b
def KE (T : TK) (a k b : Nat) (M M' : AM) : Prop := M'.1 5 3 = nI (acF T + 1) ∧ (∀ c, c = 6 ∨ c = 7 ∨ c = 8 → ∀ i, i < acF T → M'.1 c i = M.1 c (i + shA T)) ∧ M'.1 6 (acF T) = nI a ∧ M'.1 7 (acF T) = nI k ∧ M'.1 8 (acF T) = nI b ∧ Sb [5, 6, 7, 8] M M'
theorem acF_sh {T : TK} : acF T + shA T = T 61 17 := by
  unfold acF shA
  by_cases e : T 61 17 = 12
  · rw [if_pos e, if_pos e, e]
  · rw [if_neg e, if_neg e]; rfl
theorem ac_keep {T T' : TK} {M M' : AM} {a k b : Nat} (h : AC T M) (hk : KE T a k b M M') (h0 : T' 61 0 = T 61 0) (h17 : T' 61 17 = acF T + 1) (h72 : ∀ i c, i ≤ acF T → c < T 61 0 → T' 72 (32 * i + c) = snp T (i + shA T) c)
    (hn : a < T 61 0 ∧ ACk (T 64 a + 10 * T 70 a) (T' 64 a + 10 * T' 70 a) k b ∧ ∀ a', a' < T 61 0 → a' ≠ a → T 64 a' + 10 * T 70 a' = T' 64 a' + 10 * T' 70 a') : AC T' M' := by
  have hs := acF_sh (T := T)
  have s1 : ∀ i c, i ≤ acF T → c < T 61 0 → snp T' i c = snp T (i + shA T) c := fun i c hi hc => by
    unfold snp
    rw [h17, if_pos (by omega), h72 i c hi hc]; rfl
  have s2 : ∀ c, snp T' (acF T + 1) c = T' 64 c + 10 * T' 70 c := fun c => by
    unfold snp
    rw [h17, if_neg (by omega)]
  have s3 : ∀ c, snp T (acF T + shA T) c = T 64 c + 10 * T 70 c := fun c => by
    unfold snp
    rw [hs, if_neg (by omega)]
  refine ⟨by rw [h17]; exact hk.1, ?_, fun i hi => ?_⟩
  · rw [h17]
    have h1 := h.2.1
    unfold acF
    split <;> omega
  · rw [h17] at hi
    by_cases e : i = acF T
    · subst e
      refine ⟨a, k, b, hk.2.2.1, hk.2.2.2.1, hk.2.2.2.2.1, by rw [h0]; exact hn.1, ?_, fun a' ha' hne => ?_⟩
      · rw [s1 _ _ (Nat.le_refl _) hn.1, s3, s2]; exact hn.2.1
      · rw [h0] at ha'
        rw [s1 _ _ (Nat.le_refl _) ha', s3, s2]; exact hn.2.2 a' ha' hne
    · obtain ⟨a1, k1, b1, e1, e2, e3, e4, e5, e6⟩ := h.2.2 (i + shA T) (by omega)
      refine ⟨a1, k1, b1, by rw [hk.2.1 6 (by omega) i (by omega)]; exact e1, by rw [hk.2.1 7 (by omega) i (by omega)]; exact e2, by rw [hk.2.1 8 (by omega) i (by omega)]; exact e3, by rw [h0]; exact e4, ?_, fun a' ha' hne => ?_⟩
      · rw [s1 _ _ (by omega) e4, s1 _ _ (by omega) e4, show i + 1 + shA T = i + shA T + 1 by omega]; exact e5
      · rw [h0] at ha'
        rw [s1 _ _ (by omega) ha', s1 _ _ (by omega) ha', show i + 1 + shA T = i + shA T + 1 by omega]; exact e6 a' ha' hne
section A1
variable {g : GG} {M : AM} {T : TK}
theorem c_forget : Call g qX0_forgetOldest [.ref 5] M (fun v M' => v = none ∧ M' = cpM (cpM (cpM (sI M 5 3 (nI 11)) 6 11) 7 11) 8 11) := by
  have h1 : (cpM (sI M 5 3 (nI 11)) 6 11).1 5 3 = nI 11 := by rw [cpM_ne (by decide)]; exact sI_s
  have h2 : (cpM (cpM (sI M 5 3 (nI 11)) 6 11) 7 11).1 5 3 = nI 11 := by rw [cpM_ne (by decide)]; exact h1
  refine Call_of (ls0 := [some (.ref 5)]) rfl rfl (Nat.le_of_ble_eq_true rfl) ?_
  refine E_aload_n dX0_forgetOldest_0 rfl ?_
  refine E_bipush (v := nI 11) dX0_forgetOldest_1 rfl ?_
  refine E_putI (ci := 0) (j := 3) dX0_forgetOldest_3 fkX0_21 rfl (by decide) rfl (by decide) ?_
  refine E_aload_n dX0_forgetOldest_6 rfl ?_
  refine E_getR' (ci := 0) (j := 0) (p := 6) dX0_forgetOldest_7 fkX0_9 rfl (by decide) rfl (by decide) (rfl) ?_
  refine E_iconst (v := nI 1) dX0_forgetOldest_10 rfl ?_
  refine E_aload_n dX0_forgetOldest_11 rfl ?_
  refine E_getR' (ci := 0) (j := 0) (p := 6) dX0_forgetOldest_12 fkX0_9 rfl (by decide) rfl (by decide) (rfl) ?_
  refine E_iconst (v := nI 0) dX0_forgetOldest_15 rfl ?_
  refine E_aload_n dX0_forgetOldest_16 rfl ?_
  refine E_getI' (ci := 0) (j := 3) dX0_forgetOldest_17 fkX0_21 rfl (by decide) rfl (by decide) (sI_s) ?_
  refine E_copy (N := 12) dX0_forgetOldest_20 cpX0 rfl (by decide) (by decide) (Nat.le_of_ble_eq_true rfl) (Nat.le_of_ble_eq_true rfl) ?_
  refine E_aload_n dX0_forgetOldest_23 rfl ?_
  refine E_getR' (ci := 0) (j := 1) (p := 7) dX0_forgetOldest_24 fkX0_15 rfl (by decide) rfl (by decide) (rfl) ?_
  refine E_iconst (v := nI 1) dX0_forgetOldest_27 rfl ?_
  refine E_aload_n dX0_forgetOldest_28 rfl ?_
  refine E_getR' (ci := 0) (j := 1) (p := 7) dX0_forgetOldest_29 fkX0_15 rfl (by decide) rfl (by decide) (rfl) ?_
  refine E_iconst (v := nI 0) dX0_forgetOldest_32 rfl ?_
  refine E_aload_n dX0_forgetOldest_33 rfl ?_
  refine E_getI' (ci := 0) (j := 3) dX0_forgetOldest_34 fkX0_21 rfl (by decide) rfl (by decide) (h1) ?_
  refine E_copy (N := 12) dX0_forgetOldest_37 cpX0 rfl (by decide) (by decide) (Nat.le_of_ble_eq_true rfl) (Nat.le_of_ble_eq_true rfl) ?_
  refine E_aload_n dX0_forgetOldest_40 rfl ?_
  refine E_getR' (ci := 0) (j := 2) (p := 8) dX0_forgetOldest_41 fkX0_18 rfl (by decide) rfl (by decide) (rfl) ?_
  refine E_iconst (v := nI 1) dX0_forgetOldest_44 rfl ?_
  refine E_aload_n dX0_forgetOldest_45 rfl ?_
  refine E_getR' (ci := 0) (j := 2) (p := 8) dX0_forgetOldest_46 fkX0_18 rfl (by decide) rfl (by decide) (rfl) ?_
  refine E_iconst (v := nI 0) dX0_forgetOldest_49 rfl ?_
  refine E_aload_n dX0_forgetOldest_50 rfl ?_
  refine E_getI' (ci := 0) (j := 3) dX0_forgetOldest_51 fkX0_21 rfl (by decide) rfl (by decide) (h2) ?_
  refine E_copy (N := 12) dX0_forgetOldest_54 cpX0 rfl (by decide) (by decide) (Nat.le_of_ble_eq_true rfl) (Nat.le_of_ble_eq_true rfl) ?_
  refine E_vret dX0_forgetOldest_57 rfl ?_
  exact ⟨rfl, rfl⟩
theorem c_keep (h : AC T M) {a k b : Nat} : Call g qX0_keep [.ref 5, .int (nI a), .int (nI k), .int (nI b)] M (fun v M' => v = none ∧ KE T a k b M M') := by
  have hs := acF_sh (T := T)
  have h12 := h.2.1
  have h5 := h.1
  have J : ∀ M1, M1.1 5 3 = nI (acF T) → acF T < 12 → (∀ c, c = 6 ∨ c = 7 ∨ c = 8 → ∀ i, i < acF T → M1.1 c i = M.1 c (i + shA T)) → Sb [5, 6, 7, 8] M M1 → Ex g qX0_keep (tm g qX0_keep (fun v M' => v = none ∧ KE T a k b M M')) 13 [some (.ref 5), some (.int (nI a)), some (.int (nI k)), some (.int (nI b))] [] M1 := by
    intro M1 k1 k2 k3 k4
    have q2 : (sI M1 6 (acF T) (nI a)).1 5 3 = nI (acF T) := by rw [sI_o (by omega)]; exact k1
    have q3 : (sI (sI M1 6 (acF T) (nI a)) 7 (acF T) (nI k)).1 5 3 = nI (acF T) := by rw [sI_o (by omega)]; exact q2
    have q4 : (sI (sI (sI M1 6 (acF T) (nI a)) 7 (acF T) (nI k)) 8 (acF T) (nI b)).1 5 3 = nI (acF T) := by rw [sI_o (by omega)]; exact q3
    have fin : KE T a k b M (sI (sI (sI (sI M1 6 (acF T) (nI a)) 7 (acF T) (nI k)) 8 (acF T) (nI b)) 5 3 (nI (acF T + 1))) := by
      refine ⟨sI_s, fun c hc i hi => ?_, by rw [sI_o (by omega), sI_o (by omega), sI_o (by omega), sI_s], by rw [sI_o (by omega), sI_o (by omega), sI_s], by rw [sI_o (by omega), sI_s], (((k4.tr (Sb.i (by decide))).tr (Sb.i (by decide))).tr (Sb.i (by decide))).tr (Sb.i (by decide))⟩
      rw [sI_o (by omega), sI_o (by omega), sI_o (by omega), sI_o (by omega)]
      exact k3 c hc i hi
    refine E_aload_n dX0_keep_13 rfl ?_
    refine E_getR' (ci := 0) (j := 0) (p := 6) dX0_keep_14 fkX0_9 rfl (by decide) rfl (by decide) (rfl) ?_
    refine E_aload_n dX0_keep_17 rfl ?_
    refine E_getI' (ci := 0) (j := 3) dX0_keep_18 fkX0_21 rfl (by decide) rfl (by decide) (k1) ?_
    refine E_iload_n dX0_keep_21 rfl ?_
    refine E_iastN dX0_keep_22 rfl (by omega) (by decide) ?_
    refine E_aload_n dX0_keep_23 rfl ?_
    refine E_getR' (ci := 0) (j := 1) (p := 7) dX0_keep_24 fkX0_15 rfl (by decide) rfl (by decide) (rfl) ?_
    refine E_aload_n dX0_keep_27 rfl ?_
    refine E_getI' (ci := 0) (j := 3) dX0_keep_28 fkX0_21 rfl (by decide) rfl (by decide) (q2) ?_
    refine E_iload_n dX0_keep_31 rfl ?_
    refine E_iastN dX0_keep_32 rfl (by omega) (by decide) ?_
    refine E_aload_n dX0_keep_33 rfl ?_
    refine E_getR' (ci := 0) (j := 2) (p := 8) dX0_keep_34 fkX0_18 rfl (by decide) rfl (by decide) (rfl) ?_
    refine E_aload_n dX0_keep_37 rfl ?_
    refine E_getI' (ci := 0) (j := 3) dX0_keep_38 fkX0_21 rfl (by decide) rfl (by decide) (q3) ?_
    refine E_iload_n dX0_keep_41 rfl ?_
    refine E_iastN dX0_keep_42 rfl (by omega) (by decide) ?_
    refine E_aload_n dX0_keep_43 rfl ?_
    refine E_dup dX0_keep_44 rfl ?_
    refine E_getI' (ci := 0) (j := 3) dX0_keep_45 fkX0_21 rfl (by decide) rfl (by decide) (q4) ?_
    refine E_iconst (v := nI 1) dX0_keep_48 rfl ?_
    refine E_iaddN dX0_keep_49 ?_
    refine E_putI (ci := 0) (j := 3) dX0_keep_50 fkX0_21 rfl (by decide) rfl (by decide) ?_
    refine E_vret dX0_keep_53 rfl ?_
    exact ⟨rfl, fin⟩
  have c1 : T 61 17 < 12 → acF T = T 61 17 ∧ shA T = 0 := fun e => by unfold acF shA; rw [if_neg (by omega), if_neg (by omega)]; exact ⟨rfl, rfl⟩
  have c2 : 12 ≤ T 61 17 → acF T = 11 ∧ shA T = 1 := fun e => by unfold acF shA; rw [if_pos (by omega), if_pos (by omega)]; exact ⟨rfl, rfl⟩
  have K1 : T 61 17 < 12 → Ex g qX0_keep (tm g qX0_keep (fun v M' => v = none ∧ KE T a k b M M')) 13 [some (.ref 5), some (.int (nI a)), some (.int (nI k)), some (.int (nI b))] [] M := fun e => J M (by rw [(c1 e).1]; exact h5) (by have := (c1 e).1; omega) (fun c hc i hi => by rw [(c1 e).2]; rfl) Sb.rf
  have K2 : 12 ≤ T 61 17 → Ex g qX0_keep (tm g qX0_keep (fun v M' => v = none ∧ KE T a k b M M')) 13 [some (.ref 5), some (.int (nI a)), some (.int (nI k)), some (.int (nI b))] [] (cpM (cpM (cpM (sI M 5 3 (nI 11)) 6 11) 7 11) 8 11) := fun e => J _ (by rw [(c2 e).1, cpM_ne (by decide), cpM_ne (by decide), cpM_ne (by decide)]; exact sI_s) (by have := (c2 e).1; omega) (fun c hc i hi => by
      rw [(c2 e).1] at hi
      rw [(c2 e).2]
      rcases hc with rfl | rfl | rfl
      · rw [cpM_ne (by decide), cpM_ne (by decide), cpM_in hi, sI_o (by omega)]
      · rw [cpM_ne (by decide), cpM_in hi, cpM_ne (by decide), sI_o (by omega)]
      · rw [cpM_in hi, cpM_ne (by decide), cpM_ne (by decide), sI_o (by omega)]) (fun c hc => by
      simp only [List.mem_cons, List.not_mem_nil, or_false, not_or] at hc
      obtain ⟨h1, h2, h3, h4⟩ := hc
      exact ⟨by rw [cpM_ne h4, cpM_ne h3, cpM_ne h2, sI_ne h1], rfl, rfl⟩)
  refine Call_of (ls0 := [some (.ref 5), some (.int (nI a)), some (.int (nI k)), some (.int (nI b))]) rfl rfl (Nat.le_of_ble_eq_true rfl) ?_
  refine E_aload_n dX0_keep_0 rfl ?_
  refine E_getI' (ci := 0) (j := 3) dX0_keep_1 fkX0_21 rfl (by decide) rfl (by decide) (h5) ?_
  refine E_bipush (v := nI 12) dX0_keep_4 rfl ?_
  refine E_icmp_ltN (t := 13) dX0_keep_6 (by decide) (by omega) (by omega) (fun c6 => ?_) (fun c6 => ?_)
  · skip
    have key := K1 c6
    exact key
  · skip
    have key := K2 c6
    refine E_aload_n dX0_keep_9 rfl ?_
    refine E_callV (r := qX0_forgetOldest) (ci := 0) dX0_keep_10 mkX0_25 voX0_forgetOldest rfl rfl rfl ⟨Nat.le_of_ble_eq_true rfl, Nat.le_of_ble_eq_true rfl, Nat.le_of_ble_eq_true rfl, Nat.le_of_ble_eq_true rfl⟩ (c_forget) rfl (Nat.le_of_ble_eq_true rfl) ?_
    rintro _ _ ⟨rfl, rfl⟩
    exact key
end A1
