-- the class: a script that is being read
def SpL (p : Nat) : List Nat := [p, p + 1, p + 2, p + 3, p + 4, p + 5, p + 6, p + 7, p + 8, p + 9, p + 10]
theorem spL_m {p k : Nat} (h1 : p ≤ k) (h2 : k ≤ p + 10) : k ∈ SpL p := by
  unfold SpL
  simp only [List.mem_cons, List.not_mem_nil, or_false]
  omega
def SF (p : Nat) (M M' : AM) : Prop := Sb (SpL p) M M' ∧ M'.1 p 14 = M.1 p 14
theorem SF.rf {p : Nat} {M : AM} : SF p M M := ⟨Sb.rf, rfl⟩
theorem SF.tr {p : Nat} {M M' M'' : AM} (h1 : SF p M M') (h2 : SF p M' M'') : SF p M M'' := ⟨h1.1.tr h2.1, h2.2.trans h1.2⟩
theorem SF.i {p : Nat} {M M' : AM} {k j : Nat} {x : Int32} (h : SF p M M') (h1 : p ≤ k ∧ k ≤ p + 10) (h2 : ¬ (k = p ∧ j = 14)) : SF p M (sI M' k j x) :=
  h.tr ⟨Sb.i (spL_m h1.1 h1.2), sI_o (by omega)⟩
/-- the answer, and the place of the alternative, that were added last -/
def LtS (P : TK) (p : Nat) (M : AM) : Prop := 0 < P 61 0 → M.1 p 15 = nI (P 61 0 - 1) ∧ (0 < P 65 (P 61 0 - 1) → M.1 p 16 = nI (alI P))
theorem LtS.k {P P' : TK} {p : Nat} {M M' : AM} (h : LtS P p M) (h0 : P' 61 0 = P 61 0) (h5 : ∀ a, P' 65 a = P 65 a) (m5 : M'.1 p 15 = M.1 p 15) (m6 : M'.1 p 16 = M.1 p 16) : LtS P' p M' := fun h1 => by
  rw [h0] at h1
  have h2 := h h1
  refine ⟨by rw [m5, h0]; exact h2.1, fun h3 => ?_⟩
  rw [h0, h5] at h3
  rw [m6, h2.2 h3]
  unfold alI
  rw [h0, h5]
def SB (P : TK) (p : Nat) (M : AM) : Prop := Sp p ∧ RPd (aS p) (dom P) P M ∧ WT P ∧ (∀ a, P 70 a ≤ 1) ∧ LtS P p M
theorem dom_opA {P : TK} {a k j : Nat} (ha : P 61 0 = a + 1) (hd : dom (opA P) k j) : dom P k j ∨ (k = 66 ∧ j = 3 * a + P 65 a) ∨ (k = 67 ∧ j = 3 * a + P 65 a) := by
  unfold opA at hd
  rw [ha, Nat.add_sub_cancel] at hd
  unfold dom at hd
  rw [upT_ne (a := 61) (b := 0) (by omega), upT_ne (a := 61) (b := 0) (by omega), upT_ne (a := 61) (b := 0) (by omega)] at hd
  rcases hd with h | h | ⟨h, b, r, h1, h2, h4⟩
  · exact Or.inl (Or.inl h)
  · exact Or.inl (Or.inr (Or.inl h))
  · by_cases e : b = a
    · rw [e, upT_at] at h2
      by_cases e2 : r = P 65 a
      · rw [e, e2] at h4; rcases h with h | h; exact Or.inr (Or.inl ⟨h, h4⟩); exact Or.inr (Or.inr ⟨h, h4⟩)
      · exact Or.inl (Or.inr (Or.inr ⟨h, b, r, h1, by rw [e]; omega, h4⟩))
    · rw [upT_ne (fun x => e x.2), upT_ne (by omega), upT_ne (by omega)] at h2
      exact Or.inl (Or.inr (Or.inr ⟨h, b, r, h1, h2, h4⟩))
theorem aS_dom {P : TK} {p k j : Nat} (hd : dom P k j) (h0 : ¬ (k = 61 ∧ j = 0)) : ((aS p k j).1 = p ∧ 10 < (aS p k j).2 ∧ (aS p k j).2 < 14) ∨ (p + 1 ≤ (aS p k j).1 ∧ (aS p k j).1 ≤ p + 8 ∧ ((aS p k j).2 < P 61 0 ∨ (aS p k j).1 = p + 5 ∨ (aS p k j).1 = p + 6)) := by
  unfold dom at hd
  unfold aS
  rcases hd with ⟨e, h1⟩ | ⟨e, h1⟩ | ⟨e, -⟩
  · subst e; rw [if_pos rfl]; exact Or.inl ⟨rfl, by show 10 < 10 + j; omega, by show 10 + j < 14; omega⟩
  · rw [if_neg (by omega)]; exact Or.inr ⟨by show p + 1 ≤ p + (k - 61); omega, by show p + (k - 61) ≤ p + 8; omega, Or.inl h1⟩
  · rw [if_neg (by omega)]; exact Or.inr ⟨by show p + 1 ≤ p + (k - 61); omega, by show p + (k - 61) ≤ p + 8; omega, Or.inr (by rcases e with e | e; left; show p + (k - 61) = p + 5; omega; right; show p + (k - 61) = p + 6; omega)⟩
theorem rp_x {P : TK} {p i : Nat} {M : AM} {x : Int32} (h : RPd (aS p) (dom P) P M) (hi : 14 ≤ i) : RPd (aS p) (dom P) P (sI M p i x) := fun k j hd => by
  have h1 := h k j hd
  refine ⟨h1.1, h1.2.1, ?_⟩
  have ha : ¬ ((aS p k j).1 = p ∧ (aS p k j).2 = i) := by
    by_cases e : k = 61 ∧ j = 0
    · obtain ⟨rfl, rfl⟩ := e
      show ¬ (p = p ∧ 10 + 0 = i)
      omega
    · have := aS_dom (p := p) hd e
      omega
  rw [sI_o ha]
  exact h1.2.2
theorem op_c {P : TK} {a j v : Nat} : upT (upT (upT P 65 a v) 66 j 0) 67 j 0 = upT (upT (upT P 66 j 0) 67 j 0) 65 a v := by
  funext x y
  by_cases e5 : x = 65 ∧ y = a
  · obtain ⟨rfl, rfl⟩ := e5
    rw [upT_ne (by omega), upT_ne (by omega), upT_at, upT_at]
  · rw [upT_ne (k := 65) e5]
    show (if x = 67 ∧ y = j then 0 else if x = 66 ∧ y = j then 0 else if x = 65 ∧ y = a then v else P x y) = (if x = 67 ∧ y = j then 0 else if x = 66 ∧ y = j then 0 else P x y)
    rw [if_neg e5]
section S2
variable {g : GG} {M : AM} {P : TK} {p : Nat}
theorem sb_6 (h : SB P p M) {j : Nat} (hj : j < 4) : M.1 p (10 + j) = nI (P 61 j) := (h.2.1 61 j (Or.inl ⟨rfl, hj⟩)).2.2
theorem sb_alts (h : SB P p M) {a : Nat} (ha : a < P 61 0) : M.1 (p + 4) a = nI (P 65 a) := (h.2.1 65 a (Or.inr (Or.inl ⟨by omega, ha⟩))).2.2
theorem c_clear (hs : Sp p) : Call g qX8_clear [.ref p] M (fun v M' => v = none ∧ SB (fun _ _ => 0) p M' ∧ Sb (SpL p) M M' ∧ M'.1 p 14 = nI 0) := by
  refine Call_of (ls0 := [some (.ref p)]) rfl rfl (Nat.le_of_ble_eq_true rfl) ?_
  refine E_aload_n dX8_clear_0 rfl ?_
  refine E_iconst (v := nI 0) dX8_clear_1 rfl ?_
  refine E_putI (ci := 8) (j := 10) dX8_clear_2 fkX8_42 rfl (by decide) (kS hs) (by decide) ?_
  refine E_aload_n dX8_clear_5 rfl ?_
  refine E_iconst (v := nI 0) dX8_clear_6 rfl ?_
  refine E_putI (ci := 8) (j := 15) dX8_clear_7 fkX8_46 rfl (by decide) (kS hs) (by decide) ?_
  refine E_aload_n dX8_clear_10 rfl ?_
  refine E_iconst (v := nI 0) dX8_clear_11 rfl ?_
  refine E_putI (ci := 8) (j := 16) dX8_clear_12 fkX8_49 rfl (by decide) (kS hs) (by decide) ?_
  refine E_aload_n dX8_clear_15 rfl ?_
  refine E_iconst (v := nI 0) dX8_clear_16 rfl ?_
  refine E_putI (ci := 8) (j := 11) dX8_clear_17 fkX8_52 rfl (by decide) (kS hs) (by decide) ?_
  refine E_aload_n dX8_clear_20 rfl ?_
  refine E_iconst (v := nI 0) dX8_clear_21 rfl ?_
  refine E_putI (ci := 8) (j := 12) dX8_clear_22 fkX8_55 rfl (by decide) (kS hs) (by decide) ?_
  refine E_aload_n dX8_clear_25 rfl ?_
  refine E_iconst (v := nI 0) dX8_clear_26 rfl ?_
  refine E_putI (ci := 8) (j := 13) dX8_clear_27 fkX8_58 rfl (by decide) (kS hs) (by decide) ?_
  refine E_aload_n dX8_clear_30 rfl ?_
  refine E_iconst (v := nI 0) dX8_clear_31 rfl ?_
  refine E_putI (ci := 8) (j := 14) dX8_clear_32 fkX8_61 rfl (by decide) (kS hs) (by decide) ?_
  refine E_vret dX8_clear_35 rfl ?_
  refine ⟨rfl, ⟨hs, fun k j hd => ?_, ⟨by decide, by decide, by decide, by decide, fun a ha => absurd ha (Nat.not_lt_zero a)⟩, fun a => Nat.zero_le 1, fun h => absurd h (Nat.lt_irrefl 0)⟩, ((((((Sb.i (spL_m (by omega) (by omega))).tr (Sb.i (spL_m (by omega) (by omega)))).tr (Sb.i (spL_m (by omega) (by omega)))).tr (Sb.i (spL_m (by omega) (by omega)))).tr (Sb.i (spL_m (by omega) (by omega)))).tr (Sb.i (spL_m (by omega) (by omega)))).tr (Sb.i (spL_m (by omega) (by omega))), sI_s⟩
  rcases hd with ⟨e, hd⟩ | ⟨e, hd⟩ | ⟨e, a, r, hd, -⟩
  · subst e
    refine ⟨by decide, by decide, ?_⟩
    rcases (show j = 0 ∨ j = 1 ∨ j = 2 ∨ j = 3 by omega) with e | e | e | e <;> subst e <;> simp [sI_get, aS]
  · exact absurd hd (Nat.not_lt_zero j)
  · exact absurd hd (Nat.not_lt_zero a)
theorem c_nameLine (hB : SB P p M) {l : Nat} (hl : l < 16) : Call g qX8_nameLine [.ref p, .int (nI l)] M (fun v M' => v = none ∧ SB (nmL P l) p M' ∧ SF p M M') := by
  have hs := hB.1
  have hth : P 61 1 < 65536 := hB.2.2.1.2.1
  have h11 : M.1 p 11 = nI (P 61 1) := sb_6 hB (j := 1) (by decide)
  have hl2 := p2_16 hl
  have h70 : ∀ b, nmL P l 70 b ≤ 1 := fun b => by unfold nmL; rw [upT_ne (by omega), upT_ne (by omega)]; exact hB.2.2.2.1 b
  have n0 : nmL P l 61 0 = P 61 0 := by unfold nmL; rw [upT_ne (by omega), upT_ne (by omega)]
  have n5 : ∀ b, nmL P l 65 b = P 65 b := fun b => by unfold nmL; rw [upT_ne (by omega), upT_ne (by omega)]
  have h61 : ∀ (M1 : AM), RPd (aS p) (dom (upT P 61 3 (if P 61 1 = 0 then l else P 61 3))) (upT P 61 3 (if P 61 1 = 0 then l else P 61 3)) M1 → RPd (aS p) (dom (nmL P l)) (nmL P l) (sI M1 p 11 (nI (P 61 1 ||| 1 * 2 ^ l))) := fun M1 h1 => by
    rw [Nat.one_mul]
    exact rp_set aS_inj h1 (k := 61) (j := 1) (by decide) (by decide) (by decide) (by decide)
  refine Call_of (ls0 := [some (.ref p), some (.int (nI l))]) rfl rfl (Nat.le_of_ble_eq_true rfl) ?_
  refine E_aload_n dX8_nameLine_0 rfl ?_
  refine E_getI' (ci := 8) (j := 11) dX8_nameLine_1 fkX8_52 rfl (by decide) (kS hs) (by decide) (h11) ?_
  refine E_if_neN (t := 12) dX8_nameLine_4 (by decide) (by omega) (fun c4 => ?_) (fun c4 => ?_)
  · skip
    have hL : M.1 p 15 = M.1 p 15 ∧ M.1 p 16 = M.1 p 16 := ⟨rfl, rfl⟩
    have h11' := h11
    have hd : RPd (aS p) (dom (upT P 61 3 (if P 61 1 = 0 then l else P 61 3))) (upT P 61 3 (if P 61 1 = 0 then l else P 61 3)) M := by (rw [if_neg (by omega), upT_id]; exact hB.2.1)
    have hF0 : SF p M M := SF.rf
    refine E_aload_n dX8_nameLine_12 rfl ?_
    refine E_dup dX8_nameLine_13 rfl ?_
    refine E_getI' (ci := 8) (j := 11) dX8_nameLine_14 fkX8_52 rfl (by decide) (kS hs) (by decide) (h11') ?_
    refine E_iconst (v := nI 1) dX8_nameLine_17 rfl ?_
    refine E_iload_n dX8_nameLine_18 rfl ?_
    refine E_ishlN dX8_nameLine_19 (by omega) (by omega) ?_
    refine E_iorN dX8_nameLine_20 ?_
    refine E_putI (ci := 8) (j := 11) dX8_nameLine_21 fkX8_52 rfl (by decide) (kS hs) (by decide) ?_
    refine E_vret dX8_nameLine_24 rfl ?_
    exact ⟨rfl, ⟨hs, h61 _ hd, wt_nmL hB.2.2.1 hl, h70, hB.2.2.2.2.k n0 n5 ((sI_o (by omega)).trans hL.1) ((sI_o (by omega)).trans hL.2)⟩, hF0.i (by omega) (by omega)⟩
  · skip
    have h11' : (sI M p 13 (nI l)).1 p 11 = nI (P 61 1) := (sI_o (by omega)).trans h11
    have hd : RPd (aS p) (dom (upT P 61 3 (if P 61 1 = 0 then l else P 61 3))) (upT P 61 3 (if P 61 1 = 0 then l else P 61 3)) (sI M p 13 (nI l)) := by (rw [if_pos c4]; exact rp_set aS_inj hB.2.1 (k := 61) (j := 3) (by decide) (by decide) (by decide) (by decide))
    have hF0 : SF p M (sI M p 13 (nI l)) := SF.rf.i (by omega) (by omega)
    have hL : (sI M p 13 (nI l)).1 p 15 = M.1 p 15 ∧ (sI M p 13 (nI l)).1 p 16 = M.1 p 16 := ⟨sI_o (by omega), sI_o (by omega)⟩
    refine E_aload_n dX8_nameLine_7 rfl ?_
    refine E_iload_n dX8_nameLine_8 rfl ?_
    refine E_putI (ci := 8) (j := 13) dX8_nameLine_9 fkX8_58 rfl (by decide) (kS hs) (by decide) ?_
    refine E_aload_n dX8_nameLine_12 rfl ?_
    refine E_dup dX8_nameLine_13 rfl ?_
    refine E_getI' (ci := 8) (j := 11) dX8_nameLine_14 fkX8_52 rfl (by decide) (kS hs) (by decide) (h11') ?_
    refine E_iconst (v := nI 1) dX8_nameLine_17 rfl ?_
    refine E_iload_n dX8_nameLine_18 rfl ?_
    refine E_ishlN dX8_nameLine_19 (by omega) (by omega) ?_
    refine E_iorN dX8_nameLine_20 ?_
    refine E_putI (ci := 8) (j := 11) dX8_nameLine_21 fkX8_52 rfl (by decide) (kS hs) (by decide) ?_
    refine E_vret dX8_nameLine_24 rfl ?_
    exact ⟨rfl, ⟨hs, h61 _ hd, wt_nmL hB.2.2.1 hl, h70, hB.2.2.2.2.k n0 n5 ((sI_o (by omega)).trans hL.1) ((sI_o (by omega)).trans hL.2)⟩, hF0.i (by omega) (by omega)⟩
theorem c_addAnswer (hB : SB P p M) {l : Nat} (hl : l < 16) : Call g qX8_addAnswer [.ref p, .int (nI l)] M (fun v M' => v = some (.int (bI (decide (P 61 0 < 32)))) ∧ (P 61 0 < 32 → SB (adA P l) p M') ∧ SF p M M') := by
  have hs := hB.1
  have h32 : P 61 0 ≤ 32 := hB.2.2.1.1
  have h10 : M.1 p 10 = nI (P 61 0) := sb_6 hB (j := 0) (by decide)
  refine Call_of (ls0 := [some (.ref p), some (.int (nI l))]) rfl rfl (Nat.le_of_ble_eq_true rfl) ?_
  refine E_aload_n dX8_addAnswer_0 rfl ?_
  refine E_getI' (ci := 8) (j := 10) dX8_addAnswer_1 fkX8_42 rfl (by decide) (kS hs) (by decide) (h10) ?_
  refine E_bipush (v := nI 32) dX8_addAnswer_4 rfl ?_
  refine E_icmp_ltN (t := 11) dX8_addAnswer_6 (by decide) (by omega) (by omega) (fun c6 => ?_) (fun c6 => ?_)
  · skip
    refine E_aload_n dX8_addAnswer_11 rfl ?_
    refine E_aload_n dX8_addAnswer_12 rfl ?_
    refine E_getI' (ci := 8) (j := 10) dX8_addAnswer_13 fkX8_42 rfl (by decide) (kS hs) (by decide) (h10) ?_
    refine E_putI (ci := 8) (j := 15) dX8_addAnswer_16 fkX8_46 rfl (by decide) (kS hs) (by decide) ?_
    refine E_aload_n dX8_addAnswer_19 rfl ?_
    refine E_dup dX8_addAnswer_20 rfl ?_
    refine E_getI' (ci := 8) (j := 10) dX8_addAnswer_21 fkX8_42 rfl (by decide) (kS hs) (by decide) ((sI_o (by omega)).trans h10) ?_
    refine E_iconst (v := nI 1) dX8_addAnswer_24 rfl ?_
    refine E_iaddN dX8_addAnswer_25 ?_
    refine E_putI (ci := 8) (j := 10) dX8_addAnswer_26 fkX8_42 rfl (by decide) (kS hs) (by decide) ?_
    refine E_aload_n dX8_addAnswer_29 rfl ?_
    refine E_getR' (ci := 8) (j := 0) (p := p+1) dX8_addAnswer_30 fkX8_9 rfl (by decide) (kS hs) (by decide) ((srS hs) 0 (by decide)) ?_
    refine E_aload_n dX8_addAnswer_33 rfl ?_
    refine E_getI' (ci := 8) (j := 15) dX8_addAnswer_34 fkX8_46 rfl (by decide) (kS hs) (by decide) ((sI_o (by omega)).trans sI_s) ?_
    refine E_iload_n dX8_addAnswer_37 rfl ?_
    refine E_iastN dX8_addAnswer_38 (kp1 hs) (by omega) (by decide) ?_
    refine E_aload_n dX8_addAnswer_39 rfl ?_
    refine E_getR' (ci := 8) (j := 1) (p := p+2) dX8_addAnswer_40 fkX8_15 rfl (by decide) (kS hs) (by decide) ((srS hs) 1 (by decide)) ?_
    refine E_aload_n dX8_addAnswer_43 rfl ?_
    refine E_getI' (ci := 8) (j := 15) dX8_addAnswer_44 fkX8_46 rfl (by decide) (kS hs) (by decide) ((sI_o (by omega)).trans ((sI_o (by omega)).trans sI_s)) ?_
    refine E_iload_n dX8_addAnswer_47 rfl ?_
    refine E_iastN dX8_addAnswer_48 (kp2 hs) (by omega) (by decide) ?_
    refine E_aload_n dX8_addAnswer_49 rfl ?_
    refine E_getR' (ci := 8) (j := 2) (p := p+3) dX8_addAnswer_50 fkX8_18 rfl (by decide) (kS hs) (by decide) ((srS hs) 2 (by decide)) ?_
    refine E_aload_n dX8_addAnswer_53 rfl ?_
    refine E_getI' (ci := 8) (j := 15) dX8_addAnswer_54 fkX8_46 rfl (by decide) (kS hs) (by decide) ((sI_o (by omega)).trans ((sI_o (by omega)).trans ((sI_o (by omega)).trans sI_s))) ?_
    refine E_iconst (v := nI 0) dX8_addAnswer_57 rfl ?_
    refine E_iastN dX8_addAnswer_58 (kp3 hs) (by omega) (by decide) ?_
    refine E_aload_n dX8_addAnswer_59 rfl ?_
    refine E_getR' (ci := 8) (j := 3) (p := p+4) dX8_addAnswer_60 fkX8_21 rfl (by decide) (kS hs) (by decide) ((srS hs) 3 (by decide)) ?_
    refine E_aload_n dX8_addAnswer_63 rfl ?_
    refine E_getI' (ci := 8) (j := 15) dX8_addAnswer_64 fkX8_46 rfl (by decide) (kS hs) (by decide) ((sI_o (by omega)).trans ((sI_o (by omega)).trans ((sI_o (by omega)).trans ((sI_o (by omega)).trans sI_s)))) ?_
    refine E_iconst (v := nI 0) dX8_addAnswer_67 rfl ?_
    refine E_iastN dX8_addAnswer_68 (kp4 hs) (by omega) (by decide) ?_
    refine E_aload_n dX8_addAnswer_69 rfl ?_
    refine E_getR' (ci := 8) (j := 6) (p := p+7) dX8_addAnswer_70 fkX8_30 rfl (by decide) (kS hs) (by decide) ((srS hs) 6 (by decide)) ?_
    refine E_aload_n dX8_addAnswer_73 rfl ?_
    refine E_getI' (ci := 8) (j := 15) dX8_addAnswer_74 fkX8_46 rfl (by decide) (kS hs) (by decide) ((sI_o (by omega)).trans ((sI_o (by omega)).trans ((sI_o (by omega)).trans ((sI_o (by omega)).trans ((sI_o (by omega)).trans sI_s))))) ?_
    refine E_iconst (v := nI 0) dX8_addAnswer_77 rfl ?_
    refine E_iastN dX8_addAnswer_78 (kp7 hs) (by omega) (by decide) ?_
    refine E_aload_n dX8_addAnswer_79 rfl ?_
    refine E_getR' (ci := 8) (j := 7) (p := p+8) dX8_addAnswer_80 fkX8_33 rfl (by decide) (kS hs) (by decide) ((srS hs) 7 (by decide)) ?_
    refine E_aload_n dX8_addAnswer_83 rfl ?_
    refine E_getI' (ci := 8) (j := 15) dX8_addAnswer_84 fkX8_46 rfl (by decide) (kS hs) (by decide) ((sI_o (by omega)).trans ((sI_o (by omega)).trans ((sI_o (by omega)).trans ((sI_o (by omega)).trans ((sI_o (by omega)).trans ((sI_o (by omega)).trans sI_s)))))) ?_
    refine E_iconst (v := nI 0) dX8_addAnswer_87 rfl ?_
    refine E_iastN dX8_addAnswer_88 (kp8 hs) (by omega) (by decide) ?_
    refine E_iconst (v := nI 1) dX8_addAnswer_89 rfl ?_
    refine E_top (show nI 1 = bI true from rfl) ?_
    refine E_zret dX8_addAnswer_90 rfl (bI_01 _) ?_
    refine ⟨by rw [decide_eq_true c6], fun _ => ⟨hs, rp_ad hB.2.1 (fun k j h => h) (fun k j h1 h2 => ?_) ?_ ?_ (fun _ => ?_) (fun k hk => ?_), wt_adA hB.2.2.1 c6 hl hB.2.2.2.1, fun b => by rw [ad_r (by omega)]; exact hB.2.2.2.1 b, fun _ => ⟨?_, fun h5 => ?_⟩⟩, (((((((SF.rf.i (by omega) (by omega)).i (by omega) (by omega)).i (by omega) (by omega)).i (by omega) (by omega)).i (by omega) (by omega)).i (by omega) (by omega)).i (by omega) (by omega)).i (by omega) (by omega)⟩
    · have ha := aS_dom (p := p) h1 h2
      rw [sI_o (by omega), sI_o (by omega), sI_o (by omega), sI_o (by omega), sI_o (by omega), sI_o (by omega), sI_o (by omega), sI_o (by omega)]
    · show (sI _ (p + 8) _ _).1 p 10 = _
      rw [sI_o (by omega), sI_o (by omega), sI_o (by omega), sI_o (by omega), sI_o (by omega), sI_o (by omega), sI_s]
    · show (sI _ (p + 8) _ _).1 (p + 1) (P 61 0) = _
      rw [sI_o (by omega), sI_o (by omega), sI_o (by omega), sI_o (by omega), sI_o (by omega), sI_s]
    · show (sI _ (p + 8) _ _).1 (p + 2) (P 61 0) = _
      rw [sI_o (by omega), sI_o (by omega), sI_o (by omega), sI_o (by omega), sI_s]
    · rcases hk with e | e | e | e <;> subst e
      · show (sI _ (p + 8) _ _).1 (p + 3) (P 61 0) = _
        rw [sI_o (by omega), sI_o (by omega), sI_o (by omega), sI_s]
      · show (sI _ (p + 8) _ _).1 (p + 4) (P 61 0) = _
        rw [sI_o (by omega), sI_o (by omega), sI_s]
      · show (sI _ (p + 8) _ _).1 (p + 7) (P 61 0) = _
        rw [sI_o (by omega), sI_s]
      · show (sI _ (p + 8) _ _).1 (p + 8) (P 61 0) = _
        rw [sI_s]
    · rw [ad_m, Nat.add_sub_cancel]
      rw [sI_o (by omega), sI_o (by omega), sI_o (by omega), sI_o (by omega), sI_o (by omega), sI_o (by omega), sI_o (by omega), sI_s]
    · rw [ad_m, Nat.add_sub_cancel, ad_z (by omega)] at h5
      exact absurd h5 (Nat.lt_irrefl 0)
  · skip
    refine E_iconst (v := nI 0) dX8_addAnswer_9 rfl ?_
    refine E_top (show nI 0 = bI false from rfl) ?_
    refine E_zret dX8_addAnswer_10 rfl (bI_01 _) ?_
    exact ⟨by rw [decide_eq_false (by omega)], fun h => absurd h (by omega), SF.rf⟩
theorem c_addAlt (hB : SB P p M) {a : Nat} (ha : P 61 0 = a + 1) : Call g qX8_addAlternative [.ref p] M (fun v M' => v = some (.int (bI (decide (P 65 a < 3)))) ∧ (P 65 a < 3 → SB (opA P) p M') ∧ SF p M M') := by
  have hs := hB.1
  have h32 : P 61 0 ≤ 32 := hB.2.2.1.1
  have hal : M.1 (p + 4) a = nI (P 65 a) := sb_alts hB (by omega)
  have h3 : P 65 a ≤ 3 := (wt_a hB.2.2.1 (show a < P 61 0 by omega)).2.2.2.1
  have hop : opA P = upT (upT (upT P 66 (3 * a + P 65 a) 0) 67 (3 * a + P 65 a) 0) 65 a (P 65 a + 1) := by unfold opA; rw [ha, Nat.add_sub_cancel]
  have h15 : M.1 p 15 = nI a := by
    have h := (hB.2.2.2.2 (by omega)).1
    rw [ha, Nat.add_sub_cancel] at h
    exact h
  have o0 : opA P 61 0 = a + 1 := by rw [hop, upT_ne (by omega), upT_ne (by omega), upT_ne (by omega), ha]
  have o5 : opA P 65 a = P 65 a + 1 := by rw [hop, upT_at]
  have oa : alI (opA P) = 3 * a + P 65 a := by unfold alI; rw [o0, Nat.add_sub_cancel, o5]; omega
  refine Call_of (ls0 := [some (.ref p)]) rfl rfl (Nat.le_of_ble_eq_true rfl) ?_
  refine E_aload_n dX8_addAlternative_0 rfl ?_
  refine E_getR' (ci := 8) (j := 3) (p := p+4) dX8_addAlternative_1 fkX8_21 rfl (by decide) (kS hs) (by decide) ((srS hs) 3 (by decide)) ?_
  refine E_aload_n dX8_addAlternative_4 rfl ?_
  refine E_getI' (ci := 8) (j := 15) dX8_addAlternative_5 fkX8_46 rfl (by decide) (kS hs) (by decide) (h15) ?_
  refine E_ialdN dX8_addAlternative_8 (kp4 hs) (by omega) (by decide) (hal) ?_
  refine E_iconst (v := nI 3) dX8_addAlternative_9 rfl ?_
  refine E_icmp_ltN (t := 15) dX8_addAlternative_10 (by decide) (by omega) (by omega) (fun c10 => ?_) (fun c10 => ?_)
  · skip
    refine E_aload_n dX8_addAlternative_15 rfl ?_
    refine E_aload_n dX8_addAlternative_16 rfl ?_
    refine E_getI' (ci := 8) (j := 15) dX8_addAlternative_17 fkX8_46 rfl (by decide) (kS hs) (by decide) (h15) ?_
    refine E_iconst (v := nI 3) dX8_addAlternative_20 rfl ?_
    refine E_imulN dX8_addAlternative_21 ?_
    refine E_aload_n dX8_addAlternative_22 rfl ?_
    refine E_getR' (ci := 8) (j := 3) (p := p+4) dX8_addAlternative_23 fkX8_21 rfl (by decide) (kS hs) (by decide) ((srS hs) 3 (by decide)) ?_
    refine E_aload_n dX8_addAlternative_26 rfl ?_
    refine E_getI' (ci := 8) (j := 15) dX8_addAlternative_27 fkX8_46 rfl (by decide) (kS hs) (by decide) (h15) ?_
    refine E_ialdN dX8_addAlternative_30 (kp4 hs) (by omega) (by decide) (hal) ?_
    refine E_iaddN dX8_addAlternative_31 ?_
    refine E_putI (ci := 8) (j := 16) dX8_addAlternative_32 fkX8_49 rfl (by decide) (kS hs) (by decide) ?_
    refine E_aload_n dX8_addAlternative_35 rfl ?_
    refine E_getR' (ci := 8) (j := 3) (p := p+4) dX8_addAlternative_36 fkX8_21 rfl (by decide) (kS hs) (by decide) ((srS hs) 3 (by decide)) ?_
    refine E_aload_n dX8_addAlternative_39 rfl ?_
    refine E_getI' (ci := 8) (j := 15) dX8_addAlternative_40 fkX8_46 rfl (by decide) (kS hs) (by decide) ((sI_o (by omega)).trans h15) ?_
    refine E_dup2 dX8_addAlternative_43 rfl rfl ?_
    refine E_ialdN dX8_addAlternative_44 (kp4 hs) (by omega) (by decide) ((sI_o (by omega)).trans hal) ?_
    refine E_iconst (v := nI 1) dX8_addAlternative_45 rfl ?_
    refine E_iaddN dX8_addAlternative_46 ?_
    refine E_iastN dX8_addAlternative_47 (kp4 hs) (by omega) (by decide) ?_
    refine E_aload_n dX8_addAlternative_48 rfl ?_
    refine E_getR' (ci := 8) (j := 4) (p := p+5) dX8_addAlternative_49 fkX8_24 rfl (by decide) (kS hs) (by decide) ((srS hs) 4 (by decide)) ?_
    refine E_aload_n dX8_addAlternative_52 rfl ?_
    refine E_getI' (ci := 8) (j := 16) dX8_addAlternative_53 fkX8_49 rfl (by decide) (kS hs) (by decide) ((sI_o (by omega)).trans sI_s) ?_
    refine E_iconst (v := nI 0) dX8_addAlternative_56 rfl ?_
    refine E_iastN dX8_addAlternative_57 (kp5 hs) (by omega) (by decide) ?_
    refine E_aload_n dX8_addAlternative_58 rfl ?_
    refine E_getR' (ci := 8) (j := 5) (p := p+6) dX8_addAlternative_59 fkX8_27 rfl (by decide) (kS hs) (by decide) ((srS hs) 5 (by decide)) ?_
    refine E_aload_n dX8_addAlternative_62 rfl ?_
    refine E_getI' (ci := 8) (j := 16) dX8_addAlternative_63 fkX8_49 rfl (by decide) (kS hs) (by decide) ((sI_o (by omega)).trans ((sI_o (by omega)).trans sI_s)) ?_
    refine E_iconst (v := nI 0) dX8_addAlternative_66 rfl ?_
    refine E_iastN dX8_addAlternative_67 (kp6 hs) (by omega) (by decide) ?_
    refine E_iconst (v := nI 1) dX8_addAlternative_68 rfl ?_
    refine E_top (show nI 1 = bI true from rfl) ?_
    refine E_zret dX8_addAlternative_69 rfl (bI_01 _) ?_
    rw [show a * 3 = 3 * a by omega]
    refine ⟨by rw [decide_eq_true c10], fun _ => ⟨hs, ?_, wt_opA hB.2.2.1 (by rw [ha, Nat.add_sub_cancel]; exact c10), fun b => by rw [hop, upT_ne (by omega), upT_ne (by omega), upT_ne (by omega)]; exact hB.2.2.2.1 b, fun _ => ⟨?_, fun _ => ?_⟩⟩, (((SF.rf.i (by omega) (by omega)).i (by omega) (by omega)).i (by omega) (by omega)).i (by omega) (by omega)⟩
    · have h5 := rp_up aS_inj (rp_up aS_inj (rp_up aS_inj (rp_x (i := 16) (x := nI (3 * a + P 65 a)) hB.2.1 (by decide)) (k := 65) (j := a) (v := P 65 a + 1) (by decide) (by decide)) (k := 66) (j := 3 * a + P 65 a) (v := 0) (by decide) (by decide)) (k := 67) (j := 3 * a + P 65 a) (v := 0) (by decide) (by decide)
      intro k j hd
      have h6 := h5 k j (by rcases dom_opA ha hd with h | h | h; exact Or.inl (Or.inl (Or.inl h)); exact Or.inl (Or.inr h); exact Or.inr h)
      rw [hop, ← op_c]
      exact h6
    · rw [o0, Nat.add_sub_cancel, sI_o (by omega), sI_o (by omega), sI_o (by omega), sI_o (by omega)]
      exact h15
    · rw [oa, sI_o (by omega), sI_o (by omega), sI_o (by omega), sI_s]
  · skip
    refine E_iconst (v := nI 0) dX8_addAlternative_13 rfl ?_
    refine E_top (show nI 0 = bI false from rfl) ?_
    refine E_zret dX8_addAlternative_14 rfl (bI_01 _) ?_
    exact ⟨by rw [decide_eq_false (by omega)], fun h => absurd h (by omega), SF.rf⟩
end S2
