-- the model: keeps, talk
def kpL : List Nat := [61, 62, 63, 64, 65, 66, 67, 68, 69, 70]
/-- what is kept, so far: answers below a, guards' sets below w -/
def KP (P : TK) (M M' : AM) (a w : Nat) : Prop := Sb kpL M M' ∧ (∀ j, 4 ≤ j → M'.1 61 j = M.1 61 j) ∧ (∀ j, j < 4 → M'.1 61 j = nI (P 61 j)) ∧ (∀ b, b < a → M'.1 62 b = nI (P 62 b) ∧ M'.1 63 b = nI (P 63 b) ∧ M'.1 64 b = nI (P 64 b) ∧ M'.1 65 b = nI (P 65 b) ∧ M'.1 68 b = nI (P 68 b) ∧ M'.1 69 b = nI (P 69 b) ∧ M'.1 70 b = 0) ∧ (∀ i, i < w → M'.1 66 i = M.1 77 i ∧ M'.1 67 i = M.1 78 i) ∧ ∀ b, b < 32 → M'.1 70 b = 0 ∨ M'.1 70 b = 1
section M25
variable {g : GG} {M : AM} {T P : TK}
set_option maxRecDepth 8000 in
theorem m_keeps (hP : RPm P M) (hZ : ∀ b, b < 32 → M.1 70 b = 0 ∨ M.1 70 b = 1) : Call g qX11_keeps [.ref 61] M (fun v M' => v = none ∧ KP P M M' (P 61 0) 96) := by
  have h32 : P 61 0 ≤ 32 := hP.2.1.1
  have h28 : M.1 61 28 = nI (P 61 0) := (hP.1 61 0 (Or.inl ⟨rfl, by decide⟩)).2.2
  have h29 : M.1 61 29 = nI (P 61 1) := (hP.1 61 1 (Or.inl ⟨rfl, by decide⟩)).2.2
  have h30 : M.1 61 30 = nI (P 61 2) := (hP.1 61 2 (Or.inl ⟨rfl, by decide⟩)).2.2
  have h31 : M.1 61 31 = nI (P 61 3) := (hP.1 61 3 (Or.inl ⟨rfl, by decide⟩)).2.2
  have L2 : ∀ (n w : Nat) (M1 : AM), w ≤ 96 → 96 < w + n → KP P M M1 (P 61 0) w → Ex g qX11_keeps (tm g qX11_keeps (fun v M' => v = none ∧ KP P M M' (P 61 0) 96)) 157 [some (.ref 61), some (.int (nI w))] [] M1 := by
    intro n
    induction n with
    | zero => intro w M1 h1 h2; exact absurd h2 (by omega)
    | succ n ih =>
      intro w M1 hw hn hK
      obtain ⟨k1, k2, k3, k4, k5, k6⟩ := id hK
      refine E_iload_n dX11_keeps_157 rfl ?_
      refine E_bipush (v := nI 96) dX11_keeps_158 rfl ?_
      refine E_icmp_geN (t := 193) dX11_keeps_160 (by decide) (by omega) (by omega) (fun c160 => ?_) (fun c160 => ?_)
      · skip
        refine E_vret dX11_keeps_193 rfl ?_
        have e : w = 96 := by omega
        subst e
        exact ⟨rfl, hK⟩
      · skip
        refine E_aload_n dX11_keeps_163 rfl ?_
        refine E_getR' (ci := 11) (j := 8) (p := 66) dX11_keeps_164 fkX11_22 rfl (by decide) rfl (by decide) (rfl) ?_
        refine E_iload_n dX11_keeps_167 rfl ?_
        refine E_aload_n dX11_keeps_168 rfl ?_
        refine E_getR' (ci := 11) (j := 26) (p := 77) dX11_keeps_169 fkX11_56 rfl (by decide) rfl (by decide) (rfl) ?_
        refine E_iload_n dX11_keeps_172 rfl ?_
        refine E_ialdN dX11_keeps_173 rfl (by omega) (by decide) ((congrFun (k1 77 (by decide)).1 w)) ?_
        refine E_iastN dX11_keeps_174 rfl (by omega) (by decide) ?_
        refine E_aload_n dX11_keeps_175 rfl ?_
        refine E_getR' (ci := 11) (j := 9) (p := 67) dX11_keeps_176 fkX11_25 rfl (by decide) rfl (by decide) (rfl) ?_
        refine E_iload_n dX11_keeps_179 rfl ?_
        refine E_aload_n dX11_keeps_180 rfl ?_
        refine E_getR' (ci := 11) (j := 27) (p := 78) dX11_keeps_181 fkX11_59 rfl (by decide) rfl (by decide) (rfl) ?_
        refine E_iload_n dX11_keeps_184 rfl ?_
        refine E_ialdN dX11_keeps_185 rfl (by omega) (by decide) ((congrFun ((sI_ne (by decide)).trans (k1 78 (by decide)).1) w)) ?_
        refine E_iastN dX11_keeps_186 rfl (by omega) (by decide) ?_
        refine E_iincN (b := 1) dX11_keeps_187 rfl rfl (by decide) rfl ?_
        refine E_goto (t := 157) dX11_keeps_190 (by decide) ?_
        refine ih (w + 1) _ (by omega) (by omega) ⟨(k1.tr (Sb.i (by decide))).tr (Sb.i (by decide)), fun j hj => ?_, fun j hj => ?_, fun b hb => ?_, fun i hi => ?_, fun b hb => ?_⟩
        · rw [sI_o (by omega), sI_o (by omega)]; exact k2 j hj
        · rw [sI_o (by omega), sI_o (by omega)]; exact k3 j hj
        · rw [sI_ne (i := 62) (by decide), sI_ne (i := 62) (by decide), sI_ne (i := 63) (by decide), sI_ne (i := 63) (by decide), sI_ne (i := 64) (by decide), sI_ne (i := 64) (by decide), sI_ne (i := 65) (by decide), sI_ne (i := 65) (by decide), sI_ne (i := 68) (by decide), sI_ne (i := 68) (by decide), sI_ne (i := 69) (by decide), sI_ne (i := 69) (by decide), sI_ne (i := 70) (by decide), sI_ne (i := 70) (by decide)]; exact k4 b hb
        · by_cases e : i = w
          · subst e; rw [sI_o (by omega), sI_s, sI_s]; exact ⟨rfl, rfl⟩
          · rw [sI_o (by omega), sI_o (by omega), sI_o (by omega), sI_o (by omega)]; exact k5 i (by omega)
        · rw [sI_o (by omega), sI_o (by omega)]; exact k6 b hb
  have L1 : ∀ (n a : Nat) (M1 : AM), a ≤ P 61 0 → P 61 0 < a + n → KP P M M1 a 0 → Ex g qX11_keeps (tm g qX11_keeps (fun v M' => v = none ∧ KP P M M' (P 61 0) 96)) 34 [some (.ref 61), some (.int (nI a))] [] M1 := by
    intro n
    induction n with
    | zero => intro a M1 h1 h2; exact absurd h2 (by omega)
    | succ n ih =>
      intro a M1 ha hn hK
      obtain ⟨k1, k2, k3, k4, k5, k6⟩ := id hK
      have q76 : M1.1 76 = M.1 76 := (k1 76 (by decide)).1
      have rd : ∀ k i, a < P 61 0 → (62 ≤ k ∧ k ≤ 65) ∨ (68 ≤ k ∧ k ≤ 69) → aM k a = (76, 6 * a + i) → M1.1 76 (6 * a + i) = nI (P k a) := fun k i h1 h2 h3 => by
        have h4 := (hP.1 k a (Or.inr (Or.inl ⟨h2, h1⟩))).2.2
        rw [h3] at h4
        rw [q76]
        exact h4
      refine E_iload_n dX11_keeps_34 rfl ?_
      refine E_aload_n dX11_keeps_35 rfl ?_
      refine E_getI' (ci := 11) (j := 0) dX11_keeps_36 fkX11_85 rfl (by decide) rfl (by decide) (k3 0 (by decide)) ?_
      refine E_icmp_geN (t := 155) dX11_keeps_39 (by decide) (by omega) (by omega) (fun c39 => ?_) (fun c39 => ?_)
      · skip
        have e : a = P 61 0 := by omega
        subst e
        refine E_iconst (v := nI 0) dX11_keeps_155 rfl ?_
        refine E_ist_n (i := 1) dX11_keeps_156 rfl (by decide) rfl ?_
        exact L2 97 0 M1 (by decide) (by decide) hK
      · skip
        refine E_aload_n dX11_keeps_42 rfl ?_
        refine E_getR' (ci := 11) (j := 4) (p := 62) dX11_keeps_43 fkX11_7 rfl (by decide) rfl (by decide) (rfl) ?_
        refine E_iload_n dX11_keeps_46 rfl ?_
        refine E_aload_n dX11_keeps_47 rfl ?_
        refine E_getR' (ci := 11) (j := 25) (p := 76) dX11_keeps_48 fkX11_53 rfl (by decide) rfl (by decide) (rfl) ?_
        refine E_bipush (v := nI 6) dX11_keeps_51 rfl ?_
        refine E_iload_n dX11_keeps_53 rfl ?_
        refine E_imulN dX11_keeps_54 ?_
        refine E_ialdN dX11_keeps_55 rfl (by omega) (by decide) (rd 62 0 c39 (by decide) rfl) ?_
        refine E_iastN dX11_keeps_56 rfl (by omega) (by decide) ?_
        refine E_aload_n dX11_keeps_57 rfl ?_
        refine E_getR' (ci := 11) (j := 5) (p := 63) dX11_keeps_58 fkX11_13 rfl (by decide) rfl (by decide) (rfl) ?_
        refine E_iload_n dX11_keeps_61 rfl ?_
        refine E_aload_n dX11_keeps_62 rfl ?_
        refine E_getR' (ci := 11) (j := 25) (p := 76) dX11_keeps_63 fkX11_53 rfl (by decide) rfl (by decide) (rfl) ?_
        refine E_bipush (v := nI 6) dX11_keeps_66 rfl ?_
        refine E_iload_n dX11_keeps_68 rfl ?_
        refine E_imulN dX11_keeps_69 ?_
        refine E_iconst (v := nI 1) dX11_keeps_70 rfl ?_
        refine E_iaddN dX11_keeps_71 ?_
        refine E_ialdN dX11_keeps_72 rfl (by omega) (by decide) ((congrFun (sI_ne (by decide)) _).trans (rd 63 1 c39 (by decide) rfl)) ?_
        refine E_iastN dX11_keeps_73 rfl (by omega) (by decide) ?_
        refine E_aload_n dX11_keeps_74 rfl ?_
        refine E_getR' (ci := 11) (j := 6) (p := 64) dX11_keeps_75 fkX11_16 rfl (by decide) rfl (by decide) (rfl) ?_
        refine E_iload_n dX11_keeps_78 rfl ?_
        refine E_aload_n dX11_keeps_79 rfl ?_
        refine E_getR' (ci := 11) (j := 25) (p := 76) dX11_keeps_80 fkX11_53 rfl (by decide) rfl (by decide) (rfl) ?_
        refine E_bipush (v := nI 6) dX11_keeps_83 rfl ?_
        refine E_iload_n dX11_keeps_85 rfl ?_
        refine E_imulN dX11_keeps_86 ?_
        refine E_iconst (v := nI 2) dX11_keeps_87 rfl ?_
        refine E_iaddN dX11_keeps_88 ?_
        refine E_ialdN dX11_keeps_89 rfl (by omega) (by decide) ((congrFun (sI_ne (by decide)) _).trans ((congrFun (sI_ne (by decide)) _).trans (rd 64 2 c39 (by decide) rfl))) ?_
        refine E_iastN dX11_keeps_90 rfl (by omega) (by decide) ?_
        refine E_aload_n dX11_keeps_91 rfl ?_
        refine E_getR' (ci := 11) (j := 7) (p := 65) dX11_keeps_92 fkX11_19 rfl (by decide) rfl (by decide) (rfl) ?_
        refine E_iload_n dX11_keeps_95 rfl ?_
        refine E_aload_n dX11_keeps_96 rfl ?_
        refine E_getR' (ci := 11) (j := 25) (p := 76) dX11_keeps_97 fkX11_53 rfl (by decide) rfl (by decide) (rfl) ?_
        refine E_bipush (v := nI 6) dX11_keeps_100 rfl ?_
        refine E_iload_n dX11_keeps_102 rfl ?_
        refine E_imulN dX11_keeps_103 ?_
        refine E_iconst (v := nI 3) dX11_keeps_104 rfl ?_
        refine E_iaddN dX11_keeps_105 ?_
        refine E_ialdN dX11_keeps_106 rfl (by omega) (by decide) ((congrFun (sI_ne (by decide)) _).trans ((congrFun (sI_ne (by decide)) _).trans ((congrFun (sI_ne (by decide)) _).trans (rd 65 3 c39 (by decide) rfl)))) ?_
        refine E_iastN dX11_keeps_107 rfl (by omega) (by decide) ?_
        refine E_aload_n dX11_keeps_108 rfl ?_
        refine E_getR' (ci := 11) (j := 10) (p := 68) dX11_keeps_109 fkX11_28 rfl (by decide) rfl (by decide) (rfl) ?_
        refine E_iload_n dX11_keeps_112 rfl ?_
        refine E_aload_n dX11_keeps_113 rfl ?_
        refine E_getR' (ci := 11) (j := 25) (p := 76) dX11_keeps_114 fkX11_53 rfl (by decide) rfl (by decide) (rfl) ?_
        refine E_bipush (v := nI 6) dX11_keeps_117 rfl ?_
        refine E_iload_n dX11_keeps_119 rfl ?_
        refine E_imulN dX11_keeps_120 ?_
        refine E_iconst (v := nI 4) dX11_keeps_121 rfl ?_
        refine E_iaddN dX11_keeps_122 ?_
        refine E_ialdN dX11_keeps_123 rfl (by omega) (by decide) ((congrFun (sI_ne (by decide)) _).trans ((congrFun (sI_ne (by decide)) _).trans ((congrFun (sI_ne (by decide)) _).trans ((congrFun (sI_ne (by decide)) _).trans (rd 68 4 c39 (by decide) rfl))))) ?_
        refine E_iastN dX11_keeps_124 rfl (by omega) (by decide) ?_
        refine E_aload_n dX11_keeps_125 rfl ?_
        refine E_getR' (ci := 11) (j := 11) (p := 69) dX11_keeps_126 fkX11_31 rfl (by decide) rfl (by decide) (rfl) ?_
        refine E_iload_n dX11_keeps_129 rfl ?_
        refine E_aload_n dX11_keeps_130 rfl ?_
        refine E_getR' (ci := 11) (j := 25) (p := 76) dX11_keeps_131 fkX11_53 rfl (by decide) rfl (by decide) (rfl) ?_
        refine E_bipush (v := nI 6) dX11_keeps_134 rfl ?_
        refine E_iload_n dX11_keeps_136 rfl ?_
        refine E_imulN dX11_keeps_137 ?_
        refine E_iconst (v := nI 5) dX11_keeps_138 rfl ?_
        refine E_iaddN dX11_keeps_139 ?_
        refine E_ialdN dX11_keeps_140 rfl (by omega) (by decide) ((congrFun (sI_ne (by decide)) _).trans ((congrFun (sI_ne (by decide)) _).trans ((congrFun (sI_ne (by decide)) _).trans ((congrFun (sI_ne (by decide)) _).trans ((congrFun (sI_ne (by decide)) _).trans (rd 69 5 c39 (by decide) rfl)))))) ?_
        refine E_iastN dX11_keeps_141 rfl (by omega) (by decide) ?_
        refine E_aload_n dX11_keeps_142 rfl ?_
        refine E_getR' (ci := 11) (j := 12) (p := 70) dX11_keeps_143 fkX11_34 rfl (by decide) rfl (by decide) (rfl) ?_
        refine E_iload_n dX11_keeps_146 rfl ?_
        refine E_iconst (v := nI 0) dX11_keeps_147 rfl ?_
        refine E_top (show nI 0 = bI false from rfl) ?_
        refine E_zastN dX11_keeps_148 rfl (by omega) (by decide) ?_
        refine E_iincN (b := 1) dX11_keeps_149 rfl rfl (by decide) rfl ?_
        refine E_goto (t := 34) dX11_keeps_152 (by decide) ?_
        refine ih (a + 1) _ (by omega) (by omega) ⟨((((((k1.tr (Sb.i (by decide))).tr (Sb.i (by decide))).tr (Sb.i (by decide))).tr (Sb.i (by decide))).tr (Sb.i (by decide))).tr (Sb.i (by decide))).tr (Sb.i (by decide)), fun j hj => ?_, fun j hj => ?_, fun b hb => ?_, fun i hi => absurd hi (Nat.not_lt_zero i), fun b hb => ?_⟩
        · simp only [sI_get]; rw [if_neg (by omega), if_neg (by omega), if_neg (by omega), if_neg (by omega), if_neg (by omega), if_neg (by omega), if_neg (by omega)]; exact k2 j hj
        · simp only [sI_get]; rw [if_neg (by omega), if_neg (by omega), if_neg (by omega), if_neg (by omega), if_neg (by omega), if_neg (by omega), if_neg (by omega)]; exact k3 j hj
        · by_cases e : b = a
          · subst e; simp [sI_get]; rfl
          · simp [sI_get, e]; exact k4 b (by omega)
        · by_cases e : b = a
          · subst e; rw [sI_s]; exact Or.inl rfl
          · simp [sI_get, e]; exact k6 b hb
  refine Call_of (ls0 := [some (.ref 61), none]) rfl rfl (Nat.le_of_ble_eq_true rfl) ?_
  refine E_aload_n dX11_keeps_0 rfl ?_
  refine E_aload_n dX11_keeps_1 rfl ?_
  refine E_getI' (ci := 11) (j := 28) dX11_keeps_2 fkX11_177 rfl (by decide) rfl (by decide) (h28) ?_
  refine E_putI (ci := 11) (j := 0) dX11_keeps_5 fkX11_85 rfl (by decide) rfl (by decide) ?_
  refine E_aload_n dX11_keeps_8 rfl ?_
  refine E_aload_n dX11_keeps_9 rfl ?_
  refine E_getI' (ci := 11) (j := 29) dX11_keeps_10 fkX11_153 rfl (by decide) rfl (by decide) ((sI_o (by decide)).trans h29) ?_
  refine E_putI (ci := 11) (j := 1) dX11_keeps_13 fkX11_81 rfl (by decide) rfl (by decide) ?_
  refine E_aload_n dX11_keeps_16 rfl ?_
  refine E_aload_n dX11_keeps_17 rfl ?_
  refine E_getI' (ci := 11) (j := 30) dX11_keeps_18 fkX11_193 rfl (by decide) rfl (by decide) ((sI_o (by decide)).trans ((sI_o (by decide)).trans h30)) ?_
  refine E_putI (ci := 11) (j := 2) dX11_keeps_21 fkX11_98 rfl (by decide) rfl (by decide) ?_
  refine E_aload_n dX11_keeps_24 rfl ?_
  refine E_aload_n dX11_keeps_25 rfl ?_
  refine E_getI' (ci := 11) (j := 31) dX11_keeps_26 fkX11_156 rfl (by decide) rfl (by decide) ((sI_o (by decide)).trans ((sI_o (by decide)).trans ((sI_o (by decide)).trans h31))) ?_
  refine E_putI (ci := 11) (j := 3) dX11_keeps_29 fkX11_112 rfl (by decide) rfl (by decide) ?_
  refine E_iconst (v := nI 0) dX11_keeps_32 rfl ?_
  refine E_ist_n (i := 1) dX11_keeps_33 rfl (by decide) rfl ?_
  refine L1 33 0 _ (Nat.zero_le _) (by omega) ⟨(((Sb.i (by decide)).tr (Sb.i (by decide))).tr (Sb.i (by decide))).tr (Sb.i (by decide)), fun j hj => ?_, fun j hj => ?_, fun b hb => absurd hb (Nat.not_lt_zero b), fun i hi => absurd hi (Nat.not_lt_zero i), fun b hb => ?_⟩
  · rw [sI_o (by omega), sI_o (by omega), sI_o (by omega), sI_o (by omega)]
  · rcases (show j = 0 ∨ j = 1 ∨ j = 2 ∨ j = 3 by omega) with e | e | e | e <;> subst e <;> simp [sI_get]
  · rw [sI_o (by omega), sI_o (by omega), sI_o (by omega), sI_o (by omega)]; exact hZ b hb
end M25
def nxTalkB (T : TK) (b : Nat) : TK := upT (upT T 61 21 0) 61 22 b
def nxTalkG (T P : TK) : TK := fun k j => if k = 61 then (if j < 4 then P 61 j else if j = 13 ∨ j = 15 ∨ j = 17 ∨ j = 21 ∨ j = 22 then 0 else T 61 j) else if 62 ≤ k ∧ k ≤ 69 then P k j else if k = 70 then 0 else T k j
def prs (T : TK) : Nat × Nat × TK := rn T 0 (0, 0, fun _ _ => 0)
def mrTalk (T : TK) : Int32 := if (prs T).1 = 0 then nI ((prs T).2.2 61 0) else -100 - nI (prs T).2.1
def nxTalk (T : TK) : TK := if (prs T).1 = 0 then nxTalkG T (prs T).2.2 else nxTalkB T (prs T).1
section TG
variable {T P : TK}
theorem tg_4 {j : Nat} (h : j < 4) : nxTalkG T P 61 j = P 61 j := by unfold nxTalkG; rw [if_pos rfl, if_pos h]
theorem tg_0 {j : Nat} (h : j = 13 ∨ j = 15 ∨ j = 17 ∨ j = 21 ∨ j = 22) : nxTalkG T P 61 j = 0 := by unfold nxTalkG; rw [if_pos rfl, if_neg (by omega), if_pos h]
theorem tg_k {k j : Nat} (h : 62 ≤ k ∧ k ≤ 69) : nxTalkG T P k j = P k j := by unfold nxTalkG; rw [if_neg (by omega), if_pos h]
theorem tg_70 {j : Nat} : nxTalkG T P 70 j = 0 := by unfold nxTalkG; rw [if_neg (by decide), if_neg (by decide), if_pos rfl]
theorem wt_tg (h : WT P) : WT (nxTalkG T P) := by
  unfold WT
  rw [tg_4 (by decide), tg_4 (by decide), tg_4 (by decide), tg_4 (by decide)]
  refine ⟨h.1, h.2.1, h.2.2.1, h.2.2.2.1, fun a ha => ?_⟩
  obtain ⟨⟨j1, j2, j3, j4, j5, j6, j7, j8⟩, j9⟩ := h.2.2.2.2 a ha
  rw [tg_k (by decide), tg_k (by decide), tg_k (by decide), tg_k (by decide), tg_k (by decide), tg_k (by decide), tg_70]
  exact ⟨⟨j1, j2, j3, j4, j5, j6, j7, by decide⟩, fun r hr => by rw [tg_k (by decide), tg_k (by decide)]; exact j9 r hr⟩
end TG
theorem ch_lt {T : TK} {q : Nat} (hT : TX T) : pChr T q < 0 ↔ T 61 21 ≤ q := by
  rcases Nat.lt_or_ge q (T 61 21) with h | h
  · rw [ch_p h]
    exact ⟨fun e => absurd e (nI_pos (by have := hT.2 q h; omega)), fun e => absurd e (by omega)⟩
  · rw [ch_n h]
    exact ⟨fun _ => h, fun _ => by decide⟩
