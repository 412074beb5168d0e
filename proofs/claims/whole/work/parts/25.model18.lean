-- the model: cut, undo
section M18
variable {g : GG} {M : AM} {T : TK}
def nxCutT (T : TK) (a o : Nat) : TK := upT (nxNotes T) 70 a o
def mrCut (T : TK) (x w : Int32) : Int32 := if isAn T x = false then -1000001 else if inI w 0 1 = false then -1000002 else if T 70 x.toInt.toNat = w.toInt.toNat then -1000003 else nI (cntN (fun k => !(upT T 70 x.toInt.toNat w.toInt.toNat 70 k == 1)) (T 61 0))
def nxCut (T : TK) (x w : Int32) : TK := if isAn T x = false then T else if inI w 0 1 = false then T else if T 70 x.toInt.toNat = w.toInt.toNat then T else nxCutT T x.toInt.toNat w.toInt.toNat
set_option maxRecDepth 8000 in
theorem m_cut (hM : MS T M) {x w : Int32} : Call g qX11_cut [.ref 61, .int x, .int w] M (RtM (mrCut T x w) (nxCut T x w) M) := by
  have hR := hM.1
  have h32 := rm_32 hR
  have L : ∀ (a o : Nat), a < T 61 0 → o ≤ 1 → isAn T (nI a) = true → inI (nI o) 0 1 = true → ¬ T 70 a = o → ∀ (M2 : AM), Sb mdlP M M2 → MS (nxCutT T a o) M2 → ∀ (n k : Nat), k ≤ T 61 0 → T 61 0 < k + n → Ex g qX11_cut (tm g qX11_cut (RtM (mrCut T (nI a) (nI o)) (nxCut T (nI a) (nI o)) M)) 71 [some (.ref 61), some (.int (nI a)), some (.int (nI o)), some (.int (nI (cntN (fun k => !(upT T 70 a o 70 k == 1)) k))), some (.int (nI k))] [] M2 := by
    intro a o ha ho hia hio hne M2 hS2 hM2 n
    have hm : nxCutT T a o 61 0 = T 61 0 := by unfold nxCutT; rw [upT_ne (by omega)]; exact nn_o (by decide) (by decide)
    have h70 : ∀ k, nxCutT T a o 70 k = upT T 70 a o 70 k := fun k => by
      unfold nxCutT upT
      rw [nn_k (by decide) (by decide)]
    induction n with
    | zero => intro k h1 h2; exact absurd h2 (by omega)
    | succ n ih =>
      intro k hk hn
      have hcl := cntN_le (fun k => !(upT T 70 a o 70 k == 1)) k
      refine E_iload dX11_cut_71 rfl ?_
      refine E_aload_n dX11_cut_73 rfl ?_
      refine E_getI' (ci := 11) (j := 0) dX11_cut_74 fkX11_85 rfl (by decide) rfl (by decide) ((by rw [rm_many hM2.1, hm])) ?_
      refine E_icmp_geN (t := 104) dX11_cut_77 (by decide) (by omega) (by omega) (fun c77 => ?_) (fun c77 => ?_)
      · skip
        refine E_iload_n dX11_cut_104 rfl ?_
        refine E_iret dX11_cut_105 rfl ?_
        refine ⟨?_, hS2, ?_⟩
        · unfold mrCut; rw [if_neg (by rw [hia]; decide), if_neg (by rw [hio]; decide), nI_tn (by omega), nI_tn (by omega), if_neg hne, show k = T 61 0 by omega]
        · unfold nxCut; rw [if_neg (by rw [hia]; decide), if_neg (by rw [hio]; decide), nI_tn (by omega), nI_tn (by omega), if_neg hne]; exact hM2
      · skip
        refine E_iload_n dX11_cut_80 rfl ?_
        refine E_aload_n dX11_cut_81 rfl ?_
        refine E_getR' (ci := 11) (j := 12) (p := 70) dX11_cut_82 fkX11_34 rfl (by decide) rfl (by decide) (rfl) ?_
        refine E_iload dX11_cut_85 rfl ?_
        refine E_zaldN dX11_cut_87 rfl (by omega) (by decide) (rm_cut hM2.1 (a := k) (by rw [hm]; exact c77)) ?_
        refine E_if_eqB (t := 95) dX11_cut_88 (by decide) (fun c88 => ?_) (fun c88 => ?_)
        · skip
          have c88 : (upT T 70 a o 70 k == 1) = false := by rw [← h70]; exact c88
          have hs1 : cntN (fun k => !(upT T 70 a o 70 k == 1)) (k + 1) = cntN (fun k => !(upT T 70 a o 70 k == 1)) k + 1 := by rw [cntN, c88]; rfl
          refine E_iconst (v := nI 1) dX11_cut_95 rfl ?_
          refine E_iaddN dX11_cut_96 ?_
          refine E_ist_n (i := 3) dX11_cut_97 rfl (by decide) rfl ?_
          refine E_iincN (b := 1) dX11_cut_98 rfl rfl (by decide) rfl ?_
          refine E_goto (t := 71) dX11_cut_101 (by decide) ?_
          have hnx := ih (k + 1) (by omega) (by omega)
          rw [hs1] at hnx
          exact hnx
        · skip
          have c88 : (upT T 70 a o 70 k == 1) = true := by rw [← h70]; exact c88
          have hs1 : cntN (fun k => !(upT T 70 a o 70 k == 1)) (k + 1) = cntN (fun k => !(upT T 70 a o 70 k == 1)) k + 0 := by rw [cntN, c88]; rfl
          refine E_iconst (v := nI 0) dX11_cut_91 rfl ?_
          refine E_goto (t := 96) dX11_cut_92 (by decide) ?_
          refine E_iaddN dX11_cut_96 ?_
          refine E_ist_n (i := 3) dX11_cut_97 rfl (by decide) rfl ?_
          refine E_iincN (b := 1) dX11_cut_98 rfl rfl (by decide) rfl ?_
          refine E_goto (t := 71) dX11_cut_101 (by decide) ?_
          have hnx := ih (k + 1) (by omega) (by omega)
          rw [hs1] at hnx
          exact hnx
  refine Call_of (ls0 := [some (.ref 61), some (.int x), some (.int w), none, none]) rfl rfl (Nat.le_of_ble_eq_true rfl) ?_
  refine E_aload_n dX11_cut_0 rfl ?_
  refine E_iload_n dX11_cut_1 rfl ?_
  refine E_callV (r := qX11_isAnswer) (ci := 11) dX11_cut_2 mkX11_217 voX11_isAnswer rfl rfl rfl ⟨Nat.le_of_ble_eq_true rfl, Nat.le_of_ble_eq_true rfl, Nat.le_of_ble_eq_true rfl, Nat.le_of_ble_eq_true rfl⟩ (m_isAnswer hR) rfl (Nat.le_of_ble_eq_true rfl) ?_
  rintro _ _ ⟨rfl, rfl⟩
  refine E_if_neB (t := 11) dX11_cut_5 (by decide) (fun c5 => ?_) (fun c5 => ?_)
  · skip
    obtain ⟨a, ha1, ha2, rfl, ha3⟩ := inI_nat c5 (by decide)
    have hia : isAn T (nI a) = true := c5
    have ha : a < T 61 0 := by omega
    have hc1 := (wt_a (rm_wt hR) ha).2.2.2.2.2.2.2
    refine E_iload_n dX11_cut_11 rfl ?_
    refine E_i2l dX11_cut_12 ?_
    refine E_lconst (v := 0) dX11_cut_13 rfl ?_
    refine E_lconst (v := 1) dX11_cut_14 rfl ?_
    refine E_callS (r := qX11_in) dX11_cut_15 mkX11_88 toX11_in rfl ⟨Nat.le_of_ble_eq_true rfl, Nat.le_of_ble_eq_true rfl, Nat.le_of_ble_eq_true rfl, Nat.le_of_ble_eq_true rfl⟩ (m_inI) rfl (Nat.le_of_ble_eq_true rfl) ?_
    rintro _ _ ⟨rfl, rfl⟩
    refine E_top (show _ = bI (inI w 0 1) from rfl) ?_
    refine E_if_neB (t := 24) dX11_cut_18 (by decide) (fun c18 => ?_) (fun c18 => ?_)
    · skip
      obtain ⟨o, ho1, ho2, rfl, ho3⟩ := inI_nat c18 (by decide)
      refine E_aload_n dX11_cut_24 rfl ?_
      refine E_getR' (ci := 11) (j := 12) (p := 70) dX11_cut_25 fkX11_34 rfl (by decide) rfl (by decide) (rfl) ?_
      refine E_iload_n dX11_cut_28 rfl ?_
      refine E_zaldN dX11_cut_29 rfl (by omega) (by decide) (rm_cutN hR ha) ?_
      refine E_iload_n dX11_cut_30 rfl ?_
      refine E_iconst (v := nI 1) dX11_cut_31 rfl ?_
      refine E_icmp_neN (t := 39) dX11_cut_32 (by decide) (by omega) (by omega) (fun c32 => ?_) (fun c32 => ?_)
      · skip
        refine E_iconst (v := nI 0) dX11_cut_39 rfl ?_
        refine E_icmp_neN (t := 46) dX11_cut_40 (by decide) (by omega) (by omega) (fun c40 => ?_) (fun c40 => ?_)
        · skip
          refine E_aload_n dX11_cut_46 rfl ?_
          refine E_callV (r := qX11_notes) (ci := 11) dX11_cut_47 mkX11_227 voX11_notes rfl rfl rfl ⟨Nat.le_of_ble_eq_true rfl, Nat.le_of_ble_eq_true rfl, Nat.le_of_ble_eq_true rfl, Nat.le_of_ble_eq_true rfl⟩ (m_notes hM) rfl (Nat.le_of_ble_eq_true rfl) ?_
          rintro _ M1 ⟨rfl, hS1, hM1⟩
          have ha' : a < nxNotes T 61 0 := by rw [show nxNotes T 61 0 = T 61 0 from nn_o (by decide) (by decide)]; exact ha
          refine E_aload_n dX11_cut_50 rfl ?_
          refine E_getR' (ci := 11) (j := 12) (p := 70) dX11_cut_51 fkX11_34 rfl (by decide) rfl (by decide) (rfl) ?_
          refine E_iload_n dX11_cut_54 rfl ?_
          refine E_iload_n dX11_cut_55 rfl ?_
          refine E_iconst (v := nI 1) dX11_cut_56 rfl ?_
          refine E_icmp_neN (t := 64) dX11_cut_57 (by decide) (by omega) (by omega) (fun c57 => ?_) (fun c57 => ?_)
          · skip
            refine E_iconst (v := nI 0) dX11_cut_64 rfl ?_
            refine E_top (show nI 0 = bI false from rfl) ?_
            refine E_zastN dX11_cut_65 rfl (by omega) (by decide) ?_
            refine E_iconst (v := nI 0) dX11_cut_66 rfl ?_
            refine E_ist_n (i := 3) dX11_cut_67 rfl (by decide) rfl ?_
            refine E_iconst (v := nI 0) dX11_cut_68 rfl ?_
            refine E_istore dX11_cut_69 (by decide) rfl ?_
            have hne : ¬ T 70 a = o := by omega
            first | (exfalso; omega) | (have ho0 : o = 1 := (by omega); subst ho0; exact L a 1 ha (by omega) hia c18 hne _ ((hS1.sub (by decide)).tr (Sb.i (by decide))) (ms_up70 (b := true) hM1 ha') (T 61 0 + 1) 0 (by omega) (by omega)) | (have ho0 : o = 0 := (by omega); subst ho0; exact L a 0 ha (by omega) hia c18 hne _ ((hS1.sub (by decide)).tr (Sb.i (by decide))) (ms_up70 (b := false) hM1 ha') (T 61 0 + 1) 0 (by omega) (by omega))
          · skip
            refine E_iconst (v := nI 1) dX11_cut_60 rfl ?_
            refine E_goto (t := 65) dX11_cut_61 (by decide) ?_
            refine E_top (show nI 1 = bI true from rfl) ?_
            refine E_zastN dX11_cut_65 rfl (by omega) (by decide) ?_
            refine E_iconst (v := nI 0) dX11_cut_66 rfl ?_
            refine E_ist_n (i := 3) dX11_cut_67 rfl (by decide) rfl ?_
            refine E_iconst (v := nI 0) dX11_cut_68 rfl ?_
            refine E_istore dX11_cut_69 (by decide) rfl ?_
            have hne : ¬ T 70 a = o := by omega
            first | (exfalso; omega) | (have ho0 : o = 1 := (by omega); subst ho0; exact L a 1 ha (by omega) hia c18 hne _ ((hS1.sub (by decide)).tr (Sb.i (by decide))) (ms_up70 (b := true) hM1 ha') (T 61 0 + 1) 0 (by omega) (by omega)) | (have ho0 : o = 0 := (by omega); subst ho0; exact L a 0 ha (by omega) hia c18 hne _ ((hS1.sub (by decide)).tr (Sb.i (by decide))) (ms_up70 (b := false) hM1 ha') (T 61 0 + 1) 0 (by omega) (by omega))
        · skip
          refine E_ldc dX11_cut_43 ckX11_224 ?_
          refine E_iret dX11_cut_45 rfl ?_
          have he : T 70 a = o := by omega
          exact ⟨by unfold mrCut; rw [if_neg (by rw [hia]; decide), if_neg (by rw [c18]; decide), nI_tn ha3, nI_tn ho3, if_pos he], Sb.rf, by unfold nxCut; rw [if_neg (by rw [hia]; decide), if_neg (by rw [c18]; decide), nI_tn ha3, nI_tn ho3, if_pos he]; exact hM⟩
      · skip
        refine E_iconst (v := nI 1) dX11_cut_35 rfl ?_
        refine E_goto (t := 40) dX11_cut_36 (by decide) ?_
        refine E_icmp_neN (t := 46) dX11_cut_40 (by decide) (by omega) (by omega) (fun c40 => ?_) (fun c40 => ?_)
        · skip
          refine E_aload_n dX11_cut_46 rfl ?_
          refine E_callV (r := qX11_notes) (ci := 11) dX11_cut_47 mkX11_227 voX11_notes rfl rfl rfl ⟨Nat.le_of_ble_eq_true rfl, Nat.le_of_ble_eq_true rfl, Nat.le_of_ble_eq_true rfl, Nat.le_of_ble_eq_true rfl⟩ (m_notes hM) rfl (Nat.le_of_ble_eq_true rfl) ?_
          rintro _ M1 ⟨rfl, hS1, hM1⟩
          have ha' : a < nxNotes T 61 0 := by rw [show nxNotes T 61 0 = T 61 0 from nn_o (by decide) (by decide)]; exact ha
          refine E_aload_n dX11_cut_50 rfl ?_
          refine E_getR' (ci := 11) (j := 12) (p := 70) dX11_cut_51 fkX11_34 rfl (by decide) rfl (by decide) (rfl) ?_
          refine E_iload_n dX11_cut_54 rfl ?_
          refine E_iload_n dX11_cut_55 rfl ?_
          refine E_iconst (v := nI 1) dX11_cut_56 rfl ?_
          refine E_icmp_neN (t := 64) dX11_cut_57 (by decide) (by omega) (by omega) (fun c57 => ?_) (fun c57 => ?_)
          · skip
            refine E_iconst (v := nI 0) dX11_cut_64 rfl ?_
            refine E_top (show nI 0 = bI false from rfl) ?_
            refine E_zastN dX11_cut_65 rfl (by omega) (by decide) ?_
            refine E_iconst (v := nI 0) dX11_cut_66 rfl ?_
            refine E_ist_n (i := 3) dX11_cut_67 rfl (by decide) rfl ?_
            refine E_iconst (v := nI 0) dX11_cut_68 rfl ?_
            refine E_istore dX11_cut_69 (by decide) rfl ?_
            have hne : ¬ T 70 a = o := by omega
            first | (exfalso; omega) | (have ho0 : o = 1 := (by omega); subst ho0; exact L a 1 ha (by omega) hia c18 hne _ ((hS1.sub (by decide)).tr (Sb.i (by decide))) (ms_up70 (b := true) hM1 ha') (T 61 0 + 1) 0 (by omega) (by omega)) | (have ho0 : o = 0 := (by omega); subst ho0; exact L a 0 ha (by omega) hia c18 hne _ ((hS1.sub (by decide)).tr (Sb.i (by decide))) (ms_up70 (b := false) hM1 ha') (T 61 0 + 1) 0 (by omega) (by omega))
          · skip
            refine E_iconst (v := nI 1) dX11_cut_60 rfl ?_
            refine E_goto (t := 65) dX11_cut_61 (by decide) ?_
            refine E_top (show nI 1 = bI true from rfl) ?_
            refine E_zastN dX11_cut_65 rfl (by omega) (by decide) ?_
            refine E_iconst (v := nI 0) dX11_cut_66 rfl ?_
            refine E_ist_n (i := 3) dX11_cut_67 rfl (by decide) rfl ?_
            refine E_iconst (v := nI 0) dX11_cut_68 rfl ?_
            refine E_istore dX11_cut_69 (by decide) rfl ?_
            have hne : ¬ T 70 a = o := by omega
            first | (exfalso; omega) | (have ho0 : o = 1 := (by omega); subst ho0; exact L a 1 ha (by omega) hia c18 hne _ ((hS1.sub (by decide)).tr (Sb.i (by decide))) (ms_up70 (b := true) hM1 ha') (T 61 0 + 1) 0 (by omega) (by omega)) | (have ho0 : o = 0 := (by omega); subst ho0; exact L a 0 ha (by omega) hia c18 hne _ ((hS1.sub (by decide)).tr (Sb.i (by decide))) (ms_up70 (b := false) hM1 ha') (T 61 0 + 1) 0 (by omega) (by omega))
        · skip
          refine E_ldc dX11_cut_43 ckX11_224 ?_
          refine E_iret dX11_cut_45 rfl ?_
          have he : T 70 a = o := by omega
          exact ⟨by unfold mrCut; rw [if_neg (by rw [hia]; decide), if_neg (by rw [c18]; decide), nI_tn ha3, nI_tn ho3, if_pos he], Sb.rf, by unfold nxCut; rw [if_neg (by rw [hia]; decide), if_neg (by rw [c18]; decide), nI_tn ha3, nI_tn ho3, if_pos he]; exact hM⟩
    · skip
      refine E_ldc dX11_cut_21 ckX11_131 ?_
      refine E_iret dX11_cut_23 rfl ?_
      exact ⟨by unfold mrCut; rw [if_neg (by rw [hia]; decide), if_pos c18], Sb.rf, by unfold nxCut; rw [if_neg (by rw [hia]; decide), if_pos c18]; exact hM⟩
  · skip
    have ht : isAn T x = false := c5
    refine E_ldc dX11_cut_8 ckX11_214 ?_
    refine E_iret dX11_cut_10 rfl ?_
    exact ⟨by unfold mrCut; rw [if_pos ht], Sb.rf, by unfold nxCut; rw [if_pos ht]; exact hM⟩
def mrUndo (T : TK) : Int32 := if tlk T = false then -1000001 else if T 61 17 = 0 then -1000003 else nI (T 61 17 - 1)
def nxUndoT (T : TK) : TK := fun k j => if k = 61 ∧ j = 17 then T 61 17 - 1 else if k = 64 then T 72 (32 * (T 61 17 - 1) + j) % 10 else if k = 70 then (if 10 ≤ T 72 (32 * (T 61 17 - 1) + j) then 1 else 0) else T k j
def nxUndo (T : TK) : TK := if tlk T = false then T else if T 61 17 = 0 then T else nxUndoT T
theorem nu_k {T : TK} {k : Nat} (h1 : k ≠ 61) (h2 : k ≠ 64) (h3 : k ≠ 70) : nxUndoT T k = T k := by funext j; unfold nxUndoT; rw [if_neg (fun e => h1 e.1), if_neg h2, if_neg h3]
theorem nu_6 {T : TK} {j : Nat} (h1 : j ≠ 17) : nxUndoT T 61 j = T 61 j := by unfold nxUndoT; rw [if_neg (fun e => h1 e.2), if_neg (by decide), if_neg (by decide)]
set_option maxRecDepth 8000 in
theorem m_undo (hM : MS T M) : Call g qX11_undo [.ref 61] M (RtM (mrUndo T) (nxUndo T) M) := by
  obtain ⟨hR, hB, hS, hA, hX⟩ := id hM
  have h32 := rm_32 hR
  have hT := rm_wt hR
  have h12 := hA.2.1
  have L : ¬ tlk T = false → ¬ T 61 17 = 0 → ∀ (n a : Nat) (M1 : AM), a ≤ 32 → 32 < a + n → Sb [61, 64, 70] M M1 → (∀ j, j ≠ 17 → M1.1 61 j = M.1 61 j) → M1.1 61 17 = nI (T 61 17 - 1) → (∀ b, b < a → b < T 61 0 → M1.1 64 b = nI (T 72 (32 * (T 61 17 - 1) + b) % 10) ∧ M1.1 70 b = nI (if 10 ≤ T 72 (32 * (T 61 17 - 1) + b) then 1 else 0)) → (∀ b, b < 32 → M1.1 70 b = 0 ∨ M1.1 70 b = 1) → Ex g qX11_undo (tm g qX11_undo (RtM (mrUndo T) (nxUndo T) M)) 32 [some (.ref 61), some (.int (nI a))] [] M1 := by
    intro ht hz n
    induction n with
    | zero => intro a M1 h1 h2; exact absurd h2 (by omega)
    | succ n ih =>
      intro a M1 ha hn hS1 h61 h17 hdone hbo
      have q : ∀ k, k ≠ 61 → k ≠ 64 → k ≠ 70 → M1.1 k = M.1 k := fun k h1 h2 h3 => (hS1 k (by simp; exact ⟨h1, h2, h3⟩)).1
      refine E_iload_n dX11_undo_32 rfl ?_
      refine E_bipush (v := nI 32) dX11_undo_33 rfl ?_
      refine E_icmp_geN (t := 97) dX11_undo_35 (by decide) (by omega) (by omega) (fun c35 => ?_) (fun c35 => ?_)
      · skip
        refine E_aload_n dX11_undo_97 rfl ?_
        refine E_getI' (ci := 11) (j := 17) dX11_undo_98 fkX11_208 rfl (by decide) rfl (by decide) (h17) ?_
        refine E_iret dX11_undo_101 rfl ?_
        have ha32 : a = 32 := by omega
        subst ha32
        refine ⟨by unfold mrUndo; rw [if_neg ht, if_neg hz], hS1.sub (by decide), ?_⟩
        unfold nxUndo
        rw [if_neg ht, if_neg hz]
        have k0 : nxUndoT T 61 0 = T 61 0 := nu_6 (by decide)
        have k64 : ∀ j, nxUndoT T 64 j = T 72 (32 * (T 61 17 - 1) + j) % 10 := fun j => by unfold nxUndoT; rw [if_neg (by omega), if_pos rfl]
        have k70 : ∀ j, nxUndoT T 70 j = if 10 ≤ T 72 (32 * (T 61 17 - 1) + j) then 1 else 0 := fun j => by unfold nxUndoT; rw [if_neg (by omega), if_neg (by decide), if_pos rfl]
        have k17 : nxUndoT T 61 17 = T 61 17 - 1 := by unfold nxUndoT; rw [if_pos ⟨rfl, rfl⟩]
        refine ⟨⟨fun j hj => by rw [h61 j (by omega), nu_6 (by omega)]; exact hR.1 j hj, fun b hb i hi n4 n5 => ?_, fun b hb k hk => ?_, ?_⟩, rb_ag hB (h61 13 (by decide)) (nu_6 (by decide)), rs_ag hS (h61 15 (by decide)) (nu_6 (by decide)) (q 71 (by decide) (by decide) (by decide)) (nu_k (by decide) (by decide) (by decide)) k0, ⟨by rw [h17, k17], by rw [k17]; omega, hbo, fun i hi b hb => ?_⟩, rx_ag hX (h61 21 (by decide)) (nu_6 (by decide)) (q 75 (by decide) (by decide) (by decide)) (nu_k (by decide) (by decide) (by decide)) (h61 22 (by decide)) (nu_6 (by decide))⟩
        · rw [k0] at hb
          by_cases e2 : i = 2
          · subst e2; show M1.1 64 b = nI (nxUndoT T 64 b); rw [k64]; exact (hdone b (by omega) hb).1
          · by_cases e8 : i = 8
            · subst e8; show M1.1 70 b = nI (nxUndoT T 70 b); rw [k70]; exact (hdone b (by omega) hb).2
            · rw [q _ (by omega) (by omega) (by omega), nu_k (by omega) (by omega) (by omega)]; exact hR.2.1 b hb i hi n4 n5
        · rw [k0] at hb; rw [nu_k (k := 65) (by decide) (by decide) (by decide)] at hk; rw [q 66 (by decide) (by decide) (by decide), q 67 (by decide) (by decide) (by decide), nu_k (k := 66) (by decide) (by decide) (by decide), nu_k (k := 67) (by decide) (by decide) (by decide)]; exact hR.2.2.1 b hb k hk
        · unfold WT
          rw [k0, nu_6 (j := 1) (by decide), nu_6 (j := 2) (by decide), nu_6 (j := 3) (by decide), nu_k (k := 62) (by decide) (by decide) (by decide), nu_k (k := 63) (by decide) (by decide) (by decide), nu_k (k := 65) (by decide) (by decide) (by decide), nu_k (k := 66) (by decide) (by decide) (by decide), nu_k (k := 67) (by decide) (by decide) (by decide), nu_k (k := 68) (by decide) (by decide) (by decide), nu_k (k := 69) (by decide) (by decide) (by decide)]
          refine ⟨hT.1, hT.2.1, hT.2.2.1, hT.2.2.2.1, fun b hb => ⟨?_, (hT.2.2.2.2 b hb).2⟩⟩
          obtain ⟨j1, j2, j3, j4, j5, j6, j7, j8⟩ := wt_a hT hb
          refine ⟨j1, j2, ?_, j4, j5, j6, j7, ?_⟩
          · rw [k64]; omega
          · rw [k70]; split <;> omega
        · rw [k17] at hi; rw [k0] at hb; rw [q 72 (by decide) (by decide) (by decide), nu_k (k := 72) (by decide) (by decide) (by decide)]; exact hA.2.2.2 i (by omega) b hb
      · skip
        refine E_aload_n dX11_undo_38 rfl ?_
        refine E_getR' (ci := 11) (j := 6) (p := 64) dX11_undo_39 fkX11_16 rfl (by decide) rfl (by decide) (rfl) ?_
        refine E_iload_n dX11_undo_42 rfl ?_
        refine E_aload_n dX11_undo_43 rfl ?_
        refine E_getR' (ci := 11) (j := 16) (p := 72) dX11_undo_44 fkX11_41 rfl (by decide) rfl (by decide) (rfl) ?_
        refine E_bipush (v := nI 32) dX11_undo_47 rfl ?_
        refine E_aload_n dX11_undo_49 rfl ?_
        refine E_getI' (ci := 11) (j := 17) dX11_undo_50 fkX11_208 rfl (by decide) rfl (by decide) (h17) ?_
        refine E_imulN dX11_undo_53 ?_
        refine E_iload_n dX11_undo_54 rfl ?_
        refine E_iaddN dX11_undo_55 ?_
        refine E_ialdN dX11_undo_56 rfl (by omega) (by decide) rfl ?_
        refine E_bipush (v := nI 10) dX11_undo_57 rfl ?_
        refine E_irem dX11_undo_59 (by decide) ?_
        refine E_iastN dX11_undo_60 rfl (by omega) (by decide) ?_
        refine E_aload_n dX11_undo_61 rfl ?_
        refine E_getR' (ci := 11) (j := 12) (p := 70) dX11_undo_62 fkX11_34 rfl (by decide) rfl (by decide) (rfl) ?_
        refine E_iload_n dX11_undo_65 rfl ?_
        refine E_aload_n dX11_undo_66 rfl ?_
        refine E_getR' (ci := 11) (j := 16) (p := 72) dX11_undo_67 fkX11_41 rfl (by decide) rfl (by decide) (rfl) ?_
        refine E_bipush (v := nI 32) dX11_undo_70 rfl ?_
        refine E_aload_n dX11_undo_72 rfl ?_
        refine E_getI' (ci := 11) (j := 17) dX11_undo_73 fkX11_208 rfl (by decide) rfl (by decide) ((sI_o (by omega)).trans h17) ?_
        refine E_imulN dX11_undo_76 ?_
        refine E_iload_n dX11_undo_77 rfl ?_
        refine E_iaddN dX11_undo_78 ?_
        refine E_ialdN dX11_undo_79 rfl (by omega) (by decide) ((congrFun (sI_ne (by decide)) _).trans rfl) ?_
        refine E_bipush (v := nI 10) dX11_undo_80 rfl ?_
        refine E_icmp_lt (t := 89) dX11_undo_82 (by decide) (fun c82 => ?_) (fun c82 => ?_)
        · skip
          have hbv : a < T 61 0 → nI 0 = nI (if 10 ≤ T 72 (32 * (T 61 17 - 1) + a) then 1 else 0) := fun e => by have h7 := (hA.2.2.2 (T 61 17 - 1) (by omega) a e); rw [q 72 (by decide) (by decide) (by decide), h7.1, nI_ltI (by omega) (by decide)] at c82; rw [if_neg (by omega)]
          refine E_iconst (v := nI 0) dX11_undo_89 rfl ?_
          refine E_top (show nI 0 = bI false from rfl) ?_
          refine E_zastN dX11_undo_90 rfl (by omega) (by decide) ?_
          refine E_iincN (b := 1) dX11_undo_91 rfl rfl (by decide) rfl ?_
          refine E_goto (t := 32) dX11_undo_94 (by decide) ?_
          refine ih (a + 1) _ (by omega) (by omega) ((hS1.tr (Sb.i (by decide))).tr (Sb.i (by decide))) (fun j hj => by rw [sI_o (by omega), sI_o (by omega)]; exact h61 j hj) (by rw [sI_o (by omega), sI_o (by omega)]; exact h17) (fun b hb hbm => ?_) (fun b hb => ?_)
          · by_cases e : b = a
            · subst e
              have h7 := (hA.2.2.2 (T 61 17 - 1) (by omega) b hbm)
              refine ⟨?_, ?_⟩
              · rw [sI_o (by omega), sI_s, q 72 (by decide) (by decide) (by decide), h7.1]; exact pk_rem (by omega) (by decide) (by decide)
              · rw [sI_s]; exact hbv hbm
            · rw [sI_o (by omega), sI_o (by omega), sI_o (by omega), sI_o (by omega)]; exact hdone b (by omega) hbm
          · by_cases e : b = a
            · rw [e, sI_s]; exact bI_01 _
            · rw [sI_o (by omega), sI_o (by omega)]; exact hbo b hb
        · skip
          have hbv : a < T 61 0 → nI 1 = nI (if 10 ≤ T 72 (32 * (T 61 17 - 1) + a) then 1 else 0) := fun e => by have h7 := (hA.2.2.2 (T 61 17 - 1) (by omega) a e); rw [q 72 (by decide) (by decide) (by decide), h7.1, nI_ltI (by omega) (by decide)] at c82; rw [if_pos (by omega)]
          refine E_iconst (v := nI 1) dX11_undo_85 rfl ?_
          refine E_goto (t := 90) dX11_undo_86 (by decide) ?_
          refine E_top (show nI 1 = bI true from rfl) ?_
          refine E_zastN dX11_undo_90 rfl (by omega) (by decide) ?_
          refine E_iincN (b := 1) dX11_undo_91 rfl rfl (by decide) rfl ?_
          refine E_goto (t := 32) dX11_undo_94 (by decide) ?_
          refine ih (a + 1) _ (by omega) (by omega) ((hS1.tr (Sb.i (by decide))).tr (Sb.i (by decide))) (fun j hj => by rw [sI_o (by omega), sI_o (by omega)]; exact h61 j hj) (by rw [sI_o (by omega), sI_o (by omega)]; exact h17) (fun b hb hbm => ?_) (fun b hb => ?_)
          · by_cases e : b = a
            · subst e
              have h7 := (hA.2.2.2 (T 61 17 - 1) (by omega) b hbm)
              refine ⟨?_, ?_⟩
              · rw [sI_o (by omega), sI_s, q 72 (by decide) (by decide) (by decide), h7.1]; exact pk_rem (by omega) (by decide) (by decide)
              · rw [sI_s]; exact hbv hbm
            · rw [sI_o (by omega), sI_o (by omega), sI_o (by omega), sI_o (by omega)]; exact hdone b (by omega) hbm
          · by_cases e : b = a
            · rw [e, sI_s]; exact bI_01 _
            · rw [sI_o (by omega), sI_o (by omega)]; exact hbo b hb
  refine Call_of (ls0 := [some (.ref 61), none]) rfl rfl (Nat.le_of_ble_eq_true rfl) ?_
  refine E_aload_n dX11_undo_0 rfl ?_
  refine E_callV (r := qX11_isTalk) (ci := 11) dX11_undo_1 mkX11_211 voX11_isTalk rfl rfl rfl ⟨Nat.le_of_ble_eq_true rfl, Nat.le_of_ble_eq_true rfl, Nat.le_of_ble_eq_true rfl, Nat.le_of_ble_eq_true rfl⟩ (m_isTalk hR) rfl (Nat.le_of_ble_eq_true rfl) ?_
  rintro _ _ ⟨rfl, rfl⟩
  refine E_if_neB (t := 10) dX11_undo_4 (by decide) (fun c4 => ?_) (fun c4 => ?_)
  · skip
    have ht : ¬ tlk T = false := by unfold tlk; rw [c4]; decide
    refine E_aload_n dX11_undo_10 rfl ?_
    refine E_getI' (ci := 11) (j := 17) dX11_undo_11 fkX11_208 rfl (by decide) rfl (by decide) (hA.1) ?_
    refine E_if_neN (t := 20) dX11_undo_14 (by decide) (by omega) (fun c14 => ?_) (fun c14 => ?_)
    · skip
      refine E_aload_n dX11_undo_20 rfl ?_
      refine E_dup dX11_undo_21 rfl ?_
      refine E_getI' (ci := 11) (j := 17) dX11_undo_22 fkX11_208 rfl (by decide) rfl (by decide) (hA.1) ?_
      refine E_iconst (v := nI 1) dX11_undo_25 rfl ?_
      refine E_isubN dX11_undo_26 (by omega) ?_
      refine E_putI (ci := 11) (j := 17) dX11_undo_27 fkX11_208 rfl (by decide) rfl (by decide) ?_
      refine E_iconst (v := nI 0) dX11_undo_30 rfl ?_
      refine E_ist_n (i := 1) dX11_undo_31 rfl (by decide) rfl ?_
      exact L ht (by omega) 33 0 _ (by omega) (by omega) (Sb.i (by decide)) (fun j hj => sI_o (fun e => hj e.2)) sI_s (fun b hb => absurd hb (Nat.not_lt_zero b)) (fun b hb => by rw [sI_ne (by decide)]; exact hA.2.2.1 b hb)
    · skip
      refine E_ldc dX11_undo_17 ckX11_224 ?_
      refine E_iret dX11_undo_19 rfl ?_
      exact ⟨by unfold mrUndo; rw [if_neg ht, if_pos c14], Sb.rf, by unfold nxUndo; rw [if_neg ht, if_pos c14]; exact hM⟩
  · skip
    have ht : tlk T = false := c4
    refine E_ldc dX11_undo_7 ckX11_214 ?_
    refine E_iret dX11_undo_9 rfl ?_
    exact ⟨by unfold mrUndo; rw [if_pos ht], Sb.rf, by unfold nxUndo; rw [if_pos ht]; exact hM⟩
end M18
