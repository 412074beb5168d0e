-- the model: notes, cut, cost, undo
def acF (T : TK) : Nat := if T 61 17 = 12 then 11 else T 61 17
def nxNotes (T : TK) : TK := fun k j => if k = 72 then (if j / 32 = acF T then T 64 (j % 32) + 10 * T 70 (j % 32) else if T 61 17 = 12 then T 72 (j + 32) else T 72 j) else if k = 61 ∧ j = 17 then acF T + 1 else T k j
theorem nn_o {T : TK} {k j : Nat} (h1 : ¬ k = 72) (h2 : ¬ (k = 61 ∧ j = 17)) : nxNotes T k j = T k j := by unfold nxNotes; rw [if_neg h1, if_neg h2]
theorem nn_k {T : TK} {k : Nat} (h1 : ¬ k = 72) (h2 : ¬ k = 61) : nxNotes T k = T k := by funext j; exact nn_o h1 (fun e => h2 e.1)
theorem nn_a {T : TK} : nxNotes T 61 17 = acF T + 1 := by unfold nxNotes; rw [if_neg (by decide), if_pos ⟨rfl, rfl⟩]
theorem nn_7 {T : TK} {i a : Nat} (ha : a < 32) : nxNotes T 72 (32 * i + a) = if i = acF T then T 64 a + 10 * T 70 a else if T 61 17 = 12 then T 72 (32 * (i + 1) + a) else T 72 (32 * i + a) := by
  unfold nxNotes
  rw [if_pos rfl, show (32 * i + a) / 32 = i by omega, show (32 * i + a) % 32 = a by omega, show 32 * i + a + 32 = 32 * (i + 1) + a by omega]
section M17
variable {g : GG} {M : AM} {T : TK}
set_option maxRecDepth 8000 in
theorem m_notes (hM : MS T M) : Call g qX11_notes [.ref 61] M (fun v M' => v = none ∧ Sb [61, 72] M M' ∧ MS (nxNotes T) M') := by
  obtain ⟨hR, hB, hS, hA, hX⟩ := id hM
  have h32 := rm_32 hR
  have hT := rm_wt hR
  have hac : acF T ≤ 11 := by
    unfold acF
    have := hA.2.1
    split <;> omega
  have J : ∀ (M1 : AM) (y1 : Option Value), Sb [61, 72] M M1 → (∀ j, j ≠ 17 → M1.1 61 j = M.1 61 j) → M1.1 61 17 = nI (acF T) → (∀ j, j < 32 * acF T → M1.1 72 j = if T 61 17 = 12 then M.1 72 (j + 32) else M.1 72 j) → Ex g qX11_notes (tm g qX11_notes (fun v M' => v = none ∧ Sb [61, 72] M M' ∧ MS (nxNotes T) M')) 49 [some (.ref 61), y1] [] M1 := by
    intro M1 y1 hS1 h61 h17 h72
    have L : ∀ (n a : Nat) (M2 : AM), a ≤ 32 → 32 < a + n → Sb [61, 72] M M2 → (∀ j, M2.1 61 j = M1.1 61 j) → (∀ j, j < 32 * acF T → M2.1 72 j = M1.1 72 j) → (∀ a', a' < a → a' < T 61 0 → M2.1 72 (32 * acF T + a') = nI (T 64 a' + 10 * T 70 a')) → Ex g qX11_notes (tm g qX11_notes (fun v M' => v = none ∧ Sb [61, 72] M M' ∧ MS (nxNotes T) M')) 51 [some (.ref 61), some (.int (nI a))] [] M2 := by
      intro n
      induction n with
      | zero => intro a M2 h1 h2; exact absurd h2 (by omega)
      | succ n ih =>
        intro a M2 ha hn hS2 g61 g72 grow
        have q : ∀ k, k ≠ 61 → k ≠ 72 → M2.1 k = M.1 k := fun k h1 h2 => (hS2 k (by simp; exact ⟨h1, h2⟩)).1
        have h17' : M2.1 61 17 = nI (acF T) := (g61 17).trans h17
        refine E_iload_n dX11_notes_51 rfl ?_
        refine E_bipush (v := nI 32) dX11_notes_52 rfl ?_
        refine E_icmp_geN (t := 99) dX11_notes_54 (by decide) (by omega) (by omega) (fun c54 => ?_) (fun c54 => ?_)
        · skip
          refine E_aload_n dX11_notes_99 rfl ?_
          refine E_dup dX11_notes_100 rfl ?_
          refine E_getI' (ci := 11) (j := 17) dX11_notes_101 fkX11_208 rfl (by decide) rfl (by decide) (h17') ?_
          refine E_iconst (v := nI 1) dX11_notes_104 rfl ?_
          refine E_iaddN dX11_notes_105 ?_
          refine E_putI (ci := 11) (j := 17) dX11_notes_106 fkX11_208 rfl (by decide) rfl (by decide) ?_
          refine E_vret dX11_notes_109 rfl ?_
          have ha32 : a = 32 := by omega
          subst ha32
          refine ⟨rfl, hS2.tr (Sb.i (by decide)), ?_⟩
          have w6 : ∀ j, j ≠ 17 → (sI M2 61 17 (nI (acF T + 1))).1 61 j = M.1 61 j := fun j h1 => by rw [sI_o (fun e => h1 e.2), g61 j, h61 j h1]
          have wk : ∀ k, k ≠ 61 → k ≠ 72 → (sI M2 61 17 (nI (acF T + 1))).1 k = M.1 k := fun k h1 h2 => by rw [sI_ne h1, q k h1 h2]
          refine ⟨rm_ag hR (fun j hj => ⟨w6 j (by omega), nn_o (by decide) (by omega)⟩) (fun i hi => ⟨wk _ (by omega) (by omega), nn_k (by omega) (by omega)⟩), rb_ag hB (w6 13 (by decide)) (nn_o (by decide) (by decide)), rs_ag hS (w6 15 (by decide)) (nn_o (by decide) (by decide)) (wk 71 (by decide) (by decide)) (nn_k (by decide) (by decide)) (nn_o (by decide) (by decide)), ⟨by rw [sI_s, nn_a], by rw [nn_a]; omega, fun a ha => by rw [wk 70 (by decide) (by decide)]; exact hA.2.2.1 a ha, fun i hi a ham => ?_⟩, rx_ag hX (w6 21 (by decide)) (nn_o (by decide) (by decide)) (wk 75 (by decide) (by decide)) (nn_k (by decide) (by decide)) (w6 22 (by decide)) (nn_o (by decide) (by decide))⟩
          rw [nn_a] at hi
          have ham' : a < T 61 0 := by have h7 : nxNotes T 61 0 = T 61 0 := nn_o (by decide) (by decide); rw [← h7]; exact ham
          rw [nn_7 (by omega), sI_o (by omega)]
          by_cases e : i = acF T
          · rw [if_pos e, e, grow a (by omega) ham']; have h8 := wt_a hT ham'; exact ⟨rfl, by omega⟩
          · rw [if_neg e, g72 _ (by omega), h72 _ (by omega)]
            have hacd : acF T = if T 61 17 = 12 then 11 else T 61 17 := rfl
            by_cases e2 : T 61 17 = 12
            · rw [if_pos e2, if_pos e2, show 32 * i + a + 32 = 32 * (i + 1) + a by omega]; rw [if_pos e2] at hacd; exact hA.2.2.2 (i + 1) (by omega) a ham'
            · rw [if_neg e2, if_neg e2]; rw [if_neg e2] at hacd; exact hA.2.2.2 i (by omega) a ham'
        · skip
          obtain ⟨cb, hcb⟩ : ∃ cb : Bool, M2.1 70 a = bI cb := by rcases hA.2.2.1 a c54 with e | e; exact ⟨false, by rw [q 70 (by decide) (by decide), e]; rfl⟩; exact ⟨true, by rw [q 70 (by decide) (by decide), e]; rfl⟩
          have hcc : a < T 61 0 → M2.1 64 a = nI (T 64 a) ∧ cb = (T 70 a == 1) := fun e => ⟨by rw [q 64 (by decide) (by decide)]; exact rm_cost hR e, by have h7 := rm_cut hR e; rw [← q 70 (by decide) (by decide), hcb] at h7; revert h7; cases cb <;> cases (T 70 a == 1) <;> decide⟩
          refine E_aload_n dX11_notes_57 rfl ?_
          refine E_getR' (ci := 11) (j := 16) (p := 72) dX11_notes_58 fkX11_41 rfl (by decide) rfl (by decide) (rfl) ?_
          refine E_bipush (v := nI 32) dX11_notes_61 rfl ?_
          refine E_aload_n dX11_notes_63 rfl ?_
          refine E_getI' (ci := 11) (j := 17) dX11_notes_64 fkX11_208 rfl (by decide) rfl (by decide) (h17') ?_
          refine E_imulN dX11_notes_67 ?_
          refine E_iload_n dX11_notes_68 rfl ?_
          refine E_iaddN dX11_notes_69 ?_
          refine E_aload_n dX11_notes_70 rfl ?_
          refine E_getR' (ci := 11) (j := 6) (p := 64) dX11_notes_71 fkX11_16 rfl (by decide) rfl (by decide) (rfl) ?_
          refine E_iload_n dX11_notes_74 rfl ?_
          refine E_ialdN dX11_notes_75 rfl (by omega) (by decide) rfl ?_
          refine E_aload_n dX11_notes_76 rfl ?_
          refine E_getR' (ci := 11) (j := 12) (p := 70) dX11_notes_77 fkX11_34 rfl (by decide) rfl (by decide) (rfl) ?_
          refine E_iload_n dX11_notes_80 rfl ?_
          refine E_zaldN dX11_notes_81 rfl (by omega) (by decide) (hcb) ?_
          refine E_if_eqB (t := 90) dX11_notes_82 (by decide) (fun c82 => ?_) (fun c82 => ?_)
          · skip
            have hval : a < T 61 0 → M2.1 64 a + nI 0 = nI (T 64 a + 10 * T 70 a) := fun e => by have h7 := (hcc e).2; rw [c82] at h7; have h8 : ¬ T 70 a = 1 := (by simpa using h7.symm); have h9 := (wt_a hT e).2.2.2.2.2.2.2; rw [(hcc e).1, nI_add, show T 70 a = 0 by omega]
            refine E_iconst (v := nI 0) dX11_notes_90 rfl ?_
            refine E_iadd dX11_notes_91 ?_
            refine E_iastN dX11_notes_92 rfl (by omega) (by decide) ?_
            refine E_iincN (b := 1) dX11_notes_93 rfl rfl (by decide) rfl ?_
            refine E_goto (t := 51) dX11_notes_96 (by decide) ?_
            refine ih (a + 1) _ (by omega) (by omega) (hS2.tr (Sb.i (by decide))) (fun j => by rw [sI_o (by omega)]; exact g61 j) (fun j hj => by rw [sI_o (by omega)]; exact g72 j hj) (fun a' ha' hm => ?_)
            by_cases e : a' = a
            · rw [e, sI_s]; exact hval (e ▸ hm)
            · rw [sI_o (by omega)]; exact grow a' (by omega) hm
          · skip
            have hval : a < T 61 0 → M2.1 64 a + nI 10 = nI (T 64 a + 10 * T 70 a) := fun e => by have h7 := (hcc e).2; rw [c82] at h7; have h8 : T 70 a = 1 := (by simpa using h7.symm); rw [(hcc e).1, nI_add, h8]
            refine E_bipush (v := nI 10) dX11_notes_85 rfl ?_
            refine E_goto (t := 91) dX11_notes_87 (by decide) ?_
            refine E_iadd dX11_notes_91 ?_
            refine E_iastN dX11_notes_92 rfl (by omega) (by decide) ?_
            refine E_iincN (b := 1) dX11_notes_93 rfl rfl (by decide) rfl ?_
            refine E_goto (t := 51) dX11_notes_96 (by decide) ?_
            refine ih (a + 1) _ (by omega) (by omega) (hS2.tr (Sb.i (by decide))) (fun j => by rw [sI_o (by omega)]; exact g61 j) (fun j hj => by rw [sI_o (by omega)]; exact g72 j hj) (fun a' ha' hm => ?_)
            by_cases e : a' = a
            · rw [e, sI_s]; exact hval (e ▸ hm)
            · rw [sI_o (by omega)]; exact grow a' (by omega) hm
    refine E_iconst (v := nI 0) dX11_notes_49 rfl ?_
    refine E_ist_n (i := 1) dX11_notes_50 rfl (by decide) rfl ?_
    exact L 33 0 M1 (by omega) (by omega) hS1 (fun _ => rfl) (fun _ _ => rfl) (fun a' h1 => absurd h1 (Nat.not_lt_zero a'))
  have L1 : T 61 17 = 12 → ∀ (n k : Nat) (M1 : AM), k ≤ 352 → 352 < k + n → Sb [72] M M1 → (∀ j, j < k → M1.1 72 j = M.1 72 (j + 32)) → (∀ j, k ≤ j → M1.1 72 j = M.1 72 j) → Ex g qX11_notes (tm g qX11_notes (fun v M' => v = none ∧ Sb [61, 72] M M' ∧ MS (nxNotes T) M')) 11 [some (.ref 61), some (.int (nI k))] [] M1 := by
    intro h12 n
    induction n with
    | zero => intro k M1 h1 h2; exact absurd h2 (by omega)
    | succ n ih =>
      intro k M1 hk hn hS1 hlo hhi
      have h17 : M1.1 61 17 = nI (T 61 17) := by rw [(hS1 61 (by decide)).1]; exact hA.1
      have hacd : acF T = 11 := by unfold acF; rw [if_pos h12]
      refine E_iload_n dX11_notes_11 rfl ?_
      refine E_sipush (v := nI 352) dX11_notes_12 rfl ?_
      refine E_icmp_geN (t := 39) dX11_notes_15 (by decide) (by omega) (by omega) (fun c15 => ?_) (fun c15 => ?_)
      · skip
        refine E_aload_n dX11_notes_39 rfl ?_
        refine E_dup dX11_notes_40 rfl ?_
        refine E_getI' (ci := 11) (j := 17) dX11_notes_41 fkX11_208 rfl (by decide) rfl (by decide) (h17) ?_
        refine E_iconst (v := nI 1) dX11_notes_44 rfl ?_
        refine E_isubN dX11_notes_45 (by omega) ?_
        refine E_putI (ci := 11) (j := 17) dX11_notes_46 fkX11_208 rfl (by decide) rfl (by decide) ?_
        refine J _ _ ((hS1.sub (by decide)).tr (Sb.i (by decide))) (fun j hj => by rw [sI_o (fun e => hj e.2), (hS1 61 (by decide)).1]) (by rw [sI_s, hacd, h12]) (fun j hj => by rw [sI_o (by omega), if_pos h12]; exact hlo j (by omega))
      · skip
        refine E_aload_n dX11_notes_18 rfl ?_
        refine E_getR' (ci := 11) (j := 16) (p := 72) dX11_notes_19 fkX11_41 rfl (by decide) rfl (by decide) (rfl) ?_
        refine E_iload_n dX11_notes_22 rfl ?_
        refine E_aload_n dX11_notes_23 rfl ?_
        refine E_getR' (ci := 11) (j := 16) (p := 72) dX11_notes_24 fkX11_41 rfl (by decide) rfl (by decide) (rfl) ?_
        refine E_iload_n dX11_notes_27 rfl ?_
        refine E_bipush (v := nI 32) dX11_notes_28 rfl ?_
        refine E_iaddN dX11_notes_30 ?_
        refine E_ialdN dX11_notes_31 rfl (by omega) (by decide) rfl ?_
        refine E_iastN dX11_notes_32 rfl (by omega) (by decide) ?_
        refine E_iincN (b := 1) dX11_notes_33 rfl rfl (by decide) rfl ?_
        refine E_goto (t := 11) dX11_notes_36 (by decide) ?_
        refine ih (k + 1) _ (by omega) (by omega) (hS1.tr (Sb.i (by decide))) (fun j hj => ?_) (fun j hj => by rw [sI_o (by omega)]; exact hhi j (by omega))
        by_cases e : j = k
        · rw [e, sI_s, hhi _ (by omega)]
        · rw [sI_o (by omega)]; exact hlo j (by omega)
  have h12b := hA.2.1
  refine Call_of (ls0 := [some (.ref 61), none]) rfl rfl (Nat.le_of_ble_eq_true rfl) ?_
  refine E_aload_n dX11_notes_0 rfl ?_
  refine E_getI' (ci := 11) (j := 17) dX11_notes_1 fkX11_208 rfl (by decide) rfl (by decide) (hA.1) ?_
  refine E_bipush (v := nI 12) dX11_notes_4 rfl ?_
  refine E_icmp_neN (t := 49) dX11_notes_6 (by decide) (by omega) (by omega) (fun c6 => ?_) (fun c6 => ?_)
  · skip
    exact J M _ Sb.rf (fun _ _ => rfl) (by unfold acF; rw [if_neg c6]; exact hA.1) (fun j _ => by rw [if_neg c6])
  · skip
    refine E_iconst (v := nI 0) dX11_notes_9 rfl ?_
    refine E_ist_n (i := 1) dX11_notes_10 rfl (by decide) rfl ?_
    exact L1 c6 353 0 M (by omega) (by omega) Sb.rf (fun j hj => absurd hj (Nat.not_lt_zero j)) (fun _ _ => rfl)
def mrCost (T : TK) (x w : Int32) : Int32 := if isAn T x = false then -1000001 else if inI w 0 9 = false then -1000002 else nI (T 64 x.toInt.toNat)
def nxCost (T : TK) (x w : Int32) : TK := if isAn T x = false then T else if inI w 0 9 = false then T else upT (nxNotes T) 64 x.toInt.toNat w.toInt.toNat
theorem ms_up64 {T : TK} {M : AM} (hM : MS T M) {a v : Nat} (ha : a < T 61 0) (hv : v ≤ 9) : MS (upT T 64 a v) (sI M 64 a (nI v)) := by
  obtain ⟨hR, hB, hS, hA, hX⟩ := hM
  have qM : ∀ k, k ≠ 64 → (sI M 64 a (nI v)).1 k = M.1 k := fun k h1 => sI_ne h1
  have qT : ∀ k, k ≠ 64 → (upT T 64 a v) k = T k := fun k h1 => by funext j; exact upT_ne (fun e => h1 e.1)
  have q6 := qM 61 (by decide)
  have t6 := qT 61 (by decide)
  refine ⟨⟨fun j hj => by rw [q6, t6]; exact hR.1 j hj, fun b hb i hi n4 n5 => ?_, fun b hb k hk => ?_, ?_⟩, rb_ag hB (by rw [q6]) (by rw [t6]), rs_ag hS (by rw [q6]) (by rw [t6]) (qM 71 (by decide)) (qT 71 (by decide)) (by rw [t6]), ra_ag hA (by rw [q6]) (by rw [t6]) (qM 70 (by decide)) (qM 72 (by decide)) (qT 72 (by decide)) (by rw [t6]), rx_ag hX (by rw [q6]) (by rw [t6]) (qM 75 (by decide)) (qT 75 (by decide)) (by rw [q6]) (by rw [t6])⟩
  · rw [t6] at hb
    by_cases e : i = 2
    · subst e
      show (sI M 64 a (nI v)).1 64 b = nI (upT T 64 a v 64 b)
      by_cases e2 : b = a
      · rw [e2, sI_s, upT_at]
      · rw [sI_o (fun e3 => e2 e3.2), upT_ne (fun e3 => e2 e3.2)]; exact rm_cost hR hb
    · rw [qM _ (by omega), qT _ (by omega)]; exact hR.2.1 b hb i hi n4 n5
  · rw [t6] at hb
    rw [qT 65 (by decide)] at hk
    rw [qM 66 (by decide), qM 67 (by decide), qT 66 (by decide), qT 67 (by decide)]
    exact hR.2.2.1 b hb k hk
  · have hT := rm_wt hR
    unfold WT
    rw [t6, qT 62 (by decide), qT 63 (by decide), qT 65 (by decide), qT 66 (by decide), qT 67 (by decide), qT 68 (by decide), qT 69 (by decide), qT 70 (by decide)]
    refine ⟨hT.1, hT.2.1, hT.2.2.1, hT.2.2.2.1, fun b hb => ⟨?_, (hT.2.2.2.2 b hb).2⟩⟩
    obtain ⟨k1, k2, k3, k4⟩ := wt_a hT hb
    refine ⟨k1, k2, ?_, k4⟩
    by_cases e2 : b = a
    · rw [e2, upT_at]; exact hv
    · rw [upT_ne (fun e3 => e2 e3.2)]; exact k3
theorem ms_up70 {T : TK} {M : AM} (hM : MS T M) {a : Nat} {b : Bool} (ha : a < T 61 0) : MS (upT T 70 a b.toNat) (sI M 70 a (bI b)) := by
  obtain ⟨hR, hB, hS, hA, hX⟩ := hM
  have qM : ∀ k, k ≠ 70 → (sI M 70 a (bI b)).1 k = M.1 k := fun k h1 => sI_ne h1
  have qT : ∀ k, k ≠ 70 → (upT T 70 a b.toNat) k = T k := fun k h1 => by funext j; exact upT_ne (fun e => h1 e.1)
  have q6 := qM 61 (by decide)
  have t6 := qT 61 (by decide)
  refine ⟨⟨fun j hj => by rw [q6, t6]; exact hR.1 j hj, fun c hc i hi n4 n5 => ?_, fun c hc k hk => ?_, ?_⟩, rb_ag hB (by rw [q6]) (by rw [t6]), rs_ag hS (by rw [q6]) (by rw [t6]) (qM 71 (by decide)) (qT 71 (by decide)) (by rw [t6]), ⟨by rw [q6, t6]; exact hA.1, by rw [t6]; exact hA.2.1, fun c hc => ?_, by rw [t6, qM 72 (by decide), qT 72 (by decide)]; exact hA.2.2.2⟩, rx_ag hX (by rw [q6]) (by rw [t6]) (qM 75 (by decide)) (qT 75 (by decide)) (by rw [q6]) (by rw [t6])⟩
  · rw [t6] at hc
    by_cases e : i = 8
    · subst e
      show (sI M 70 a (bI b)).1 70 c = nI (upT T 70 a b.toNat 70 c)
      by_cases e2 : c = a
      · rw [e2, sI_s, upT_at, bI_nI]
      · rw [sI_o (fun e3 => e2 e3.2), upT_ne (fun e3 => e2 e3.2)]; exact rm_cutN hR hc
    · rw [qM _ (by omega), qT _ (by omega)]; exact hR.2.1 c hc i hi n4 n5
  · rw [t6] at hc
    rw [qT 65 (by decide)] at hk
    rw [qM 66 (by decide), qM 67 (by decide), qT 66 (by decide), qT 67 (by decide)]
    exact hR.2.2.1 c hc k hk
  · have hT := rm_wt hR
    unfold WT
    rw [t6, qT 62 (by decide), qT 63 (by decide), qT 64 (by decide), qT 65 (by decide), qT 66 (by decide), qT 67 (by decide), qT 68 (by decide), qT 69 (by decide)]
    refine ⟨hT.1, hT.2.1, hT.2.2.1, hT.2.2.2.1, fun c hc => ⟨?_, (hT.2.2.2.2 c hc).2⟩⟩
    obtain ⟨k1, k2, k3, k4, k5, k6, k7, k8⟩ := wt_a hT hc
    refine ⟨k1, k2, k3, k4, k5, k6, k7, ?_⟩
    by_cases e2 : c = a
    · rw [e2, upT_at]; exact Bool.toNat_le _
    · rw [upT_ne (fun e3 => e2 e3.2)]; exact k8
  · by_cases e2 : c = a
    · rw [e2, sI_s]; exact bI_01 b
    · rw [sI_o (fun e3 => e2 e3.2)]; exact hA.2.2.1 c hc
theorem m_cost (hM : MS T M) {x w : Int32} : Call g qX11_cost [.ref 61, .int x, .int w] M (RtM (mrCost T x w) (nxCost T x w) M) := by
  have hR := hM.1
  have h32 := rm_32 hR
  refine Call_of (ls0 := [some (.ref 61), some (.int x), some (.int w), none]) rfl rfl (Nat.le_of_ble_eq_true rfl) ?_
  refine E_aload_n dX11_cost_0 rfl ?_
  refine E_iload_n dX11_cost_1 rfl ?_
  refine E_callV (r := qX11_isAnswer) (ci := 11) dX11_cost_2 mkX11_217 voX11_isAnswer rfl rfl rfl ⟨Nat.le_of_ble_eq_true rfl, Nat.le_of_ble_eq_true rfl, Nat.le_of_ble_eq_true rfl, Nat.le_of_ble_eq_true rfl⟩ (m_isAnswer hR) rfl (Nat.le_of_ble_eq_true rfl) ?_
  rintro _ _ ⟨rfl, rfl⟩
  refine E_if_neB (t := 11) dX11_cost_5 (by decide) (fun c5 => ?_) (fun c5 => ?_)
  · skip
    obtain ⟨a, ha1, ha2, rfl, ha3⟩ := inI_nat c5 (by decide)
    have ht : ¬ isAn T (nI a) = false := by unfold isAn; rw [c5]; decide
    have ha : a < T 61 0 := by omega
    refine E_iload_n dX11_cost_11 rfl ?_
    refine E_i2l dX11_cost_12 ?_
    refine E_lconst (v := 0) dX11_cost_13 rfl ?_
    refine E_ldc2 dX11_cost_14 clX11_230 ?_
    refine E_callS (r := qX11_in) dX11_cost_17 mkX11_88 toX11_in rfl ⟨Nat.le_of_ble_eq_true rfl, Nat.le_of_ble_eq_true rfl, Nat.le_of_ble_eq_true rfl, Nat.le_of_ble_eq_true rfl⟩ (m_inI) rfl (Nat.le_of_ble_eq_true rfl) ?_
    rintro _ _ ⟨rfl, rfl⟩
    refine E_top (show _ = bI (inI w 0 9) from rfl) ?_
    refine E_if_neB (t := 26) dX11_cost_20 (by decide) (fun c20 => ?_) (fun c20 => ?_)
    · skip
      obtain ⟨v, hv1, hv2, rfl, hv3⟩ := inI_nat c20 (by decide)
      refine E_aload_n dX11_cost_26 rfl ?_
      refine E_callV (r := qX11_notes) (ci := 11) dX11_cost_27 mkX11_227 voX11_notes rfl rfl rfl ⟨Nat.le_of_ble_eq_true rfl, Nat.le_of_ble_eq_true rfl, Nat.le_of_ble_eq_true rfl, Nat.le_of_ble_eq_true rfl⟩ (m_notes hM) rfl (Nat.le_of_ble_eq_true rfl) ?_
      rintro _ M1 ⟨rfl, hS1, hM1⟩
      have ha' : a < nxNotes T 61 0 := by rw [show nxNotes T 61 0 = T 61 0 from nn_o (by decide) (by decide)]; exact ha
      refine E_aload_n dX11_cost_30 rfl ?_
      refine E_getR' (ci := 11) (j := 6) (p := 64) dX11_cost_31 fkX11_16 rfl (by decide) rfl (by decide) (rfl) ?_
      refine E_iload_n dX11_cost_34 rfl ?_
      refine E_ialdN dX11_cost_35 rfl (by omega) (by decide) ((congrFun (hS1 64 (by decide)).1 a).trans (rm_cost hR ha)) ?_
      refine E_ist_n (i := 3) dX11_cost_36 rfl (by decide) rfl ?_
      refine E_aload_n dX11_cost_37 rfl ?_
      refine E_getR' (ci := 11) (j := 6) (p := 64) dX11_cost_38 fkX11_16 rfl (by decide) rfl (by decide) (rfl) ?_
      refine E_iload_n dX11_cost_41 rfl ?_
      refine E_iload_n dX11_cost_42 rfl ?_
      refine E_iastN dX11_cost_43 rfl (by omega) (by decide) ?_
      refine E_iload_n dX11_cost_44 rfl ?_
      refine E_iret dX11_cost_45 rfl ?_
      exact ⟨by unfold mrCost; rw [if_neg ht, if_neg (by rw [c20]; decide), nI_tn ha3], (hS1.sub (by decide)).tr (Sb.i (by decide)), by unfold nxCost; rw [if_neg ht, if_neg (by rw [c20]; decide), nI_tn ha3, nI_tn hv3]; exact ms_up64 hM1 ha' (by omega)⟩
    · skip
      refine E_ldc dX11_cost_23 ckX11_131 ?_
      refine E_iret dX11_cost_25 rfl ?_
      exact ⟨by unfold mrCost; rw [if_neg ht, if_pos c20], Sb.rf, by unfold nxCost; rw [if_neg ht, if_pos c20]; exact hM⟩
  · skip
    have ht : isAn T x = false := c5
    refine E_ldc dX11_cost_8 ckX11_214 ?_
    refine E_iret dX11_cost_10 rfl ?_
    exact ⟨by unfold mrCost; rw [if_pos ht], Sb.rf, by unfold nxCost; rw [if_pos ht]; exact hM⟩
end M17
