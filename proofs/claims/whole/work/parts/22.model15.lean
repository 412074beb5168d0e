-- the model: back, step, count, answer
section M15
variable {g : GG} {M : AM} {T : TK}
def mrBack (T : TK) (x : Int32) : Int32 := if tlk T = false then -1000001 else if inI x 1 60 = false then -1000002 else if T 61 15 < x.toInt.toNat then -1000003 else nI (herN T (T 61 15 - x.toInt.toNat) / 64)
def nxBack (T : TK) (x : Int32) : TK := if tlk T = false then T else if inI x 1 60 = false then T else if T 61 15 < x.toInt.toNat then T else upT T 61 15 (T 61 15 - x.toInt.toNat)
theorem herN_ag {T T' : TK} (h0 : fst0 T' = fst0 T) (h1 : T' 71 = T 71) (h2 : ∀ a s, nxt T' a s = nxt T a s) : ∀ n, herN T' n = herN T n
  | 0 => h0
  | n + 1 => by rw [herN, herN, herN_ag h0 h1 h2 n, h1, h2]
theorem m_back (hM : MS T M) {x : Int32} : Call g qX11_back [.ref 61, .int x] M (RtM (mrBack T x) (nxBack T x) M) := by
  obtain ⟨hR, hB, hS, hA, hX⟩ := id hM
  have hst := hS.2.1
  refine Call_of (ls0 := [some (.ref 61), some (.int x)]) rfl rfl (Nat.le_of_ble_eq_true rfl) ?_
  refine E_aload_n dX11_back_0 rfl ?_
  refine E_callV (r := qX11_isTalk) (ci := 11) dX11_back_1 mkX11_211 voX11_isTalk rfl rfl rfl ⟨Nat.le_of_ble_eq_true rfl, Nat.le_of_ble_eq_true rfl, Nat.le_of_ble_eq_true rfl, Nat.le_of_ble_eq_true rfl⟩ (m_isTalk hR) rfl (Nat.le_of_ble_eq_true rfl) ?_
  rintro _ _ ⟨rfl, rfl⟩
  refine E_if_neB (t := 10) dX11_back_4 (by decide) (fun c4 => ?_) (fun c4 => ?_)
  · skip
    have ht : ¬ tlk T = false := by unfold tlk; rw [c4]; decide
    refine E_iload_n dX11_back_10 rfl ?_
    refine E_i2l dX11_back_11 ?_
    refine E_lconst (v := 1) dX11_back_12 rfl ?_
    refine E_ldc2 dX11_back_13 clX11_225 ?_
    refine E_callS (r := qX11_in) dX11_back_16 mkX11_88 toX11_in rfl ⟨Nat.le_of_ble_eq_true rfl, Nat.le_of_ble_eq_true rfl, Nat.le_of_ble_eq_true rfl, Nat.le_of_ble_eq_true rfl⟩ (m_inI) rfl (Nat.le_of_ble_eq_true rfl) ?_
    rintro _ _ ⟨rfl, rfl⟩
    refine E_top (show _ = bI (inI x 1 60) from rfl) ?_
    refine E_if_neB (t := 25) dX11_back_19 (by decide) (fun c19 => ?_) (fun c19 => ?_)
    · skip
      obtain ⟨c, hc1, hc2, rfl, hc3⟩ := inI_nat c19 (by decide)
      refine E_iload_n dX11_back_25 rfl ?_
      refine E_aload_n dX11_back_26 rfl ?_
      refine E_getI' (ci := 11) (j := 15) dX11_back_27 fkX11_126 rfl (by decide) rfl (by decide) (hS.1) ?_
      refine E_icmp_leN (t := 36) dX11_back_30 (by decide) (by omega) (by omega) (fun c30 => ?_) (fun c30 => ?_)
      · skip
        refine E_aload_n dX11_back_36 rfl ?_
        refine E_dup dX11_back_37 rfl ?_
        refine E_getI' (ci := 11) (j := 15) dX11_back_38 fkX11_126 rfl (by decide) rfl (by decide) (hS.1) ?_
        refine E_iload_n dX11_back_41 rfl ?_
        refine E_isubN dX11_back_42 (by omega) ?_
        refine E_putI (ci := 11) (j := 15) dX11_back_43 fkX11_126 rfl (by decide) rfl (by decide) ?_
        have qM : ∀ k, k ≠ 61 → (sI M 61 15 (nI (T 61 15 - c))).1 k = M.1 k := fun k h1 => sI_ne h1
        have q6 : ∀ j, j ≠ 15 → (sI M 61 15 (nI (T 61 15 - c))).1 61 j = M.1 61 j := fun j h1 => sI_o (fun e => h1 e.2)
        have qT : ∀ k, k ≠ 61 → (upT T 61 15 (T 61 15 - c)) k = T k := fun k h1 => by funext j; rw [upT_ne (fun e => h1 e.1)]
        have qt : ∀ j, j ≠ 15 → (upT T 61 15 (T 61 15 - c)) 61 j = T 61 j := fun j h1 => upT_ne (fun e => h1 e.2)
        have hM2 : MS (upT T 61 15 (T 61 15 - c)) (sI M 61 15 (nI (T 61 15 - c))) := ⟨rm_ag hR (fun j hj => ⟨q6 j (by omega), qt j (by omega)⟩) (fun i hi => ⟨qM _ (by omega), qT _ (by omega)⟩), rb_ag hB (q6 13 (by decide)) (qt 13 (by decide)), ⟨by rw [sI_s, upT_at], by rw [upT_at]; omega, fun k hk => by rw [upT_at] at hk; rw [qM 71 (by decide), qT 71 (by decide), qt 0 (by decide)]; exact hS.2.2 k (by omega)⟩, ra_ag hA (q6 17 (by decide)) (qt 17 (by decide)) (qM 70 (by decide)) (qM 72 (by decide)) (qT 72 (by decide)) (qt 0 (by decide)), rx_ag hX (q6 21 (by decide)) (qt 21 (by decide)) (qM 75 (by decide)) (qT 75 (by decide)) (q6 22 (by decide)) (qt 22 (by decide))⟩
        have hlt := herN_lt hM2.1 hM2.2.1 hM2.2.2.1 _ (Nat.le_refl _)
        have hhe : herN (upT T 61 15 (T 61 15 - c)) (upT T 61 15 (T 61 15 - c) 61 15) = herN T (T 61 15 - c) := by rw [upT_at]; exact herN_ag (by unfold fst0; rw [qt 3 (by decide), qt 13 (by decide)]) (qT 71 (by decide)) (fun a s => by unfold nxt; rw [qT 63 (by decide), qT 69 (by decide), qT 68 (by decide)]) _
        refine E_aload_n dX11_back_46 rfl ?_
        refine E_callV (r := qX11_here) (ci := 11) dX11_back_47 mkX11_221 voX11_here rfl rfl rfl ⟨Nat.le_of_ble_eq_true rfl, Nat.le_of_ble_eq_true rfl, Nat.le_of_ble_eq_true rfl, Nat.le_of_ble_eq_true rfl⟩ (m_here hM2.1 hM2.2.1 hM2.2.2.1) rfl (Nat.le_of_ble_eq_true rfl) ?_
        rintro _ _ ⟨rfl, rfl⟩
        refine E_bipush (v := nI 64) dX11_back_50 rfl ?_
        refine E_idivN dX11_back_52 (by omega) (by decide) (by decide) ?_
        refine E_iret dX11_back_53 rfl ?_
        exact ⟨by unfold mrBack; rw [if_neg ht, if_neg (by rw [c19]; decide), nI_tn hc3, if_neg (by omega), hhe], Sb.i (by decide), by unfold nxBack; rw [if_neg ht, if_neg (by rw [c19]; decide), nI_tn hc3, if_neg (by omega)]; exact hM2⟩
      · skip
        refine E_ldc dX11_back_33 ckX11_224 ?_
        refine E_iret dX11_back_35 rfl ?_
        exact ⟨by unfold mrBack; rw [if_neg ht, if_neg (by rw [c19]; decide), nI_tn hc3, if_pos c30], Sb.rf, by unfold nxBack; rw [if_neg ht, if_neg (by rw [c19]; decide), nI_tn hc3, if_pos c30]; exact hM⟩
    · skip
      refine E_ldc dX11_back_22 ckX11_131 ?_
      refine E_iret dX11_back_24 rfl ?_
      exact ⟨by unfold mrBack; rw [if_neg ht, if_pos c19], Sb.rf, by unfold nxBack; rw [if_neg ht, if_pos c19]; exact hM⟩
  · skip
    have ht : tlk T = false := c4
    refine E_ldc dX11_back_7 ckX11_214 ?_
    refine E_iret dX11_back_9 rfl ?_
    exact ⟨by unfold mrBack; rw [if_pos ht], Sb.rf, by unfold nxBack; rw [if_pos ht]; exact hM⟩
def mrStep (T : TK) (x : Int32) : Int32 := if tlk T = false then -1000001 else if x < 0 then -1000002 else if x.toInt.toNat < T 61 15 then nI (T 71 x.toInt.toNat) else -1
theorem m_step (hM : MS T M) {x : Int32} : Call g qX11_step [.ref 61, .int x] M (RtM (mrStep T x) T M) := by
  obtain ⟨hR, hB, hS, hA, hX⟩ := id hM
  have hst := hS.2.1
  refine Call_of (ls0 := [some (.ref 61), some (.int x)]) rfl rfl (Nat.le_of_ble_eq_true rfl) ?_
  refine E_aload_n dX11_step_0 rfl ?_
  refine E_callV (r := qX11_isTalk) (ci := 11) dX11_step_1 mkX11_211 voX11_isTalk rfl rfl rfl ⟨Nat.le_of_ble_eq_true rfl, Nat.le_of_ble_eq_true rfl, Nat.le_of_ble_eq_true rfl, Nat.le_of_ble_eq_true rfl⟩ (m_isTalk hR) rfl (Nat.le_of_ble_eq_true rfl) ?_
  rintro _ _ ⟨rfl, rfl⟩
  refine E_if_neB (t := 10) dX11_step_4 (by decide) (fun c4 => ?_) (fun c4 => ?_)
  · skip
    have ht : ¬ tlk T = false := by unfold tlk; rw [c4]; decide
    refine E_iload_n dX11_step_10 rfl ?_
    refine E_if_ge (t := 19) dX11_step_11 (by decide) (fun c11 => ?_) (fun c11 => ?_)
    · skip
      obtain ⟨j, hj, rfl⟩ := nI_of (x := x) (fun e => absurd c11 (Int32.not_le.mpr e))
      refine E_iload_n dX11_step_19 rfl ?_
      refine E_aload_n dX11_step_20 rfl ?_
      refine E_getI' (ci := 11) (j := 15) dX11_step_21 fkX11_126 rfl (by decide) rfl (by decide) (hS.1) ?_
      refine E_icmp_geN (t := 36) dX11_step_24 (by decide) (by omega) (by omega) (fun c24 => ?_) (fun c24 => ?_)
      · skip
        refine E_iconst (v := -1) dX11_step_36 rfl ?_
        refine E_iret dX11_step_37 rfl ?_
        first | exact ⟨by unfold mrStep; rw [if_neg ht, if_pos (Int32.not_le.mp c11)], Sb.rf, hM⟩ | exact ⟨by unfold mrStep; rw [if_neg ht, if_neg (nI_pos hj), nI_tn hj, if_pos c24], Sb.rf, hM⟩ | exact ⟨by unfold mrStep; rw [if_neg ht, if_neg (nI_pos hj), nI_tn hj, if_neg (by omega)], Sb.rf, hM⟩
      · skip
        refine E_aload_n dX11_step_27 rfl ?_
        refine E_getR' (ci := 11) (j := 14) (p := 71) dX11_step_28 fkX11_38 rfl (by decide) rfl (by decide) (rfl) ?_
        refine E_iload_n dX11_step_31 rfl ?_
        refine E_ialdN dX11_step_32 rfl (by omega) (by decide) ((hS.2.2 j c24).1) ?_
        refine E_goto (t := 37) dX11_step_33 (by decide) ?_
        refine E_iret dX11_step_37 rfl ?_
        first | exact ⟨by unfold mrStep; rw [if_neg ht, if_pos (Int32.not_le.mp c11)], Sb.rf, hM⟩ | exact ⟨by unfold mrStep; rw [if_neg ht, if_neg (nI_pos hj), nI_tn hj, if_pos c24], Sb.rf, hM⟩ | exact ⟨by unfold mrStep; rw [if_neg ht, if_neg (nI_pos hj), nI_tn hj, if_neg (by omega)], Sb.rf, hM⟩
    · skip
      refine E_ldc dX11_step_14 ckX11_131 ?_
      refine E_goto (t := 37) dX11_step_16 (by decide) ?_
      refine E_iret dX11_step_37 rfl ?_
      first | exact ⟨by unfold mrStep; rw [if_neg ht, if_pos (Int32.not_le.mp c11)], Sb.rf, hM⟩ | exact ⟨by unfold mrStep; rw [if_neg ht, if_neg (nI_pos hj), nI_tn hj, if_pos c24], Sb.rf, hM⟩ | exact ⟨by unfold mrStep; rw [if_neg ht, if_neg (nI_pos hj), nI_tn hj, if_neg (by omega)], Sb.rf, hM⟩
  · skip
    have ht : tlk T = false := c4
    refine E_ldc dX11_step_7 ckX11_214 ?_
    refine E_iret dX11_step_9 rfl ?_
    exact ⟨by unfold mrStep; rw [if_pos ht], Sb.rf, hM⟩
def csN (T : TK) : Nat → Nat := smN (fun k => T 64 (T 71 k))
theorem m_costOfSteps (hR : RM T M) (hS : RS T M) : Call g qX11_costOfSteps [.ref 61] M (Rt (nI (csN T (T 61 15))) M) := by
  have h32 := rm_32 hR
  have hst := hS.2.1
  have L : ∀ (n k : Nat), k ≤ T 61 15 → T 61 15 < k + n → Ex g qX11_costOfSteps (tm g qX11_costOfSteps (Rt (nI (csN T (T 61 15))) M)) 4 [some (.ref 61), some (.int (nI (csN T k))), some (.int (nI k))] [] M := by
    intro n
    induction n with
    | zero => intro k h1 h2; exact absurd h2 (by omega)
    | succ n ih =>
      intro k hk hn
      refine E_iload_n dX11_costOfSteps_4 rfl ?_
      refine E_aload_n dX11_costOfSteps_5 rfl ?_
      refine E_getI' (ci := 11) (j := 15) dX11_costOfSteps_6 fkX11_126 rfl (by decide) rfl (by decide) (hS.1) ?_
      refine E_icmp_geN (t := 32) dX11_costOfSteps_9 (by decide) (by omega) (by omega) (fun c9 => ?_) (fun c9 => ?_)
      · skip
        refine E_iload_n dX11_costOfSteps_32 rfl ?_
        refine E_iret dX11_costOfSteps_33 rfl ?_
        exact Rt_n (by rw [show k = T 61 15 by omega])
      · skip
        refine E_iload_n dX11_costOfSteps_12 rfl ?_
        refine E_aload_n dX11_costOfSteps_13 rfl ?_
        refine E_getR' (ci := 11) (j := 6) (p := 64) dX11_costOfSteps_14 fkX11_16 rfl (by decide) rfl (by decide) (rfl) ?_
        refine E_aload_n dX11_costOfSteps_17 rfl ?_
        refine E_getR' (ci := 11) (j := 14) (p := 71) dX11_costOfSteps_18 fkX11_38 rfl (by decide) rfl (by decide) (rfl) ?_
        refine E_iload_n dX11_costOfSteps_21 rfl ?_
        refine E_ialdN dX11_costOfSteps_22 rfl (by omega) (by decide) ((hS.2.2 k c9).1) ?_
        refine E_ialdN dX11_costOfSteps_23 rfl (by have := (hS.2.2 k c9).2; omega) (by decide) (rm_cost hR (hS.2.2 k c9).2) ?_
        refine E_iaddN dX11_costOfSteps_24 ?_
        refine E_ist_n (i := 1) dX11_costOfSteps_25 rfl (by decide) rfl ?_
        refine E_iincN (b := 1) dX11_costOfSteps_26 rfl rfl (by decide) rfl ?_
        refine E_goto (t := 4) dX11_costOfSteps_29 (by decide) ?_
        exact ih (k + 1) (by omega) (by omega)
  refine Call_of (ls0 := [some (.ref 61), none, none]) rfl rfl (Nat.le_of_ble_eq_true rfl) ?_
  refine E_iconst (v := nI 0) dX11_costOfSteps_0 rfl ?_
  refine E_ist_n (i := 1) dX11_costOfSteps_1 rfl (by decide) rfl ?_
  refine E_iconst (v := nI 0) dX11_costOfSteps_2 rfl ?_
  refine E_ist_n (i := 2) dX11_costOfSteps_3 rfl (by decide) rfl ?_
  exact L (T 61 15 + 1) 0 (by omega) (by omega)
def mrCount (T : TK) (w : Int32) : Int32 := if w = nI 10 then nI (T 61 21) else if tlk T = false then -1000001 else
  if w = nI 0 then nI (her T / 64) else if w = nI 1 then nI (her T % 64) else if w = nI 2 then nI (T 61 15) else if w = nI 3 then nI (cntN (fun a => opn T a (her T) 0) (T 61 0)) else if w = nI 4 then nI (csN T (T 61 15)) else
  if w = nI 5 then nI (T 61 3) else if w = nI 6 then nI (T 61 1) else if w = nI 7 then nI (T 61 2) else if w = nI 8 then nI (T 61 0) else if w = nI 9 then nI (T 61 17) else -1000002
theorem m_count (hM : MS T M) {w : Int32} : Call g qX11_count [.ref 61, .int w] M (RtM (mrCount T w) T M) := by
  obtain ⟨hR, hB, hS, hA, hX⟩ := id hM
  have hher := herN_lt hR hB hS (T 61 15) (Nat.le_refl _)
  have n0 : ∀ {a b : Nat}, a ≤ 10 → b ≤ 10 → ¬ a = b → ¬ nI a = nI b := fun h1 h2 h3 e => h3 ((nI_eq (by omega) (by omega)).mp e)
  refine Call_of (ls0 := [some (.ref 61), some (.int w)]) rfl rfl (Nat.le_of_ble_eq_true rfl) ?_
  refine E_iload_n dX11_count_0 rfl ?_
  refine E_bipush (v := nI 10) dX11_count_1 rfl ?_
  refine E_icmp_ne (t := 11) dX11_count_3 (by decide) (fun c3 => ?_) (fun c3 => ?_)
  · skip
    refine E_aload_n dX11_count_11 rfl ?_
    refine E_callV (r := qX11_isTalk) (ci := 11) dX11_count_12 mkX11_211 voX11_isTalk rfl rfl rfl ⟨Nat.le_of_ble_eq_true rfl, Nat.le_of_ble_eq_true rfl, Nat.le_of_ble_eq_true rfl, Nat.le_of_ble_eq_true rfl⟩ (m_isTalk hR) rfl (Nat.le_of_ble_eq_true rfl) ?_
    rintro _ _ ⟨rfl, rfl⟩
    refine E_if_neB (t := 21) dX11_count_15 (by decide) (fun c15 => ?_) (fun c15 => ?_)
    · skip
      have ht : ¬ tlk T = false := by unfold tlk; rw [c15]; decide
      refine E_iload_n dX11_count_21 rfl ?_
      have hsw : w = nI 0 ∨ w = nI 1 ∨ w = nI 2 ∨ w = nI 3 ∨ w = nI 4 ∨ w = nI 5 ∨ w = nI 6 ∨ w = nI 7 ∨ w = nI 8 ∨ w = nI 9 ∨ (w.toInt < 0 ∨ 9 < w.toInt) := by
        rcases sw_ex w 9 (by decide) with ⟨j, hj, rfl⟩ | h7
        · rcases (show j = 0 ∨ j = 1 ∨ j = 2 ∨ j = 3 ∨ j = 4 ∨ j = 5 ∨ j = 6 ∨ j = 7 ∨ j = 8 ∨ j = 9 by omega) with rfl | rfl | rfl | rfl | rfl | rfl | rfl | rfl | rfl | rfl <;> simp
        · exact Or.inr (Or.inr (Or.inr (Or.inr (Or.inr (Or.inr (Or.inr (Or.inr (Or.inr (Or.inr (h7))))))))))
      rcases hsw with rfl | rfl | rfl | rfl | rfl | rfl | rfl | rfl | rfl | rfl | hw
      · skip
        refine E_swIn (t := 76) (off := 54) dX11_count_22 (by decide) (by decide) (by decide) (by decide) ?_
        refine E_aload_n dX11_count_76 rfl ?_
        refine E_callV (r := qX11_here) (ci := 11) dX11_count_77 mkX11_221 voX11_here rfl rfl rfl ⟨Nat.le_of_ble_eq_true rfl, Nat.le_of_ble_eq_true rfl, Nat.le_of_ble_eq_true rfl, Nat.le_of_ble_eq_true rfl⟩ (m_here hR hB hS) rfl (Nat.le_of_ble_eq_true rfl) ?_
        rintro _ _ ⟨rfl, rfl⟩
        refine E_bipush (v := nI 64) dX11_count_80 rfl ?_
        refine E_idivN dX11_count_82 (by omega) (by decide) (by decide) ?_
        refine E_iret dX11_count_83 rfl ?_
        exact ⟨by unfold mrCount; rw [if_neg c3, if_neg ht, if_pos rfl]; rfl, Sb.rf, hM⟩
      · skip
        refine E_swIn (t := 84) (off := 62) dX11_count_22 (by decide) (by decide) (by decide) (by decide) ?_
        refine E_aload_n dX11_count_84 rfl ?_
        refine E_callV (r := qX11_here) (ci := 11) dX11_count_85 mkX11_221 voX11_here rfl rfl rfl ⟨Nat.le_of_ble_eq_true rfl, Nat.le_of_ble_eq_true rfl, Nat.le_of_ble_eq_true rfl, Nat.le_of_ble_eq_true rfl⟩ (m_here hR hB hS) rfl (Nat.le_of_ble_eq_true rfl) ?_
        rintro _ _ ⟨rfl, rfl⟩
        refine E_bipush (v := nI 64) dX11_count_88 rfl ?_
        refine E_iremN dX11_count_90 (by omega) (by decide) (by decide) ?_
        refine E_iret dX11_count_91 rfl ?_
        exact ⟨by unfold mrCount; rw [if_neg c3, if_neg ht, if_neg (n0 (by decide) (by decide) (by decide)), if_pos rfl]; rfl, Sb.rf, hM⟩
      · skip
        refine E_swIn (t := 92) (off := 70) dX11_count_22 (by decide) (by decide) (by decide) (by decide) ?_
        refine E_aload_n dX11_count_92 rfl ?_
        refine E_getI' (ci := 11) (j := 15) dX11_count_93 fkX11_126 rfl (by decide) rfl (by decide) (hS.1) ?_
        refine E_iret dX11_count_96 rfl ?_
        exact ⟨by unfold mrCount; rw [if_neg c3, if_neg ht, if_neg (n0 (by decide) (by decide) (by decide)), if_neg (n0 (by decide) (by decide) (by decide)), if_pos rfl], Sb.rf, hM⟩
      · skip
        refine E_swIn (t := 97) (off := 75) dX11_count_22 (by decide) (by decide) (by decide) (by decide) ?_
        refine E_aload_n dX11_count_97 rfl ?_
        refine E_aload_n dX11_count_98 rfl ?_
        refine E_callV (r := qX11_here) (ci := 11) dX11_count_99 mkX11_221 voX11_here rfl rfl rfl ⟨Nat.le_of_ble_eq_true rfl, Nat.le_of_ble_eq_true rfl, Nat.le_of_ble_eq_true rfl, Nat.le_of_ble_eq_true rfl⟩ (m_here hR hB hS) rfl (Nat.le_of_ble_eq_true rfl) ?_
        rintro _ _ ⟨rfl, rfl⟩
        refine E_callV (r := qX11_openIn) (ci := 11) dX11_count_102 mkX11_237 voX11_openIn rfl rfl rfl ⟨Nat.le_of_ble_eq_true rfl, Nat.le_of_ble_eq_true rfl, Nat.le_of_ble_eq_true rfl, Nat.le_of_ble_eq_true rfl⟩ (m_openIn hR hher) rfl (Nat.le_of_ble_eq_true rfl) ?_
        rintro _ _ ⟨rfl, rfl⟩
        refine E_iret dX11_count_105 rfl ?_
        exact ⟨by unfold mrCount; rw [if_neg c3, if_neg ht, if_neg (n0 (by decide) (by decide) (by decide)), if_neg (n0 (by decide) (by decide) (by decide)), if_neg (n0 (by decide) (by decide) (by decide)), if_pos rfl]; rfl, Sb.rf, hM⟩
      · skip
        refine E_swIn (t := 106) (off := 84) dX11_count_22 (by decide) (by decide) (by decide) (by decide) ?_
        refine E_aload_n dX11_count_106 rfl ?_
        refine E_callV (r := qX11_costOfSteps) (ci := 11) dX11_count_107 mkX11_241 voX11_costOfSteps rfl rfl rfl ⟨Nat.le_of_ble_eq_true rfl, Nat.le_of_ble_eq_true rfl, Nat.le_of_ble_eq_true rfl, Nat.le_of_ble_eq_true rfl⟩ (m_costOfSteps hR hS) rfl (Nat.le_of_ble_eq_true rfl) ?_
        rintro _ _ ⟨rfl, rfl⟩
        refine E_iret dX11_count_110 rfl ?_
        exact ⟨by unfold mrCount; rw [if_neg c3, if_neg ht, if_neg (n0 (by decide) (by decide) (by decide)), if_neg (n0 (by decide) (by decide) (by decide)), if_neg (n0 (by decide) (by decide) (by decide)), if_neg (n0 (by decide) (by decide) (by decide)), if_pos rfl], Sb.rf, hM⟩
      · skip
        refine E_swIn (t := 111) (off := 89) dX11_count_22 (by decide) (by decide) (by decide) (by decide) ?_
        refine E_aload_n dX11_count_111 rfl ?_
        refine E_getI' (ci := 11) (j := 3) dX11_count_112 fkX11_112 rfl (by decide) rfl (by decide) (rm_start hR) ?_
        refine E_iret dX11_count_115 rfl ?_
        exact ⟨by unfold mrCount; rw [if_neg c3, if_neg ht, if_neg (n0 (by decide) (by decide) (by decide)), if_neg (n0 (by decide) (by decide) (by decide)), if_neg (n0 (by decide) (by decide) (by decide)), if_neg (n0 (by decide) (by decide) (by decide)), if_neg (n0 (by decide) (by decide) (by decide)), if_pos rfl], Sb.rf, hM⟩
      · skip
        refine E_swIn (t := 116) (off := 94) dX11_count_22 (by decide) (by decide) (by decide) (by decide) ?_
        refine E_aload_n dX11_count_116 rfl ?_
        refine E_getI' (ci := 11) (j := 1) dX11_count_117 fkX11_81 rfl (by decide) rfl (by decide) (rm_there hR) ?_
        refine E_iret dX11_count_120 rfl ?_
        exact ⟨by unfold mrCount; rw [if_neg c3, if_neg ht, if_neg (n0 (by decide) (by decide) (by decide)), if_neg (n0 (by decide) (by decide) (by decide)), if_neg (n0 (by decide) (by decide) (by decide)), if_neg (n0 (by decide) (by decide) (by decide)), if_neg (n0 (by decide) (by decide) (by decide)), if_neg (n0 (by decide) (by decide) (by decide)), if_pos rfl], Sb.rf, hM⟩
      · skip
        refine E_swIn (t := 121) (off := 99) dX11_count_22 (by decide) (by decide) (by decide) (by decide) ?_
        refine E_aload_n dX11_count_121 rfl ?_
        refine E_getI' (ci := 11) (j := 2) dX11_count_122 fkX11_98 rfl (by decide) rfl (by decide) (rm_endings hR) ?_
        refine E_iret dX11_count_125 rfl ?_
        exact ⟨by unfold mrCount; rw [if_neg c3, if_neg ht, if_neg (n0 (by decide) (by decide) (by decide)), if_neg (n0 (by decide) (by decide) (by decide)), if_neg (n0 (by decide) (by decide) (by decide)), if_neg (n0 (by decide) (by decide) (by decide)), if_neg (n0 (by decide) (by decide) (by decide)), if_neg (n0 (by decide) (by decide) (by decide)), if_neg (n0 (by decide) (by decide) (by decide)), if_pos rfl], Sb.rf, hM⟩
      · skip
        refine E_swIn (t := 126) (off := 104) dX11_count_22 (by decide) (by decide) (by decide) (by decide) ?_
        refine E_aload_n dX11_count_126 rfl ?_
        refine E_getI' (ci := 11) (j := 0) dX11_count_127 fkX11_85 rfl (by decide) rfl (by decide) (rm_many hR) ?_
        refine E_iret dX11_count_130 rfl ?_
        exact ⟨by unfold mrCount; rw [if_neg c3, if_neg ht, if_neg (n0 (by decide) (by decide) (by decide)), if_neg (n0 (by decide) (by decide) (by decide)), if_neg (n0 (by decide) (by decide) (by decide)), if_neg (n0 (by decide) (by decide) (by decide)), if_neg (n0 (by decide) (by decide) (by decide)), if_neg (n0 (by decide) (by decide) (by decide)), if_neg (n0 (by decide) (by decide) (by decide)), if_neg (n0 (by decide) (by decide) (by decide)), if_pos rfl], Sb.rf, hM⟩
      · skip
        refine E_swIn (t := 131) (off := 109) dX11_count_22 (by decide) (by decide) (by decide) (by decide) ?_
        refine E_aload_n dX11_count_131 rfl ?_
        refine E_getI' (ci := 11) (j := 17) dX11_count_132 fkX11_208 rfl (by decide) rfl (by decide) (hA.1) ?_
        refine E_iret dX11_count_135 rfl ?_
        exact ⟨by unfold mrCount; rw [if_neg c3, if_neg ht, if_neg (n0 (by decide) (by decide) (by decide)), if_neg (n0 (by decide) (by decide) (by decide)), if_neg (n0 (by decide) (by decide) (by decide)), if_neg (n0 (by decide) (by decide) (by decide)), if_neg (n0 (by decide) (by decide) (by decide)), if_neg (n0 (by decide) (by decide) (by decide)), if_neg (n0 (by decide) (by decide) (by decide)), if_neg (n0 (by decide) (by decide) (by decide)), if_neg (n0 (by decide) (by decide) (by decide)), if_pos rfl], Sb.rf, hM⟩
      · skip
        refine E_swOut (t := 136) dX11_count_22 (hw) (by decide) ?_
        refine E_ldc dX11_count_136 ckX11_131 ?_
        refine E_iret dX11_count_138 rfl ?_
        have ne : ∀ j, j ≤ 9 → ¬ w = nI j := fun j hj => sw_ne hw hj (by decide)
        exact ⟨by unfold mrCount; rw [if_neg c3, if_neg ht, if_neg (ne 0 (by decide)), if_neg (ne 1 (by decide)), if_neg (ne 2 (by decide)), if_neg (ne 3 (by decide)), if_neg (ne 4 (by decide)), if_neg (ne 5 (by decide)), if_neg (ne 6 (by decide)), if_neg (ne 7 (by decide)), if_neg (ne 8 (by decide)), if_neg (ne 9 (by decide))], Sb.rf, hM⟩
    · skip
      have ht : tlk T = false := c15
      refine E_ldc dX11_count_18 ckX11_214 ?_
      refine E_iret dX11_count_20 rfl ?_
      exact ⟨by unfold mrCount; rw [if_neg c3, if_pos ht], Sb.rf, hM⟩
  · skip
    refine E_aload_n dX11_count_6 rfl ?_
    refine E_getI' (ci := 11) (j := 21) dX11_count_7 fkX11_132 rfl (by decide) rfl (by decide) (hX.1) ?_
    refine E_iret dX11_count_10 rfl ?_
    exact ⟨by unfold mrCount; rw [if_pos c3], Sb.rf, hM⟩
end M15
