-- the model: answer
section M16
variable {g : GG} {M : AM} {T : TK}
def vaiB (T : TK) (a : Nat) : Bool := decide (0 < T 65 a) && allN (fun k => !(T 66 (3 * a + k) &&& T 67 (3 * a + k) == 0)) (T 65 a)
theorem m_isVain (hR : RM T M) {a : Nat} (ha : a < T 61 0) : Call g qX11_isVain [.ref 61, .int (nI a)] M (Rt (bI (vaiB T a)) M) := by
  have h32 := rm_32 hR
  have hal := (wt_a (rm_wt hR) ha).2.2.2.1
  have L : ∀ (n k : Nat) (b : Bool), k ≤ T 65 a → T 65 a < k + n → b = (decide (0 < T 65 a) && allN (fun k => !(T 66 (3 * a + k) &&& T 67 (3 * a + k) == 0)) k) → Ex g qX11_isVain (tm g qX11_isVain (Rt (bI (vaiB T a)) M)) 17 [some (.ref 61), some (.int (nI a)), some (.int (bI b)), some (.int (nI k))] [] M := by
    intro n
    induction n with
    | zero => intro k b h1 h2; exact absurd h2 (by omega)
    | succ n ih =>
      intro k b hk hn hb
      refine E_iload_n dX11_isVain_17 rfl ?_
      refine E_aload_n dX11_isVain_18 rfl ?_
      refine E_getR' (ci := 11) (j := 7) (p := 65) dX11_isVain_19 fkX11_19 rfl (by decide) rfl (by decide) (rfl) ?_
      refine E_iload_n dX11_isVain_22 rfl ?_
      refine E_ialdN dX11_isVain_23 rfl (by omega) (by decide) (rm_alts hR ha) ?_
      refine E_icmp_geN (t := 67) dX11_isVain_24 (by decide) (by omega) (by omega) (fun c24 => ?_) (fun c24 => ?_)
      · skip
        refine E_iload_n dX11_isVain_67 rfl ?_
        refine E_zret dX11_isVain_68 rfl (bI_01 _) ?_
        exact Rt_b (by rw [hb, show k = T 65 a by omega]; rfl)
      · skip
        refine E_iload_n dX11_isVain_27 rfl ?_
        refine E_if_eqB (t := 59) dX11_isVain_28 (by decide) (fun c28 => ?_) (fun c28 => ?_)
        · skip
          have hv : false = (decide (0 < T 65 a) && allN (fun k => !(T 66 (3 * a + k) &&& T 67 (3 * a + k) == 0)) (k + 1)) := by rw [allN, ← Bool.and_assoc, ← hb, c28]; rfl
          refine E_iconst (v := nI 0) dX11_isVain_59 rfl ?_
          refine E_top (show nI 0 = bI false from rfl) ?_
          refine E_ist_n (i := 2) dX11_isVain_60 rfl (by decide) rfl ?_
          refine E_iincN (b := 1) dX11_isVain_61 rfl rfl (by decide) rfl ?_
          refine E_goto (t := 17) dX11_isVain_64 (by decide) ?_
          exact ih (k + 1) _ (by omega) (by omega) hv
        · skip
          refine E_aload_n dX11_isVain_31 rfl ?_
          refine E_getR' (ci := 11) (j := 8) (p := 66) dX11_isVain_32 fkX11_22 rfl (by decide) rfl (by decide) (rfl) ?_
          refine E_iconst (v := nI 3) dX11_isVain_35 rfl ?_
          refine E_iload_n dX11_isVain_36 rfl ?_
          refine E_imulN dX11_isVain_37 ?_
          refine E_iload_n dX11_isVain_38 rfl ?_
          refine E_iaddN dX11_isVain_39 ?_
          refine E_ialdN dX11_isVain_40 rfl (by omega) (by decide) (rm_wants hR ha c24) ?_
          refine E_aload_n dX11_isVain_41 rfl ?_
          refine E_getR' (ci := 11) (j := 9) (p := 67) dX11_isVain_42 fkX11_25 rfl (by decide) rfl (by decide) (rfl) ?_
          refine E_iconst (v := nI 3) dX11_isVain_45 rfl ?_
          refine E_iload_n dX11_isVain_46 rfl ?_
          refine E_imulN dX11_isVain_47 ?_
          refine E_iload_n dX11_isVain_48 rfl ?_
          refine E_iaddN dX11_isVain_49 ?_
          refine E_ialdN dX11_isVain_50 rfl (by omega) (by decide) (rm_bars hR ha c24) ?_
          refine E_iandN dX11_isVain_51 ?_
          refine E_if_eqN (t := 59) dX11_isVain_52 (by decide) (Nat.lt_of_le_of_lt Nat.and_le_left (by have := ((rm_wt hR).2.2.2.2 a ha).2 k c24; omega)) (fun c52 => ?_) (fun c52 => ?_)
          · skip
            have hv : false = (decide (0 < T 65 a) && allN (fun k => !(T 66 (3 * a + k) &&& T 67 (3 * a + k) == 0)) (k + 1)) := by rw [allN, ← Bool.and_assoc, ← hb, c28, c52]; rfl
            refine E_iconst (v := nI 0) dX11_isVain_59 rfl ?_
            refine E_top (show nI 0 = bI false from rfl) ?_
            refine E_ist_n (i := 2) dX11_isVain_60 rfl (by decide) rfl ?_
            refine E_iincN (b := 1) dX11_isVain_61 rfl rfl (by decide) rfl ?_
            refine E_goto (t := 17) dX11_isVain_64 (by decide) ?_
            exact ih (k + 1) _ (by omega) (by omega) hv
          · skip
            have hv : true = (decide (0 < T 65 a) && allN (fun k => !(T 66 (3 * a + k) &&& T 67 (3 * a + k) == 0)) (k + 1)) := by rw [allN, ← Bool.and_assoc, ← hb, c28]; simp; omega
            refine E_iconst (v := nI 1) dX11_isVain_55 rfl ?_
            refine E_goto (t := 60) dX11_isVain_56 (by decide) ?_
            refine E_top (show nI 1 = bI true from rfl) ?_
            refine E_ist_n (i := 2) dX11_isVain_60 rfl (by decide) rfl ?_
            refine E_iincN (b := 1) dX11_isVain_61 rfl rfl (by decide) rfl ?_
            refine E_goto (t := 17) dX11_isVain_64 (by decide) ?_
            exact ih (k + 1) _ (by omega) (by omega) hv
  refine Call_of (ls0 := [some (.ref 61), some (.int (nI a)), none, none]) rfl rfl (Nat.le_of_ble_eq_true rfl) ?_
  refine E_aload_n dX11_isVain_0 rfl ?_
  refine E_getR' (ci := 11) (j := 7) (p := 65) dX11_isVain_1 fkX11_19 rfl (by decide) rfl (by decide) (rfl) ?_
  refine E_iload_n dX11_isVain_4 rfl ?_
  refine E_ialdN dX11_isVain_5 rfl (by omega) (by decide) (rm_alts hR ha) ?_
  refine E_if_leN (t := 13) dX11_isVain_6 (by decide) (by omega) (fun c6 => ?_) (fun c6 => ?_)
  · skip
    have hv : false = (decide (0 < T 65 a) && allN (fun k => !(T 66 (3 * a + k) &&& T 67 (3 * a + k) == 0)) 0) := by rw [c6]; rfl
    refine E_iconst (v := nI 0) dX11_isVain_13 rfl ?_
    refine E_top (show nI 0 = bI false from rfl) ?_
    refine E_ist_n (i := 2) dX11_isVain_14 rfl (by decide) rfl ?_
    refine E_iconst (v := nI 0) dX11_isVain_15 rfl ?_
    refine E_ist_n (i := 3) dX11_isVain_16 rfl (by decide) rfl ?_
    exact L (T 65 a + 1) 0 _ (by omega) (by omega) hv
  · skip
    have hv : true = (decide (0 < T 65 a) && allN (fun k => !(T 66 (3 * a + k) &&& T 67 (3 * a + k) == 0)) 0) := by rw [decide_eq_true c6]; rfl
    refine E_iconst (v := nI 1) dX11_isVain_9 rfl ?_
    refine E_goto (t := 14) dX11_isVain_10 (by decide) ?_
    refine E_top (show nI 1 = bI true from rfl) ?_
    refine E_ist_n (i := 2) dX11_isVain_14 rfl (by decide) rfl ?_
    refine E_iconst (v := nI 0) dX11_isVain_15 rfl ?_
    refine E_ist_n (i := 3) dX11_isVain_16 rfl (by decide) rfl ?_
    exact L (T 65 a + 1) 0 _ (by omega) (by omega) hv
def mrAnswer (T : TK) (x w : Int32) : Int32 := if isAn T x = false then -1000001 else
  if w = nI 0 then nI (T 62 x.toInt.toNat) else if w = nI 1 then nI (T 63 x.toInt.toNat) else if w = nI 2 then nI (T 64 x.toInt.toNat) else if w = nI 3 then nI (T 65 x.toInt.toNat) else
  if w = nI 4 then nI (T 68 x.toInt.toNat) else if w = nI 5 then nI (T 69 x.toInt.toNat) else if w = nI 6 then bI (T 70 x.toInt.toNat == 1) else if w = nI 7 then bI (opn T x.toInt.toNat (her T) 0) else
  if w = nI 8 then bI (vaiB T x.toInt.toNat) else if inI w 10 ((9 + 2 * T 65 x.toInt.toNat : Nat) : Int) = false then -1000002 else
  if w.toInt.toNat % 2 = 0 then nI (T 66 (3 * x.toInt.toNat + (w.toInt.toNat - 10) / 2)) else nI (T 67 (3 * x.toInt.toNat + (w.toInt.toNat - 10) / 2))
theorem m_answer (hM : MS T M) {x w : Int32} : Call g qX11_answer [.ref 61, .int x, .int w] M (RtM (mrAnswer T x w) T M) := by
  obtain ⟨hR, hB, hS, hA, hX⟩ := id hM
  have h32 := rm_32 hR
  have hher := herN_lt hR hB hS (T 61 15) (Nat.le_refl _)
  have n0 : ∀ {a b : Nat}, a ≤ 10 → b ≤ 10 → ¬ a = b → ¬ nI a = nI b := fun h1 h2 h3 e => h3 ((nI_eq (by omega) (by omega)).mp e)
  refine Call_of (ls0 := [some (.ref 61), some (.int x), some (.int w), none]) rfl rfl (Nat.le_of_ble_eq_true rfl) ?_
  refine E_aload_n dX11_answer_0 rfl ?_
  refine E_iload_n dX11_answer_1 rfl ?_
  refine E_callV (r := qX11_isAnswer) (ci := 11) dX11_answer_2 mkX11_217 voX11_isAnswer rfl rfl rfl ⟨Nat.le_of_ble_eq_true rfl, Nat.le_of_ble_eq_true rfl, Nat.le_of_ble_eq_true rfl, Nat.le_of_ble_eq_true rfl⟩ (m_isAnswer hR) rfl (Nat.le_of_ble_eq_true rfl) ?_
  rintro _ _ ⟨rfl, rfl⟩
  refine E_if_neB (t := 11) dX11_answer_5 (by decide) (fun c5 => ?_) (fun c5 => ?_)
  · skip
    obtain ⟨a, ha1, ha2, rfl, ha3⟩ := inI_nat c5 (by decide)
    have ht : ¬ isAn T (nI a) = false := by unfold isAn; rw [c5]; decide
    have ha : a < T 61 0 := by omega
    have hal := (wt_a (rm_wt hR) ha).2.2.2.1
    refine E_iload_n dX11_answer_11 rfl ?_
    have hsw : w = nI 0 ∨ w = nI 1 ∨ w = nI 2 ∨ w = nI 3 ∨ w = nI 4 ∨ w = nI 5 ∨ w = nI 6 ∨ w = nI 7 ∨ w = nI 8 ∨ (w.toInt < 0 ∨ 8 < w.toInt) := by
      rcases sw_ex w 8 (by decide) with ⟨j, hj, rfl⟩ | h7
      · rcases (show j = 0 ∨ j = 1 ∨ j = 2 ∨ j = 3 ∨ j = 4 ∨ j = 5 ∨ j = 6 ∨ j = 7 ∨ j = 8 by omega) with rfl | rfl | rfl | rfl | rfl | rfl | rfl | rfl | rfl <;> simp
      · exact Or.inr (Or.inr (Or.inr (Or.inr (Or.inr (Or.inr (Or.inr (Or.inr (Or.inr (h7)))))))))
    rcases hsw with rfl | rfl | rfl | rfl | rfl | rfl | rfl | rfl | rfl | hw
    · skip
      refine E_swIn (t := 64) (off := 52) dX11_answer_12 (by decide) (by decide) (by decide) (by decide) ?_
      refine E_aload_n dX11_answer_64 rfl ?_
      refine E_getR' (ci := 11) (j := 4) (p := 62) dX11_answer_65 fkX11_7 rfl (by decide) rfl (by decide) (rfl) ?_
      refine E_iload_n dX11_answer_68 rfl ?_
      refine E_ialdN dX11_answer_69 rfl (by omega) (by decide) (rm_from hR ha) ?_
      refine E_iret dX11_answer_70 rfl ?_
      exact ⟨by unfold mrAnswer; rw [if_neg ht, if_pos rfl, nI_tn ha3], Sb.rf, hM⟩
    · skip
      refine E_swIn (t := 71) (off := 59) dX11_answer_12 (by decide) (by decide) (by decide) (by decide) ?_
      refine E_aload_n dX11_answer_71 rfl ?_
      refine E_getR' (ci := 11) (j := 5) (p := 63) dX11_answer_72 fkX11_13 rfl (by decide) rfl (by decide) (rfl) ?_
      refine E_iload_n dX11_answer_75 rfl ?_
      refine E_ialdN dX11_answer_76 rfl (by omega) (by decide) (rm_to hR ha) ?_
      refine E_iret dX11_answer_77 rfl ?_
      exact ⟨by unfold mrAnswer; rw [if_neg ht, if_neg (n0 (by decide) (by decide) (by decide)), if_pos rfl, nI_tn ha3], Sb.rf, hM⟩
    · skip
      refine E_swIn (t := 78) (off := 66) dX11_answer_12 (by decide) (by decide) (by decide) (by decide) ?_
      refine E_aload_n dX11_answer_78 rfl ?_
      refine E_getR' (ci := 11) (j := 6) (p := 64) dX11_answer_79 fkX11_16 rfl (by decide) rfl (by decide) (rfl) ?_
      refine E_iload_n dX11_answer_82 rfl ?_
      refine E_ialdN dX11_answer_83 rfl (by omega) (by decide) (rm_cost hR ha) ?_
      refine E_iret dX11_answer_84 rfl ?_
      exact ⟨by unfold mrAnswer; rw [if_neg ht, if_neg (n0 (by decide) (by decide) (by decide)), if_neg (n0 (by decide) (by decide) (by decide)), if_pos rfl, nI_tn ha3], Sb.rf, hM⟩
    · skip
      refine E_swIn (t := 85) (off := 73) dX11_answer_12 (by decide) (by decide) (by decide) (by decide) ?_
      refine E_aload_n dX11_answer_85 rfl ?_
      refine E_getR' (ci := 11) (j := 7) (p := 65) dX11_answer_86 fkX11_19 rfl (by decide) rfl (by decide) (rfl) ?_
      refine E_iload_n dX11_answer_89 rfl ?_
      refine E_ialdN dX11_answer_90 rfl (by omega) (by decide) (rm_alts hR ha) ?_
      refine E_iret dX11_answer_91 rfl ?_
      exact ⟨by unfold mrAnswer; rw [if_neg ht, if_neg (n0 (by decide) (by decide) (by decide)), if_neg (n0 (by decide) (by decide) (by decide)), if_neg (n0 (by decide) (by decide) (by decide)), if_pos rfl, nI_tn ha3], Sb.rf, hM⟩
    · skip
      refine E_swIn (t := 92) (off := 80) dX11_answer_12 (by decide) (by decide) (by decide) (by decide) ?_
      refine E_aload_n dX11_answer_92 rfl ?_
      refine E_getR' (ci := 11) (j := 10) (p := 68) dX11_answer_93 fkX11_28 rfl (by decide) rfl (by decide) (rfl) ?_
      refine E_iload_n dX11_answer_96 rfl ?_
      refine E_ialdN dX11_answer_97 rfl (by omega) (by decide) (rm_lays hR ha) ?_
      refine E_iret dX11_answer_98 rfl ?_
      exact ⟨by unfold mrAnswer; rw [if_neg ht, if_neg (n0 (by decide) (by decide) (by decide)), if_neg (n0 (by decide) (by decide) (by decide)), if_neg (n0 (by decide) (by decide) (by decide)), if_neg (n0 (by decide) (by decide) (by decide)), if_pos rfl, nI_tn ha3], Sb.rf, hM⟩
    · skip
      refine E_swIn (t := 99) (off := 87) dX11_answer_12 (by decide) (by decide) (by decide) (by decide) ?_
      refine E_aload_n dX11_answer_99 rfl ?_
      refine E_getR' (ci := 11) (j := 11) (p := 69) dX11_answer_100 fkX11_31 rfl (by decide) rfl (by decide) (rfl) ?_
      refine E_iload_n dX11_answer_103 rfl ?_
      refine E_ialdN dX11_answer_104 rfl (by omega) (by decide) (rm_takes hR ha) ?_
      refine E_iret dX11_answer_105 rfl ?_
      exact ⟨by unfold mrAnswer; rw [if_neg ht, if_neg (n0 (by decide) (by decide) (by decide)), if_neg (n0 (by decide) (by decide) (by decide)), if_neg (n0 (by decide) (by decide) (by decide)), if_neg (n0 (by decide) (by decide) (by decide)), if_neg (n0 (by decide) (by decide) (by decide)), if_pos rfl, nI_tn ha3], Sb.rf, hM⟩
    · skip
      refine E_swIn (t := 106) (off := 94) dX11_answer_12 (by decide) (by decide) (by decide) (by decide) ?_
      refine E_aload_n dX11_answer_106 rfl ?_
      refine E_getR' (ci := 11) (j := 12) (p := 70) dX11_answer_107 fkX11_34 rfl (by decide) rfl (by decide) (rfl) ?_
      refine E_iload_n dX11_answer_110 rfl ?_
      refine E_zaldN dX11_answer_111 rfl (by omega) (by decide) (rm_cut hR ha) ?_
      refine E_if_eqB (t := 119) dX11_answer_112 (by decide) (fun c112 => ?_) (fun c112 => ?_)
      · skip
        refine E_iconst (v := nI 0) dX11_answer_119 rfl ?_
        refine E_iret dX11_answer_120 rfl ?_
        exact ⟨by unfold mrAnswer; rw [if_neg ht, if_neg (n0 (by decide) (by decide) (by decide)), if_neg (n0 (by decide) (by decide) (by decide)), if_neg (n0 (by decide) (by decide) (by decide)), if_neg (n0 (by decide) (by decide) (by decide)), if_neg (n0 (by decide) (by decide) (by decide)), if_neg (n0 (by decide) (by decide) (by decide)), if_pos rfl, nI_tn ha3]; first | exact congrArg (fun z => some (Value.int z)) (nI1_b c112) | exact congrArg (fun z => some (Value.int z)) (nI0_b c112), Sb.rf, hM⟩
      · skip
        refine E_iconst (v := nI 1) dX11_answer_115 rfl ?_
        refine E_goto (t := 120) dX11_answer_116 (by decide) ?_
        refine E_iret dX11_answer_120 rfl ?_
        exact ⟨by unfold mrAnswer; rw [if_neg ht, if_neg (n0 (by decide) (by decide) (by decide)), if_neg (n0 (by decide) (by decide) (by decide)), if_neg (n0 (by decide) (by decide) (by decide)), if_neg (n0 (by decide) (by decide) (by decide)), if_neg (n0 (by decide) (by decide) (by decide)), if_neg (n0 (by decide) (by decide) (by decide)), if_pos rfl, nI_tn ha3]; first | exact congrArg (fun z => some (Value.int z)) (nI1_b c112) | exact congrArg (fun z => some (Value.int z)) (nI0_b c112), Sb.rf, hM⟩
    · skip
      refine E_swIn (t := 121) (off := 109) dX11_answer_12 (by decide) (by decide) (by decide) (by decide) ?_
      refine E_aload_n dX11_answer_121 rfl ?_
      refine E_iload_n dX11_answer_122 rfl ?_
      refine E_aload_n dX11_answer_123 rfl ?_
      refine E_callV (r := qX11_here) (ci := 11) dX11_answer_124 mkX11_221 voX11_here rfl rfl rfl ⟨Nat.le_of_ble_eq_true rfl, Nat.le_of_ble_eq_true rfl, Nat.le_of_ble_eq_true rfl, Nat.le_of_ble_eq_true rfl⟩ (m_here hR hB hS) rfl (Nat.le_of_ble_eq_true rfl) ?_
      rintro _ _ ⟨rfl, rfl⟩
      refine E_iconst (v := -1) dX11_answer_127 rfl ?_
      refine E_callV (r := qX11_isOpen) (ci := 11) dX11_answer_128 mkX11_105 voX11_isOpen rfl rfl rfl ⟨Nat.le_of_ble_eq_true rfl, Nat.le_of_ble_eq_true rfl, Nat.le_of_ble_eq_true rfl, Nat.le_of_ble_eq_true rfl⟩ (m_isOpen0 hR ha hher) rfl (Nat.le_of_ble_eq_true rfl) ?_
      rintro _ _ ⟨rfl, rfl⟩
      refine E_if_eqB (t := 138) dX11_answer_131 (by decide) (fun c131 => ?_) (fun c131 => ?_)
      · skip
        refine E_iconst (v := nI 0) dX11_answer_138 rfl ?_
        refine E_iret dX11_answer_139 rfl ?_
        exact ⟨by unfold mrAnswer; rw [if_neg ht, if_neg (n0 (by decide) (by decide) (by decide)), if_neg (n0 (by decide) (by decide) (by decide)), if_neg (n0 (by decide) (by decide) (by decide)), if_neg (n0 (by decide) (by decide) (by decide)), if_neg (n0 (by decide) (by decide) (by decide)), if_neg (n0 (by decide) (by decide) (by decide)), if_neg (n0 (by decide) (by decide) (by decide)), if_pos rfl, nI_tn ha3]; first | exact congrArg (fun z => some (Value.int z)) (nI1_b c131) | exact congrArg (fun z => some (Value.int z)) (nI0_b c131), Sb.rf, hM⟩
      · skip
        refine E_iconst (v := nI 1) dX11_answer_134 rfl ?_
        refine E_goto (t := 139) dX11_answer_135 (by decide) ?_
        refine E_iret dX11_answer_139 rfl ?_
        exact ⟨by unfold mrAnswer; rw [if_neg ht, if_neg (n0 (by decide) (by decide) (by decide)), if_neg (n0 (by decide) (by decide) (by decide)), if_neg (n0 (by decide) (by decide) (by decide)), if_neg (n0 (by decide) (by decide) (by decide)), if_neg (n0 (by decide) (by decide) (by decide)), if_neg (n0 (by decide) (by decide) (by decide)), if_neg (n0 (by decide) (by decide) (by decide)), if_pos rfl, nI_tn ha3]; first | exact congrArg (fun z => some (Value.int z)) (nI1_b c131) | exact congrArg (fun z => some (Value.int z)) (nI0_b c131), Sb.rf, hM⟩
    · skip
      refine E_swIn (t := 140) (off := 128) dX11_answer_12 (by decide) (by decide) (by decide) (by decide) ?_
      refine E_aload_n dX11_answer_140 rfl ?_
      refine E_iload_n dX11_answer_141 rfl ?_
      refine E_callV (r := qX11_isVain) (ci := 11) dX11_answer_142 mkX11_232 voX11_isVain rfl rfl rfl ⟨Nat.le_of_ble_eq_true rfl, Nat.le_of_ble_eq_true rfl, Nat.le_of_ble_eq_true rfl, Nat.le_of_ble_eq_true rfl⟩ (m_isVain hR ha) rfl (Nat.le_of_ble_eq_true rfl) ?_
      rintro _ _ ⟨rfl, rfl⟩
      refine E_if_eqB (t := 152) dX11_answer_145 (by decide) (fun c145 => ?_) (fun c145 => ?_)
      · skip
        refine E_iconst (v := nI 0) dX11_answer_152 rfl ?_
        refine E_iret dX11_answer_153 rfl ?_
        exact ⟨by unfold mrAnswer; rw [if_neg ht, if_neg (n0 (by decide) (by decide) (by decide)), if_neg (n0 (by decide) (by decide) (by decide)), if_neg (n0 (by decide) (by decide) (by decide)), if_neg (n0 (by decide) (by decide) (by decide)), if_neg (n0 (by decide) (by decide) (by decide)), if_neg (n0 (by decide) (by decide) (by decide)), if_neg (n0 (by decide) (by decide) (by decide)), if_neg (n0 (by decide) (by decide) (by decide)), if_pos rfl, nI_tn ha3]; first | exact congrArg (fun z => some (Value.int z)) (nI1_b c145) | exact congrArg (fun z => some (Value.int z)) (nI0_b c145), Sb.rf, hM⟩
      · skip
        refine E_iconst (v := nI 1) dX11_answer_148 rfl ?_
        refine E_goto (t := 153) dX11_answer_149 (by decide) ?_
        refine E_iret dX11_answer_153 rfl ?_
        exact ⟨by unfold mrAnswer; rw [if_neg ht, if_neg (n0 (by decide) (by decide) (by decide)), if_neg (n0 (by decide) (by decide) (by decide)), if_neg (n0 (by decide) (by decide) (by decide)), if_neg (n0 (by decide) (by decide) (by decide)), if_neg (n0 (by decide) (by decide) (by decide)), if_neg (n0 (by decide) (by decide) (by decide)), if_neg (n0 (by decide) (by decide) (by decide)), if_neg (n0 (by decide) (by decide) (by decide)), if_pos rfl, nI_tn ha3]; first | exact congrArg (fun z => some (Value.int z)) (nI1_b c145) | exact congrArg (fun z => some (Value.int z)) (nI0_b c145), Sb.rf, hM⟩
    · skip
      have ne : ∀ j, j ≤ 8 → ¬ w = nI j := fun j hj => sw_ne hw hj (by decide)
      refine E_swOut (t := 154) dX11_answer_12 (hw) (by decide) ?_
      refine E_iload_n dX11_answer_154 rfl ?_
      refine E_i2l dX11_answer_155 ?_
      refine E_ldc2 dX11_answer_156 clX11_235 ?_
      refine E_bipush (v := nI 9) dX11_answer_159 rfl ?_
      refine E_iconst (v := nI 2) dX11_answer_161 rfl ?_
      refine E_aload_n dX11_answer_162 rfl ?_
      refine E_getR' (ci := 11) (j := 7) (p := 65) dX11_answer_163 fkX11_19 rfl (by decide) rfl (by decide) (rfl) ?_
      refine E_iload_n dX11_answer_166 rfl ?_
      refine E_ialdN dX11_answer_167 rfl (by omega) (by decide) (rm_alts hR ha) ?_
      refine E_imulN dX11_answer_168 ?_
      refine E_iaddN dX11_answer_169 ?_
      refine E_i2l dX11_answer_170 ?_
      refine E_callS (r := qX11_in) dX11_answer_171 mkX11_88 toX11_in rfl ⟨Nat.le_of_ble_eq_true rfl, Nat.le_of_ble_eq_true rfl, Nat.le_of_ble_eq_true rfl, Nat.le_of_ble_eq_true rfl⟩ (m_inI) rfl (Nat.le_of_ble_eq_true rfl) ?_
      rintro _ _ ⟨rfl, rfl⟩
      refine E_top (show _ = bI (inI w 10 ((9 + 2 * T 65 a : Nat) : Int)) by rw [Int32.toInt_toInt64, nI_toInt (by omega)]; rfl) ?_
      refine E_if_neB (t := 180) dX11_answer_174 (by decide) (fun c174 => ?_) (fun c174 => ?_)
      · skip
        obtain ⟨j, hj1, hj2, rfl, hj3⟩ := inI_nat c174 (by decide)
        refine E_iconst (v := nI 3) dX11_answer_180 rfl ?_
        refine E_iload_n dX11_answer_181 rfl ?_
        refine E_imulN dX11_answer_182 ?_
        refine E_iload_n dX11_answer_183 rfl ?_
        refine E_bipush (v := nI 10) dX11_answer_184 rfl ?_
        refine E_isubN dX11_answer_186 (by omega) ?_
        refine E_iconst (v := nI 2) dX11_answer_187 rfl ?_
        refine E_idivN dX11_answer_188 (by omega) (by decide) (by decide) ?_
        refine E_iaddN dX11_answer_189 ?_
        refine E_ist_n (i := 3) dX11_answer_190 rfl (by decide) rfl ?_
        refine E_iload_n dX11_answer_191 rfl ?_
        refine E_iconst (v := nI 2) dX11_answer_192 rfl ?_
        refine E_iremN dX11_answer_193 (by omega) (by decide) (by decide) ?_
        refine E_if_neN (t := 206) dX11_answer_194 (by decide) (by omega) (fun c194 => ?_) (fun c194 => ?_)
        · skip
          refine E_aload_n dX11_answer_206 rfl ?_
          refine E_getR' (ci := 11) (j := 9) (p := 67) dX11_answer_207 fkX11_25 rfl (by decide) rfl (by decide) (rfl) ?_
          refine E_iload_n dX11_answer_210 rfl ?_
          refine E_ialdN dX11_answer_211 rfl (by omega) (by decide) (rm_bars hR ha (k := (j - 10) / 2) (by omega)) ?_
          refine E_iret dX11_answer_212 rfl ?_
          first | exact ⟨by unfold mrAnswer; rw [if_neg ht, if_neg (ne 0 (by decide)), if_neg (ne 1 (by decide)), if_neg (ne 2 (by decide)), if_neg (ne 3 (by decide)), if_neg (ne 4 (by decide)), if_neg (ne 5 (by decide)), if_neg (ne 6 (by decide)), if_neg (ne 7 (by decide)), if_neg (ne 8 (by decide)), nI_tn ha3, if_neg (by rw [c174]; decide), nI_tn hj3, if_pos c194], Sb.rf, hM⟩ | exact ⟨by unfold mrAnswer; rw [if_neg ht, if_neg (ne 0 (by decide)), if_neg (ne 1 (by decide)), if_neg (ne 2 (by decide)), if_neg (ne 3 (by decide)), if_neg (ne 4 (by decide)), if_neg (ne 5 (by decide)), if_neg (ne 6 (by decide)), if_neg (ne 7 (by decide)), if_neg (ne 8 (by decide)), nI_tn ha3, if_neg (by rw [c174]; decide), nI_tn hj3, if_neg (by omega)], Sb.rf, hM⟩
        · skip
          refine E_aload_n dX11_answer_197 rfl ?_
          refine E_getR' (ci := 11) (j := 8) (p := 66) dX11_answer_198 fkX11_22 rfl (by decide) rfl (by decide) (rfl) ?_
          refine E_iload_n dX11_answer_201 rfl ?_
          refine E_ialdN dX11_answer_202 rfl (by omega) (by decide) (rm_wants hR ha (k := (j - 10) / 2) (by omega)) ?_
          refine E_goto (t := 212) dX11_answer_203 (by decide) ?_
          refine E_iret dX11_answer_212 rfl ?_
          first | exact ⟨by unfold mrAnswer; rw [if_neg ht, if_neg (ne 0 (by decide)), if_neg (ne 1 (by decide)), if_neg (ne 2 (by decide)), if_neg (ne 3 (by decide)), if_neg (ne 4 (by decide)), if_neg (ne 5 (by decide)), if_neg (ne 6 (by decide)), if_neg (ne 7 (by decide)), if_neg (ne 8 (by decide)), nI_tn ha3, if_neg (by rw [c174]; decide), nI_tn hj3, if_pos c194], Sb.rf, hM⟩ | exact ⟨by unfold mrAnswer; rw [if_neg ht, if_neg (ne 0 (by decide)), if_neg (ne 1 (by decide)), if_neg (ne 2 (by decide)), if_neg (ne 3 (by decide)), if_neg (ne 4 (by decide)), if_neg (ne 5 (by decide)), if_neg (ne 6 (by decide)), if_neg (ne 7 (by decide)), if_neg (ne 8 (by decide)), nI_tn ha3, if_neg (by rw [c174]; decide), nI_tn hj3, if_neg (by omega)], Sb.rf, hM⟩
      · skip
        refine E_ldc dX11_answer_177 ckX11_131 ?_
        refine E_iret dX11_answer_179 rfl ?_
        exact ⟨by unfold mrAnswer; rw [if_neg ht, if_neg (ne 0 (by decide)), if_neg (ne 1 (by decide)), if_neg (ne 2 (by decide)), if_neg (ne 3 (by decide)), if_neg (ne 4 (by decide)), if_neg (ne 5 (by decide)), if_neg (ne 6 (by decide)), if_neg (ne 7 (by decide)), if_neg (ne 8 (by decide)), nI_tn ha3, if_pos c174], Sb.rf, hM⟩
  · skip
    have ht : isAn T x = false := c5
    refine E_ldc dX11_answer_8 ckX11_214 ?_
    refine E_iret dX11_answer_10 rfl ?_
    exact ⟨by unfold mrAnswer; rw [if_pos ht], Sb.rf, hM⟩
end M16
