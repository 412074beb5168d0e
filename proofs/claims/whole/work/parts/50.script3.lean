-- the class: the rest of a script
theorem bsN_s {f : Nat → Bool} {n : Nat} : bsN f (n + 1) = bsN f n ||| (f n).toNat * 2 ^ n := by
  rw [bsN]
  cases f n <;> simp
theorem bsN_bit {f : Nat → Bool} {i : Nat} : ∀ n, (bsN f n).testBit i = (decide (i < n) && f i)
  | 0 => by rw [bsN, Nat.zero_testBit, decide_eq_false (by omega)]; rfl
  | n + 1 => by
    rw [bsN, Nat.testBit_or, bsN_bit n]
    by_cases e : f n = true
    · rw [if_pos e, Nat.testBit_two_pow]
      by_cases e2 : n = i
      · subst e2; simp [e]
      · rw [decide_eq_false e2, Bool.or_false]
        congr 1
        exact decide_eq_decide.mpr (by omega)
    · rw [if_neg e, Nat.zero_testBit, Bool.or_false]
      by_cases e2 : n = i
      · subst e2; simp [Bool.eq_false_iff.mpr e]
      · congr 1
        exact decide_eq_decide.mpr (by omega)
theorem bsN_lt {f : Nat → Bool} : ∀ n, bsN f n < 2 ^ n
  | 0 => by rw [bsN]; decide
  | n + 1 => by
    rw [bsN]
    refine Nat.or_lt_two_pow (Nat.lt_of_lt_of_le (bsN_lt n) (Nat.pow_le_pow_right (by decide) (by omega))) ?_
    split
    · exact Nat.pow_lt_pow_right (by decide) (by omega)
    · exact Nat.pow_pos (by decide)
theorem allN_iff {f : Nat → Bool} : ∀ {n : Nat}, allN f n = true ↔ ∀ k, k < n → f k = true
  | 0 => ⟨fun _ k hk => absurd hk (Nat.not_lt_zero k), fun _ => rfl⟩
  | n + 1 => by
    rw [allN, Bool.and_eq_true, allN_iff]
    refine ⟨fun h k hk => ?_, fun h => ⟨fun k hk => h k (by omega), h n (by omega)⟩⟩
    by_cases e : k = n
    · rw [e]; exact h.2
    · exact h.1 k (by omega)
theorem grN_lt {T : TK} (h : WT T) {a : Nat} (ha : a < T 61 0) : ∀ k, k ≤ T 65 a → grN T a k < 64
  | 0, _ => by rw [grN]; decide
  | k + 1, hk => by
    have h1 := (h.2.2.2.2 a ha).2 k (by omega)
    rw [grN]
    exact or_64 (grN_lt h ha k (by omega)) (or_64 h1.1 h1.2)
def cuS (C a o : Nat) : Nat := if o = 1 then C ||| 1 * 2 ^ a else ndf C (1 * 2 ^ a)
theorem cuS_ok {T T' : TK} {C a o : Nat} (h : cutS T C) (ha : a < T 61 0) (h32 : T 61 0 ≤ 32) (ho : o ≤ 1) (h0 : T' 61 0 = T 61 0) (h1 : ∀ i, i < T 61 0 → T' 70 i = if i = a then o else T 70 i) : cutS T' (cuS C a o) := by
  have h2 : 2 ^ a < 2 ^ 32 := Nat.pow_lt_pow_right (by decide) (by omega)
  unfold cuS
  rw [Nat.one_mul]
  refine ⟨?_, fun i => ?_⟩
  · split
    · exact Nat.or_lt_two_pow h.1 h2
    · exact Nat.lt_of_le_of_lt (ndf_le _ _) h.1
  · rw [h0]
    by_cases hi : i < T 61 0
    · rw [decide_eq_true hi, Bool.true_and, h1 i hi]
      have h3 : C.testBit i = (T 70 i == 1) := by rw [h.2 i, decide_eq_true hi, Bool.true_and]
      by_cases e : i = a
      · subst e
        rw [if_pos rfl]
        by_cases e1 : o = 1
        · rw [if_pos e1, Nat.testBit_or, Nat.testBit_two_pow, decide_eq_true rfl, Bool.or_true, e1]; rfl
        · rw [if_neg e1, ndf_bit, Nat.testBit_two_pow, decide_eq_true rfl, Bool.not_true, Bool.and_false, show o = 0 by omega]; rfl
      · rw [if_neg e]
        by_cases e1 : o = 1
        · rw [if_pos e1, Nat.testBit_or, Nat.testBit_two_pow, decide_eq_false (fun h => e h.symm), Bool.or_false, h3]
        · rw [if_neg e1, ndf_bit, Nat.testBit_two_pow, decide_eq_false (fun h => e h.symm), Bool.not_false, Bool.and_true, h3]
    · rw [decide_eq_false hi, Bool.false_and]
      have h3 : C.testBit i = false := by rw [h.2 i, decide_eq_false hi, Bool.false_and]
      by_cases e1 : o = 1
      · rw [if_pos e1, Nat.testBit_or, Nat.testBit_two_pow, decide_eq_false (by omega), h3]; rfl
      · rw [if_neg e1, ndf_bit, h3]; rfl
section S4
variable {g : GG} {M : AM} {T : TK} {p : Nat}
theorem c_setCut (hs : Sp p) {C a o : Nat} (h : M.1 p 14 = nI C) (ha : a < 32) (ho : o ≤ 1) : Call g qX8_setCut [.ref p, .int (nI a), .int (nI o)] M (fun v M' => v = none ∧ M' = sI M p 14 (nI (cuS C a o))) := by
  have h2 : 1 * 2 ^ a < 2 ^ 32 := by rw [Nat.one_mul]; exact Nat.pow_lt_pow_right (by decide) (by omega)
  have k1 : o = 1 → nI (C ||| 1 * 2 ^ a) = nI (cuS C a o) := fun e => by unfold cuS; rw [if_pos e]
  have k2 : ¬ o = 1 → nI (ndf C (1 * 2 ^ a)) = nI (cuS C a o) := fun e => by unfold cuS; rw [if_neg e]
  refine Call_of (ls0 := [some (.ref p), some (.int (nI a)), some (.int (nI o))]) rfl rfl (Nat.le_of_ble_eq_true rfl) ?_
  refine E_aload_n dX8_setCut_0 rfl ?_
  refine E_iload_n dX8_setCut_1 rfl ?_
  refine E_iconst (v := nI 1) dX8_setCut_2 rfl ?_
  refine E_icmp_neN (t := 17) dX8_setCut_3 (by decide) (by omega) (by omega) (fun c3 => ?_) (fun c3 => ?_)
  · skip
    have key := k2 c3
    refine E_aload_n dX8_setCut_17 rfl ?_
    refine E_getI' (ci := 8) (j := 14) dX8_setCut_18 fkX8_61 rfl (by decide) (kS hs) (by decide) (h) ?_
    refine E_iconst (v := nI 1) dX8_setCut_21 rfl ?_
    refine E_iload_n dX8_setCut_22 rfl ?_
    refine E_ishlN dX8_setCut_23 ha h2 ?_
    refine E_iconst (v := -1) dX8_setCut_24 rfl ?_
    refine E_ixor dX8_setCut_25 ?_
    refine E_iandNC dX8_setCut_26 ?_
    refine E_putI (ci := 8) (j := 14) dX8_setCut_27 fkX8_61 rfl (by decide) (kS hs) (by decide) ?_
    refine E_vret dX8_setCut_30 rfl ?_
    exact ⟨rfl, by rw [key]⟩
  · skip
    have key := k1 c3
    refine E_aload_n dX8_setCut_6 rfl ?_
    refine E_getI' (ci := 8) (j := 14) dX8_setCut_7 fkX8_61 rfl (by decide) (kS hs) (by decide) (h) ?_
    refine E_iconst (v := nI 1) dX8_setCut_10 rfl ?_
    refine E_iload_n dX8_setCut_11 rfl ?_
    refine E_ishlN dX8_setCut_12 ha h2 ?_
    refine E_iorN dX8_setCut_13 ?_
    refine E_goto (t := 27) dX8_setCut_14 (by decide) ?_
    refine E_putI (ci := 8) (j := 14) dX8_setCut_27 fkX8_61 rfl (by decide) (kS hs) (by decide) ?_
    refine E_vret dX8_setCut_30 rfl ?_
    exact ⟨rfl, by rw [key]⟩
theorem c_contra (h : SC T p M) {a : Nat} (ha : a < T 61 0) : Call g qX8_guardContradictsItself [.ref p, .int (nI a)] M (Rt (bI (vaiB T a)) M) := by
  have hs := h.1
  have h32 := sc_32 h
  have h3 := (wt_a h.2.2.1 ha).2.2.2.1
  have L : ∀ (n k : Nat), k ≤ T 65 a → T 65 a < k + n → allN (fun k => !(T 66 (3 * a + k) &&& T 67 (3 * a + k) == 0)) k = true → Ex g qX8_guardContradictsItself (tm g qX8_guardContradictsItself (Rt (bI (vaiB T a)) M)) 6 [some (.ref p), some (.int (nI a)), some (.int (nI (a * 3))), some (.int (nI (a * 3 + k)))] [] M := by
    intro n
    induction n with
    | zero => intro k h1 h2; exact absurd h2 (by omega)
    | succ n ih =>
      intro k hk hn hall
      rw [show a * 3 = 3 * a by omega]
      have hwb : k < T 65 a → T 66 (3 * a + k) < 64 ∧ T 67 (3 * a + k) < 64 := fun h1 => (h.2.2.1.2.2.2.2 a ha).2 k h1
      have hlt : k < T 65 a → T 66 (3 * a + k) &&& T 67 (3 * a + k) < 2 ^ 31 := fun h1 => Nat.lt_of_le_of_lt Nat.and_le_left (by have := hwb h1; omega)
      have hno : k < T 65 a → T 66 (3 * a + k) &&& T 67 (3 * a + k) = 0 → false = vaiB T a := fun h1 h2 => by
        symm
        unfold vaiB
        rw [Bool.eq_false_iff]
        intro e
        rw [Bool.and_eq_true, allN_iff] at e
        have := e.2 k h1
        rw [h2] at this
        cases this
      have hys : k = T 65 a → vaiB T a = decide (0 < T 65 a) := fun h1 => by
        unfold vaiB
        rw [← h1, hall, Bool.and_true]
      refine E_iload_n dX8_guardContradictsItself_6 rfl ?_
      refine E_iload_n dX8_guardContradictsItself_7 rfl ?_
      refine E_aload_n dX8_guardContradictsItself_8 rfl ?_
      refine E_getR' (ci := 8) (j := 3) (p := p+4) dX8_guardContradictsItself_9 fkX8_21 rfl (by decide) (kS hs) (by decide) ((srS hs) 3 (by decide)) ?_
      refine E_iload_n dX8_guardContradictsItself_12 rfl ?_
      refine E_ialdN dX8_guardContradictsItself_13 (kp4 hs) (by omega) (by decide) (sc_alts h ha) ?_
      refine E_iaddN dX8_guardContradictsItself_14 ?_
      refine E_icmp_geN (t := 42) dX8_guardContradictsItself_15 (by decide) (by omega) (by omega) (fun c15 => ?_) (fun c15 => ?_)
      · skip
        refine E_aload_n dX8_guardContradictsItself_42 rfl ?_
        refine E_getR' (ci := 8) (j := 3) (p := p+4) dX8_guardContradictsItself_43 fkX8_21 rfl (by decide) (kS hs) (by decide) ((srS hs) 3 (by decide)) ?_
        refine E_iload_n dX8_guardContradictsItself_46 rfl ?_
        refine E_ialdN dX8_guardContradictsItself_47 (kp4 hs) (by omega) (by decide) (sc_alts h ha) ?_
        refine E_if_leN (t := 55) dX8_guardContradictsItself_48 (by decide) (by omega) (fun c48 => ?_) (fun c48 => ?_)
        · skip
          have key : false = vaiB T a := by rw [hys (by omega), decide_eq_false (by omega)]
          refine E_iconst (v := nI 0) dX8_guardContradictsItself_55 rfl ?_
          refine E_top (show nI 0 = bI false from rfl) ?_
          refine E_zret dX8_guardContradictsItself_56 rfl (bI_01 _) ?_
          exact Rt_b key
        · skip
          have key : true = vaiB T a := by rw [hys (by omega), decide_eq_true c48]
          refine E_iconst (v := nI 1) dX8_guardContradictsItself_51 rfl ?_
          refine E_goto (t := 56) dX8_guardContradictsItself_52 (by decide) ?_
          refine E_top (show nI 1 = bI true from rfl) ?_
          refine E_zret dX8_guardContradictsItself_56 rfl (bI_01 _) ?_
          exact Rt_b key
      · skip
        refine E_aload_n dX8_guardContradictsItself_18 rfl ?_
        refine E_getR' (ci := 8) (j := 4) (p := p+5) dX8_guardContradictsItself_19 fkX8_24 rfl (by decide) (kS hs) (by decide) ((srS hs) 4 (by decide)) ?_
        refine E_iload_n dX8_guardContradictsItself_22 rfl ?_
        refine E_ialdN dX8_guardContradictsItself_23 (kp5 hs) (by omega) (by decide) (sc_wants h ha (by omega)) ?_
        refine E_aload_n dX8_guardContradictsItself_24 rfl ?_
        refine E_getR' (ci := 8) (j := 5) (p := p+6) dX8_guardContradictsItself_25 fkX8_27 rfl (by decide) (kS hs) (by decide) ((srS hs) 5 (by decide)) ?_
        refine E_iload_n dX8_guardContradictsItself_28 rfl ?_
        refine E_ialdN dX8_guardContradictsItself_29 (kp6 hs) (by omega) (by decide) (sc_bars h ha (by omega)) ?_
        refine E_iandN dX8_guardContradictsItself_30 ?_
        refine E_if_neN (t := 36) dX8_guardContradictsItself_31 (by decide) (hlt (by omega)) (fun c31 => ?_) (fun c31 => ?_)
        · skip
          refine E_iincN (b := 1) dX8_guardContradictsItself_36 rfl rfl (by decide) rfl ?_
          refine E_goto (t := 6) dX8_guardContradictsItself_39 (by decide) ?_
          rw [show 3 * a = a * 3 by omega]
          refine ih (k + 1) (by omega) (by omega) ?_
          rw [allN, hall, Bool.true_and, Bool.not_eq_true', beq_eq_false_iff_ne]
          omega
        · skip
          refine E_iconst (v := nI 0) dX8_guardContradictsItself_34 rfl ?_
          refine E_top (show nI 0 = bI false from rfl) ?_
          refine E_zret dX8_guardContradictsItself_35 rfl (bI_01 _) ?_
          exact Rt_b (hno (by omega) c31)
  refine Call_of (ls0 := [some (.ref p), some (.int (nI a)), none, none]) rfl rfl (Nat.le_of_ble_eq_true rfl) ?_
  refine E_iload_n dX8_guardContradictsItself_0 rfl ?_
  refine E_iconst (v := nI 3) dX8_guardContradictsItself_1 rfl ?_
  refine E_imulN dX8_guardContradictsItself_2 ?_
  refine E_ist_n (i := 2) dX8_guardContradictsItself_3 rfl (by decide) rfl ?_
  refine E_iload_n dX8_guardContradictsItself_4 rfl ?_
  refine E_ist_n (i := 3) dX8_guardContradictsItself_5 rfl (by decide) rfl ?_
  exact L (T 65 a + 1) 0 (Nat.zero_le _) (by omega) rfl
theorem c_thatLay (h : SC T p M) {m : Nat} (hm : m < 6) : Call g qX8_answersThatLay [.ref p, .int (nI m)] M (Rt (nI (bsN (fun a => (T 68 a).testBit m) (T 61 0))) M) := by
  have hs := h.1
  have h32 := sc_32 h
  have L : ∀ (n k : Nat), k ≤ T 61 0 → T 61 0 < k + n → Ex g qX8_answersThatLay (tm g qX8_answersThatLay (Rt (nI (bsN (fun a => (T 68 a).testBit m) (T 61 0))) M)) 4 [some (.ref p), some (.int (nI m)), some (.int (nI (bsN (fun a => (T 68 a).testBit m) k))), some (.int (nI k))] [] M := by
    intro n
    induction n with
    | zero => intro k h1 h2; exact absurd h2 (by omega)
    | succ n ih =>
      intro k hk hn
      have hsh : k < T 61 0 → ((T 68 k).testBit m).toNat * 2 ^ k < 2 ^ 32 := fun h1 => by
        have h2 : 2 ^ k < 2 ^ 32 := Nat.pow_lt_pow_right (by decide) (by omega)
        cases (T 68 k).testBit m
        · rw [show false.toNat = 0 from rfl, Nat.zero_mul]; decide
        · rw [show true.toNat = 1 from rfl, Nat.one_mul]; exact h2
      have key : k < T 61 0 → Ex g qX8_answersThatLay (tm g qX8_answersThatLay (Rt (nI (bsN (fun a => (T 68 a).testBit m) (T 61 0))) M)) 4 [some (.ref p), some (.int (nI m)), some (.int (nI (bsN (fun a => (T 68 a).testBit m) k ||| ((T 68 k).testBit m).toNat * 2 ^ k))), some (.int (nI (k + 1)))] [] M := fun h1 => by
        have := ih (k + 1) (by omega) (by omega)
        rw [bsN_s] at this
        exact this
      refine E_iload_n dX8_answersThatLay_4 rfl ?_
      refine E_aload_n dX8_answersThatLay_5 rfl ?_
      refine E_getI' (ci := 8) (j := 10) dX8_answersThatLay_6 fkX8_42 rfl (by decide) (kS hs) (by decide) (sc_6 h (j := 0) (by decide)) ?_
      refine E_icmp_geN (t := 33) dX8_answersThatLay_9 (by decide) (by omega) (by omega) (fun c9 => ?_) (fun c9 => ?_)
      · skip
        refine E_iload_n dX8_answersThatLay_33 rfl ?_
        refine E_iret dX8_answersThatLay_34 rfl ?_
        obtain rfl : k = T 61 0 := by omega
        exact Rt_n rfl
      · skip
        refine E_iload_n dX8_answersThatLay_12 rfl ?_
        refine E_aload_n dX8_answersThatLay_13 rfl ?_
        refine E_getR' (ci := 8) (j := 6) (p := p+7) dX8_answersThatLay_14 fkX8_30 rfl (by decide) (kS hs) (by decide) ((srS hs) 6 (by decide)) ?_
        refine E_iload_n dX8_answersThatLay_17 rfl ?_
        refine E_ialdN dX8_answersThatLay_18 (kp7 hs) (by omega) (by decide) (sc_lays h c9) ?_
        refine E_iload_n dX8_answersThatLay_19 rfl ?_
        refine E_callN (r := qX10_bit) (host := RX10) dX8_answersThatLay_20 (by decide) toX10_bit rfl ⟨Nat.le_of_ble_eq_true rfl, Nat.le_of_ble_eq_true rfl, Nat.le_of_ble_eq_true rfl, Nat.le_of_ble_eq_true rfl⟩ (c_bit (by omega)) rfl (Nat.le_of_ble_eq_true rfl) ?_
        rintro _ _ ⟨rfl, rfl⟩
        refine E_top (bI_nI _) ?_
        refine E_iload_n dX8_answersThatLay_23 rfl ?_
        refine E_ishlN dX8_answersThatLay_24 (by omega) (hsh c9) ?_
        refine E_iorN dX8_answersThatLay_25 ?_
        refine E_ist_n (i := 2) dX8_answersThatLay_26 rfl (by decide) rfl ?_
        refine E_iincN (b := 1) dX8_answersThatLay_27 rfl rfl (by decide) rfl ?_
        refine E_goto (t := 4) dX8_answersThatLay_30 (by decide) ?_
        exact key c9
  refine Call_of (ls0 := [some (.ref p), some (.int (nI m)), none, none]) rfl rfl (Nat.le_of_ble_eq_true rfl) ?_
  refine E_iconst (v := nI 0) dX8_answersThatLay_0 rfl ?_
  refine E_ist_n (i := 2) dX8_answersThatLay_1 rfl (by decide) rfl ?_
  refine E_iconst (v := nI 0) dX8_answersThatLay_2 rfl ?_
  refine E_ist_n (i := 3) dX8_answersThatLay_3 rfl (by decide) rfl ?_
  exact L (T 61 0 + 1) 0 (Nat.zero_le _) (by omega)
theorem c_marksOfGuard (h : SC T p M) {a : Nat} (ha : a < T 61 0) : Call g qX8_marksOfGuard [.ref p, .int (nI a)] M (Rt (nI (grN T a (T 65 a))) M) := by
  have hs := h.1
  have h32 := sc_32 h
  have h3 := (wt_a h.2.2.1 ha).2.2.2.1
  have L : ∀ (n k : Nat), k ≤ T 65 a → T 65 a < k + n → Ex g qX8_marksOfGuard (tm g qX8_marksOfGuard (Rt (nI (grN T a (T 65 a))) M)) 9 [some (.ref p), some (.int (nI a)), some (.int (nI (grN T a k))), some (.int (nI (a * 3))), some (.int (nI (a * 3 + k)))] [] M := by
    intro n
    induction n with
    | zero => intro k h1 h2; exact absurd h2 (by omega)
    | succ n ih =>
      intro k hk hn
      rw [show a * 3 = 3 * a by omega]
      refine E_iload dX8_marksOfGuard_9 rfl ?_
      refine E_iload_n dX8_marksOfGuard_11 rfl ?_
      refine E_aload_n dX8_marksOfGuard_12 rfl ?_
      refine E_getR' (ci := 8) (j := 3) (p := p+4) dX8_marksOfGuard_13 fkX8_21 rfl (by decide) (kS hs) (by decide) ((srS hs) 3 (by decide)) ?_
      refine E_iload_n dX8_marksOfGuard_16 rfl ?_
      refine E_ialdN dX8_marksOfGuard_17 (kp4 hs) (by omega) (by decide) (sc_alts h ha) ?_
      refine E_iaddN dX8_marksOfGuard_18 ?_
      refine E_icmp_geN (t := 46) dX8_marksOfGuard_19 (by decide) (by omega) (by omega) (fun c19 => ?_) (fun c19 => ?_)
      · skip
        refine E_iload_n dX8_marksOfGuard_46 rfl ?_
        refine E_iret dX8_marksOfGuard_47 rfl ?_
        exact Rt_n (by rw [show k = T 65 a by omega])
      · skip
        refine E_iload_n dX8_marksOfGuard_22 rfl ?_
        refine E_aload_n dX8_marksOfGuard_23 rfl ?_
        refine E_getR' (ci := 8) (j := 4) (p := p+5) dX8_marksOfGuard_24 fkX8_24 rfl (by decide) (kS hs) (by decide) ((srS hs) 4 (by decide)) ?_
        refine E_iload dX8_marksOfGuard_27 rfl ?_
        refine E_ialdN dX8_marksOfGuard_29 (kp5 hs) (by omega) (by decide) (sc_wants h ha (by omega)) ?_
        refine E_aload_n dX8_marksOfGuard_30 rfl ?_
        refine E_getR' (ci := 8) (j := 5) (p := p+6) dX8_marksOfGuard_31 fkX8_27 rfl (by decide) (kS hs) (by decide) ((srS hs) 5 (by decide)) ?_
        refine E_iload dX8_marksOfGuard_34 rfl ?_
        refine E_ialdN dX8_marksOfGuard_36 (kp6 hs) (by omega) (by decide) (sc_bars h ha (by omega)) ?_
        refine E_iorN dX8_marksOfGuard_37 ?_
        refine E_iorN dX8_marksOfGuard_38 ?_
        refine E_ist_n (i := 2) dX8_marksOfGuard_39 rfl (by decide) rfl ?_
        refine E_iincN (b := 1) dX8_marksOfGuard_40 rfl rfl (by decide) rfl ?_
        refine E_goto (t := 9) dX8_marksOfGuard_43 (by decide) ?_
        rw [show 3 * a = a * 3 by omega]
        have key := ih (k + 1) (by omega) (by omega)
        rw [grN, show 3 * a = a * 3 by omega] at key
        exact key
  refine Call_of (ls0 := [some (.ref p), some (.int (nI a)), none, none, none]) rfl rfl (Nat.le_of_ble_eq_true rfl) ?_
  refine E_iconst (v := nI 0) dX8_marksOfGuard_0 rfl ?_
  refine E_ist_n (i := 2) dX8_marksOfGuard_1 rfl (by decide) rfl ?_
  refine E_iload_n dX8_marksOfGuard_2 rfl ?_
  refine E_iconst (v := nI 3) dX8_marksOfGuard_3 rfl ?_
  refine E_imulN dX8_marksOfGuard_4 ?_
  refine E_ist_n (i := 3) dX8_marksOfGuard_5 rfl (by decide) rfl ?_
  refine E_iload_n dX8_marksOfGuard_6 rfl ?_
  refine E_istore dX8_marksOfGuard_7 (by decide) rfl ?_
  exact L (T 65 a + 1) 0 (Nat.zero_le _) (by omega)
theorem c_guardsThat (h : SC T p M) {m : Nat} (hm : m < 6) : Call g qX8_guardsThatName [.ref p, .int (nI m)] M (Rt (nI (cntN (askB T m) (T 61 0))) M) := by
  have hs := h.1
  have h32 := sc_32 h
  have L : ∀ (n k : Nat), k ≤ T 61 0 → T 61 0 < k + n → Ex g qX8_guardsThatName (tm g qX8_guardsThatName (Rt (nI (cntN (askB T m) (T 61 0))) M)) 4 [some (.ref p), some (.int (nI m)), some (.int (nI (cntN (askB T m) k))), some (.int (nI k))] [] M := by
    intro n
    induction n with
    | zero => intro k h1 h2; exact absurd h2 (by omega)
    | succ n ih =>
      intro k hk hn
      refine E_iload_n dX8_guardsThatName_4 rfl ?_
      refine E_aload_n dX8_guardsThatName_5 rfl ?_
      refine E_getI' (ci := 8) (j := 10) dX8_guardsThatName_6 fkX8_42 rfl (by decide) (kS hs) (by decide) (sc_6 h (j := 0) (by decide)) ?_
      refine E_icmp_geN (t := 30) dX8_guardsThatName_9 (by decide) (by omega) (by omega) (fun c9 => ?_) (fun c9 => ?_)
      · skip
        refine E_iload_n dX8_guardsThatName_30 rfl ?_
        refine E_iret dX8_guardsThatName_31 rfl ?_
        obtain rfl : k = T 61 0 := by omega
        exact Rt_n rfl
      · skip
        refine E_iload_n dX8_guardsThatName_12 rfl ?_
        refine E_aload_n dX8_guardsThatName_13 rfl ?_
        refine E_iload_n dX8_guardsThatName_14 rfl ?_
        refine E_callV (r := qX8_marksOfGuard) (ci := 8) dX8_guardsThatName_15 mkX8_75 voX8_marksOfGuard rfl (kS hs) rfl ⟨Nat.le_of_ble_eq_true rfl, Nat.le_of_ble_eq_true rfl, Nat.le_of_ble_eq_true rfl, Nat.le_of_ble_eq_true rfl⟩ (c_marksOfGuard h c9) rfl (Nat.le_of_ble_eq_true rfl) ?_
        rintro _ _ ⟨rfl, rfl⟩
        refine E_iload_n dX8_guardsThatName_18 rfl ?_
        refine E_callN (r := qX10_bit) (host := RX10) dX8_guardsThatName_19 (by decide) toX10_bit rfl ⟨Nat.le_of_ble_eq_true rfl, Nat.le_of_ble_eq_true rfl, Nat.le_of_ble_eq_true rfl, Nat.le_of_ble_eq_true rfl⟩ (c_bit (by omega)) rfl (Nat.le_of_ble_eq_true rfl) ?_
        rintro _ _ ⟨rfl, rfl⟩
        refine E_top (bI_nI _) ?_
        refine E_iaddN dX8_guardsThatName_22 ?_
        refine E_ist_n (i := 2) dX8_guardsThatName_23 rfl (by decide) rfl ?_
        refine E_iincN (b := 1) dX8_guardsThatName_24 rfl rfl (by decide) rfl ?_
        refine E_goto (t := 4) dX8_guardsThatName_27 (by decide) ?_
        exact ih (k + 1) (by omega) (by omega)
  refine Call_of (ls0 := [some (.ref p), some (.int (nI m)), none, none]) rfl rfl (Nat.le_of_ble_eq_true rfl) ?_
  refine E_iconst (v := nI 0) dX8_guardsThatName_0 rfl ?_
  refine E_ist_n (i := 2) dX8_guardsThatName_1 rfl (by decide) rfl ?_
  refine E_iconst (v := nI 0) dX8_guardsThatName_2 rfl ?_
  refine E_ist_n (i := 3) dX8_guardsThatName_3 rfl (by decide) rfl ?_
  exact L (T 61 0 + 1) 0 (Nat.zero_le _) (by omega)
theorem c_effectsThat (h : SC T p M) {m : Nat} (hm : m < 6) : Call g qX8_effectsThatName [.ref p, .int (nI m)] M (Rt (nI (cntN (layB T m) (T 61 0))) M) := by
  have hs := h.1
  have h32 := sc_32 h
  have L : ∀ (n k : Nat), k ≤ T 61 0 → T 61 0 < k + n → Ex g qX8_effectsThatName (tm g qX8_effectsThatName (Rt (nI (cntN (layB T m) (T 61 0))) M)) 4 [some (.ref p), some (.int (nI m)), some (.int (nI (cntN (layB T m) k))), some (.int (nI k))] [] M := by
    intro n
    induction n with
    | zero => intro k h1 h2; exact absurd h2 (by omega)
    | succ n ih =>
      intro k hk hn
      refine E_iload_n dX8_effectsThatName_4 rfl ?_
      refine E_aload_n dX8_effectsThatName_5 rfl ?_
      refine E_getI' (ci := 8) (j := 10) dX8_effectsThatName_6 fkX8_42 rfl (by decide) (kS hs) (by decide) (sc_6 h (j := 0) (by decide)) ?_
      refine E_icmp_geN (t := 38) dX8_effectsThatName_9 (by decide) (by omega) (by omega) (fun c9 => ?_) (fun c9 => ?_)
      · skip
        refine E_iload_n dX8_effectsThatName_38 rfl ?_
        refine E_iret dX8_effectsThatName_39 rfl ?_
        obtain rfl : k = T 61 0 := by omega
        exact Rt_n rfl
      · skip
        refine E_iload_n dX8_effectsThatName_12 rfl ?_
        refine E_aload_n dX8_effectsThatName_13 rfl ?_
        refine E_getR' (ci := 8) (j := 6) (p := p+7) dX8_effectsThatName_14 fkX8_30 rfl (by decide) (kS hs) (by decide) ((srS hs) 6 (by decide)) ?_
        refine E_iload_n dX8_effectsThatName_17 rfl ?_
        refine E_ialdN dX8_effectsThatName_18 (kp7 hs) (by omega) (by decide) (sc_lays h c9) ?_
        refine E_aload_n dX8_effectsThatName_19 rfl ?_
        refine E_getR' (ci := 8) (j := 7) (p := p+8) dX8_effectsThatName_20 fkX8_33 rfl (by decide) (kS hs) (by decide) ((srS hs) 7 (by decide)) ?_
        refine E_iload_n dX8_effectsThatName_23 rfl ?_
        refine E_ialdN dX8_effectsThatName_24 (kp8 hs) (by omega) (by decide) (sc_takes h c9) ?_
        refine E_iorN dX8_effectsThatName_25 ?_
        refine E_iload_n dX8_effectsThatName_26 rfl ?_
        refine E_callN (r := qX10_bit) (host := RX10) dX8_effectsThatName_27 (by decide) toX10_bit rfl ⟨Nat.le_of_ble_eq_true rfl, Nat.le_of_ble_eq_true rfl, Nat.le_of_ble_eq_true rfl, Nat.le_of_ble_eq_true rfl⟩ (c_bit (by omega)) rfl (Nat.le_of_ble_eq_true rfl) ?_
        rintro _ _ ⟨rfl, rfl⟩
        refine E_top (bI_nI _) ?_
        refine E_iaddN dX8_effectsThatName_30 ?_
        refine E_ist_n (i := 2) dX8_effectsThatName_31 rfl (by decide) rfl ?_
        refine E_iincN (b := 1) dX8_effectsThatName_32 rfl rfl (by decide) rfl ?_
        refine E_goto (t := 4) dX8_effectsThatName_35 (by decide) ?_
        exact ih (k + 1) (by omega) (by omega)
  refine Call_of (ls0 := [some (.ref p), some (.int (nI m)), none, none]) rfl rfl (Nat.le_of_ble_eq_true rfl) ?_
  refine E_iconst (v := nI 0) dX8_effectsThatName_0 rfl ?_
  refine E_ist_n (i := 2) dX8_effectsThatName_1 rfl (by decide) rfl ?_
  refine E_iconst (v := nI 0) dX8_effectsThatName_2 rfl ?_
  refine E_ist_n (i := 3) dX8_effectsThatName_3 rfl (by decide) rfl ?_
  exact L (T 61 0 + 1) 0 (Nat.zero_le _) (by omega)
end S4
