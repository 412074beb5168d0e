-- the class: a script as a picture; bit, guardHolds, isOpen, marksBehind, stateBehind
def Sp (p : Nat) : Prop := p = 39 ∨ p = 50
section KS
variable {p : Nat}
theorem kS (h : Sp p) : kd p = (0, 8) := by rcases h with e | e <;> subst e <;> rfl
theorem srS (h : Sp p) (j : Nat) (_ : j < 15) : sr p j = p + 1 + j := by unfold sr; rw [if_neg (by rcases h with e | e <;> omega), if_neg (by rcases h with e | e <;> omega)]
theorem kp1 (h : Sp p) : kd (p + 1) = (1, 32) := by rcases h with e | e <;> subst e <;> rfl
theorem kp2 (h : Sp p) : kd (p + 2) = (1, 32) := by rcases h with e | e <;> subst e <;> rfl
theorem kp3 (h : Sp p) : kd (p + 3) = (1, 32) := by rcases h with e | e <;> subst e <;> rfl
theorem kp4 (h : Sp p) : kd (p + 4) = (1, 32) := by rcases h with e | e <;> subst e <;> rfl
theorem kp5 (h : Sp p) : kd (p + 5) = (1, 96) := by rcases h with e | e <;> subst e <;> rfl
theorem kp6 (h : Sp p) : kd (p + 6) = (1, 96) := by rcases h with e | e <;> subst e <;> rfl
theorem kp7 (h : Sp p) : kd (p + 7) = (1, 32) := by rcases h with e | e <;> subst e <;> rfl
theorem kp8 (h : Sp p) : kd (p + 8) = (1, 32) := by rcases h with e | e <;> subst e <;> rfl
theorem kp9 (h : Sp p) : kd (p + 9) = (1, 32) := by rcases h with e | e <;> subst e <;> rfl
theorem kp10 (h : Sp p) : kd (p + 10) = (1, 17) := by rcases h with e | e <;> subst e <;> rfl
end KS
def aS (p k j : Nat) : Nat × Nat := if k = 61 then (p, 10 + j) else (p + (k - 61), j)
theorem aS_inj {p : Nat} : Inj (aS p) := by
  intro k j k' j' h1 h2 h3 h4 h5 h6
  unfold aS at h5 h6
  split at h5 <;> split at h5 <;> simp_all <;> omega
/-- the answers that are cut, as a set -/
def cutS (T : TK) (C : Nat) : Prop := C < 2 ^ 32 ∧ ∀ i, C.testBit i = (decide (i < T 61 0) && (T 70 i == 1))
def SC (T : TK) (p : Nat) (M : AM) : Prop := Sp p ∧ RPd (aS p) (dom T) T M ∧ WT T ∧ ∃ C, M.1 p 14 = nI C ∧ cutS T C
section SCs
variable {T : TK} {p : Nat} {M : AM}
theorem sc_6 (h : SC T p M) {j : Nat} (hj : j < 4) : M.1 p (10 + j) = nI (T 61 j) := (h.2.1 61 j (Or.inl ⟨rfl, hj⟩)).2.2
theorem sc_a (h : SC T p M) {k a : Nat} (hk : k < 4 ∨ k = 6 ∨ k = 7) (ha : a < T 61 0) : M.1 (p + (1 + k)) a = nI (T (62 + k) a) := by
  have h1 := (h.2.1 (62 + k) a (Or.inr (Or.inl ⟨by omega, ha⟩))).2.2
  unfold aS at h1
  rw [if_neg (by omega), show 62 + k - 61 = 1 + k by omega] at h1
  exact h1
theorem sc_from (h : SC T p M) {a : Nat} (ha : a < T 61 0) : M.1 (p + 1) a = nI (T 62 a) := sc_a h (k := 0) (by omega) ha
theorem sc_to (h : SC T p M) {a : Nat} (ha : a < T 61 0) : M.1 (p + 2) a = nI (T 63 a) := sc_a h (k := 1) (by omega) ha
theorem sc_price (h : SC T p M) {a : Nat} (ha : a < T 61 0) : M.1 (p + 3) a = nI (T 64 a) := sc_a h (k := 2) (by omega) ha
theorem sc_alts (h : SC T p M) {a : Nat} (ha : a < T 61 0) : M.1 (p + 4) a = nI (T 65 a) := sc_a h (k := 3) (by omega) ha
theorem sc_lays (h : SC T p M) {a : Nat} (ha : a < T 61 0) : M.1 (p + 7) a = nI (T 68 a) := sc_a h (k := 6) (by omega) ha
theorem sc_takes (h : SC T p M) {a : Nat} (ha : a < T 61 0) : M.1 (p + 8) a = nI (T 69 a) := sc_a h (k := 7) (by omega) ha
theorem sc_wants (h : SC T p M) {a k : Nat} (ha : a < T 61 0) (hk : k < T 65 a) : M.1 (p + 5) (3 * a + k) = nI (T 66 (3 * a + k)) := (h.2.1 66 _ (Or.inr (Or.inr ⟨Or.inl rfl, a, k, ha, hk, rfl⟩))).2.2
theorem sc_bars (h : SC T p M) {a k : Nat} (ha : a < T 61 0) (hk : k < T 65 a) : M.1 (p + 6) (3 * a + k) = nI (T 67 (3 * a + k)) := (h.2.1 67 _ (Or.inr (Or.inr ⟨Or.inr rfl, a, k, ha, hk, rfl⟩))).2.2
theorem sc_32 (h : SC T p M) : T 61 0 ≤ 32 := h.2.2.1.1
end SCs
theorem nat0_bits {x : Nat} : x = 0 ↔ ∀ i, x.testBit i = false := ⟨fun h i => by rw [h, Nat.zero_testBit], fun h => Nat.eq_of_testBit_eq (fun i => by rw [h i, Nat.zero_testBit])⟩
theorem alt_eq {w b m o : Nat} : (ndf (ndf w m ||| (b &&& m)) o = 0) ↔ ((m &&& ndf w o == ndf w o) && (m &&& ndf b o == 0)) = true := by
  rw [Bool.and_eq_true, beq_iff_eq, beq_iff_eq, nat0_bits, nat0_bits]
  have hb : ∀ i, (ndf (ndf w m ||| (b &&& m)) o).testBit i = (((w.testBit i && !m.testBit i) || (b.testBit i && m.testBit i)) && !o.testBit i) := fun i => by rw [ndf_bit, Nat.testBit_or, ndf_bit, Nat.testBit_and]
  have hc : ∀ i, (m &&& ndf b o).testBit i = (m.testBit i && (b.testBit i && !o.testBit i)) := fun i => by rw [Nat.testBit_and, ndf_bit]
  constructor
  · intro h
    refine ⟨Nat.eq_of_testBit_eq (fun i => ?_), fun i => ?_⟩
    · have h1 := h i
      rw [hb] at h1
      rw [Nat.testBit_and, ndf_bit]
      revert h1
      cases w.testBit i <;> cases b.testBit i <;> cases m.testBit i <;> cases o.testBit i <;> decide
    · have h1 := h i
      rw [hb] at h1
      rw [hc]
      revert h1
      cases w.testBit i <;> cases b.testBit i <;> cases m.testBit i <;> cases o.testBit i <;> decide
  · rintro ⟨h1, h2⟩ i
    have h3 : (m &&& ndf w o).testBit i = (ndf w o).testBit i := by rw [h1]
    have h4 := h2 i
    rw [hc] at h4
    rw [Nat.testBit_and, ndf_bit] at h3
    rw [hb]
    revert h3 h4
    cases w.testBit i <;> cases b.testBit i <;> cases m.testBit i <;> cases o.testBit i <;> decide
theorem opn_eq {T : TK} {a l m o : Nat} (hm : m < 64) : opn T a (64 * l + m) o = ((T 62 a == l) && (!(T 70 a == 1) && (!((T 61 2).testBit l) && hold T a m o))) := by
  unfold opn
  rw [show (64 * l + m) / 64 = l by omega, show (64 * l + m) % 64 = m by omega]
  cases (T 62 a == l) <;> cases (T 70 a == 1) <;> cases ((T 61 2).testBit l) <;> cases hold T a m o <;> rfl
def mkB (T : TK) (a m : Nat) : Nat := ndf m (T 69 a) ||| T 68 a
theorem mkB_eq {T : TK} {a m : Nat} (h0 : T 68 a &&& T 69 a = 0) : ndf (m ||| T 68 a) (T 69 a) = mkB T a m := by
  unfold mkB
  apply Nat.eq_of_testBit_eq
  intro i
  have h1 : (T 68 a &&& T 69 a).testBit i = false := by rw [h0, Nat.zero_testBit]
  rw [Nat.testBit_and] at h1
  rw [ndf_bit, Nat.testBit_or, Nat.testBit_or, ndf_bit]
  revert h1
  cases m.testBit i <;> cases (T 68 a).testBit i <;> cases (T 69 a).testBit i <;> decide
theorem mkB_lt {T : TK} (h : WT T) {a m : Nat} (ha : a < T 61 0) (hm : m < 64) : mkB T a m < 64 := by
  unfold mkB
  exact or_64 (Nat.lt_of_le_of_lt (ndf_le _ _) hm) (wt_a h ha).2.2.2.2.1
theorem nxt_mkB {T : TK} {a l m : Nat} (hm : m < 64) : nxt T a (64 * l + m) = 64 * T 63 a + mkB T a m := by
  unfold nxt mkB
  rw [show (64 * l + m) % 64 = m by omega]
section S1
variable {g : GG} {M : AM} {T : TK} {p : Nat}
theorem c_bit {S j : Nat} (hj : j < 32) : Call g qX10_bit [.int (nI S), .int (nI j)] M (Rt (bI (S.testBit j)) M) := by
  refine Call_of (ls0 := [some (.int (nI S)), some (.int (nI j))]) rfl rfl (Nat.le_of_ble_eq_true rfl) ?_
  refine E_iload_n dX10_bit_0 rfl ?_
  refine E_iload_n dX10_bit_1 rfl ?_
  refine E_ishr dX10_bit_2 ?_
  refine E_iconst (v := nI 1) dX10_bit_3 rfl ?_
  refine E_iand dX10_bit_4 ?_
  refine E_top (nI_bit hj) ?_
  refine E_iret dX10_bit_5 rfl ?_
  exact Rt_b rfl
theorem c_guard (h : SC T p M) {a m o : Nat} (ha : a < T 61 0) : Call g qX8_guardHolds [.ref p, .int (nI a), .int (nI m), .int (nI o)] M (Rt (bI (hold T a m o)) M) := by
  have hs := h.1
  have h32 := sc_32 h
  have h3 := (wt_a h.2.2.1 ha).2.2.2.1
  have L : ∀ (n k : Nat) (y6 y7 : Option Value), k ≤ T 65 a → T 65 a < k + n → anyN (fun k => altOK T (3 * a + k) m o) k = false → Ex g qX8_guardHolds (tm g qX8_guardHolds (Rt (bI (hold T a m o)) M)) 9 [some (.ref p), some (.int (nI a)), some (.int (nI m)), some (.int (nI o)), some (.int (nI (a * 3))), some (.int (nI (a * 3 + k))), y6, y7] [] M := by
    intro n
    induction n with
    | zero => intro k y6 y7 h1 h2; exact absurd h2 (by omega)
    | succ n ih =>
      intro k y6 y7 hk hn hany
      rw [show a * 3 = 3 * a by omega]
      have hwb : k < T 65 a → T 66 (3 * a + k) < 64 ∧ T 67 (3 * a + k) < 64 := fun h1 => (h.2.2.1.2.2.2.2 a ha).2 k h1
      have hlt : k < T 65 a → ndf (ndf (T 66 (3 * a + k)) m ||| (T 67 (3 * a + k) &&& m)) o < 2 ^ 31 := fun h1 => by
        have h2 := hwb h1
        have h4 := or_64 (Nat.lt_of_le_of_lt (ndf_le (T 66 (3 * a + k)) m) h2.1) (Nat.lt_of_le_of_lt (Nat.and_le_left (n := T 67 (3 * a + k)) (m := m)) h2.2)
        exact Nat.lt_of_le_of_lt (ndf_le _ _) (by omega)
      refine E_iload dX8_guardHolds_9 rfl ?_
      refine E_iload dX8_guardHolds_11 rfl ?_
      refine E_aload_n dX8_guardHolds_13 rfl ?_
      refine E_getR' (ci := 8) (j := 3) (p := p+4) dX8_guardHolds_14 fkX8_21 rfl (by decide) (kS hs) (by decide) ((srS hs) 3 (by decide)) ?_
      refine E_iload_n dX8_guardHolds_17 rfl ?_
      refine E_ialdN dX8_guardHolds_18 (kp4 hs) (by omega) (by decide) (sc_alts h ha) ?_
      refine E_iaddN dX8_guardHolds_19 ?_
      refine E_icmp_geN (t := 67) dX8_guardHolds_20 (by decide) (by omega) (by omega) (fun c20 => ?_) (fun c20 => ?_)
      · skip
        have hke : k = T 65 a := by omega
        refine E_aload_n dX8_guardHolds_67 rfl ?_
        refine E_getR' (ci := 8) (j := 3) (p := p+4) dX8_guardHolds_68 fkX8_21 rfl (by decide) (kS hs) (by decide) ((srS hs) 3 (by decide)) ?_
        refine E_iload_n dX8_guardHolds_71 rfl ?_
        refine E_ialdN dX8_guardHolds_72 (kp4 hs) (by omega) (by decide) (sc_alts h ha) ?_
        refine E_if_neN (t := 80) dX8_guardHolds_73 (by decide) (by omega) (fun c73 => ?_) (fun c73 => ?_)
        · skip
          refine E_iconst (v := nI 0) dX8_guardHolds_80 rfl ?_
          refine E_top (show nI 0 = bI false from rfl) ?_
          refine E_zret dX8_guardHolds_81 rfl (bI_01 _) ?_
          refine Rt_b ?_
          unfold hold
          rw [← hke, hany, Bool.or_false]
          first | (rw [show k = 0 by omega]; rfl) | (rw [eq_comm, beq_eq_false_iff_ne]; omega)
        · skip
          refine E_iconst (v := nI 1) dX8_guardHolds_76 rfl ?_
          refine E_goto (t := 81) dX8_guardHolds_77 (by decide) ?_
          refine E_top (show nI 1 = bI true from rfl) ?_
          refine E_zret dX8_guardHolds_81 rfl (bI_01 _) ?_
          refine Rt_b ?_
          unfold hold
          rw [← hke, hany, Bool.or_false]
          first | (rw [show k = 0 by omega]; rfl) | (rw [eq_comm, beq_eq_false_iff_ne]; omega)
      · skip
        refine E_aload_n dX8_guardHolds_23 rfl ?_
        refine E_getR' (ci := 8) (j := 4) (p := p+5) dX8_guardHolds_24 fkX8_24 rfl (by decide) (kS hs) (by decide) ((srS hs) 4 (by decide)) ?_
        refine E_iload dX8_guardHolds_27 rfl ?_
        refine E_ialdN dX8_guardHolds_29 (kp5 hs) (by omega) (by decide) (sc_wants h ha (by omega)) ?_
        refine E_iload_n dX8_guardHolds_30 rfl ?_
        refine E_iconst (v := -1) dX8_guardHolds_31 rfl ?_
        refine E_ixor dX8_guardHolds_32 ?_
        refine E_iandNC dX8_guardHolds_33 ?_
        refine E_istore dX8_guardHolds_34 (by decide) rfl ?_
        refine E_aload_n dX8_guardHolds_36 rfl ?_
        refine E_getR' (ci := 8) (j := 5) (p := p+6) dX8_guardHolds_37 fkX8_27 rfl (by decide) (kS hs) (by decide) ((srS hs) 5 (by decide)) ?_
        refine E_iload dX8_guardHolds_40 rfl ?_
        refine E_ialdN dX8_guardHolds_42 (kp6 hs) (by omega) (by decide) (sc_bars h ha (by omega)) ?_
        refine E_iload_n dX8_guardHolds_43 rfl ?_
        refine E_iandN dX8_guardHolds_44 ?_
        refine E_istore dX8_guardHolds_45 (by decide) rfl ?_
        refine E_iload dX8_guardHolds_47 rfl ?_
        refine E_iload dX8_guardHolds_49 rfl ?_
        refine E_iorN dX8_guardHolds_51 ?_
        refine E_iload_n dX8_guardHolds_52 rfl ?_
        refine E_iconst (v := -1) dX8_guardHolds_53 rfl ?_
        refine E_ixor dX8_guardHolds_54 ?_
        refine E_iandNC dX8_guardHolds_55 ?_
        refine E_if_neN (t := 61) dX8_guardHolds_56 (by decide) (hlt (by omega)) (fun c56 => ?_) (fun c56 => ?_)
        · skip
          have hno : altOK T (3 * a + k) m o = false := Bool.eq_false_iff.mpr (fun e => absurd (alt_eq.mpr e) (by omega))
          refine E_iincN (b := 1) dX8_guardHolds_61 rfl rfl (by decide) rfl ?_
          refine E_goto (t := 9) dX8_guardHolds_64 (by decide) ?_
          rw [show 3 * a = a * 3 by omega]
          exact ih (k + 1) _ _ (by omega) (by omega) (by rw [anyN, hany, hno]; rfl)
        · skip
          have hys : altOK T (3 * a + k) m o = true := alt_eq.mp c56
          refine E_iconst (v := nI 1) dX8_guardHolds_59 rfl ?_
          refine E_top (show nI 1 = bI true from rfl) ?_
          refine E_zret dX8_guardHolds_60 rfl (bI_01 _) ?_
          refine Rt_b ?_
          unfold hold
          rw [show anyN (fun k => altOK T (3 * a + k) m o) (T 65 a) = true from anyN_iff.mpr ⟨k, by omega, hys⟩, Bool.or_true]
  refine Call_of (ls0 := [some (.ref p), some (.int (nI a)), some (.int (nI m)), some (.int (nI o)), none, none, none, none]) rfl rfl (Nat.le_of_ble_eq_true rfl) ?_
  refine E_iload_n dX8_guardHolds_0 rfl ?_
  refine E_iconst (v := nI 3) dX8_guardHolds_1 rfl ?_
  refine E_imulN dX8_guardHolds_2 ?_
  refine E_istore dX8_guardHolds_3 (by decide) rfl ?_
  refine E_iload dX8_guardHolds_5 rfl ?_
  refine E_istore dX8_guardHolds_7 (by decide) rfl ?_
  exact L (T 65 a + 1) 0 _ _ (Nat.zero_le _) (by omega) rfl
theorem c_isOpen (h : SC T p M) {a l m : Nat} (ha : a < T 61 0) (hl : l < 16) (hm : m < 64) : Call g qX8_isOpen [.ref p, .int (nI a), .int (nI l), .int (nI m)] M (Rt (bI (opn T a (64 * l + m) 0)) M) := by
  have hs := h.1
  have h32 := sc_32 h
  have hf := (wt_a h.2.2.1 ha).1
  obtain ⟨C, hC, hC2, hC3⟩ := h.2.2.2
  have hbit : C.testBit a = (T 70 a == 1) := by rw [hC3, decide_eq_true ha, Bool.true_and]
  refine Call_of (ls0 := [some (.ref p), some (.int (nI a)), some (.int (nI l)), some (.int (nI m))]) rfl rfl (Nat.le_of_ble_eq_true rfl) ?_
  refine E_aload_n dX8_isOpen_0 rfl ?_
  refine E_getR' (ci := 8) (j := 0) (p := p+1) dX8_isOpen_1 fkX8_9 rfl (by decide) (kS hs) (by decide) ((srS hs) 0 (by decide)) ?_
  refine E_iload_n dX8_isOpen_4 rfl ?_
  refine E_ialdN dX8_isOpen_5 (kp1 hs) (by omega) (by decide) (sc_from h ha) ?_
  refine E_iload_n dX8_isOpen_6 rfl ?_
  refine E_icmp_neN (t := 46) dX8_isOpen_7 (by decide) (by omega) (by omega) (fun c7 => ?_) (fun c7 => ?_)
  · skip
    refine E_iconst (v := nI 0) dX8_isOpen_46 rfl ?_
    refine E_top (show nI 0 = bI false from rfl) ?_
    refine E_zret dX8_isOpen_47 rfl (bI_01 _) ?_
    refine Rt_b ?_
    rw [opn_eq hm]
    first | (rw [show (T 62 a == l) = false from beq_eq_false_iff_ne.mpr c7]; rfl) | skip
    all_goals rw [show (T 62 a == l) = true from beq_iff_eq.mpr c7]
    all_goals rw [← hbit, c18]
    all_goals first | rfl | skip
    all_goals rw [c29]
    all_goals first | rfl | skip
    all_goals rw [c39]
    all_goals rfl
  · skip
    refine E_aload_n dX8_isOpen_10 rfl ?_
    refine E_getI' (ci := 8) (j := 14) dX8_isOpen_11 fkX8_61 rfl (by decide) (kS hs) (by decide) (hC) ?_
    refine E_iload_n dX8_isOpen_14 rfl ?_
    refine E_callN (r := qX10_bit) (host := RX10) dX8_isOpen_15 (by decide) toX10_bit rfl ⟨Nat.le_of_ble_eq_true rfl, Nat.le_of_ble_eq_true rfl, Nat.le_of_ble_eq_true rfl, Nat.le_of_ble_eq_true rfl⟩ (c_bit (by omega)) rfl (Nat.le_of_ble_eq_true rfl) ?_
    rintro _ _ ⟨rfl, rfl⟩
    refine E_if_neB (t := 46) dX8_isOpen_18 (by decide) (fun c18 => ?_) (fun c18 => ?_)
    · skip
      refine E_iconst (v := nI 0) dX8_isOpen_46 rfl ?_
      refine E_top (show nI 0 = bI false from rfl) ?_
      refine E_zret dX8_isOpen_47 rfl (bI_01 _) ?_
      refine Rt_b ?_
      rw [opn_eq hm]
      first | (rw [show (T 62 a == l) = false from beq_eq_false_iff_ne.mpr c7]; rfl) | skip
      all_goals rw [show (T 62 a == l) = true from beq_iff_eq.mpr c7]
      all_goals rw [← hbit, c18]
      all_goals first | rfl | skip
      all_goals rw [c29]
      all_goals first | rfl | skip
      all_goals rw [c39]
      all_goals rfl
    · skip
      refine E_aload_n dX8_isOpen_21 rfl ?_
      refine E_getI' (ci := 8) (j := 12) dX8_isOpen_22 fkX8_55 rfl (by decide) (kS hs) (by decide) (sc_6 h (j := 2) (by decide)) ?_
      refine E_iload_n dX8_isOpen_25 rfl ?_
      refine E_callN (r := qX10_bit) (host := RX10) dX8_isOpen_26 (by decide) toX10_bit rfl ⟨Nat.le_of_ble_eq_true rfl, Nat.le_of_ble_eq_true rfl, Nat.le_of_ble_eq_true rfl, Nat.le_of_ble_eq_true rfl⟩ (c_bit (by omega)) rfl (Nat.le_of_ble_eq_true rfl) ?_
      rintro _ _ ⟨rfl, rfl⟩
      refine E_if_neB (t := 46) dX8_isOpen_29 (by decide) (fun c29 => ?_) (fun c29 => ?_)
      · skip
        refine E_iconst (v := nI 0) dX8_isOpen_46 rfl ?_
        refine E_top (show nI 0 = bI false from rfl) ?_
        refine E_zret dX8_isOpen_47 rfl (bI_01 _) ?_
        refine Rt_b ?_
        rw [opn_eq hm]
        first | (rw [show (T 62 a == l) = false from beq_eq_false_iff_ne.mpr c7]; rfl) | skip
        all_goals rw [show (T 62 a == l) = true from beq_iff_eq.mpr c7]
        all_goals rw [← hbit, c18]
        all_goals first | rfl | skip
        all_goals rw [c29]
        all_goals first | rfl | skip
        all_goals rw [c39]
        all_goals rfl
      · skip
        refine E_aload_n dX8_isOpen_32 rfl ?_
        refine E_iload_n dX8_isOpen_33 rfl ?_
        refine E_iload_n dX8_isOpen_34 rfl ?_
        refine E_iconst (v := nI 0) dX8_isOpen_35 rfl ?_
        refine E_callV (r := qX8_guardHolds) (ci := 8) dX8_isOpen_36 mkX8_68 voX8_guardHolds rfl (kS hs) rfl ⟨Nat.le_of_ble_eq_true rfl, Nat.le_of_ble_eq_true rfl, Nat.le_of_ble_eq_true rfl, Nat.le_of_ble_eq_true rfl⟩ (c_guard h ha) rfl (Nat.le_of_ble_eq_true rfl) ?_
        rintro _ _ ⟨rfl, rfl⟩
        refine E_if_eqB (t := 46) dX8_isOpen_39 (by decide) (fun c39 => ?_) (fun c39 => ?_)
        · skip
          refine E_iconst (v := nI 0) dX8_isOpen_46 rfl ?_
          refine E_top (show nI 0 = bI false from rfl) ?_
          refine E_zret dX8_isOpen_47 rfl (bI_01 _) ?_
          refine Rt_b ?_
          rw [opn_eq hm]
          first | (rw [show (T 62 a == l) = false from beq_eq_false_iff_ne.mpr c7]; rfl) | skip
          all_goals rw [show (T 62 a == l) = true from beq_iff_eq.mpr c7]
          all_goals rw [← hbit, c18]
          all_goals first | rfl | skip
          all_goals rw [c29]
          all_goals first | rfl | skip
          all_goals rw [c39]
          all_goals rfl
        · skip
          refine E_iconst (v := nI 1) dX8_isOpen_42 rfl ?_
          refine E_goto (t := 47) dX8_isOpen_43 (by decide) ?_
          refine E_top (show nI 1 = bI true from rfl) ?_
          refine E_zret dX8_isOpen_47 rfl (bI_01 _) ?_
          refine Rt_b ?_
          rw [opn_eq hm]
          first | (rw [show (T 62 a == l) = false from beq_eq_false_iff_ne.mpr c7]; rfl) | skip
          all_goals rw [show (T 62 a == l) = true from beq_iff_eq.mpr c7]
          all_goals rw [← hbit, c18]
          all_goals first | rfl | skip
          all_goals rw [c29]
          all_goals first | rfl | skip
          all_goals rw [c39]
          all_goals rfl
theorem c_marksBehind (h : SC T p M) {a m : Nat} (ha : a < T 61 0) : Call g qX8_marksBehind [.ref p, .int (nI a), .int (nI m)] M (Rt (nI (mkB T a m)) M) := by
  have hs := h.1
  have h32 := sc_32 h
  refine Call_of (ls0 := [some (.ref p), some (.int (nI a)), some (.int (nI m))]) rfl rfl (Nat.le_of_ble_eq_true rfl) ?_
  refine E_iload_n dX8_marksBehind_0 rfl ?_
  refine E_aload_n dX8_marksBehind_1 rfl ?_
  refine E_getR' (ci := 8) (j := 6) (p := p+7) dX8_marksBehind_2 fkX8_30 rfl (by decide) (kS hs) (by decide) ((srS hs) 6 (by decide)) ?_
  refine E_iload_n dX8_marksBehind_5 rfl ?_
  refine E_ialdN dX8_marksBehind_6 (kp7 hs) (by omega) (by decide) (sc_lays h ha) ?_
  refine E_iorN dX8_marksBehind_7 ?_
  refine E_aload_n dX8_marksBehind_8 rfl ?_
  refine E_getR' (ci := 8) (j := 7) (p := p+8) dX8_marksBehind_9 fkX8_33 rfl (by decide) (kS hs) (by decide) ((srS hs) 7 (by decide)) ?_
  refine E_iload_n dX8_marksBehind_12 rfl ?_
  refine E_ialdN dX8_marksBehind_13 (kp8 hs) (by omega) (by decide) (sc_takes h ha) ?_
  refine E_iconst (v := -1) dX8_marksBehind_14 rfl ?_
  refine E_ixor dX8_marksBehind_15 ?_
  refine E_iandNC dX8_marksBehind_16 ?_
  refine E_iret dX8_marksBehind_17 rfl ?_
  exact Rt_n (mkB_eq (wt_a h.2.2.1 ha).2.2.2.2.2.2.1)
theorem c_stateBehind (h : SC T p M) {a m l : Nat} (ha : a < T 61 0) (hm : m < 64) : Call g qX8_stateBehind [.ref p, .int (nI a), .int (nI m)] M (Rt (nI (nxt T a (64 * l + m))) M) := by
  have hs := h.1
  have h32 := sc_32 h
  refine Call_of (ls0 := [some (.ref p), some (.int (nI a)), some (.int (nI m))]) rfl rfl (Nat.le_of_ble_eq_true rfl) ?_
  refine E_aload_n dX8_stateBehind_0 rfl ?_
  refine E_getR' (ci := 8) (j := 1) (p := p+2) dX8_stateBehind_1 fkX8_15 rfl (by decide) (kS hs) (by decide) ((srS hs) 1 (by decide)) ?_
  refine E_iload_n dX8_stateBehind_4 rfl ?_
  refine E_ialdN dX8_stateBehind_5 (kp2 hs) (by omega) (by decide) (sc_to h ha) ?_
  refine E_bipush (v := nI 64) dX8_stateBehind_6 rfl ?_
  refine E_imulN dX8_stateBehind_8 ?_
  refine E_aload_n dX8_stateBehind_9 rfl ?_
  refine E_iload_n dX8_stateBehind_10 rfl ?_
  refine E_iload_n dX8_stateBehind_11 rfl ?_
  refine E_callV (r := qX8_marksBehind) (ci := 8) dX8_stateBehind_12 mkX8_72 voX8_marksBehind rfl (kS hs) rfl ⟨Nat.le_of_ble_eq_true rfl, Nat.le_of_ble_eq_true rfl, Nat.le_of_ble_eq_true rfl, Nat.le_of_ble_eq_true rfl⟩ (c_marksBehind h ha) rfl (Nat.le_of_ble_eq_true rfl) ?_
  rintro _ _ ⟨rfl, rfl⟩
  refine E_iaddN dX8_stateBehind_15 ?_
  refine E_iret dX8_stateBehind_16 rfl ?_
  exact Rt_n (by rw [nxt_mkB hm, Nat.mul_comm])
end S1
