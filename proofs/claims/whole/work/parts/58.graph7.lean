-- the class's graph: what is read from it, by places
def orF (f : Nat → Bool) (x : Nat → Nat) : Nat → Nat
  | 0 => 0
  | n + 1 => if f n = true then orF f x n ||| x n else orF f x n
def anF (f : Nat → Bool) (x : Nat → Nat) : Nat → Nat
  | 0 => 63
  | n + 1 => if f n = true then anF f x n &&& x n else anF f x n
def mxF (x : Nat → Nat) : Nat → Nat
  | 0 => 0
  | n + 1 => max (mxF x n) (x n)
theorem cntN_t {f : Nat → Bool} {n : Nat} (h : f n = true) : cntN f (n + 1) = cntN f n + 1 := by rw [cntN, h]; rfl
theorem cntN_f {f : Nat → Bool} {n : Nat} (h : f n = false) : cntN f (n + 1) = cntN f n := by rw [cntN, h]; rfl
theorem orF_bit {f : Nat → Bool} {x : Nat → Nat} {b : Nat} : ∀ {n : Nat}, (orF f x n).testBit b = true ↔ ∃ i, i < n ∧ f i = true ∧ (x i).testBit b = true
  | 0 => ⟨fun h => (by rw [orF, Nat.zero_testBit] at h; cases h), fun ⟨i, hi, _⟩ => absurd hi (Nat.not_lt_zero i)⟩
  | n + 1 => by
    have ih := orF_bit (f := f) (x := x) (b := b) (n := n)
    rw [orF]
    by_cases e : f n = true
    · rw [if_pos e, Nat.testBit_or, Bool.or_eq_true, ih]
      constructor
      · rintro (⟨i, h1, h2⟩ | h)
        · exact ⟨i, by omega, h2⟩
        · exact ⟨n, by omega, e, h⟩
      · rintro ⟨i, h1, h2⟩
        by_cases e2 : i = n
        · subst e2; exact Or.inr h2.2
        · exact Or.inl ⟨i, by omega, h2⟩
    · rw [if_neg e, ih]
      constructor
      · rintro ⟨i, h1, h2⟩; exact ⟨i, by omega, h2⟩
      · rintro ⟨i, h1, h2⟩
        by_cases e2 : i = n
        · subst e2; exact absurd h2.1 e
        · exact ⟨i, by omega, h2⟩
theorem orF_lt {f : Nat → Bool} {x : Nat → Nat} {c : Nat} : ∀ {n : Nat}, (∀ i, i < n → x i < 2 ^ c) → orF f x n < 2 ^ c
  | 0, _ => by rw [orF]; exact Nat.pow_pos (by decide)
  | n + 1, h => by
    have ih := orF_lt (f := f) (x := x) (c := c) (n := n) (fun i hi => h i (by omega))
    rw [orF]
    split
    · exact Nat.or_lt_two_pow ih (h n (by omega))
    · exact ih
theorem anF_bit {f : Nat → Bool} {x : Nat → Nat} {b : Nat} : ∀ {n : Nat}, (anF f x n).testBit b = true ↔ (63 : Nat).testBit b = true ∧ ∀ i, i < n → f i = true → (x i).testBit b = true
  | 0 => ⟨fun h => ⟨h, fun i hi => absurd hi (Nat.not_lt_zero i)⟩, fun h => h.1⟩
  | n + 1 => by
    have ih := anF_bit (f := f) (x := x) (b := b) (n := n)
    rw [anF]
    by_cases e : f n = true
    · rw [if_pos e, Nat.testBit_and, Bool.and_eq_true, ih]
      refine ⟨fun h => ⟨h.1.1, fun i hi hf => ?_⟩, fun h => ⟨⟨h.1, fun i hi => h.2 i (by omega)⟩, h.2 n (by omega) e⟩⟩
      by_cases e2 : i = n
      · subst e2; exact h.2
      · exact h.1.2 i (by omega) hf
    · rw [if_neg e, ih]
      refine ⟨fun h => ⟨h.1, fun i hi hf => ?_⟩, fun h => ⟨h.1, fun i hi => h.2 i (by omega)⟩⟩
      by_cases e2 : i = n
      · subst e2; exact absurd hf e
      · exact h.2 i (by omega) hf
theorem mxF_le {x : Nat → Nat} {c : Nat} : ∀ {n : Nat}, mxF x n ≤ c ↔ ∀ i, i < n → x i ≤ c
  | 0 => ⟨fun _ i hi => absurd hi (Nat.not_lt_zero i), fun _ => Nat.zero_le c⟩
  | n + 1 => by
    rw [mxF, Nat.max_le, mxF_le]
    refine ⟨fun h i hi => ?_, fun h => ⟨fun i hi => h i (by omega), h n (by omega)⟩⟩
    by_cases e : i = n
    · rw [e]; exact h.2
    · exact h.1 i (by omega)
section G7
variable {g : GG} {M : AM} {T : TK} {l : Nat}
theorem gr_st (h : GR T M) : M.1 9 11 = nI (LTn T) := h.1.1.1
theorem gr_mv (h : GR T M) : M.1 9 12 = nI (mN T) := h.1.2.1
theorem gr_q (h : GR T M) {i : Nat} (hi : i < LTn T) : M.1 10 i = nI (Qn T i) := (h.1.1.2.1 i hi).1
theorem gr_d (h : GR T M) {i : Nat} (hi : i < LTn T) : M.1 12 i = nI (dQ T i) := (h.1.1.2.1 i hi).2
theorem gr_nr (h : GR T M) (hl : l < 16) : M.1 14 l = oI (fdN (fun i => Qn T i / 64 == l) (LTn T)) := h.1.1.2.2.2 l hl
theorem gr_fo (h : GR T M) {i : Nat} (hi : i ≤ LTn T) : M.1 15 i = nI (fO T i) := h.2.1 i hi
theorem gr_mf (h : GR T M) {m : Nat} (hm : m < mN T) : M.1 16 m = nI (mF T m) := (h.1.2.2.1 m hm).1
theorem gr_mt (h : GR T M) {m : Nat} (hm : m < mN T) : M.1 17 m = nI (mT T m) := (h.1.2.2.1 m hm).2.1
theorem gr_ma (h : GR T M) {m : Nat} (hm : m < mN T) : M.1 18 m = nI (mA T m) := (h.1.2.2.1 m hm).2.2
theorem c_line (hT : WT T) (hB : T 61 13 < 64) (h : GR T M) {i : Nat} (hi : i < LTn T) : Call g qX2_lineAt [.ref 9, .int (nI i)] M (Rt (nI (Qn T i / 64)) M) := c_lineAt (gr_q h hi) (Nat.lt_of_lt_of_le hi (q_le hT hB)) (Qn_lt hT hB hi)
theorem c_marks (hT : WT T) (hB : T 61 13 < 64) (h : GR T M) {i : Nat} (hi : i < LTn T) : Call g qX2_marksAt [.ref 9, .int (nI i)] M (Rt (nI (Qn T i % 64)) M) := c_marksAt (gr_q h hi) (Nat.lt_of_lt_of_le hi (q_le hT hB)) (Qn_lt hT hB hi)
theorem c_statesOf (hT : WT T) (hB : T 61 13 < 64) (h : GR T M) (hl : l < 16) : Call g qX2_statesOf [.ref 9, .int (nI l)] M (Rt (nI (cntN (fun i => Qn T i / 64 == l) (LTn T))) M) := by
  have hL := q_le hT hB
  have L : ∀ (n k : Nat), k ≤ LTn T → LTn T < k + n → Ex g qX2_statesOf (tm g qX2_statesOf (Rt (nI (cntN (fun i => Qn T i / 64 == l) (LTn T))) M)) 4 [some (.ref 9), some (.int (nI l)), some (.int (nI (cntN (fun i => Qn T i / 64 == l) k))), some (.int (nI k))] [] M := by
    intro n
    induction n with
    | zero => intro k h1 h2; exact absurd h2 (by omega)
    | succ n ih =>
      intro k hk hn
      have hq : k < LTn T → Qn T k / 64 < 16 := fun e => by have := Qn_lt hT hB e; omega
      refine E_iload_n dX2_statesOf_4 rfl ?_
      refine E_aload_n dX2_statesOf_5 rfl ?_
      refine E_getI' (ci := 2) (j := 11) dX2_statesOf_6 fkX2_51 rfl (by decide) rfl (by decide) (gr_st h) ?_
      refine E_icmp_geN (t := 30) dX2_statesOf_9 (by decide) (by omega) (by omega) (fun c9 => ?_) (fun c9 => ?_)
      · skip
        refine E_iload_n dX2_statesOf_30 rfl ?_
        refine E_iret dX2_statesOf_31 rfl ?_
        obtain rfl : k = LTn T := by omega
        exact Rt_n rfl
      · skip
        refine E_aload_n dX2_statesOf_12 rfl ?_
        refine E_iload_n dX2_statesOf_13 rfl ?_
        refine E_callV (r := qX2_lineAt) (ci := 2) dX2_statesOf_14 mkX2_74 voX2_lineAt rfl rfl rfl ⟨Nat.le_of_ble_eq_true rfl, Nat.le_of_ble_eq_true rfl, Nat.le_of_ble_eq_true rfl, Nat.le_of_ble_eq_true rfl⟩ (c_line hT hB h c9) rfl (Nat.le_of_ble_eq_true rfl) ?_
        rintro _ _ ⟨rfl, rfl⟩
        refine E_iload_n dX2_statesOf_17 rfl ?_
        refine E_icmp_neN (t := 24) dX2_statesOf_18 (by decide) (by have := hq c9; omega) (by omega) (fun c18 => ?_) (fun c18 => ?_)
        · skip
          have e1 := cntN_f (f := fun i => Qn T i / 64 == l) (n := k) (beq_eq_false_iff_ne.mpr c18)
          refine E_iincN (b := 1) dX2_statesOf_24 rfl rfl (by decide) rfl ?_
          refine E_goto (t := 4) dX2_statesOf_27 (by decide) ?_
          rw [← e1]
          exact ih (k + 1) (by omega) (by omega)
        · skip
          have e1 := cntN_t (f := fun i => Qn T i / 64 == l) (n := k) (beq_iff_eq.mpr c18)
          refine E_iincN (b := 1) dX2_statesOf_21 rfl rfl (by decide) rfl ?_
          refine E_iincN (b := 1) dX2_statesOf_24 rfl rfl (by decide) rfl ?_
          refine E_goto (t := 4) dX2_statesOf_27 (by decide) ?_
          rw [← e1]
          exact ih (k + 1) (by omega) (by omega)
  refine Call_of (ls0 := [some (.ref 9), some (.int (nI l)), none, none]) rfl rfl (Nat.le_of_ble_eq_true rfl) ?_
  refine E_iconst (v := nI 0) dX2_statesOf_0 rfl ?_
  refine E_ist_n (i := 2) dX2_statesOf_1 rfl (by decide) rfl ?_
  refine E_iconst (v := nI 0) dX2_statesOf_2 rfl ?_
  refine E_ist_n (i := 3) dX2_statesOf_3 rfl (by decide) rfl ?_
  exact L (LTn T + 1) 0 (Nat.zero_le _) (by omega)
noncomputable def maN (T : TK) (l : Nat) : Nat := if fdN (fun i => Qn T i / 64 == l) (LTn T) = none then 0 else anF (fun i => Qn T i / 64 == l) (fun i => Qn T i % 64) (LTn T)
theorem c_marksInAll (hT : WT T) (hB : T 61 13 < 64) (h : GR T M) (hl : l < 16) : Call g qX2_marksInAll [.ref 9, .int (nI l)] M (Rt (nI (maN T l)) M) := by
  have hL := q_le hT hB
  have hob : ∀ e, fdN (fun i => Qn T i / 64 == l) (LTn T) = some e → e < 2 ^ 31 := fun e he => by have := fdN_le he; omega
  have hnn : fdN (fun i => Qn T i / 64 == l) (LTn T) = none → 0 = maN T l := fun e => by unfold maN; rw [if_pos e]
  have L : ¬ fdN (fun i => Qn T i / 64 == l) (LTn T) = none → ∀ (n k : Nat), k ≤ LTn T → LTn T < k + n → Ex g qX2_marksInAll (tm g qX2_marksInAll (Rt (nI (maN T l)) M)) 17 [some (.ref 9), some (.int (nI l)), some (.int (nI (anF (fun i => Qn T i / 64 == l) (fun i => Qn T i % 64) k))), some (.int (nI k))] [] M := by
    intro hns n
    have hmm : anF (fun i => Qn T i / 64 == l) (fun i => Qn T i % 64) (LTn T) = maN T l := by unfold maN; rw [if_neg hns]
    induction n with
    | zero => intro k h1 h2; exact absurd h2 (by omega)
    | succ n ih =>
      intro k hk hn
      have hq : k < LTn T → Qn T k / 64 < 16 := fun e => by have := Qn_lt hT hB e; omega
      refine E_iload_n dX2_marksInAll_17 rfl ?_
      refine E_aload_n dX2_marksInAll_18 rfl ?_
      refine E_getI' (ci := 2) (j := 11) dX2_marksInAll_19 fkX2_51 rfl (by decide) rfl (by decide) (gr_st h) ?_
      refine E_icmp_geN (t := 48) dX2_marksInAll_22 (by decide) (by omega) (by omega) (fun c22 => ?_) (fun c22 => ?_)
      · skip
        refine E_iload_n dX2_marksInAll_48 rfl ?_
        refine E_iret dX2_marksInAll_49 rfl ?_
        obtain rfl : k = LTn T := by omega
        exact Rt_n hmm
      · skip
        refine E_aload_n dX2_marksInAll_25 rfl ?_
        refine E_iload_n dX2_marksInAll_26 rfl ?_
        refine E_callV (r := qX2_lineAt) (ci := 2) dX2_marksInAll_27 mkX2_74 voX2_lineAt rfl rfl rfl ⟨Nat.le_of_ble_eq_true rfl, Nat.le_of_ble_eq_true rfl, Nat.le_of_ble_eq_true rfl, Nat.le_of_ble_eq_true rfl⟩ (c_line hT hB h c22) rfl (Nat.le_of_ble_eq_true rfl) ?_
        rintro _ _ ⟨rfl, rfl⟩
        refine E_iload_n dX2_marksInAll_30 rfl ?_
        refine E_icmp_neN (t := 42) dX2_marksInAll_31 (by decide) (by have := hq c22; omega) (by omega) (fun c31 => ?_) (fun c31 => ?_)
        · skip
          have e1 : anF (fun i => Qn T i / 64 == l) (fun i => Qn T i % 64) (k + 1) = anF (fun i => Qn T i / 64 == l) (fun i => Qn T i % 64) k := by rw [anF, if_neg (by rw [beq_iff_eq]; exact c31)]
          refine E_iincN (b := 1) dX2_marksInAll_42 rfl rfl (by decide) rfl ?_
          refine E_goto (t := 17) dX2_marksInAll_45 (by decide) ?_
          rw [← e1]
          exact ih (k + 1) (by omega) (by omega)
        · skip
          have e1 : anF (fun i => Qn T i / 64 == l) (fun i => Qn T i % 64) (k + 1) = anF (fun i => Qn T i / 64 == l) (fun i => Qn T i % 64) k &&& Qn T k % 64 := by rw [anF, if_pos (beq_iff_eq.mpr c31)]
          refine E_iload_n dX2_marksInAll_34 rfl ?_
          refine E_aload_n dX2_marksInAll_35 rfl ?_
          refine E_iload_n dX2_marksInAll_36 rfl ?_
          refine E_callV (r := qX2_marksAt) (ci := 2) dX2_marksInAll_37 mkX2_78 voX2_marksAt rfl rfl rfl ⟨Nat.le_of_ble_eq_true rfl, Nat.le_of_ble_eq_true rfl, Nat.le_of_ble_eq_true rfl, Nat.le_of_ble_eq_true rfl⟩ (c_marks hT hB h c22) rfl (Nat.le_of_ble_eq_true rfl) ?_
          rintro _ _ ⟨rfl, rfl⟩
          refine E_iandN dX2_marksInAll_40 ?_
          refine E_ist_n (i := 2) dX2_marksInAll_41 rfl (by decide) rfl ?_
          refine E_iincN (b := 1) dX2_marksInAll_42 rfl rfl (by decide) rfl ?_
          refine E_goto (t := 17) dX2_marksInAll_45 (by decide) ?_
          rw [← e1]
          exact ih (k + 1) (by omega) (by omega)
  refine Call_of (ls0 := [some (.ref 9), some (.int (nI l)), none, none]) rfl rfl (Nat.le_of_ble_eq_true rfl) ?_
  refine E_aload_n dX2_marksInAll_0 rfl ?_
  refine E_getR' (ci := 2) (j := 4) (p := 14) dX2_marksInAll_1 fkX2_24 rfl (by decide) rfl (by decide) (rfl) ?_
  refine E_iload_n dX2_marksInAll_4 rfl ?_
  refine E_ialdN dX2_marksInAll_5 rfl (by omega) (by decide) (gr_nr h hl) ?_
  refine E_iconst (v := -1) dX2_marksInAll_6 rfl ?_
  refine E_icmp_neO (t := 12) dX2_marksInAll_7 (by decide) hob (fun c7 => ?_) (fun c7 => ?_)
  · skip
    refine E_bipush (v := nI 63) dX2_marksInAll_12 rfl ?_
    refine E_ist_n (i := 2) dX2_marksInAll_14 rfl (by decide) rfl ?_
    refine E_iconst (v := nI 0) dX2_marksInAll_15 rfl ?_
    refine E_ist_n (i := 3) dX2_marksInAll_16 rfl (by decide) rfl ?_
    exact L c7 (LTn T + 1) 0 (Nat.zero_le _) (by omega)
  · skip
    refine E_iconst (v := nI 0) dX2_marksInAll_10 rfl ?_
    refine E_iret dX2_marksInAll_11 rfl ?_
    exact Rt_n (hnn c7)
theorem c_marksInSome (hT : WT T) (hB : T 61 13 < 64) (h : GR T M) (hl : l < 16) : Call g qX2_marksInSome [.ref 9, .int (nI l)] M (Rt (nI (orF (fun i => Qn T i / 64 == l) (fun i => Qn T i % 64) (LTn T))) M) := by
  have hL := q_le hT hB
  have L : ∀ (n k : Nat), k ≤ LTn T → LTn T < k + n → Ex g qX2_marksInSome (tm g qX2_marksInSome (Rt (nI (orF (fun i => Qn T i / 64 == l) (fun i => Qn T i % 64) (LTn T))) M)) 4 [some (.ref 9), some (.int (nI l)), some (.int (nI (orF (fun i => Qn T i / 64 == l) (fun i => Qn T i % 64) k))), some (.int (nI k))] [] M := by
    intro n
    induction n with
    | zero => intro k h1 h2; exact absurd h2 (by omega)
    | succ n ih =>
      intro k hk hn
      have hq : k < LTn T → Qn T k / 64 < 16 := fun e => by have := Qn_lt hT hB e; omega
      refine E_iload_n dX2_marksInSome_4 rfl ?_
      refine E_aload_n dX2_marksInSome_5 rfl ?_
      refine E_getI' (ci := 2) (j := 11) dX2_marksInSome_6 fkX2_51 rfl (by decide) rfl (by decide) (gr_st h) ?_
      refine E_icmp_geN (t := 35) dX2_marksInSome_9 (by decide) (by omega) (by omega) (fun c9 => ?_) (fun c9 => ?_)
      · skip
        refine E_iload_n dX2_marksInSome_35 rfl ?_
        refine E_iret dX2_marksInSome_36 rfl ?_
        obtain rfl : k = LTn T := by omega
        exact Rt_n rfl
      · skip
        refine E_aload_n dX2_marksInSome_12 rfl ?_
        refine E_iload_n dX2_marksInSome_13 rfl ?_
        refine E_callV (r := qX2_lineAt) (ci := 2) dX2_marksInSome_14 mkX2_74 voX2_lineAt rfl rfl rfl ⟨Nat.le_of_ble_eq_true rfl, Nat.le_of_ble_eq_true rfl, Nat.le_of_ble_eq_true rfl, Nat.le_of_ble_eq_true rfl⟩ (c_line hT hB h c9) rfl (Nat.le_of_ble_eq_true rfl) ?_
        rintro _ _ ⟨rfl, rfl⟩
        refine E_iload_n dX2_marksInSome_17 rfl ?_
        refine E_icmp_neN (t := 29) dX2_marksInSome_18 (by decide) (by have := hq c9; omega) (by omega) (fun c18 => ?_) (fun c18 => ?_)
        · skip
          have e1 : orF (fun i => Qn T i / 64 == l) (fun i => Qn T i % 64) (k + 1) = orF (fun i => Qn T i / 64 == l) (fun i => Qn T i % 64) k := by rw [orF, if_neg (by rw [beq_iff_eq]; exact c18)]
          refine E_iincN (b := 1) dX2_marksInSome_29 rfl rfl (by decide) rfl ?_
          refine E_goto (t := 4) dX2_marksInSome_32 (by decide) ?_
          rw [← e1]
          exact ih (k + 1) (by omega) (by omega)
        · skip
          have e1 : orF (fun i => Qn T i / 64 == l) (fun i => Qn T i % 64) (k + 1) = orF (fun i => Qn T i / 64 == l) (fun i => Qn T i % 64) k ||| Qn T k % 64 := by rw [orF, if_pos (beq_iff_eq.mpr c18)]
          refine E_iload_n dX2_marksInSome_21 rfl ?_
          refine E_aload_n dX2_marksInSome_22 rfl ?_
          refine E_iload_n dX2_marksInSome_23 rfl ?_
          refine E_callV (r := qX2_marksAt) (ci := 2) dX2_marksInSome_24 mkX2_78 voX2_marksAt rfl rfl rfl ⟨Nat.le_of_ble_eq_true rfl, Nat.le_of_ble_eq_true rfl, Nat.le_of_ble_eq_true rfl, Nat.le_of_ble_eq_true rfl⟩ (c_marks hT hB h c9) rfl (Nat.le_of_ble_eq_true rfl) ?_
          rintro _ _ ⟨rfl, rfl⟩
          refine E_iorN dX2_marksInSome_27 ?_
          refine E_ist_n (i := 2) dX2_marksInSome_28 rfl (by decide) rfl ?_
          refine E_iincN (b := 1) dX2_marksInSome_29 rfl rfl (by decide) rfl ?_
          refine E_goto (t := 4) dX2_marksInSome_32 (by decide) ?_
          rw [← e1]
          exact ih (k + 1) (by omega) (by omega)
  refine Call_of (ls0 := [some (.ref 9), some (.int (nI l)), none, none]) rfl rfl (Nat.le_of_ble_eq_true rfl) ?_
  refine E_iconst (v := nI 0) dX2_marksInSome_0 rfl ?_
  refine E_ist_n (i := 2) dX2_marksInSome_1 rfl (by decide) rfl ?_
  refine E_iconst (v := nI 0) dX2_marksInSome_2 rfl ?_
  refine E_ist_n (i := 3) dX2_marksInSome_3 rfl (by decide) rfl ?_
  exact L (LTn T + 1) 0 (Nat.zero_le _) (by omega)
theorem c_linesReached (hT : WT T) (hB : T 61 13 < 64) (h : GR T M) : Call g qX2_linesReached [.ref 9] M (Rt (nI (orF (fun _ => true) (fun i => 1 * 2 ^ (Qn T i / 64)) (LTn T))) M) := by
  have hL := q_le hT hB
  have L : ∀ (n k : Nat), k ≤ LTn T → LTn T < k + n → Ex g qX2_linesReached (tm g qX2_linesReached (Rt (nI (orF (fun _ => true) (fun i => 1 * 2 ^ (Qn T i / 64)) (LTn T))) M)) 4 [some (.ref 9), some (.int (nI (orF (fun _ => true) (fun i => 1 * 2 ^ (Qn T i / 64)) k))), some (.int (nI k))] [] M := by
    intro n
    induction n with
    | zero => intro k h1 h2; exact absurd h2 (by omega)
    | succ n ih =>
      intro k hk hn
      have hq : k < LTn T → Qn T k / 64 < 16 := fun e => by have := Qn_lt hT hB e; omega
      have hsh : k < LTn T → 1 * 2 ^ (Qn T k / 64) < 2 ^ 32 := fun e => by have := p2_16 (hq e); omega
      have e1 : orF (fun _ => true) (fun i => 1 * 2 ^ (Qn T i / 64)) (k + 1) = orF (fun _ => true) (fun i => 1 * 2 ^ (Qn T i / 64)) k ||| 1 * 2 ^ (Qn T k / 64) := by rw [orF, if_pos rfl]
      refine E_iload_n dX2_linesReached_4 rfl ?_
      refine E_aload_n dX2_linesReached_5 rfl ?_
      refine E_getI' (ci := 2) (j := 11) dX2_linesReached_6 fkX2_51 rfl (by decide) rfl (by decide) (gr_st h) ?_
      refine E_icmp_geN (t := 28) dX2_linesReached_9 (by decide) (by omega) (by omega) (fun c9 => ?_) (fun c9 => ?_)
      · skip
        refine E_iload_n dX2_linesReached_28 rfl ?_
        refine E_iret dX2_linesReached_29 rfl ?_
        obtain rfl : k = LTn T := by omega
        exact Rt_n rfl
      · skip
        refine E_iload_n dX2_linesReached_12 rfl ?_
        refine E_iconst (v := nI 1) dX2_linesReached_13 rfl ?_
        refine E_aload_n dX2_linesReached_14 rfl ?_
        refine E_iload_n dX2_linesReached_15 rfl ?_
        refine E_callV (r := qX2_lineAt) (ci := 2) dX2_linesReached_16 mkX2_74 voX2_lineAt rfl rfl rfl ⟨Nat.le_of_ble_eq_true rfl, Nat.le_of_ble_eq_true rfl, Nat.le_of_ble_eq_true rfl, Nat.le_of_ble_eq_true rfl⟩ (c_line hT hB h c9) rfl (Nat.le_of_ble_eq_true rfl) ?_
        rintro _ _ ⟨rfl, rfl⟩
        refine E_ishlN dX2_linesReached_19 (by have := hq c9; omega) (hsh c9) ?_
        refine E_iorN dX2_linesReached_20 ?_
        refine E_ist_n (i := 1) dX2_linesReached_21 rfl (by decide) rfl ?_
        refine E_iincN (b := 1) dX2_linesReached_22 rfl rfl (by decide) rfl ?_
        refine E_goto (t := 4) dX2_linesReached_25 (by decide) ?_
        rw [← e1]
        exact ih (k + 1) (by omega) (by omega)
  refine Call_of (ls0 := [some (.ref 9), none, none]) rfl rfl (Nat.le_of_ble_eq_true rfl) ?_
  refine E_iconst (v := nI 0) dX2_linesReached_0 rfl ?_
  refine E_ist_n (i := 1) dX2_linesReached_1 rfl (by decide) rfl ?_
  refine E_iconst (v := nI 0) dX2_linesReached_2 rfl ?_
  refine E_ist_n (i := 2) dX2_linesReached_3 rfl (by decide) rfl ?_
  exact L (LTn T + 1) 0 (Nat.zero_le _) (by omega)
theorem c_movesBy (hT : WT T) (hB : T 61 13 < 64) (h : GR T M) {a : Nat} (ha : a < T 61 0) : Call g qX2_movesBy [.ref 9, .int (nI a)] M (Rt (nI (cntN (fun m => mA T m == a) (mN T))) M) := by
  have hN := mN_le hT hB
  have h32 := hT.1
  have L : ∀ (n k : Nat), k ≤ mN T → mN T < k + n → Ex g qX2_movesBy (tm g qX2_movesBy (Rt (nI (cntN (fun m => mA T m == a) (mN T))) M)) 4 [some (.ref 9), some (.int (nI a)), some (.int (nI (cntN (fun m => mA T m == a) k))), some (.int (nI k))] [] M := by
    intro n
    induction n with
    | zero => intro k h1 h2; exact absurd h2 (by omega)
    | succ n ih =>
      intro k hk hn
      have hq : k < mN T → mA T k < 32 := fun e => by have := (mv_ok hT hB e).2.2.2.1; omega
      refine E_iload_n dX2_movesBy_4 rfl ?_
      refine E_aload_n dX2_movesBy_5 rfl ?_
      refine E_getI' (ci := 2) (j := 12) dX2_movesBy_6 fkX2_55 rfl (by decide) rfl (by decide) (gr_mv h) ?_
      refine E_icmp_geN (t := 31) dX2_movesBy_9 (by decide) (by omega) (by omega) (fun c9 => ?_) (fun c9 => ?_)
      · skip
        refine E_iload_n dX2_movesBy_31 rfl ?_
        refine E_iret dX2_movesBy_32 rfl ?_
        obtain rfl : k = mN T := by omega
        exact Rt_n rfl
      · skip
        refine E_aload_n dX2_movesBy_12 rfl ?_
        refine E_getR' (ci := 2) (j := 8) (p := 18) dX2_movesBy_13 fkX2_36 rfl (by decide) rfl (by decide) (rfl) ?_
        refine E_iload_n dX2_movesBy_16 rfl ?_
        refine E_ialdN dX2_movesBy_17 rfl (by omega) (by decide) (gr_ma h c9) ?_
        refine E_iload_n dX2_movesBy_18 rfl ?_
        refine E_icmp_neN (t := 25) dX2_movesBy_19 (by decide) (by have := hq c9; omega) (by omega) (fun c19 => ?_) (fun c19 => ?_)
        · skip
          have e1 := cntN_f (f := fun m => mA T m == a) (n := k) (beq_eq_false_iff_ne.mpr c19)
          refine E_iincN (b := 1) dX2_movesBy_25 rfl rfl (by decide) rfl ?_
          refine E_goto (t := 4) dX2_movesBy_28 (by decide) ?_
          rw [← e1]
          exact ih (k + 1) (by omega) (by omega)
        · skip
          have e1 := cntN_t (f := fun m => mA T m == a) (n := k) (beq_iff_eq.mpr c19)
          refine E_iincN (b := 1) dX2_movesBy_22 rfl rfl (by decide) rfl ?_
          refine E_iincN (b := 1) dX2_movesBy_25 rfl rfl (by decide) rfl ?_
          refine E_goto (t := 4) dX2_movesBy_28 (by decide) ?_
          rw [← e1]
          exact ih (k + 1) (by omega) (by omega)
  refine Call_of (ls0 := [some (.ref 9), some (.int (nI a)), none, none]) rfl rfl (Nat.le_of_ble_eq_true rfl) ?_
  refine E_iconst (v := nI 0) dX2_movesBy_0 rfl ?_
  refine E_ist_n (i := 2) dX2_movesBy_1 rfl (by decide) rfl ?_
  refine E_iconst (v := nI 0) dX2_movesBy_2 rfl ?_
  refine E_ist_n (i := 3) dX2_movesBy_3 rfl (by decide) rfl ?_
  exact L (mN T + 1) 0 (Nat.zero_le _) (by omega)
theorem c_movesFrom (hT : WT T) (hB : T 61 13 < 64) (h : GR T M) {i : Nat} (hi : i < LTn T) : Call g qX2_movesFrom [.ref 9, .int (nI i)] M (Rt (nI (mvA T (Qn T i)).length) M) := by
  have hL := q_le hT hB
  have hs := fO_s (T := T) (k := i)
  refine Call_of (ls0 := [some (.ref 9), some (.int (nI i))]) rfl rfl (Nat.le_of_ble_eq_true rfl) ?_
  refine E_aload_n dX2_movesFrom_0 rfl ?_
  refine E_getR' (ci := 2) (j := 5) (p := 15) dX2_movesFrom_1 fkX2_27 rfl (by decide) rfl (by decide) (rfl) ?_
  refine E_iload_n dX2_movesFrom_4 rfl ?_
  refine E_iconst (v := nI 1) dX2_movesFrom_5 rfl ?_
  refine E_iaddN dX2_movesFrom_6 ?_
  refine E_ialdN dX2_movesFrom_7 rfl (by omega) (by decide) (gr_fo h (by omega)) ?_
  refine E_aload_n dX2_movesFrom_8 rfl ?_
  refine E_getR' (ci := 2) (j := 5) (p := 15) dX2_movesFrom_9 fkX2_27 rfl (by decide) rfl (by decide) (rfl) ?_
  refine E_iload_n dX2_movesFrom_12 rfl ?_
  refine E_ialdN dX2_movesFrom_13 rfl (by omega) (by decide) (gr_fo h (by omega)) ?_
  refine E_isubN dX2_movesFrom_14 (by omega) ?_
  refine E_iret dX2_movesFrom_15 rfl ?_
  exact Rt_n (by omega)
theorem mvA_32 (hT : WT T) {s : Nat} : (mvA T s).length ≤ 32 := by
  unfold mvA
  have := List.length_filter_le (fun a => opn T a s 0) (List.range (T 61 0))
  rw [List.length_range] at this
  have := hT.1
  omega
theorem c_mostMoves (hT : WT T) (hB : T 61 13 < 64) (h : GR T M) : Call g qX2_mostMovesOfAState [.ref 9] M (Rt (nI (mxF (fun i => (mvA T (Qn T i)).length) (LTn T))) M) := by
  have hL := q_le hT hB
  have L : ∀ (n k : Nat), k ≤ LTn T → LTn T < k + n → Ex g qX2_mostMovesOfAState (tm g qX2_mostMovesOfAState (Rt (nI (mxF (fun i => (mvA T (Qn T i)).length) (LTn T))) M)) 4 [some (.ref 9), some (.int (nI (mxF (fun i => (mvA T (Qn T i)).length) k))), some (.int (nI k))] [] M := by
    intro n
    induction n with
    | zero => intro k h1 h2; exact absurd h2 (by omega)
    | succ n ih =>
      intro k hk hn
      have hm : mxF (fun i => (mvA T (Qn T i)).length) k ≤ 32 := mxF_le.mpr (fun i _ => mvA_32 hT)
      have hm2 : (mvA T (Qn T k)).length ≤ 32 := mvA_32 hT
      refine E_iload_n dX2_mostMovesOfAState_4 rfl ?_
      refine E_aload_n dX2_mostMovesOfAState_5 rfl ?_
      refine E_getI' (ci := 2) (j := 11) dX2_mostMovesOfAState_6 fkX2_51 rfl (by decide) rfl (by decide) (gr_st h) ?_
      refine E_icmp_geN (t := 28) dX2_mostMovesOfAState_9 (by decide) (by omega) (by omega) (fun c9 => ?_) (fun c9 => ?_)
      · skip
        refine E_iload_n dX2_mostMovesOfAState_28 rfl ?_
        refine E_iret dX2_mostMovesOfAState_29 rfl ?_
        obtain rfl : k = LTn T := by omega
        exact Rt_n rfl
      · skip
        refine E_iload_n dX2_mostMovesOfAState_12 rfl ?_
        refine E_aload_n dX2_mostMovesOfAState_13 rfl ?_
        refine E_iload_n dX2_mostMovesOfAState_14 rfl ?_
        refine E_callV (r := qX2_movesFrom) (ci := 2) dX2_mostMovesOfAState_15 mkX2_98 voX2_movesFrom rfl rfl rfl ⟨Nat.le_of_ble_eq_true rfl, Nat.le_of_ble_eq_true rfl, Nat.le_of_ble_eq_true rfl, Nat.le_of_ble_eq_true rfl⟩ (c_movesFrom hT hB h c9) rfl (Nat.le_of_ble_eq_true rfl) ?_
        rintro _ _ ⟨rfl, rfl⟩
        refine E_mmax dX2_mostMovesOfAState_18 mkX2_101 (by omega) (by omega) (Nat.le_of_ble_eq_true rfl) (Nat.le_of_ble_eq_true rfl) (Nat.le_of_ble_eq_true rfl) (Nat.le_of_ble_eq_true rfl) ?_
        refine E_ist_n (i := 1) dX2_mostMovesOfAState_21 rfl (by decide) rfl ?_
        refine E_iincN (b := 1) dX2_mostMovesOfAState_22 rfl rfl (by decide) rfl ?_
        refine E_goto (t := 4) dX2_mostMovesOfAState_25 (by decide) ?_
        exact ih (k + 1) (by omega) (by omega)
  refine Call_of (ls0 := [some (.ref 9), none, none]) rfl rfl (Nat.le_of_ble_eq_true rfl) ?_
  refine E_iconst (v := nI 0) dX2_mostMovesOfAState_0 rfl ?_
  refine E_ist_n (i := 1) dX2_mostMovesOfAState_1 rfl (by decide) rfl ?_
  refine E_iconst (v := nI 0) dX2_mostMovesOfAState_2 rfl ?_
  refine E_ist_n (i := 2) dX2_mostMovesOfAState_3 rfl (by decide) rfl ?_
  exact L (LTn T + 1) 0 (Nat.zero_le _) (by omega)
theorem c_greatestDepth (hT : WT T) (hB : T 61 13 < 64) (h : GR T M) : Call g qX2_greatestDepth [.ref 9] M (Rt (nI (dQ T (LTn T - 1))) M) := by
  have hL := q_le hT hB
  have hp := (q_pos hT hB).1
  refine Call_of (ls0 := [some (.ref 9)]) rfl rfl (Nat.le_of_ble_eq_true rfl) ?_
  refine E_aload_n dX2_greatestDepth_0 rfl ?_
  refine E_getI' (ci := 2) (j := 11) dX2_greatestDepth_1 fkX2_51 rfl (by decide) rfl (by decide) (gr_st h) ?_
  refine E_if_neN (t := 11) dX2_greatestDepth_4 (by decide) (by omega) (fun c4 => ?_) (fun c4 => ?_)
  · skip
    refine E_aload_n dX2_greatestDepth_11 rfl ?_
    refine E_getR' (ci := 2) (j := 2) (p := 12) dX2_greatestDepth_12 fkX2_18 rfl (by decide) rfl (by decide) (rfl) ?_
    refine E_aload_n dX2_greatestDepth_15 rfl ?_
    refine E_getI' (ci := 2) (j := 11) dX2_greatestDepth_16 fkX2_51 rfl (by decide) rfl (by decide) (gr_st h) ?_
    refine E_iconst (v := nI 1) dX2_greatestDepth_19 rfl ?_
    refine E_isubN dX2_greatestDepth_20 (by omega) ?_
    refine E_ialdN dX2_greatestDepth_21 rfl (by omega) (by decide) (gr_d h (by omega)) ?_
    refine E_iret dX2_greatestDepth_22 rfl ?_
    exact Rt_n rfl
  · skip
    exact absurd c4 (by omega)
end G7
