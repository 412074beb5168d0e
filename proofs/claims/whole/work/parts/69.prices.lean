-- the class's prices
section Q6
variable {T : TK}
noncomputable def cQ (T : TK) (i : Nat) : Nat := (CT T (Qn T i)).getD 0
theorem rch_c (hT : WT T) : ∀ (n s : Nat), rch (sx0 T) (fst0 T) n s → ∃ c, c ≤ 9 * n ∧ crch T n s c
  | 0, s, h => ⟨0, Nat.le_refl _, h, rfl⟩
  | n + 1, s, ⟨u, h1, h2⟩ => by
    obtain ⟨c, h3, h4⟩ := rch_c hT n u h1
    obtain ⟨a, ha, ho, hx⟩ := sx0_mem.mp h2
    have := (wt_a hT ha).2.2.1
    exact ⟨c + T 64 a, by omega, u, a, c, h4, ha, ho, hx, rfl⟩
theorem cQ_ok (hT : WT T) (hB : T 61 13 < 64) {i : Nat} (hi : i < LTn T) : CT T (Qn T i) = some (cQ T i) ∧ cQ T i ≤ 9216 := by
  obtain ⟨c, h1, h2⟩ := rch_c hT _ _ (dQ_rch hT hB hi).1
  have hlt := Qn_lt hT hB hi
  obtain ⟨z, ⟨m, h3⟩, h4⟩ := pk_least (fun c => ∃ n, crch T n (Qn T i) c) ⟨c, _, h2⟩
  have h5 : CT T (Qn T i) = some z := (CT_isC T _ _ hlt).mpr ⟨⟨m, h3⟩, fun n c' hc => Nat.le_of_not_lt (fun hl => h4 c' hl ⟨n, hc⟩)⟩
  have h6 : cQ T i = z := by unfold cQ; rw [h5]; rfl
  rw [h6]
  refine ⟨h5, ?_⟩
  have h7 : z ≤ c := Nat.le_of_not_lt (fun hl => h4 c hl ⟨_, h2⟩)
  have h8 := dQ_lt hT hB hi
  omega
theorem cQ_c (hT : WT T) (hB : T 61 13 < 64) {i : Nat} (hi : i < LTn T) : (∃ n, crch T n (Qn T i) (cQ T i)) ∧ ∀ n c, crch T n (Qn T i) c → cQ T i ≤ c := (CT_isC T _ _ (Qn_lt hT hB hi)).mp (cQ_ok hT hB hi).1
theorem cQ_m (hT : WT T) (hB : T 61 13 < 64) {m : Nat} (hm : m < mN T) : cQ T (mT T m) ≤ cQ T (mF T m) + T 64 (mA T m) := by
  have ok := mv_ok hT hB hm
  obtain ⟨⟨n, h1⟩, -⟩ := cQ_c hT hB ok.1
  exact (cQ_c hT hB ok.2.2.2.2.2.1).2 (n + 1) _ ⟨_, mA T m, _, h1, ok.2.2.2.1, ok.2.2.2.2.1, ok.2.2.2.2.2.2.symm, rfl⟩
theorem crch_D (hT : WT T) (hB : T 61 13 < 64) : ∀ (n s c : Nat), crch T n s c → ∃ i, i < LTn T ∧ Qn T i = s
  | 0, s, c, h => ⟨0, (q_pos hT hB).1, (q_pos hT hB).2.trans h.1.symm⟩
  | n + 1, s, c, ⟨u, a, b, h1, ha, ho, hx, _⟩ => by
    obtain ⟨i, hi, hq⟩ := crch_D hT hB n u b h1
    rw [← hq] at ho hx
    obtain ⟨j, hj, hqj⟩ := D_Qn hT hB (nx_D hT hB hi ha ho)
    exact ⟨j, hj, hqj.trans hx⟩
/-- the last move of a row to place i -/
theorem crch_m (hT : WT T) (hB : T 61 13 < 64) {n i c : Nat} (hi : i < LTn T) (h : crch T (n + 1) (Qn T i) c) : ∃ m b, m < mN T ∧ mT T m = i ∧ crch T n (Qn T (mF T m)) b ∧ c = b + T 64 (mA T m) := by
  obtain ⟨u, a, b, h1, ha, ho, hx, hc⟩ := h
  obtain ⟨j, hj, hq⟩ := crch_D hT hB n u b h1
  rw [← hq] at ho hx h1
  obtain ⟨m, m1, m2, m3, m4⟩ := mv_of hj ha ho
  refine ⟨m, b, (mv_sl hj m1 m2).2, mT_of hT hB hi (by rw [m3, m4]; exact hx), by rw [m3]; exact h1, by rw [m4]; exact hc⟩
def LcI (T : TK) (lc : Nat → Nat) : Prop := lc 0 = 0 ∧ ∀ i, i < LTn T → cQ T i ≤ lc i ∧ lc i ≤ 10240
/-- nothing makes a row cheaper: all is least -/
theorem lc_fix (hT : WT T) (hB : T 61 13 < 64) {lc : Nat → Nat} (h0 : lc 0 = 0) (h : ∀ m, m < mN T → lc (mT T m) ≤ lc (mF T m) + T 64 (mA T m)) : ∀ (n i c : Nat), i < LTn T → crch T n (Qn T i) c → lc i ≤ c
  | 0, i, c, hi, h1 => by
    have : i = 0 := Qn_inj hT hB hi (q_pos hT hB).1 (h1.1.trans (q_pos hT hB).2.symm)
    rw [this, h0]; exact Nat.zero_le _
  | n + 1, i, c, hi, h1 => by
    obtain ⟨m, b, m1, m2, m3, m4⟩ := crch_m hT hB hi h1
    have h2 := lc_fix hT hB h0 h n (mF T m) b (mv_ok hT hB m1).1 m3
    have h3 := h m m1
    rw [m2] at h3
    omega
/-- where one is not yet least, a move from one that is leads to one that is not -/
theorem lc_path (hT : WT T) (hB : T 61 13 < 64) {lc : Nat → Nat} (hI : LcI T lc) : ∀ (n i : Nat), i < LTn T → crch T n (Qn T i) (cQ T i) → lc i ≠ cQ T i → ∃ m, m < mN T ∧ lc (mF T m) = cQ T (mF T m) ∧ lc (mT T m) ≠ cQ T (mT T m) ∧ cQ T (mF T m) + T 64 (mA T m) = cQ T (mT T m)
  | 0, i, hi, h1, h2 => by
    have e : i = 0 := Qn_inj hT hB hi (q_pos hT hB).1 (h1.1.trans (q_pos hT hB).2.symm)
    have := h1.2
    rw [e] at h2 this
    rw [hI.1, this] at h2
    exact absurd rfl h2
  | n + 1, i, hi, h1, h2 => by
    obtain ⟨m, b, m1, m2, m3, m4⟩ := crch_m hT hB hi h1
    have ok := mv_ok hT hB m1
    have hb : b = cQ T (mF T m) := by
      have h3 := (cQ_c hT hB ok.1).2 n b m3
      have h4 := cQ_m hT hB m1
      rw [m2] at h4
      omega
    rw [hb] at m3 m4
    by_cases e : lc (mF T m) = cQ T (mF T m)
    · exact ⟨m, m1, e, by rw [m2]; exact h2, by rw [m2]; exact m4.symm⟩
    · exact lc_path hT hB hI n (mF T m) ok.1 m3 e
theorem cnt_lt {f h : Nat → Bool} {v : Nat} : ∀ {n : Nat}, v < n → (∀ t, t < n → f t = true → h t = true) → f v = false → h v = true → cntN f n + 1 ≤ cntN h n
  | 0, hv, _, _, _ => absurd hv (Nat.not_lt_zero v)
  | n + 1, hv, h1, h2, h3 => by
    show cntN f n + (f n).toNat + 1 ≤ cntN h n + (h n).toNat
    by_cases e : v = n
    · subst e
      have := cntN_mono (f := f) (h := h) (n := v) (fun t ht => h1 t (by omega))
      rw [h2, h3]
      show _ + 0 + 1 ≤ _ + 1
      omega
    · have := cnt_lt (f := f) (h := h) (v := v) (n := n) (by omega) (fun t ht => h1 t (by omega)) h2 h3
      have h4 : (f n).toNat ≤ (h n).toNat := by
        cases hf : f n
        · exact Nat.zero_le _
        · rw [h1 n (by omega) hf]; exact Nat.le_refl _
      omega
theorem cnt_full {f : Nat → Bool} : ∀ {n : Nat}, n ≤ cntN f n → ∀ t, t < n → f t = true
  | 0, _, t, ht => absurd ht (Nat.not_lt_zero t)
  | n + 1, h, t, ht => by
    have h1 : n + 1 ≤ cntN f n + (f n).toNat := h
    have h2 := cntN_le f n
    cases hf : f n
    · rw [hf] at h1
      have : false.toNat = 0 := rfl
      omega
    · by_cases e : t = n
      · rw [e]; exact hf
      · rw [hf] at h1
        have : true.toNat = 1 := rfl
        exact cnt_full (n := n) (by omega) t (by omega)
/-- a round settles one more -/
theorem lc_round (hT : WT T) (hB : T 61 13 < 64) {lc lc' : Nat → Nat} {r : Nat} (hI : LcI T lc) (hI' : LcI T lc') (hle : ∀ i, i < LTn T → lc' i ≤ lc i) (hA : ∀ m, m < mN T → lc' (mT T m) ≤ lc (mF T m) + T 64 (mA T m)) (hr : min (r + 1) (LTn T) ≤ cntN (fun i => lc i == cQ T i) (LTn T)) : min (r + 1 + 1) (LTn T) ≤ cntN (fun i => lc' i == cQ T i) (LTn T) := by
  have hmo : ∀ t, t < LTn T → (lc t == cQ T t) = true → (lc' t == cQ T t) = true := fun t ht h => by
    rw [beq_iff_eq] at h ⊢
    have h1 := hle t ht
    have h2 := (hI'.2 t ht).1
    omega
  by_cases e : ∃ i, i < LTn T ∧ lc i ≠ cQ T i
  · obtain ⟨i, hi, hne⟩ := e
    obtain ⟨⟨n, hn⟩, -⟩ := cQ_c hT hB hi
    obtain ⟨m, m1, m2, m3, m4⟩ := lc_path hT hB hI n i hi hn hne
    have ok := mv_ok hT hB m1
    have h1 := hA m m1
    have h2 := (hI'.2 _ ok.2.2.2.2.2.1).1
    have := cnt_lt (f := fun i => lc i == cQ T i) (h := fun i => lc' i == cQ T i) (v := mT T m) ok.2.2.2.2.2.1 hmo (beq_eq_false_iff_ne.mpr m3) (beq_iff_eq.mpr (by omega))
    omega
  · have hall : ∀ t, t < LTn T → (lc' t == cQ T t) = true := fun t ht => hmo t ht (beq_iff_eq.mpr (Classical.byContradiction (fun q => e ⟨t, ht, q⟩)))
    have : cntN (fun i => lc' i == cQ T i) (LTn T) = LTn T := by
      have hg : ∀ n, n ≤ LTn T → cntN (fun i => lc' i == cQ T i) n = n := fun n => by
        induction n with
        | zero => intro _; rfl
        | succ n ih => intro hn; rw [cntN_t (f := fun i => lc' i == cQ T i) (hall n (by omega)), ih (by omega)]
      exact hg _ (Nat.le_refl _)
    omega
end Q6
section P1
variable {g : GG} {M : AM} {T : TK} {p : Nat}
def PP (T : TK) (M : AM) : Prop := ∀ i, i < LTn T → M.1 35 i = nI (cQ T i)
theorem pl_I (hs : Sp p) (hT : WT T) (hB : T 61 13 < 64) (hG : GR T M) (hSC : SC T p M) {lc0 : Nat → Nat} {r : Nat} (hr : r < 2000) (nx : ∀ M2 lc b y y6, LcI T lc → (∀ i, i < LTn T → M2.1 35 i = nI (lc i)) → (∀ i, i < LTn T → lc i ≤ lc0 i) → (∀ m, m < mN T → lc (mT T m) ≤ lc0 (mF T m) + T 64 (mA T m)) → (b = false → ∀ i, i < LTn T → lc i = lc0 i) → Sb [35] M M2 → Ex g qX5_learn (tm g qX5_learn (fun v M' => v = none ∧ PP T M' ∧ Sb [35] M M')) 22 [some (.ref 34), some (.ref 9), some (.ref (p + 3)), some (.int (bI b)), some (.int (nI (r + 1))), y, y6] [] M2) :
    ∀ (n k : Nat) (M2 : AM) (lc : Nat → Nat) (b : Bool) (y6 : Option Value), k ≤ mN T → mN T < k + n → LcI T lc → (∀ i, i < LTn T → M2.1 35 i = nI (lc i)) → (∀ i, i < LTn T → lc i ≤ lc0 i) → (∀ m, m < k → lc (mT T m) ≤ lc0 (mF T m) + T 64 (mA T m)) → (b = false → ∀ i, i < LTn T → lc i = lc0 i) → Sb [35] M M2 → Ex g qX5_learn (tm g qX5_learn (fun v M' => v = none ∧ PP T M' ∧ Sb [35] M M')) 39 [some (.ref 34), some (.ref 9), some (.ref (p + 3)), some (.int (bI b)), some (.int (nI r)), some (.int (nI k)), y6] [] M2 := by
  have hLq := q_le hT hB
  have hN := mN_le hT hB
  have h32 := hT.1
  intro n
  induction n with
  | zero => intro k M2 lc b y6 h1 h2; exact absurd h2 (by omega)
  | succ n ih =>
    intro k M2 lc b y6 hk hn hI hM hle hA hb hS
    have hG2 := gr_sb hG hS (by decide)
    have hSC2 := sc_lo hSC hS (by decide)
    by_cases hlt : k < mN T
    · have ok := mv_ok hT hB hlt
      have hF := hM _ ok.1
      have hTo := hM _ ok.2.2.2.2.2.1
      have b1 := hI.2 _ ok.1
      have b2 := hI.2 _ ok.2.2.2.2.2.1
      have hp9 := (wt_a hT ok.2.2.2.1).2.2.1
      have hpr : M2.1 (p + 3) (mA T k) = nI (T 64 (mA T k)) := sc_price hSC2 ok.2.2.2.1
      have hm := cQ_m hT hB hlt
      have K1 : lc (mT T k) ≤ lc (mF T k) + T 64 (mA T k) → ∀ y6, Ex g qX5_learn (tm g qX5_learn (fun v M' => v = none ∧ PP T M' ∧ Sb [35] M M')) 39 [some (.ref 34), some (.ref 9), some (.ref (p + 3)), some (.int (bI b)), some (.int (nI r)), some (.int (nI (k + 1))), y6] [] M2 := fun e y6 => ih (k + 1) M2 lc b y6 (by omega) (by omega) hI hM hle (fun m hm2 => by
        by_cases q : m = k
        · rw [q]; have := hle _ ok.1; omega
        · exact hA m (by omega)) hb hS
      have K2 : lc (mF T k) + T 64 (mA T k) < lc (mT T k) → ∀ y6, Ex g qX5_learn (tm g qX5_learn (fun v M' => v = none ∧ PP T M' ∧ Sb [35] M M')) 39 [some (.ref 34), some (.ref 9), some (.ref (p + 3)), some (.int (bI true)), some (.int (nI r)), some (.int (nI (k + 1))), y6] [] (sI M2 35 (mT T k) (nI (lc (mF T k) + T 64 (mA T k)))) := fun e y6 => by
        have hne : mT T k ≠ 0 := fun q => by rw [q, hI.1] at e; omega
        refine ih (k + 1) _ (fun i => if i = mT T k then lc (mF T k) + T 64 (mA T k) else lc i) true y6 (by omega) (by omega) ⟨?_, fun i hi => ?_⟩ (fun i hi => ?_) (fun i hi => ?_) (fun m hm2 => ?_) (fun q => by cases q) (hS.tr (Sb.i (by decide)))
        · dsimp only; rw [if_neg (fun (q : 0 = mT T k) => hne q.symm)]; exact hI.1
        · dsimp only
          by_cases q : i = mT T k
          · rw [if_pos q, q]; omega
          · rw [if_neg q]; exact hI.2 i hi
        · by_cases q : i = mT T k
          · rw [if_pos q, q, sI_s]
          · rw [if_neg q, sI_o (fun z => q z.2)]; exact hM i hi
        · by_cases q : i = mT T k
          · rw [if_pos q, q]; have := hle _ ok.2.2.2.2.2.1; omega
          · rw [if_neg q]; exact hle i hi
        · by_cases q2 : m = k
          · rw [q2, if_pos rfl]; have := hle _ ok.1; omega
          · by_cases q : mT T m = mT T k
            · rw [if_pos q]
              have := hA m (by omega)
              rw [q] at this
              omega
            · rw [if_neg q]; exact hA m (by omega)
      refine E_iload dX5_learn_39 rfl ?_
      refine E_aload_n dX5_learn_41 rfl ?_
      refine E_getI' (ci := 2) (j := 12) dX5_learn_42 fkX5_21 rfl (by decide) rfl (by decide) (gr_mv hG2) ?_
      refine E_icmp_geN (t := 111) dX5_learn_45 (by decide) (by omega) (by omega) (fun c45 => ?_) (fun c45 => ?_)
      · skip
        exact absurd c45 (by omega)
      · skip
        refine E_aload_n dX5_learn_48 rfl ?_
        refine E_getR' (ci := 5) (j := 0) (p := 35) dX5_learn_49 fkX5_9 rfl (by decide) rfl (by decide) (rfl) ?_
        refine E_aload_n dX5_learn_52 rfl ?_
        refine E_getR' (ci := 2) (j := 6) (p := 16) dX5_learn_53 fkX5_27 rfl (by decide) rfl (by decide) (rfl) ?_
        refine E_iload dX5_learn_56 rfl ?_
        refine E_ialdN dX5_learn_58 rfl (by omega) (by decide) (gr_mf hG2 hlt) ?_
        refine E_ialdN dX5_learn_59 rfl (by omega) (by decide) (hF) ?_
        refine E_aload_n dX5_learn_60 rfl ?_
        refine E_aload_n dX5_learn_61 rfl ?_
        refine E_getR' (ci := 2) (j := 8) (p := 18) dX5_learn_62 fkX5_30 rfl (by decide) rfl (by decide) (rfl) ?_
        refine E_iload dX5_learn_65 rfl ?_
        refine E_ialdN dX5_learn_67 rfl (by omega) (by decide) (gr_ma hG2 hlt) ?_
        refine E_ialdN dX5_learn_68 (kp3 hs) (by omega) (by decide) (hpr) ?_
        refine E_iaddN dX5_learn_69 ?_
        refine E_istore dX5_learn_70 (by decide) rfl ?_
        refine E_iload dX5_learn_72 rfl ?_
        refine E_aload_n dX5_learn_74 rfl ?_
        refine E_getR' (ci := 5) (j := 0) (p := 35) dX5_learn_75 fkX5_9 rfl (by decide) rfl (by decide) (rfl) ?_
        refine E_aload_n dX5_learn_78 rfl ?_
        refine E_getR' (ci := 2) (j := 7) (p := 17) dX5_learn_79 fkX5_33 rfl (by decide) rfl (by decide) (rfl) ?_
        refine E_iload dX5_learn_82 rfl ?_
        refine E_ialdN dX5_learn_84 rfl (by omega) (by decide) (gr_mt hG2 hlt) ?_
        refine E_ialdN dX5_learn_85 rfl (by omega) (by decide) (hTo) ?_
        refine E_icmp_geN (t := 105) dX5_learn_86 (by decide) (by omega) (by omega) (fun c86 => ?_) (fun c86 => ?_)
        · skip
          have key := K1 c86
          refine E_iincN (b := 1) dX5_learn_105 rfl rfl (by decide) rfl ?_
          refine E_goto (t := 39) dX5_learn_108 (by decide) ?_
          exact key _
        · skip
          have key := K2 c86
          refine E_aload_n dX5_learn_89 rfl ?_
          refine E_getR' (ci := 5) (j := 0) (p := 35) dX5_learn_90 fkX5_9 rfl (by decide) rfl (by decide) (rfl) ?_
          refine E_aload_n dX5_learn_93 rfl ?_
          refine E_getR' (ci := 2) (j := 7) (p := 17) dX5_learn_94 fkX5_33 rfl (by decide) rfl (by decide) (rfl) ?_
          refine E_iload dX5_learn_97 rfl ?_
          refine E_ialdN dX5_learn_99 rfl (by omega) (by decide) (gr_mt hG2 hlt) ?_
          refine E_iload dX5_learn_100 rfl ?_
          refine E_iastN dX5_learn_102 rfl (by omega) (by decide) ?_
          refine E_iconst (v := nI 1) dX5_learn_103 rfl ?_
          refine E_ist_n (i := 3) dX5_learn_104 rfl (by decide) rfl ?_
          refine E_iincN (b := 1) dX5_learn_105 rfl rfl (by decide) rfl ?_
          refine E_goto (t := 39) dX5_learn_108 (by decide) ?_
          exact key _
    · have hke : k = mN T := by omega
      subst hke
      have key := nx M2 lc b (some (.int (nI (mN T)))) y6 hI hM hle hA hb hS
      refine E_iload dX5_learn_39 rfl ?_
      refine E_aload_n dX5_learn_41 rfl ?_
      refine E_getI' (ci := 2) (j := 12) dX5_learn_42 fkX5_21 rfl (by decide) rfl (by decide) (gr_mv hG2) ?_
      refine E_icmp_geN (t := 111) dX5_learn_45 (by decide) (by omega) (by omega) (fun c45 => ?_) (fun c45 => ?_)
      · skip
        refine E_iincN (b := 1) dX5_learn_111 rfl rfl (by decide) rfl ?_
        refine E_goto (t := 22) dX5_learn_114 (by decide) ?_
        exact key
      · skip
        exact absurd c45 (by omega)
theorem pl_22 (hs : Sp p) (hT : WT T) (hB : T 61 13 < 64) (hG : GR T M) (hSC : SC T p M) : ∀ (n r : Nat) (M1 : AM) (lc : Nat → Nat) (b : Bool) (y y6 : Option Value), r ≤ 1024 → 1024 < r + n → LcI T lc → (∀ i, i < LTn T → M1.1 35 i = nI (lc i)) → (b = false → ∀ m, m < mN T → lc (mT T m) ≤ lc (mF T m) + T 64 (mA T m)) → min (r + 1) (LTn T) ≤ cntN (fun i => lc i == cQ T i) (LTn T) → Sb [35] M M1 → Ex g qX5_learn (tm g qX5_learn (fun v M' => v = none ∧ PP T M' ∧ Sb [35] M M')) 22 [some (.ref 34), some (.ref 9), some (.ref (p + 3)), some (.int (bI b)), some (.int (nI r)), y, y6] [] M1 := by
  have hLq := q_le hT hB
  intro n
  induction n with
  | zero => intro r M1 lc b y y6 h1 h2; exact absurd h2 (by omega)
  | succ n ih =>
    intro r M1 lc b y y6 hr hn hI hM hb hc hS
    have KE : (∀ i, i < LTn T → lc i = cQ T i) → (fun v M' => v = none ∧ PP T M' ∧ Sb [35] M M') (none : Option Value) M1 := fun e => ⟨rfl, fun i hi => by rw [hM i hi, e i hi], hS⟩
    have K1 : 1024 ≤ r → (fun v M' => v = none ∧ PP T M' ∧ Sb [35] M M') (none : Option Value) M1 := fun e => KE (fun i hi => beq_iff_eq.mp (cnt_full (f := fun i => lc i == cQ T i) (n := LTn T) (by omega) i hi))
    have K2 : b = false → (fun v M' => v = none ∧ PP T M' ∧ Sb [35] M M') (none : Option Value) M1 := fun e => KE (fun i hi => by
      obtain ⟨⟨n, h1⟩, -⟩ := cQ_c hT hB hi
      have h2 := lc_fix hT hB hI.1 (hb e) n i _ hi h1
      have h3 := (hI.2 i hi).1
      omega)
    have K3 : r < 1024 → ∀ y6, Ex g qX5_learn (tm g qX5_learn (fun v M' => v = none ∧ PP T M' ∧ Sb [35] M M')) 39 [some (.ref 34), some (.ref 9), some (.ref (p + 3)), some (.int (bI false)), some (.int (nI r)), some (.int (nI 0)), y6] [] M1 := fun e y6 => pl_I hs hT hB hG hSC (by omega) (fun M2 lc' b' y y6 g1 g2 g3 g4 g5 g6 => ih (r + 1) M2 lc' b' y y6 (by omega) (by omega) g1 g2 (fun q m hm => by
        have ok := mv_ok hT hB hm
        rw [g5 q _ ok.1]
        exact g4 m hm) (lc_round hT hB hI g1 g3 g4 hc) g6) (mN T + 1) 0 M1 lc false y6 (Nat.zero_le _) (by omega) hI hM (fun i _ => Nat.le_refl _) (fun m hm => absurd hm (Nat.not_lt_zero m)) (fun _ i _ => rfl) hS
    refine E_iload dX5_learn_22 rfl ?_
    refine E_sipush (v := nI 1024) dX5_learn_24 rfl ?_
    refine E_icmp_geN (t := 117) dX5_learn_27 (by decide) (by omega) (by omega) (fun c27 => ?_) (fun c27 => ?_)
    · skip
      have key := K1 c27
      refine E_vret dX5_learn_117 rfl ?_
      exact key
    · skip
      refine E_iload_n dX5_learn_30 rfl ?_
      refine E_if_eqB (t := 117) dX5_learn_31 (by decide) (fun c31 => ?_) (fun c31 => ?_)
      · skip
        have key := K2 c31
        refine E_vret dX5_learn_117 rfl ?_
        exact key
      · skip
        refine E_iconst (v := nI 0) dX5_learn_34 rfl ?_
        refine E_top (show nI 0 = bI false from rfl) ?_
        refine E_ist_n (i := 3) dX5_learn_35 rfl (by decide) rfl ?_
        refine E_iconst (v := nI 0) dX5_learn_36 rfl ?_
        refine E_istore dX5_learn_37 (by decide) rfl ?_
        exact K3 c27 _
theorem c_prices (hT : WT T) (hB : T 61 13 < 64) (hG : GR T M) (hSC : SC T p M) : Call g qX5_learn [.ref 34, .ref 9, .ref (p + 3)] M (fun v M' => v = none ∧ PP T M' ∧ Sb [35] M M') := by
  have hs := hSC.1
  have hLq := q_le hT hB
  have hp := (q_pos hT hB).1
  have h0 : cQ T 0 = 0 := by
    have := (cQ_c hT hB hp).2 0 0 ⟨(q_pos hT hB).2, rfl⟩
    omega
  have key := pl_22 (g := g) hs hT hB hG hSC 1025 0 (sI (flM M 35 1024 (nI 10240)) 35 0 (nI 0)) (fun i => if i = 0 then 0 else 10240) true none none (Nat.zero_le _) (by omega) ⟨if_pos rfl, fun i hi => by
    dsimp only
    by_cases e : i = 0
    · rw [if_pos e, e, h0]; omega
    · rw [if_neg e]; have := (cQ_ok hT hB hi).2; omega⟩ (fun i hi => by
    by_cases e : i = 0
    · rw [if_pos e, e, sI_s]
    · rw [if_neg e, sI_o (fun z => e z.2), flM_in (by omega)]) (fun e => by cases e) (by
    have := cnt_lt (f := fun _ => false) (h := fun i => (if i = 0 then 0 else 10240) == cQ T i) (v := 0) hp (fun t _ q => by cases q) rfl (by rw [if_pos rfl, h0]; rfl)
    omega) ((flM_sb (by decide)).tr (Sb.i (by decide)))
  refine Call_of (ls0 := [some (.ref 34), some (.ref 9), some (.ref (p + 3)), none, none, none, none]) rfl rfl (Nat.le_of_ble_eq_true rfl) ?_
  refine E_aload_n dX5_learn_0 rfl ?_
  refine E_getR' (ci := 5) (j := 0) (p := 35) dX5_learn_1 fkX5_9 rfl (by decide) rfl (by decide) (rfl) ?_
  refine E_sipush (v := nI 10240) dX5_learn_4 rfl ?_
  refine E_callS (r := qJ7_fill_53178) dX5_learn_7 mkX5_15 toJ7_fill_53178 rfl ⟨Nat.le_of_ble_eq_true rfl, Nat.le_of_ble_eq_true rfl, Nat.le_of_ble_eq_true rfl, Nat.le_of_ble_eq_true rfl⟩ (c_fill rfl (by decide)) rfl (Nat.le_of_ble_eq_true rfl) ?_
  rintro _ _ ⟨rfl, rfl⟩
  refine E_aload_n dX5_learn_10 rfl ?_
  refine E_getR' (ci := 5) (j := 0) (p := 35) dX5_learn_11 fkX5_9 rfl (by decide) rfl (by decide) (rfl) ?_
  refine E_iconst (v := nI 0) dX5_learn_14 rfl ?_
  refine E_iconst (v := nI 0) dX5_learn_15 rfl ?_
  refine E_iastN dX5_learn_16 rfl (by omega) (by decide) ?_
  refine E_iconst (v := nI 1) dX5_learn_17 rfl ?_
  refine E_top (show nI 1 = bI true from rfl) ?_
  refine E_ist_n (i := 3) dX5_learn_18 rfl (by decide) rfl ?_
  refine E_iconst (v := nI 0) dX5_learn_19 rfl ?_
  refine E_istore dX5_learn_20 (by decide) rfl ?_
  exact key
def miF (f : Nat → Bool) (x : Nat → Nat) : Nat → Nat
  | 0 => 10240
  | n + 1 => if f n = true then min (miF f x n) (x n) else miF f x n
theorem miF_le {f : Nat → Bool} {x : Nat → Nat} : ∀ n, miF f x n ≤ 10240
  | 0 => Nat.le_refl _
  | n + 1 => by
    have := miF_le (f := f) (x := x) n
    rw [miF]
    split
    · omega
    · exact this
theorem c_cheapestOf (hT : WT T) (hB : T 61 13 < 64) (hG : GR T M) (hP : PP T M) {l : Nat} (hl : l < 16) : Call g qX5_cheapestOf [.ref 34, .ref 9, .int (nI l)] M (Rt (nI (miF (fun i => Qn T i / 64 == l) (cQ T) (LTn T))) M) := by
  have hLq := q_le hT hB
  have L : ∀ (n k : Nat), k ≤ LTn T → LTn T < k + n → Ex g qX5_cheapestOf (tm g qX5_cheapestOf (Rt (nI (miF (fun i => Qn T i / 64 == l) (cQ T) (LTn T))) M)) 7 [some (.ref 34), some (.ref 9), some (.int (nI l)), some (.int (nI (miF (fun i => Qn T i / 64 == l) (cQ T) k))), some (.int (nI k))] [] M := by
    intro n
    induction n with
    | zero => intro k h1 h2; exact absurd h2 (by omega)
    | succ n ih =>
      intro k hk hn
      have hq : k < LTn T → Qn T k / 64 < 16 := fun e => by have := Qn_lt hT hB e; omega
      have hc : k < LTn T → cQ T k ≤ 9216 := fun e => (cQ_ok hT hB e).2
      have hm := miF_le (f := fun i => Qn T i / 64 == l) (x := cQ T) k
      refine E_iload dX5_cheapestOf_7 rfl ?_
      refine E_aload_n dX5_cheapestOf_9 rfl ?_
      refine E_getI' (ci := 2) (j := 11) dX5_cheapestOf_10 fkX5_36 rfl (by decide) rfl (by decide) (gr_st hG) ?_
      refine E_icmp_geN (t := 44) dX5_cheapestOf_13 (by decide) (by omega) (by omega) (fun c13 => ?_) (fun c13 => ?_)
      · skip
        refine E_iload_n dX5_cheapestOf_44 rfl ?_
        refine E_iret dX5_cheapestOf_45 rfl ?_
        obtain rfl : k = LTn T := by omega
        exact Rt_n rfl
      · skip
        refine E_aload_n dX5_cheapestOf_16 rfl ?_
        refine E_iload dX5_cheapestOf_17 rfl ?_
        refine E_callV (r := qX2_lineAt) (ci := 2) dX5_cheapestOf_19 mkX5_39 voX2_lineAt rfl rfl rfl ⟨Nat.le_of_ble_eq_true rfl, Nat.le_of_ble_eq_true rfl, Nat.le_of_ble_eq_true rfl, Nat.le_of_ble_eq_true rfl⟩ (c_line hT hB hG c13) rfl (Nat.le_of_ble_eq_true rfl) ?_
        rintro _ _ ⟨rfl, rfl⟩
        refine E_iload_n dX5_cheapestOf_22 rfl ?_
        refine E_icmp_neN (t := 38) dX5_cheapestOf_23 (by decide) (by have := hq c13; omega) (by omega) (fun c23 => ?_) (fun c23 => ?_)
        · skip
          have e1 : miF (fun i => Qn T i / 64 == l) (cQ T) (k + 1) = miF (fun i => Qn T i / 64 == l) (cQ T) k := by rw [miF, if_neg (by rw [beq_iff_eq]; exact c23)]
          refine E_iincN (b := 1) dX5_cheapestOf_38 rfl rfl (by decide) rfl ?_
          refine E_goto (t := 7) dX5_cheapestOf_41 (by decide) ?_
          rw [← e1]
          exact ih (k + 1) (by omega) (by omega)
        · skip
          have e1 : miF (fun i => Qn T i / 64 == l) (cQ T) (k + 1) = min (miF (fun i => Qn T i / 64 == l) (cQ T) k) (cQ T k) := by rw [miF, if_pos (beq_iff_eq.mpr c23)]
          refine E_iload_n dX5_cheapestOf_26 rfl ?_
          refine E_aload_n dX5_cheapestOf_27 rfl ?_
          refine E_getR' (ci := 5) (j := 0) (p := 35) dX5_cheapestOf_28 fkX5_9 rfl (by decide) rfl (by decide) (rfl) ?_
          refine E_iload dX5_cheapestOf_31 rfl ?_
          refine E_ialdN dX5_cheapestOf_33 rfl (by omega) (by decide) (hP k c13) ?_
          refine E_mmin dX5_cheapestOf_34 mkX5_43 (by omega) (by have := hc c13; omega) (Nat.le_of_ble_eq_true rfl) (Nat.le_of_ble_eq_true rfl) (Nat.le_of_ble_eq_true rfl) (Nat.le_of_ble_eq_true rfl) ?_
          refine E_ist_n (i := 3) dX5_cheapestOf_37 rfl (by decide) rfl ?_
          refine E_iincN (b := 1) dX5_cheapestOf_38 rfl rfl (by decide) rfl ?_
          refine E_goto (t := 7) dX5_cheapestOf_41 (by decide) ?_
          rw [← e1]
          exact ih (k + 1) (by omega) (by omega)
  refine Call_of (ls0 := [some (.ref 34), some (.ref 9), some (.int (nI l)), none, none]) rfl rfl (Nat.le_of_ble_eq_true rfl) ?_
  refine E_sipush (v := nI 10240) dX5_cheapestOf_0 rfl ?_
  refine E_ist_n (i := 3) dX5_cheapestOf_3 rfl (by decide) rfl ?_
  refine E_iconst (v := nI 0) dX5_cheapestOf_4 rfl ?_
  refine E_istore dX5_cheapestOf_5 (by decide) rfl ?_
  exact L (LTn T + 1) 0 (Nat.zero_le _) (by omega)
end P1
