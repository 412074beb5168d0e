-- the class's graph: turned round, explored
section Q3
variable {T : TK}
noncomputable def cM (T : TK) (t k : Nat) : Nat := cntN (fun m => mT T m == t) k
noncomputable def bF (T : TK) (t : Nat) : Nat := smN (fun u => cM T u (mN T)) t
noncomputable def pM (T : TK) (m : Nat) : Nat := bF T (mT T m) + cM T (mT T m) m
def GB (T : TK) (M : AM) : Prop := (∀ t, t ≤ LTn T → M.1 19 t = nI (bF T t)) ∧ ∀ m, m < mN T → M.1 20 (pM T m) = nI (mF T m)
def GR (T : TK) (M : AM) : Prop := G3 T (LTn T) (mN T) M ∧ (∀ i, i ≤ LTn T → M.1 15 i = nI (fO T i)) ∧ GB T M
theorem cM_s {t k : Nat} : cM T t (k + 1) = cM T t k + (if mT T k = t then 1 else 0) := by
  show cntN _ k + (mT T k == t).toNat = _
  by_cases e : mT T k = t
  · rw [if_pos e, e, beq_self_eq_true]; rfl
  · rw [if_neg e, beq_eq_false_iff_ne.mpr e]; rfl
theorem cM_le {t k : Nat} : ∀ n, cM T t k ≤ cM T t (k + n)
  | 0 => Nat.le_refl _
  | n + 1 => by
    have h1 := cM_le (t := t) (k := k) n
    have h2 := cM_s (T := T) (t := t) (k := k + n)
    show cM T t k ≤ cM T t (k + n + 1)
    rw [h2]; omega
theorem cM_mono {t k k' : Nat} (h : k ≤ k') : cM T t k ≤ cM T t k' := by
  have := cM_le (T := T) (t := t) (k := k) (k' - k)
  rw [show k + (k' - k) = k' by omega] at this; exact this
theorem bF_s {t : Nat} : bF T (t + 1) = bF T t + cM T t (mN T) := rfl
theorem bF_mono {t t' : Nat} (h : t ≤ t') : bF T t ≤ bF T t' := smN_mn _ h
theorem smN_add1 {f h : Nat → Nat} {k : Nat} : ∀ {n : Nat}, k < n → (∀ t, t < n → f t = h t + (if k = t then 1 else 0)) → smN f n = smN h n + 1
  | 0, hk, _ => absurd hk (Nat.not_lt_zero k)
  | n + 1, hk, e => by
    show smN f n + f n = smN h n + h n + 1
    have e1 := e n (by omega)
    by_cases e2 : k = n
    · subst e2
      rw [if_pos rfl] at e1
      have : smN f k = smN h k := smN_cong (fun t ht => by have := e t (by omega); rw [if_neg (by omega)] at this; omega)
      omega
    · rw [if_neg e2] at e1
      have := smN_add1 (f := f) (h := h) (k := k) (n := n) (by omega) (fun t ht => e t (by omega))
      omega
theorem bF_tot (hT : WT T) (hB : T 61 13 < 64) : ∀ k, k ≤ mN T → smN (fun t => cM T t k) (LTn T) = k
  | 0, _ => by
    have : ∀ n, smN (fun t => cM T t 0) n = 0 := fun n => by
      induction n with
      | zero => rfl
      | succ n ih => show smN _ n + 0 = 0; rw [ih]
    exact this _
  | k + 1, hk => by
    have h1 := bF_tot hT hB k (by omega)
    have h2 := (mv_ok hT hB (show k < mN T by omega)).2.2.2.2.2.1
    rw [smN_add1 (h := fun t => cM T t k) h2 (fun t _ => cM_s), h1]
theorem bF_n (hT : WT T) (hB : T 61 13 < 64) : bF T (LTn T) = mN T := bF_tot hT hB (mN T) (Nat.le_refl _)
theorem cM_in {m : Nat} (hm : m < mN T) : cM T (mT T m) m < cM T (mT T m) (mN T) := by
  have h1 := cM_s (T := T) (t := mT T m) (k := m)
  rw [if_pos rfl] at h1
  have h2 := cM_mono (T := T) (t := mT T m) (show m + 1 ≤ mN T from hm)
  omega
theorem pM_lt (hT : WT T) (hB : T 61 13 < 64) {m : Nat} (hm : m < mN T) : bF T (mT T m) ≤ pM T m ∧ pM T m < bF T (mT T m + 1) ∧ pM T m < mN T := by
  have h1 := cM_in hm
  have h2 := bF_s (T := T) (t := mT T m)
  have h3 := bF_mono (T := T) (show mT T m + 1 ≤ LTn T from (mv_ok hT hB hm).2.2.2.2.2.1)
  rw [bF_n hT hB] at h3
  unfold pM
  omega
theorem pM_inj (hT : WT T) (hB : T 61 13 < 64) {m m' : Nat} (hm : m < m') (hm' : m' < mN T) : pM T m ≠ pM T m' := by
  have h1 := pM_lt hT hB (show m < mN T by omega)
  have h2 := pM_lt hT hB hm'
  rcases Nat.lt_trichotomy (mT T m) (mT T m') with h | h | h
  · have := bF_mono (T := T) (show mT T m + 1 ≤ mT T m' from h); omega
  · have h3 := cM_s (T := T) (t := mT T m) (k := m)
    rw [if_pos rfl] at h3
    have h4 := cM_mono (T := T) (t := mT T m) (show m + 1 ≤ m' from hm)
    unfold pM
    rw [← h]; omega
  · have := bF_mono (T := T) (show mT T m' + 1 ≤ mT T m from h); omega
theorem cM_n (hT : WT T) (hB : T 61 13 < 64) {t : Nat} (ht : LTn T ≤ t) : ∀ k, k ≤ mN T → cM T t k = 0
  | 0, _ => rfl
  | k + 1, hk => by
    have h2 := (mv_ok hT hB (show k < mN T by omega)).2.2.2.2.2.1
    rw [cM_s, cM_n hT hB ht k (by omega), if_neg (by omega)]
end Q3
section G5
variable {g : GG} {M : AM} {T : TK} {p : Nat}
theorem tr_1 (hT : WT T) (hB : T 61 13 < 64) (hmv : M.1 9 12 = nI (mN T)) (hmt : ∀ m, m < mN T → M.1 17 m = nI (mT T m)) (nx : ∀ M1 y, Sb [19, 20] M M1 → (∀ t, t < 1025 → M1.1 19 t = nI (cM T t (mN T))) → Ex g qX2_turnRound (tm g qX2_turnRound (fun v M' => v = none ∧ GB T M' ∧ Sb [19, 20] M M')) 39 [some (.ref 9), some (.int (nI (mN T))), y] [] M1) : ∀ (n k : Nat) (M1 : AM) (y : Option Value), k ≤ mN T → mN T < k + n → Sb [19, 20] M M1 → (∀ t, t < 1025 → M1.1 19 t = nI (cM T t k)) → Ex g qX2_turnRound (tm g qX2_turnRound (fun v M' => v = none ∧ GB T M' ∧ Sb [19, 20] M M')) 10 [some (.ref 9), some (.int (nI k)), y] [] M1 := by
  have hN := mN_le hT hB
  have hL := q_le hT hB
  intro n
  induction n with
  | zero => intro k M1 y h1 h2; exact absurd h2 (by omega)
  | succ n ih =>
    intro k M1 y hk hn hS hc
    have h9 : M1.1 9 12 = nI (mN T) := by rw [(hS 9 (by decide)).1]; exact hmv
    have h17 : k < mN T → M1.1 17 k = nI (mT T k) := fun h => by rw [(hS 17 (by decide)).1]; exact hmt k h
    have hb : k < mN T → mT T k < 1025 := fun h => by have := (mv_ok hT hB h).2.2.2.2.2.1; omega
    have K : k < mN T → Ex g qX2_turnRound (tm g qX2_turnRound (fun v M' => v = none ∧ GB T M' ∧ Sb [19, 20] M M')) 10 [some (.ref 9), some (.int (nI (k + 1))), y] [] (sI M1 19 (mT T k) (nI (cM T (mT T k) k + 1))) := fun h => ih (k + 1) _ _ (by omega) (by omega) (hS.tr (Sb.i (by decide))) (fun t ht => by
      rw [cM_s]
      by_cases e : mT T k = t
      · rw [if_pos e, e, sI_s]
      · rw [if_neg e, sI_o (fun h => e h.2.symm)]; exact hc t ht)
    have K2 : k = mN T → Ex g qX2_turnRound (tm g qX2_turnRound (fun v M' => v = none ∧ GB T M' ∧ Sb [19, 20] M M')) 39 [some (.ref 9), some (.int (nI k)), y] [] M1 := fun e => by subst e; exact nx M1 y hS hc
    refine E_iload_n dX2_turnRound_10 rfl ?_
    refine E_aload_n dX2_turnRound_11 rfl ?_
    refine E_getI' (ci := 2) (j := 12) dX2_turnRound_12 fkX2_55 rfl (by decide) rfl (by decide) (h9) ?_
    refine E_icmp_geN (t := 39) dX2_turnRound_15 (by decide) (by omega) (by omega) (fun c15 => ?_) (fun c15 => ?_)
    · skip
      exact K2 (by omega)
    · skip
      refine E_aload_n dX2_turnRound_18 rfl ?_
      refine E_getR' (ci := 2) (j := 9) (p := 19) dX2_turnRound_19 fkX2_39 rfl (by decide) rfl (by decide) (rfl) ?_
      refine E_aload_n dX2_turnRound_22 rfl ?_
      refine E_getR' (ci := 2) (j := 7) (p := 17) dX2_turnRound_23 fkX2_33 rfl (by decide) rfl (by decide) (rfl) ?_
      refine E_iload_n dX2_turnRound_26 rfl ?_
      refine E_ialdN dX2_turnRound_27 rfl (by omega) (by decide) (h17 c15) ?_
      refine E_dup2 dX2_turnRound_28 rfl rfl ?_
      refine E_ialdN dX2_turnRound_29 rfl (hb c15) (by decide) (hc _ (hb c15)) ?_
      refine E_iconst (v := nI 1) dX2_turnRound_30 rfl ?_
      refine E_iaddN dX2_turnRound_31 ?_
      refine E_iastN dX2_turnRound_32 rfl (hb c15) (by decide) ?_
      refine E_iincN (b := 1) dX2_turnRound_33 rfl rfl (by decide) rfl ?_
      refine E_goto (t := 10) dX2_turnRound_36 (by decide) ?_
      exact K c15
theorem tr_2 (hT : WT T) (hB : T 61 13 < 64) (hst : M.1 9 11 = nI (LTn T)) (nx : ∀ M1 y z, Sb [19, 20] M M1 → (∀ t, t ≤ LTn T → M1.1 19 t = nI (bF T (t + 1))) → Ex g qX2_turnRound (tm g qX2_turnRound (fun v M' => v = none ∧ GB T M' ∧ Sb [19, 20] M M')) 72 [some (.ref 9), y, z] [] M1) : ∀ (n k : Nat) (M1 : AM) (y : Option Value), 1 ≤ k → k ≤ LTn T + 1 → LTn T + 1 < k + n → Sb [19, 20] M M1 → (∀ t, t < k → M1.1 19 t = nI (bF T (t + 1))) → (∀ t, k ≤ t → t ≤ LTn T → M1.1 19 t = nI (cM T t (mN T))) → Ex g qX2_turnRound (tm g qX2_turnRound (fun v M' => v = none ∧ GB T M' ∧ Sb [19, 20] M M')) 41 [some (.ref 9), some (.int (nI k)), y] [] M1 := by
  have hL := q_le hT hB
  intro n
  induction n with
  | zero => intro k M1 y h1 h2 h3; exact absurd h3 (by omega)
  | succ n ih =>
    intro k M1 y hk0 hk hn hS hc hd
    have h9 : M1.1 9 11 = nI (LTn T) := by rw [(hS 9 (by decide)).1]; exact hst
    have hp : M1.1 19 (k - 1) = nI (bF T k) := by have := hc (k - 1) (by omega); rw [show k - 1 + 1 = k by omega] at this; exact this
    have K : k ≤ LTn T → Ex g qX2_turnRound (tm g qX2_turnRound (fun v M' => v = none ∧ GB T M' ∧ Sb [19, 20] M M')) 41 [some (.ref 9), some (.int (nI (k + 1))), y] [] (sI M1 19 k (nI (cM T k (mN T) + bF T k))) := fun h => ih (k + 1) _ _ (by omega) (by omega) (by omega) (hS.tr (Sb.i (by decide))) (fun t ht => by
      by_cases e : t = k
      · rw [e, sI_s, bF_s, Nat.add_comm]
      · rw [sI_o (fun h => e h.2)]; exact hc t (by omega)) (fun t h1 h2 => by rw [sI_o (by omega)]; exact hd t (by omega) h2)
    have K2 : k = LTn T + 1 → Ex g qX2_turnRound (tm g qX2_turnRound (fun v M' => v = none ∧ GB T M' ∧ Sb [19, 20] M M')) 72 [some (.ref 9), some (.int (nI k)), y] [] M1 := fun e => nx M1 _ _ hS (fun t ht => hc t (by omega))
    refine E_iload_n dX2_turnRound_41 rfl ?_
    refine E_aload_n dX2_turnRound_42 rfl ?_
    refine E_getI' (ci := 2) (j := 11) dX2_turnRound_43 fkX2_51 rfl (by decide) rfl (by decide) (h9) ?_
    refine E_icmp_gtN (t := 72) dX2_turnRound_46 (by decide) (by omega) (by omega) (fun c46 => ?_) (fun c46 => ?_)
    · skip
      exact K2 (by omega)
    · skip
      refine E_aload_n dX2_turnRound_49 rfl ?_
      refine E_getR' (ci := 2) (j := 9) (p := 19) dX2_turnRound_50 fkX2_39 rfl (by decide) rfl (by decide) (rfl) ?_
      refine E_iload_n dX2_turnRound_53 rfl ?_
      refine E_dup2 dX2_turnRound_54 rfl rfl ?_
      refine E_ialdN dX2_turnRound_55 rfl (by omega) (by decide) (hd k (Nat.le_refl _) c46) ?_
      refine E_aload_n dX2_turnRound_56 rfl ?_
      refine E_getR' (ci := 2) (j := 9) (p := 19) dX2_turnRound_57 fkX2_39 rfl (by decide) rfl (by decide) (rfl) ?_
      refine E_iload_n dX2_turnRound_60 rfl ?_
      refine E_iconst (v := nI 1) dX2_turnRound_61 rfl ?_
      refine E_isubN dX2_turnRound_62 (by omega) ?_
      refine E_ialdN dX2_turnRound_63 rfl (by omega) (by decide) (hp) ?_
      refine E_iaddN dX2_turnRound_64 ?_
      refine E_iastN dX2_turnRound_65 rfl (by omega) (by decide) ?_
      refine E_iincN (b := 1) dX2_turnRound_66 rfl rfl (by decide) rfl ?_
      refine E_goto (t := 41) dX2_turnRound_69 (by decide) ?_
      exact K c46
theorem tr_3 (hT : WT T) (hB : T 61 13 < 64) (hmt : ∀ m, m < mN T → M.1 16 m = nI (mF T m) ∧ M.1 17 m = nI (mT T m)) : ∀ (k : Nat) (M1 : AM) (y : Option Value), k ≤ mN T → Sb [19, 20] M M1 → (∀ t, t ≤ LTn T → M1.1 19 t = nI (bF T t + cM T t k)) → (∀ m, k ≤ m → m < mN T → M1.1 20 (pM T m) = nI (mF T m)) → Ex g qX2_turnRound (tm g qX2_turnRound (fun v M' => v = none ∧ GB T M' ∧ Sb [19, 20] M M')) 79 [some (.ref 9), some (.int (oI (pr k))), y] [] M1 := by
  have hN := mN_le hT hB
  have hL := q_le hT hB
  intro k
  induction k with
  | zero =>
    intro M1 y hk hS hc hm
    have key : (fun v M' => v = none ∧ GB T M' ∧ Sb [19, 20] M M') (none : Option Value) M1 := ⟨rfl, ⟨fun t ht => hc t ht, fun m h => hm m (Nat.zero_le _) h⟩, hS⟩
    refine E_iload_n dX2_turnRound_79 rfl ?_
    refine E_if_ltO (t := 123) dX2_turnRound_80 (by decide) (fun d e => by cases e) (fun c80 => ?_) (fun c80 => ?_)
    · skip
      refine E_vret dX2_turnRound_123 rfl ?_
      exact key
    · skip
      exact absurd rfl c80
  | succ k ih =>
    intro M1 y hk hS hc hm
    show Ex g qX2_turnRound (tm g qX2_turnRound (fun v M' => v = none ∧ GB T M' ∧ Sb [19, 20] M M')) 79 [some (.ref 9), some (.int (nI k)), y] [] M1
    have ok := mv_ok hT hB (show k < mN T by omega)
    have ht := ok.2.2.2.2.2.1
    have h17 : M1.1 17 k = nI (mT T k) := by rw [(hS 17 (by decide)).1]; exact (hmt k (by omega)).2
    have hck : cM T (mT T k) (k + 1) = cM T (mT T k) k + 1 := by rw [cM_s, if_pos rfl]
    have h19 : M1.1 19 (mT T k) = nI (bF T (mT T k) + cM T (mT T k) (k + 1)) := hc _ (by omega)
    have hpp : bF T (mT T k) + cM T (mT T k) (k + 1) - 1 = pM T k := by unfold pM; omega
    have h16 : (sI M1 19 (mT T k) (nI (bF T (mT T k) + cM T (mT T k) (k + 1) - 1))).1 16 k = nI (mF T k) := by rw [sI_ne (by decide), (hS 16 (by decide)).1]; exact (hmt k (by omega)).1
    have hb := pM_lt hT hB (show k < mN T by omega)
    have K : Ex g qX2_turnRound (tm g qX2_turnRound (fun v M' => v = none ∧ GB T M' ∧ Sb [19, 20] M M')) 79 [some (.ref 9), some (.int (nI k + -1)), some (.int (nI (mT T k)))] [] (sI (sI M1 19 (mT T k) (nI (bF T (mT T k) + cM T (mT T k) (k + 1) - 1))) 20 (bF T (mT T k) + cM T (mT T k) (k + 1) - 1) (nI (mF T k))) := by
      rw [pr_dec, hpp]
      refine ih _ _ (by omega) ((hS.tr (Sb.i (by decide))).tr (Sb.i (by decide))) (fun t ht2 => ?_) (fun m h1 h2 => ?_)
      · rw [sI_ne (by decide)]
        by_cases e : t = mT T k
        · rw [e, sI_s]; rfl
        · rw [sI_o (fun h => e h.2), hc t ht2, cM_s, if_neg (fun h => e h.symm)]; rfl
      · by_cases e : m = k
        · rw [e, sI_s]
        · rw [sI_o (fun h => pM_inj hT hB (show k < m by omega) h2 h.2.symm), sI_ne (by decide)]; exact hm m (by omega) h2
    refine E_iload_n dX2_turnRound_79 rfl ?_
    refine E_if_ltN (t := 123) dX2_turnRound_80 (by decide) (by omega) ?_
    refine E_aload_n dX2_turnRound_83 rfl ?_
    refine E_getR' (ci := 2) (j := 7) (p := 17) dX2_turnRound_84 fkX2_33 rfl (by decide) rfl (by decide) (rfl) ?_
    refine E_iload_n dX2_turnRound_87 rfl ?_
    refine E_ialdN dX2_turnRound_88 rfl (by omega) (by decide) (h17) ?_
    refine E_ist_n (i := 2) dX2_turnRound_89 rfl (by decide) rfl ?_
    refine E_aload_n dX2_turnRound_90 rfl ?_
    refine E_getR' (ci := 2) (j := 9) (p := 19) dX2_turnRound_91 fkX2_39 rfl (by decide) rfl (by decide) (rfl) ?_
    refine E_iload_n dX2_turnRound_94 rfl ?_
    refine E_dup2 dX2_turnRound_95 rfl rfl ?_
    refine E_ialdN dX2_turnRound_96 rfl (by omega) (by decide) (h19) ?_
    refine E_iconst (v := nI 1) dX2_turnRound_97 rfl ?_
    refine E_isubN dX2_turnRound_98 (by omega) ?_
    refine E_iastN dX2_turnRound_99 rfl (by omega) (by decide) ?_
    refine E_aload_n dX2_turnRound_100 rfl ?_
    refine E_getR' (ci := 2) (j := 10) (p := 20) dX2_turnRound_101 fkX2_42 rfl (by decide) rfl (by decide) (rfl) ?_
    refine E_aload_n dX2_turnRound_104 rfl ?_
    refine E_getR' (ci := 2) (j := 9) (p := 19) dX2_turnRound_105 fkX2_39 rfl (by decide) rfl (by decide) (rfl) ?_
    refine E_iload_n dX2_turnRound_108 rfl ?_
    refine E_ialdN dX2_turnRound_109 rfl (by omega) (by decide) (sI_s) ?_
    refine E_aload_n dX2_turnRound_110 rfl ?_
    refine E_getR' (ci := 2) (j := 6) (p := 16) dX2_turnRound_111 fkX2_30 rfl (by decide) rfl (by decide) (rfl) ?_
    refine E_iload_n dX2_turnRound_114 rfl ?_
    refine E_ialdN dX2_turnRound_115 rfl (by omega) (by decide) (h16) ?_
    refine E_iastN dX2_turnRound_116 rfl (by omega) (by decide) ?_
    refine E_iinc (v := -1) dX2_turnRound_117 rfl rfl (by decide) rfl ?_
    refine E_goto (t := 79) dX2_turnRound_120 (by decide) ?_
    exact K
theorem c_turn (hT : WT T) (hB : T 61 13 < 64) (hG : G3 T (LTn T) (mN T) M) : Call g qX2_turnRound [.ref 9] M (fun v M' => v = none ∧ GB T M' ∧ Sb [19, 20] M M') := by
  have hN := mN_le hT hB
  have k3 : ∀ M1 y z, Sb [19, 20] M M1 → (∀ t, t ≤ LTn T → M1.1 19 t = nI (bF T (t + 1))) → Ex g qX2_turnRound (tm g qX2_turnRound (fun v M' => v = none ∧ GB T M' ∧ Sb [19, 20] M M')) 72 [some (.ref 9), y, z] [] M1 := fun M1 y z hS hc => by
    have h9 : M1.1 9 12 = nI (mN T) := by rw [(hS 9 (by decide)).1]; exact hG.2.1
    have key := tr_3 (g := g) hT hB (fun m hm => ⟨(hG.2.2.1 m hm).1, (hG.2.2.1 m hm).2.1⟩) (mN T) M1 z (Nat.le_refl _) hS (fun t ht => by rw [hc t ht]; rfl) (fun m h1 h2 => absurd h2 (by omega))
    refine E_aload_n dX2_turnRound_72 rfl ?_
    refine E_getI' (ci := 2) (j := 12) dX2_turnRound_73 fkX2_55 rfl (by decide) rfl (by decide) (h9) ?_
    refine E_iconst (v := nI 1) dX2_turnRound_76 rfl ?_
    refine E_isub dX2_turnRound_77 ?_
    refine E_top (pr_sub _) ?_
    refine E_ist_n (i := 1) dX2_turnRound_78 rfl (by decide) rfl ?_
    exact key
  have k2 := tr_2 (g := g) hT hB hG.1.1 k3 (LTn T + 1) 1
  have k1 := tr_1 (g := g) hT hB hG.2.1 (fun m hm => (hG.2.2.1 m hm).2.1) (fun M1 y hS hc => by
    have key := k2 M1 y (Nat.le_refl _) (by omega) (by omega) hS (fun t ht => by rw [show t = 0 by omega, hc 0 (by decide)]; show _ = nI (0 + cM T 0 (mN T)); rw [Nat.zero_add]) (fun t h1 h2 => hc t (by have := q_le hT hB; omega))
    refine E_iconst (v := nI 1) dX2_turnRound_39 rfl ?_
    refine E_ist_n (i := 1) dX2_turnRound_40 rfl (by decide) rfl ?_
    exact key) (mN T + 1) 0
  refine Call_of (ls0 := [some (.ref 9), none, none]) rfl rfl (Nat.le_of_ble_eq_true rfl) ?_
  refine E_aload_n dX2_turnRound_0 rfl ?_
  refine E_getR' (ci := 2) (j := 9) (p := 19) dX2_turnRound_1 fkX2_39 rfl (by decide) rfl (by decide) (rfl) ?_
  refine E_iconst (v := nI 0) dX2_turnRound_4 rfl ?_
  refine E_callS (r := qJ7_fill_53178) dX2_turnRound_5 mkX2_45 toJ7_fill_53178 rfl ⟨Nat.le_of_ble_eq_true rfl, Nat.le_of_ble_eq_true rfl, Nat.le_of_ble_eq_true rfl, Nat.le_of_ble_eq_true rfl⟩ (c_fill rfl (by decide)) rfl (Nat.le_of_ble_eq_true rfl) ?_
  rintro _ _ ⟨rfl, rfl⟩
  refine E_iconst (v := nI 0) dX2_turnRound_8 rfl ?_
  refine E_ist_n (i := 1) dX2_turnRound_9 rfl (by decide) rfl ?_
  exact k1 _ none (Nat.zero_le _) (by omega) (flM_sb (by decide)) (fun t ht => flM_in ht)
end G5
