-- the class's hopes
def adL (L : List Nat) (a : Nat) : List Nat := if a ∈ L then L else L ++ [a]
def Hq (zf qf cc cf nb : Nat) (L : List Nat) (M : AM) : Prop := (∀ i, i < nb → M.1 zf i = bI (decide (i ∈ L))) ∧ (∀ x, x < L.length → M.1 qf x = nI (L.getD x 0)) ∧ M.1 cc cf = nI L.length
theorem hq_ad {zf qf cc cf nb a : Nat} {L : List Nat} {M : AM} (h : Hq zf qf cc cf nb L M) (hn : ¬ a ∈ L) (h1 : zf ≠ qf) (h2 : zf ≠ cc) (h3 : qf ≠ cc) : Hq zf qf cc cf nb (L ++ [a]) (sI (sI (sI M zf a (bI true)) qf L.length (nI a)) cc cf (nI (L.length + 1))) := by
  refine ⟨fun i hi => ?_, fun x hx => ?_, ?_⟩
  · rw [sI_ne h2, sI_ne h1]
    by_cases e : i = a
    · rw [e, sI_s, decide_eq_true (List.mem_append_right _ (List.mem_singleton.mpr rfl))]
    · rw [sI_o (fun q => e q.2), h.1 i hi]
      congr 1
      apply decide_eq_decide.mpr
      rw [List.mem_append, List.mem_singleton]
      exact ⟨fun q => Or.inl q, fun q => q.resolve_right e⟩
  · rw [sI_ne h3, gd_app hx]
    by_cases e : x = L.length
    · rw [if_pos e, e, sI_s]
    · rw [if_neg e, sI_o (fun q => e q.2), sI_ne (fun q => h1 q.symm)]
      rw [List.length_append] at hx
      have : [a].length = 1 := rfl
      exact h.2.1 x (by omega)
  · rw [sI_s, List.length_append]; rfl
theorem adL_m {L : List Nat} {a i : Nat} : i ∈ adL L a ↔ i ∈ L ∨ i = a := by
  unfold adL
  by_cases e : a ∈ L
  · rw [if_pos e]; exact ⟨fun q => Or.inl q, fun q => q.elim id (fun q => q ▸ e)⟩
  · rw [if_neg e, List.mem_append, List.mem_singleton]
theorem adL_get {L : List Nat} {a x t : Nat} (h : L[x]? = some t) : (adL L a)[x]? = some t := by
  unfold adL
  split
  · exact h
  · rw [List.getElem?_append_left (List.getElem?_eq_some_iff.mp h).1]; exact h
theorem adL_inv {L : List Nat} {a x t : Nat} (h : (adL L a)[x]? = some t) (hx : x < L.length) : L[x]? = some t := by
  unfold adL at h
  split at h
  · exact h
  · rw [List.getElem?_append_left hx] at h; exact h
theorem adL_nd {L : List Nat} {a : Nat} (h : L.Nodup) : (adL L a).Nodup := by
  unfold adL
  split
  · exact h
  · rename_i e
    rw [List.nodup_append]
    refine ⟨h, List.pairwise_singleton _ _, fun x hx y hy => ?_⟩
    rw [List.mem_singleton] at hy
    rw [hy]
    exact fun q => e (q ▸ hx)
theorem adL_len {L : List Nat} {a : Nat} : L.length ≤ (adL L a).length := by
  unfold adL
  split
  · exact Nat.le_refl _
  · rw [List.length_append]; omega
section Q5
variable {T : TK}
theorem cM_sur {t r : Nat} : ∀ {k : Nat}, r < cM T t k → ∃ m, m < k ∧ mT T m = t ∧ cM T t m = r
  | 0, h => absurd h (Nat.not_lt_zero r)
  | k + 1, h => by
    by_cases e : r < cM T t k
    · obtain ⟨m, h1, h2⟩ := cM_sur e
      exact ⟨m, by omega, h2⟩
    · rw [cM_s] at h
      by_cases e2 : mT T k = t
      · rw [if_pos e2] at h
        exact ⟨k, by omega, e2, by omega⟩
      · rw [if_neg e2] at h; omega
theorem pM_sur {t x : Nat} (h1 : bF T t ≤ x) (h2 : x < bF T (t + 1)) : ∃ m, m < mN T ∧ mT T m = t ∧ pM T m = x := by
  rw [bF_s] at h2
  obtain ⟨m, e1, e2, e3⟩ := cM_sur (T := T) (t := t) (r := x - bF T t) (k := mN T) (by omega)
  refine ⟨m, e1, e2, ?_⟩
  unfold pM
  rw [e2, e3]; omega
theorem canE_pre (hT : WT T) (hB : T 61 13 < 64) {m : Nat} (hm : m < mN T) (h : canE T (Qn T (mT T m))) : canE T (Qn T (mF T m)) := by
  obtain ⟨n, u, h1, h2⟩ := h
  have ok := mv_ok hT hB hm
  exact ⟨n + 1, u, rch_cons.mpr ⟨_, sx0_mem.mpr ⟨mA T m, ok.2.2.2.1, ok.2.2.2.2.1, ok.2.2.2.2.2.2.symm⟩, h1⟩, h2⟩
/-- a queue of places from which an ending is come to -/
def HL (T : TK) (h : Nat) (L : List Nat) : Prop := L.Nodup ∧ (∀ i ∈ L, i < LTn T ∧ canE T (Qn T i)) ∧ (∀ i, i < LTn T → (T 61 2).testBit (Qn T i / 64) = true → i ∈ L) ∧ ∀ x t m, x < h → L[x]? = some t → m < mN T → mT T m = t → mF T m ∈ L
theorem HL_len {h : Nat} {L : List Nat} (hL : HL T h L) : L.length ≤ LTn T := nodup_len _ _ hL.1 (fun i hi => (hL.2.1 i hi).1)
theorem HL_ad (hT : WT T) (hB : T 61 13 < 64) {h m : Nat} {L : List Nat} (hL : HL T h L) (hh : h ≤ L.length) (hm : m < mN T) (ht : mT T m ∈ L) : HL T h (adL L (mF T m)) := by
  refine ⟨adL_nd hL.1, fun i hi => ?_, fun i h1 h2 => adL_m.mpr (Or.inl (hL.2.2.1 i h1 h2)), fun x t m' hx h1 h2 h3 => adL_m.mpr (Or.inl (hL.2.2.2 x t m' hx (adL_inv h1 (by omega)) h2 h3))⟩
  rcases adL_m.mp hi with e | e
  · exact hL.2.1 i e
  · rw [e]; exact ⟨(mv_ok hT hB hm).1, canE_pre hT hB hm (hL.2.1 _ ht).2⟩
theorem HL_end (hT : WT T) (hB : T 61 13 < 64) {h : Nat} {L : List Nat} (hL : HL T h L) (hh : L.length ≤ h) : ∀ (n i u : Nat), i < LTn T → rch (sx0 T) (Qn T i) n u → (T 61 2).testBit (u / 64) = true → i ∈ L
  | 0, i, u, hi, h1, h2 => hL.2.2.1 i hi (by rw [← (show u = Qn T i from h1)]; exact h2)
  | n + 1, i, u, hi, h1, h2 => by
    obtain ⟨t, h3, h4⟩ := rch_cons.mp h1
    obtain ⟨a, ha, ho, hx⟩ := sx0_mem.mp h3
    obtain ⟨m, m1, m2, m3, m4⟩ := mv_of hi ha ho
    have hm := (mv_sl hi m1 m2).2
    have ok := mv_ok hT hB hm
    have e : Qn T (mT T m) = t := by rw [ok.2.2.2.2.2.2, m3, m4]; exact hx
    rw [← e] at h4
    have h5 := HL_end hT hB hL hh n (mT T m) u ok.2.2.2.2.2.1 h4 h2
    obtain ⟨y, hy⟩ := List.getElem?_of_mem h5
    have := hL.2.2.2 y _ m (Nat.lt_of_lt_of_le (List.getElem?_eq_some_iff.mp hy).1 hh) hy hm rfl
    rw [m3] at this
    exact this
def HP (T : TK) (M : AM) : Prop := ∀ i, i < LTn T → M.1 25 i = bI (canB T (Qn T i))
noncomputable def enL (T : TK) (k : Nat) : List Nat := (List.range k).filter (fun i => (T 61 2).testBit (Qn T i / 64))
theorem enL_m {k i : Nat} : i ∈ enL T k ↔ i < k ∧ (T 61 2).testBit (Qn T i / 64) = true := by
  unfold enL
  rw [List.mem_filter, List.mem_range]
theorem enL_s {k : Nat} : enL T (k + 1) = enL T k ++ (if (T 61 2).testBit (Qn T k / 64) = true then [k] else []) := by
  unfold enL
  rw [List.range_succ, List.filter_append]
  congr 1
  by_cases e : (T 61 2).testBit (Qn T k / 64) = true
  · rw [if_pos e]; simp [e]
  · rw [if_neg e]; simp [e]
theorem HL_0 : HL T 0 (enL T (LTn T)) := ⟨List.Nodup.sublist List.filter_sublist List.nodup_range, fun i hi => ⟨(enL_m.mp hi).1, 0, _, rfl, (enL_m.mp hi).2⟩, fun i h1 h2 => enL_m.mpr ⟨h1, h2⟩, fun x t m hx => absurd hx (Nat.not_lt_zero x)⟩
end Q5
section H5
variable {g : GG} {M : AM} {T : TK}
theorem gr_bf (h : GR T M) {t : Nat} (ht : t ≤ LTn T) : M.1 19 t = nI (bF T t) := h.2.2.1 t ht
theorem gr_bk (h : GR T M) {m : Nat} (hm : m < mN T) : M.1 20 (pM T m) = nI (mF T m) := h.2.2.2 m hm
theorem c_hAdmit {nb a : Nat} {L : List Nat} (h : Hq 25 26 24 2 nb L M) (ha : a < nb) (hb : nb ≤ 1024) (hl : ¬ a ∈ L → L.length < 1024) : Call g qX3_admit [.ref 24, .int (nI a)] M (fun v M' => v = none ∧ Hq 25 26 24 2 nb (adL L a) M' ∧ Sb [24, 25, 26] M M') := by
  have h25 := h.1 a ha
  have q1 : (sI M 25 a (bI true)).1 24 2 = nI L.length := by rw [sI_o (by omega)]; exact h.2.2
  have q2 : (sI (sI M 25 a (bI true)) 26 L.length (nI a)).1 24 2 = nI L.length := by rw [sI_o (by omega)]; exact q1
  have k1 : decide (a ∈ L) = true → (fun v M' => v = none ∧ Hq 25 26 24 2 nb (adL L a) M' ∧ Sb [24, 25, 26] M M') (none : Option Value) M := fun e => ⟨rfl, by unfold adL; rw [if_pos (decide_eq_true_iff.mp e)]; exact h, Sb.rf⟩
  have k2 : decide (a ∈ L) = false → (fun v M' => v = none ∧ Hq 25 26 24 2 nb (adL L a) M' ∧ Sb [24, 25, 26] M M') (none : Option Value) (sI (sI (sI M 25 a (bI true)) 26 L.length (nI a)) 24 2 (nI (L.length + 1))) := fun e => ⟨rfl, by unfold adL; rw [if_neg (decide_eq_false_iff_not.mp e)]; exact hq_ad h (decide_eq_false_iff_not.mp e) (by decide) (by decide) (by decide), ((Sb.i (by decide)).tr (Sb.i (by decide))).tr (Sb.i (by decide))⟩
  refine Call_of (ls0 := [some (.ref 24), some (.int (nI a))]) rfl rfl (Nat.le_of_ble_eq_true rfl) ?_
  refine E_aload_n dX3_admit_0 rfl ?_
  refine E_getR' (ci := 3) (j := 0) (p := 25) dX3_admit_1 fkX3_9 rfl (by decide) rfl (by decide) (rfl) ?_
  refine E_iload_n dX3_admit_4 rfl ?_
  refine E_zaldN dX3_admit_5 rfl (by omega) (by decide) (h25) ?_
  refine E_if_neB (t := 46) dX3_admit_6 (by decide) (fun c6 => ?_) (fun c6 => ?_)
  · skip
    have key := k1 c6
    refine E_vret dX3_admit_46 rfl ?_
    exact key
  · skip
    have hlt := hl (decide_eq_false_iff_not.mp c6)
    have key := k2 c6
    refine E_aload_n dX3_admit_9 rfl ?_
    refine E_getI' (ci := 3) (j := 2) dX3_admit_10 fkX3_19 rfl (by decide) rfl (by decide) (h.2.2) ?_
    refine E_sipush (v := nI 1024) dX3_admit_13 rfl ?_
    refine E_icmp_geN (t := 46) dX3_admit_16 (by decide) (by omega) (by omega) (fun c16 => ?_) (fun c16 => ?_)
    · skip
      exact absurd hlt (by omega)
    · skip
      refine E_aload_n dX3_admit_19 rfl ?_
      refine E_getR' (ci := 3) (j := 0) (p := 25) dX3_admit_20 fkX3_9 rfl (by decide) rfl (by decide) (rfl) ?_
      refine E_iload_n dX3_admit_23 rfl ?_
      refine E_iconst (v := nI 1) dX3_admit_24 rfl ?_
      refine E_top (show nI 1 = bI true from rfl) ?_
      refine E_zastN dX3_admit_25 rfl (by omega) (by decide) ?_
      refine E_aload_n dX3_admit_26 rfl ?_
      refine E_getR' (ci := 3) (j := 1) (p := 26) dX3_admit_27 fkX3_15 rfl (by decide) rfl (by decide) (rfl) ?_
      refine E_aload_n dX3_admit_30 rfl ?_
      refine E_getI' (ci := 3) (j := 2) dX3_admit_31 fkX3_19 rfl (by decide) rfl (by decide) (q1) ?_
      refine E_iload_n dX3_admit_34 rfl ?_
      refine E_iastN dX3_admit_35 rfl hlt (by decide) ?_
      refine E_aload_n dX3_admit_36 rfl ?_
      refine E_dup dX3_admit_37 rfl ?_
      refine E_getI' (ci := 3) (j := 2) dX3_admit_38 fkX3_19 rfl (by decide) rfl (by decide) (q2) ?_
      refine E_iconst (v := nI 1) dX3_admit_41 rfl ?_
      refine E_iaddN dX3_admit_42 ?_
      refine E_putI (ci := 3) (j := 2) dX3_admit_43 fkX3_19 rfl (by decide) rfl (by decide) ?_
      refine E_vret dX3_admit_46 rfl ?_
      exact key
theorem hp_I (hT : WT T) (hB : T 61 13 < 64) (hG : GR T M) {h t : Nat} (ht : t < LTn T) (nx : ∀ M2 L y, HL T (h + 1) L → h + 1 ≤ L.length → Hq 25 26 24 2 (LTn T) L M2 → Sb [24, 25, 26] M M2 → Ex g qX3_learn (tm g qX3_learn (fun v M' => v = none ∧ HP T M' ∧ Sb [24, 25, 26] M M')) 48 [some (.ref 24), some (.ref 9), some (.int (nI (T 61 2))), some (.int (nI (h + 1))), some (.int (nI t)), y] [] M2) : ∀ (n x : Nat) (M2 : AM) (L : List Nat), bF T t ≤ x → x ≤ bF T (t + 1) → bF T (t + 1) < x + n → HL T h L → L[h]? = some t → (∀ m, m < mN T → mT T m = t → pM T m < x → mF T m ∈ L) → Hq 25 26 24 2 (LTn T) L M2 → Sb [24, 25, 26] M M2 → Ex g qX3_learn (tm g qX3_learn (fun v M' => v = none ∧ HP T M' ∧ Sb [24, 25, 26] M M')) 80 [some (.ref 24), some (.ref 9), some (.int (nI (T 61 2))), some (.int (nI h)), some (.int (nI t)), some (.int (nI x))] [] M2 := by
  have hLq := q_le hT hB
  have hN := mN_le hT hB
  have hbt := bF_mono (T := T) (show t + 1 ≤ LTn T from ht)
  rw [bF_n hT hB] at hbt
  intro n
  induction n with
  | zero => intro x M2 L h1 h2 h3; exact absurd h3 (by omega)
  | succ n ih =>
    intro x M2 L hx1 hx2 hn hL hat hd hq hS
    have hG2 := gr_sb hG hS (by decide)
    have hhl := (List.getElem?_eq_some_iff.mp hat).1
    by_cases hlt : x < bF T (t + 1)
    · obtain ⟨m, m1, m2, m3⟩ := pM_sur hx1 hlt
      have h20 : M2.1 20 x = nI (mF T m) := by rw [← m3]; exact gr_bk hG2 m1
      have hLn := HL_len hL
      have hL2 := HL_ad hT hB hL (by omega) m1 (by rw [m2]; exact List.mem_of_getElem? hat)
      have hln : ¬ mF T m ∈ L → L.length < 1024 := fun e => by
        have h1 := HL_len hL2
        unfold adL at h1
        rw [if_neg e, List.length_append] at h1
        have : [mF T m].length = 1 := rfl
        omega
      have K : ∀ M3, Hq 25 26 24 2 (LTn T) (adL L (mF T m)) M3 → Sb [24, 25, 26] M2 M3 → Ex g qX3_learn (tm g qX3_learn (fun v M' => v = none ∧ HP T M' ∧ Sb [24, 25, 26] M M')) 80 [some (.ref 24), some (.ref 9), some (.int (nI (T 61 2))), some (.int (nI h)), some (.int (nI t)), some (.int (nI (x + 1)))] [] M3 := fun M3 g1 g2 => ih (x + 1) M3 _ (by omega) (by omega) (by omega) hL2 (adL_get hat) (fun m' e1 e2 e3 => by
        by_cases e : pM T m' = x
        · have : m' = m := by
            rcases Nat.lt_trichotomy m' m with q | q | q
            · exact absurd (e.trans m3.symm) (pM_inj hT hB q m1)
            · exact q
            · exact absurd (m3.trans e.symm) (pM_inj hT hB q e1)
          rw [this]
          exact adL_m.mpr (Or.inr rfl)
        · exact adL_m.mpr (Or.inl (hd m' e1 e2 (by omega)))) g1 (hS.tr g2)
      refine E_iload dX3_learn_80 rfl ?_
      refine E_aload_n dX3_learn_82 rfl ?_
      refine E_getR' (ci := 2) (j := 9) (p := 19) dX3_learn_83 fkX3_40 rfl (by decide) rfl (by decide) (rfl) ?_
      refine E_iload dX3_learn_86 rfl ?_
      refine E_iconst (v := nI 1) dX3_learn_88 rfl ?_
      refine E_iaddN dX3_learn_89 ?_
      refine E_ialdN dX3_learn_90 rfl (by omega) (by decide) (gr_bf hG2 (show t + 1 ≤ LTn T from ht)) ?_
      refine E_icmp_geN (t := 111) dX3_learn_91 (by decide) (by omega) (by omega) (fun c91 => ?_) (fun c91 => ?_)
      · skip
        exact absurd c91 (by omega)
      · skip
        refine E_aload_n dX3_learn_94 rfl ?_
        refine E_aload_n dX3_learn_95 rfl ?_
        refine E_getR' (ci := 2) (j := 10) (p := 20) dX3_learn_96 fkX3_43 rfl (by decide) rfl (by decide) (rfl) ?_
        refine E_iload dX3_learn_99 rfl ?_
        refine E_ialdN dX3_learn_101 rfl (by omega) (by decide) (h20) ?_
        refine E_callV (r := qX3_admit) (ci := 3) dX3_learn_102 mkX3_36 voX3_admit rfl rfl rfl ⟨Nat.le_of_ble_eq_true rfl, Nat.le_of_ble_eq_true rfl, Nat.le_of_ble_eq_true rfl, Nat.le_of_ble_eq_true rfl⟩ (c_hAdmit hq (mv_ok hT hB m1).1 hLq hln) rfl (Nat.le_of_ble_eq_true rfl) ?_
        rintro _ M3 ⟨rfl, g1, g2⟩
        refine E_iincN (b := 1) dX3_learn_105 rfl rfl (by decide) rfl ?_
        refine E_goto (t := 80) dX3_learn_108 (by decide) ?_
        exact K M3 g1 g2
    · have key := nx M2 L (some (.int (nI x))) ⟨hL.1, hL.2.1, hL.2.2.1, fun y u m hy h1 h2 h3 => by
        by_cases e : y = h
        · subst e
          rw [hat] at h1
          cases h1
          have := (pM_lt hT hB h2).2.1
          rw [h3] at this
          exact hd m h2 h3 (by omega)
        · exact hL.2.2.2 y u m (by omega) h1 h2 h3⟩ (by omega) hq hS
      refine E_iload dX3_learn_80 rfl ?_
      refine E_aload_n dX3_learn_82 rfl ?_
      refine E_getR' (ci := 2) (j := 9) (p := 19) dX3_learn_83 fkX3_40 rfl (by decide) rfl (by decide) (rfl) ?_
      refine E_iload dX3_learn_86 rfl ?_
      refine E_iconst (v := nI 1) dX3_learn_88 rfl ?_
      refine E_iaddN dX3_learn_89 ?_
      refine E_ialdN dX3_learn_90 rfl (by omega) (by decide) (gr_bf hG2 (show t + 1 ≤ LTn T from ht)) ?_
      refine E_icmp_geN (t := 111) dX3_learn_91 (by decide) (by omega) (by omega) (fun c91 => ?_) (fun c91 => ?_)
      · skip
        refine E_iincN (b := 1) dX3_learn_111 rfl rfl (by decide) rfl ?_
        refine E_goto (t := 48) dX3_learn_114 (by decide) ?_
        exact key
      · skip
        exact absurd c91 (by omega)
theorem hp_2 (hT : WT T) (hB : T 61 13 < 64) (hG : GR T M) : ∀ (n h : Nat) (M1 : AM) (L : List Nat) (y4 y5 : Option Value), h ≤ LTn T → LTn T < h + n → HL T h L → h ≤ L.length → Hq 25 26 24 2 (LTn T) L M1 → Sb [24, 25, 26] M M1 → Ex g qX3_learn (tm g qX3_learn (fun v M' => v = none ∧ HP T M' ∧ Sb [24, 25, 26] M M')) 48 [some (.ref 24), some (.ref 9), some (.int (nI (T 61 2))), some (.int (nI h)), y4, y5] [] M1 := by
  have hLq := q_le hT hB
  have hN := mN_le hT hB
  intro n
  induction n with
  | zero => intro h M1 L y4 y5 h1 h2; exact absurd h2 (by omega)
  | succ n ih =>
    intro h M1 L y4 y5 hh hn hL hhl hq hS
    have hG2 := gr_sb hG hS (by decide)
    have hLn := HL_len hL
    by_cases hlt : h < L.length
    · have hat : L[h]? = some L[h] := List.getElem?_eq_getElem hlt
      obtain ⟨t, ht⟩ : ∃ t, L[h] = t := ⟨_, rfl⟩
      rw [ht] at hat
      have htn := (hL.2.1 t (List.mem_of_getElem? hat)).1
      have h26 : M1.1 26 h = nI t := by rw [hq.2.1 h hlt, getD_of hat]
      have hbt := bF_mono (T := T) (show t + 1 ≤ LTn T from htn)
      rw [bF_n hT hB] at hbt
      have key := hp_I (g := g) hT hB hG htn (fun M2 L' y g1 g2 g3 g4 => ih (h + 1) M2 L' _ y (by omega) (by omega) g1 g2 g3 g4) (bF T (t + 1) - bF T t + 1) (bF T t) M1 L (Nat.le_refl _) (bF_mono (by omega)) (by have := bF_mono (T := T) (show t ≤ t + 1 by omega); omega) hL hat (fun m e1 e2 e3 => by
        have := (pM_lt hT hB e1).1
        rw [e2] at this
        omega) hq hS
      refine E_iload_n dX3_learn_48 rfl ?_
      refine E_sipush (v := nI 1024) dX3_learn_49 rfl ?_
      refine E_icmp_geN (t := 117) dX3_learn_52 (by decide) (by omega) (by omega) (fun c52 => ?_) (fun c52 => ?_)
      · skip
        exact absurd c52 (by omega)
      · skip
        refine E_iload_n dX3_learn_55 rfl ?_
        refine E_aload_n dX3_learn_56 rfl ?_
        refine E_getI' (ci := 3) (j := 2) dX3_learn_57 fkX3_19 rfl (by decide) rfl (by decide) (hq.2.2) ?_
        refine E_icmp_geN (t := 117) dX3_learn_60 (by decide) (by omega) (by omega) (fun c60 => ?_) (fun c60 => ?_)
        · skip
          exact absurd c60 (by omega)
        · skip
          refine E_aload_n dX3_learn_63 rfl ?_
          refine E_getR' (ci := 3) (j := 1) (p := 26) dX3_learn_64 fkX3_15 rfl (by decide) rfl (by decide) (rfl) ?_
          refine E_iload_n dX3_learn_67 rfl ?_
          refine E_ialdN dX3_learn_68 rfl (by omega) (by decide) (h26) ?_
          refine E_istore dX3_learn_69 (by decide) rfl ?_
          refine E_aload_n dX3_learn_71 rfl ?_
          refine E_getR' (ci := 2) (j := 9) (p := 19) dX3_learn_72 fkX3_40 rfl (by decide) rfl (by decide) (rfl) ?_
          refine E_iload dX3_learn_75 rfl ?_
          refine E_ialdN dX3_learn_77 rfl (by omega) (by decide) (gr_bf hG2 (show t ≤ LTn T by omega)) ?_
          refine E_istore dX3_learn_78 (by decide) rfl ?_
          exact key
    · have key : (fun v M' => v = none ∧ HP T M' ∧ Sb [24, 25, 26] M M') (none : Option Value) M1 := ⟨rfl, fun i hi => by
        rw [hq.1 i hi]
        congr 1
        rw [Bool.eq_iff_iff, decide_eq_true_iff, canB_iff]
        exact ⟨fun q => (hL.2.1 i q).2, fun ⟨n, u, e1, e2⟩ => HL_end hT hB hL (by omega) n i u hi e1 e2⟩, hS⟩
      refine E_iload_n dX3_learn_48 rfl ?_
      refine E_sipush (v := nI 1024) dX3_learn_49 rfl ?_
      refine E_icmp_geN (t := 117) dX3_learn_52 (by decide) (by omega) (by omega) (fun c52 => ?_) (fun c52 => ?_)
      · skip
        refine E_vret dX3_learn_117 rfl ?_
        exact key
      · skip
        refine E_iload_n dX3_learn_55 rfl ?_
        refine E_aload_n dX3_learn_56 rfl ?_
        refine E_getI' (ci := 3) (j := 2) dX3_learn_57 fkX3_19 rfl (by decide) rfl (by decide) (hq.2.2) ?_
        refine E_icmp_geN (t := 117) dX3_learn_60 (by decide) (by omega) (by omega) (fun c60 => ?_) (fun c60 => ?_)
        · skip
          refine E_vret dX3_learn_117 rfl ?_
          exact key
        · skip
          exact absurd c60 (by omega)
theorem hp_1 (hT : WT T) (hB : T 61 13 < 64) (hG : GR T M) : ∀ (n k : Nat) (M1 : AM), k ≤ LTn T → LTn T < k + n → Hq 25 26 24 2 k (enL T k) M1 → Sb [24, 25, 26] M M1 → Ex g qX3_learn (tm g qX3_learn (fun v M' => v = none ∧ HP T M' ∧ Sb [24, 25, 26] M M')) 7 [some (.ref 24), some (.ref 9), some (.int (nI (T 61 2))), some (.int (nI k)), none, none] [] M1 := by
  have hLq := q_le hT hB
  intro n
  induction n with
  | zero => intro k M1 h1 h2; exact absurd h2 (by omega)
  | succ n ih =>
    intro k M1 hk hn hq hS
    have hG2 := gr_sb hG hS (by decide)
    have hS2 : Sb [24, 25, 26] M (sI M1 25 k (bI false)) := hS.tr (Sb.i (by decide))
    have hG3 := gr_sb hG hS2 (by decide)
    have hnm : ¬ k ∈ enL T k := fun e => by have := (enL_m.mp e).1; omega
    have hq2 : Hq 25 26 24 2 (k + 1) (enL T k) (sI M1 25 k (bI false)) := ⟨fun i hi => by
      by_cases e : i = k
      · rw [e, sI_s, decide_eq_false hnm]
      · rw [sI_o (fun q => e q.2)]; exact hq.1 i (by omega), fun x hx => by rw [sI_o (by omega)]; exact hq.2.1 x hx, by rw [sI_o (by omega)]; exact hq.2.2⟩
    have hel : (enL T k).length ≤ k := nodup_len _ _ (List.Nodup.sublist List.filter_sublist List.nodup_range) (fun i hi => (enL_m.mp hi).1)
    have KN : k < LTn T → (T 61 2).testBit (Qn T k / 64) = false → Ex g qX3_learn (tm g qX3_learn (fun v M' => v = none ∧ HP T M' ∧ Sb [24, 25, 26] M M')) 7 [some (.ref 24), some (.ref 9), some (.int (nI (T 61 2))), some (.int (nI (k + 1))), none, none] [] (sI M1 25 k (bI false)) := fun e1 e2 => ih (k + 1) _ (by omega) (by omega) (by rw [enL_s, if_neg (by rw [e2]; decide), List.append_nil]; exact hq2) hS2
    have KY : k < LTn T → (T 61 2).testBit (Qn T k / 64) = true → ∀ M3, Hq 25 26 24 2 (k + 1) (adL (enL T k) k) M3 → Sb [24, 25, 26] (sI M1 25 k (bI false)) M3 → Ex g qX3_learn (tm g qX3_learn (fun v M' => v = none ∧ HP T M' ∧ Sb [24, 25, 26] M M')) 7 [some (.ref 24), some (.ref 9), some (.int (nI (T 61 2))), some (.int (nI (k + 1))), none, none] [] M3 := fun e1 e2 M3 g1 g2 => ih (k + 1) M3 (by omega) (by omega) (by
      rw [enL_s, if_pos e2]
      unfold adL at g1
      rw [if_neg hnm] at g1
      exact g1) (hS2.tr g2)
    have KE : k = LTn T → Ex g qX3_learn (tm g qX3_learn (fun v M' => v = none ∧ HP T M' ∧ Sb [24, 25, 26] M M')) 48 [some (.ref 24), some (.ref 9), some (.int (nI (T 61 2))), some (.int (nI 0)), none, none] [] M1 := fun e => by
      subst e
      exact hp_2 hT hB hG (LTn T + 1) 0 M1 _ none none (Nat.zero_le _) (by omega) HL_0 (Nat.zero_le _) hq hS
    refine E_iload_n dX3_learn_7 rfl ?_
    refine E_aload_n dX3_learn_8 rfl ?_
    refine E_getI' (ci := 2) (j := 11) dX3_learn_9 fkX3_23 rfl (by decide) rfl (by decide) (gr_st hG2) ?_
    refine E_icmp_geN (t := 46) dX3_learn_12 (by decide) (by omega) (by omega) (fun c12 => ?_) (fun c12 => ?_)
    · skip
      have key := KE (by omega)
      refine E_iconst (v := nI 0) dX3_learn_46 rfl ?_
      refine E_ist_n (i := 3) dX3_learn_47 rfl (by decide) rfl ?_
      exact key
    · skip
      refine E_aload_n dX3_learn_15 rfl ?_
      refine E_getR' (ci := 3) (j := 0) (p := 25) dX3_learn_16 fkX3_9 rfl (by decide) rfl (by decide) (rfl) ?_
      refine E_iload_n dX3_learn_19 rfl ?_
      refine E_iconst (v := nI 0) dX3_learn_20 rfl ?_
      refine E_top (show nI 0 = bI false from rfl) ?_
      refine E_zastN dX3_learn_21 rfl (by omega) (by decide) ?_
      refine E_iload_n dX3_learn_22 rfl ?_
      refine E_aload_n dX3_learn_23 rfl ?_
      refine E_iload_n dX3_learn_24 rfl ?_
      refine E_callV (r := qX2_lineAt) (ci := 2) dX3_learn_25 mkX3_28 voX2_lineAt rfl rfl rfl ⟨Nat.le_of_ble_eq_true rfl, Nat.le_of_ble_eq_true rfl, Nat.le_of_ble_eq_true rfl, Nat.le_of_ble_eq_true rfl⟩ (c_line hT hB hG3 c12) rfl (Nat.le_of_ble_eq_true rfl) ?_
      rintro _ _ ⟨rfl, rfl⟩
      refine E_callN (r := qX10_bit) (host := RX10) dX3_learn_28 (by decide) toX10_bit rfl ⟨Nat.le_of_ble_eq_true rfl, Nat.le_of_ble_eq_true rfl, Nat.le_of_ble_eq_true rfl, Nat.le_of_ble_eq_true rfl⟩ (c_bit (by have := Qn_lt hT hB c12; omega)) rfl (Nat.le_of_ble_eq_true rfl) ?_
      rintro _ _ ⟨rfl, rfl⟩
      refine E_iconst (v := nI 1) dX3_learn_31 rfl ?_
      refine E_icmp_neB (t := 40) dX3_learn_32 (by decide) (fun c32 => ?_) (fun c32 => ?_)
      · skip
        have key := KN c12 c32
        refine E_iincN (b := 1) dX3_learn_40 rfl rfl (by decide) rfl ?_
        refine E_goto (t := 7) dX3_learn_43 (by decide) ?_
        exact key
      · skip
        refine E_aload_n dX3_learn_35 rfl ?_
        refine E_iload_n dX3_learn_36 rfl ?_
        refine E_callV (r := qX3_admit) (ci := 3) dX3_learn_37 mkX3_36 voX3_admit rfl rfl rfl ⟨Nat.le_of_ble_eq_true rfl, Nat.le_of_ble_eq_true rfl, Nat.le_of_ble_eq_true rfl, Nat.le_of_ble_eq_true rfl⟩ (c_hAdmit hq2 (by omega) (by omega) (fun _ => by omega)) rfl (Nat.le_of_ble_eq_true rfl) ?_
        rintro _ M3 ⟨rfl, g1, g2⟩
        have key := KY c12 c32 M3 g1 g2
        refine E_iincN (b := 1) dX3_learn_40 rfl rfl (by decide) rfl ?_
        refine E_goto (t := 7) dX3_learn_43 (by decide) ?_
        exact key
set_option maxRecDepth 8000 in
theorem c_hopes (hT : WT T) (hB : T 61 13 < 64) (hG : GR T M) : Call g qX3_learn [.ref 24, .ref 9, .int (nI (T 61 2))] M (fun v M' => v = none ∧ HP T M' ∧ Sb [24, 25, 26] M M') := by
  have key := hp_1 (g := g) hT hB hG (LTn T + 1) 0 (sI M 24 2 (nI 0)) (Nat.zero_le _) (by omega) ⟨fun i hi => absurd hi (Nat.not_lt_zero i), fun x hx => absurd hx (Nat.not_lt_zero x), sI_s⟩ (Sb.i (by decide))
  refine Call_of (ls0 := [some (.ref 24), some (.ref 9), some (.int (nI (T 61 2))), none, none, none]) rfl rfl (Nat.le_of_ble_eq_true rfl) ?_
  refine E_aload_n dX3_learn_0 rfl ?_
  refine E_iconst (v := nI 0) dX3_learn_1 rfl ?_
  refine E_putI (ci := 3) (j := 2) dX3_learn_2 fkX3_19 rfl (by decide) rfl (by decide) ?_
  refine E_iconst (v := nI 0) dX3_learn_5 rfl ?_
  refine E_ist_n (i := 3) dX3_learn_6 rfl (by decide) rfl ?_
  exact key
end H5
