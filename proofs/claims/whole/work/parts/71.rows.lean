-- the class's counts of rows
def Rab (a b : Nat) : Prop := (a = 37 ∧ b = 38) ∨ (a = 38 ∧ b = 37)
theorem kA {a b : Nat} (h : Rab a b) : kd a = (3, 1024) := by rcases h with ⟨rfl, rfl⟩ | ⟨rfl, rfl⟩ <;> rfl
theorem kB {a b : Nat} (h : Rab a b) : kd b = (3, 1024) := by rcases h with ⟨rfl, rfl⟩ | ⟨rfl, rfl⟩ <;> rfl
theorem abN {a b : Nat} (h : Rab a b) : a ≠ b := by rcases h with ⟨rfl, rfl⟩ | ⟨rfl, rfl⟩ <;> decide
theorem abM {a b : Nat} (h : Rab a b) : a ∈ [36, 37, 38] ∧ b ∈ [36, 37, 38] := by rcases h with ⟨rfl, rfl⟩ | ⟨rfl, rfl⟩ <;> decide
theorem abS {a b : Nat} (h : Rab a b) : Rab b a := h.elim (fun h => Or.inr ⟨h.2, h.1⟩) (fun h => Or.inl ⟨h.2, h.1⟩)
def RW (T : TK) (W : Nat → Nat) (a b : Nat) (M : AM) : Prop := Rab a b ∧ M.2.2 36 0 = a ∧ M.2.2 36 1 = b ∧ ∀ i, i < LTn T → M.2.1 a i = lN (W i) ∧ W i < 2 ^ 63
theorem sR_get {M : AM} {k j a b x : Nat} : (sR M k j x).2.2 a b = if a = k ∧ b = j then x else M.2.2 a b := rfl
section W1
variable {g : GG} {M : AM} {T : TK} {W : Nat → Nat} {a b : Nat}
theorem nxW_s {t k : Nat} : nxW T W t (k + 1) = nxW T W t k + (if mT T k = t then W (mF T k) else 0) := rfl
theorem nxW_le {t k n : Nat} (h : k ≤ n) : nxW T W t k ≤ nxW T W t n := smN_mn _ h
def LeQ (T : TK) (W : Nat → Nat) (a b : Nat) (M : AM) (v : Option Value) (M' : AM) : Prop := ∃ bb, v = some (.int (bI bb)) ∧ (bb = true → RW T (fun t => nxW T W t (mN T)) b a M') ∧ (bb = false → (∃ t, t < LTn T ∧ 2 ^ 63 ≤ nxW T W t (mN T)) ∧ M'.2.2 36 = M.2.2 36) ∧ Sb [36, 37, 38] M M'
theorem c_lengthen (hT : WT T) (hB : T 61 13 < 64) (hG : GR T M) (hW : RW T W a b M) : Call g qX7_lengthen [.ref 36, .ref 9] M (LeQ T W a b M) := by
  obtain ⟨hab, hra, hrb, hWa⟩ := hW
  have hka := kA hab
  have hkb := kB hab
  have hne := abN hab
  have hm := abM hab
  have hLq := q_le hT hB
  have hN := mN_le hT hB
  have L : ∀ (n k : Nat) (M1 : AM) (y3 y4 y5 : Option Value), k ≤ mN T → mN T < k + n → M1.2.2 36 = M.2.2 36 → M1.2.1 a = M.2.1 a → (∀ t, t < LTn T → M1.2.1 b t = lN (nxW T W t k) ∧ nxW T W t k < 2 ^ 63) → Sb [36, 37, 38] M M1 → Ex g qX7_lengthen (tm g qX7_lengthen (LeQ T W a b M)) 10 [some (.ref 36), some (.ref 9), some (.int (nI k)), y3, y4, y5] [] M1 := by
    intro n
    induction n with
    | zero => intro k M1 y3 y4 y5 h1 h2; exact absurd h2 (by omega)
    | succ n ih =>
      intro k M1 y3 y4 y5 hk hn hr hA hb hS
      have hG2 := gr_sb hG hS (by decide)
      have hn1 : M1.2.2 36 0 = a := by rw [hr]; exact hra
      have hn2 : M1.2.2 36 1 = b := by rw [hr]; exact hrb
      by_cases hlt : k < mN T
      · have ok := mv_ok hT hB hlt
        have hw := hWa _ ok.1
        have hl1 : M1.2.1 a (mF T k) = lN (W (mF T k)) := by rw [hA]; exact hw.1
        have hl2 := hb _ ok.2.2.2.2.2.1
        have e1 : lN (W (mF T k)) ≤ 9223372036854775807 - lN (nxW T W (mT T k) k) ↔ W (mF T k) ≤ 2 ^ 63 - 1 - nxW T W (mT T k) k := by rw [maxL, lN_sub (by omega), pk_lLE hw.2 (by omega)]
        have hnx : nxW T W (mT T k) (k + 1) = nxW T W (mT T k) k + W (mF T k) := by rw [nxW_s, if_pos rfl]
        have KF : ¬ lg_cmp (lN (W (mF T k))) (9223372036854775807 - lN (nxW T W (mT T k) k)) ≤ 0 → LeQ T W a b M (some (.int (bI false))) M1 := fun e => ⟨false, rfl, fun q => (by cases q), fun _ => ⟨⟨mT T k, ok.2.2.2.2.2.1, by
          rw [lg_cmp_le, e1] at e
          have := nxW_le (T := T) (W := W) (t := mT T k) (show k + 1 ≤ mN T from hlt)
          omega⟩, hr⟩, hS⟩
        have KT : lg_cmp (lN (W (mF T k))) (9223372036854775807 - lN (nxW T W (mT T k) k)) ≤ 0 → ∀ y3 y4 y5, Ex g qX7_lengthen (tm g qX7_lengthen (LeQ T W a b M)) 10 [some (.ref 36), some (.ref 9), some (.int (nI (k + 1))), y3, y4, y5] [] (sL M1 b (mT T k) (lN (nxW T W (mT T k) k) + lN (W (mF T k)))) := fun e y3 y4 y5 => by
          rw [lg_cmp_le, e1] at e
          refine ih (k + 1) _ y3 y4 y5 (by omega) (by omega) hr (by rw [sL_ne hne]; exact hA) (fun t ht => ?_) (hS.tr (Sb.l hm.2))
          by_cases q : t = mT T k
          · rw [q, hnx, sL_get, if_pos ⟨rfl, rfl⟩, lN_add]
            exact ⟨rfl, by omega⟩
          · rw [nxW_s, if_neg (fun z => q z.symm), sL_get, if_neg (fun z => q z.2)]
            exact hb t ht
        refine E_iload_n dX7_lengthen_10 rfl ?_
        refine E_aload_n dX7_lengthen_11 rfl ?_
        refine E_getI' (ci := 2) (j := 12) dX7_lengthen_12 fkX7_42 rfl (by decide) rfl (by decide) (gr_mv hG2) ?_
        refine E_icmp_geN (t := 73) dX7_lengthen_15 (by decide) (by omega) (by omega) (fun c15 => ?_) (fun c15 => ?_)
        · skip
          exact absurd c15 (by omega)
        · skip
          refine E_aload_n dX7_lengthen_18 rfl ?_
          refine E_getM' (ci := 7) (j := 0) (p := a) dX7_lengthen_19 fkX7_9 rfl (by decide) rfl (by decide) (hn1) ?_
          refine E_aload_n dX7_lengthen_22 rfl ?_
          refine E_getR' (ci := 2) (j := 6) (p := 16) dX7_lengthen_23 fkX7_45 rfl (by decide) rfl (by decide) (rfl) ?_
          refine E_iload_n dX7_lengthen_26 rfl ?_
          refine E_ialdN dX7_lengthen_27 rfl (by omega) (by decide) (gr_mf hG2 hlt) ?_
          refine E_laldN dX7_lengthen_28 hka (by omega) (by decide) (hl1) ?_
          refine E_lst_n (i := 3) dX7_lengthen_29 rfl (by decide) rfl ?_
          refine E_aload_n dX7_lengthen_30 rfl ?_
          refine E_getR' (ci := 2) (j := 7) (p := 17) dX7_lengthen_31 fkX7_49 rfl (by decide) rfl (by decide) (rfl) ?_
          refine E_iload_n dX7_lengthen_34 rfl ?_
          refine E_ialdN dX7_lengthen_35 rfl (by omega) (by decide) (gr_mt hG2 hlt) ?_
          refine E_istore dX7_lengthen_36 (by decide) rfl ?_
          refine E_lload_n dX7_lengthen_38 rfl ?_
          refine E_ldc2 dX7_lengthen_39 clX7_40 ?_
          refine E_aload_n dX7_lengthen_42 rfl ?_
          refine E_getM' (ci := 7) (j := 1) (p := b) dX7_lengthen_43 fkX7_15 rfl (by decide) rfl (by decide) (hn2) ?_
          refine E_iload dX7_lengthen_46 rfl ?_
          refine E_laldN dX7_lengthen_48 hkb (by omega) (by decide) (hl2.1) ?_
          refine E_lsub dX7_lengthen_49 ?_
          refine E_lcmp dX7_lengthen_50 ?_
          refine E_if_le (t := 56) dX7_lengthen_51 (by decide) (fun c51 => ?_) (fun c51 => ?_)
          · skip
            refine E_aload_n dX7_lengthen_56 rfl ?_
            refine E_getM' (ci := 7) (j := 1) (p := b) dX7_lengthen_57 fkX7_15 rfl (by decide) rfl (by decide) (hn2) ?_
            refine E_iload dX7_lengthen_60 rfl ?_
            refine E_dup2 dX7_lengthen_62 rfl rfl ?_
            refine E_laldN dX7_lengthen_63 hkb (by omega) (by decide) (hl2.1) ?_
            refine E_lload_n dX7_lengthen_64 rfl ?_
            refine E_ladd dX7_lengthen_65 ?_
            refine E_lastN dX7_lengthen_66 hkb (by omega) (by decide) ?_
            refine E_iincN (b := 1) dX7_lengthen_67 rfl rfl (by decide) rfl ?_
            refine E_goto (t := 10) dX7_lengthen_70 (by decide) ?_
            exact KT c51 _ _ _
          · skip
            refine E_iconst (v := nI 0) dX7_lengthen_54 rfl ?_
            refine E_top (show nI 0 = bI false from rfl) ?_
            refine E_zret dX7_lengthen_55 rfl (bI_01 _) ?_
            exact KF c51
      · have hke : k = mN T := by omega
        subst hke
        have key : LeQ T W a b M (some (.int (bI true))) (sR (sR M1 36 0 b) 36 1 a) := ⟨true, rfl, fun _ => ⟨abS hab, by rw [sR_get, if_neg (by decide), sR_get, if_pos ⟨rfl, rfl⟩], by rw [sR_get, if_pos ⟨rfl, rfl⟩], hb⟩, fun q => (by cases q), (hS.tr (Sb.r (by decide))).tr (Sb.r (by decide))⟩
        refine E_iload_n dX7_lengthen_10 rfl ?_
        refine E_aload_n dX7_lengthen_11 rfl ?_
        refine E_getI' (ci := 2) (j := 12) dX7_lengthen_12 fkX7_42 rfl (by decide) rfl (by decide) (gr_mv hG2) ?_
        refine E_icmp_geN (t := 73) dX7_lengthen_15 (by decide) (by omega) (by omega) (fun c15 => ?_) (fun c15 => ?_)
        · skip
          refine E_aload_n dX7_lengthen_73 rfl ?_
          refine E_getM' (ci := 7) (j := 0) (p := a) dX7_lengthen_74 fkX7_9 rfl (by decide) rfl (by decide) (hn1) ?_
          refine E_ast_n (i := 2) dX7_lengthen_77 rfl (by decide) rfl ?_
          refine E_aload_n dX7_lengthen_78 rfl ?_
          refine E_aload_n dX7_lengthen_79 rfl ?_
          refine E_getM' (ci := 7) (j := 1) (p := b) dX7_lengthen_80 fkX7_15 rfl (by decide) rfl (by decide) (hn2) ?_
          refine E_putR (ci := 7) (j := 0) dX7_lengthen_83 fkX7_9 rfl (by decide) rfl (by decide) ?_
          refine E_aload_n dX7_lengthen_86 rfl ?_
          refine E_aload_n dX7_lengthen_87 rfl ?_
          refine E_putR (ci := 7) (j := 1) dX7_lengthen_88 fkX7_15 rfl (by decide) rfl (by decide) ?_
          refine E_iconst (v := nI 1) dX7_lengthen_91 rfl ?_
          refine E_top (show nI 1 = bI true from rfl) ?_
          refine E_zret dX7_lengthen_92 rfl (bI_01 _) ?_
          exact key
        · skip
          exact absurd c15 (by omega)
  refine Call_of (ls0 := [some (.ref 36), some (.ref 9), none, none, none, none]) rfl rfl (Nat.le_of_ble_eq_true rfl) ?_
  refine E_aload_n dX7_lengthen_0 rfl ?_
  refine E_getM' (ci := 7) (j := 1) (p := b) dX7_lengthen_1 fkX7_15 rfl (by decide) rfl (by decide) (hrb) ?_
  refine E_lconst (v := 0) dX7_lengthen_4 rfl ?_
  refine E_callS (r := qJ7_fill_d0a16) dX7_lengthen_5 mkX7_18 toJ7_fill_d0a16 rfl ⟨Nat.le_of_ble_eq_true rfl, Nat.le_of_ble_eq_true rfl, Nat.le_of_ble_eq_true rfl, Nat.le_of_ble_eq_true rfl⟩ (c_fillL hkb (by decide)) rfl (Nat.le_of_ble_eq_true rfl) ?_
  rintro _ _ ⟨rfl, rfl⟩
  refine E_iconst (v := nI 0) dX7_lengthen_8 rfl ?_
  refine E_ist_n (i := 2) dX7_lengthen_9 rfl (by decide) rfl ?_
  exact L (mN T + 1) 0 _ none none none (Nat.zero_le _) (by omega) rfl (flL_ne hne) (fun t ht => by rw [flL_in (by omega)]; exact ⟨rfl, show (0 : Nat) < 2 ^ 63 by decide⟩) (flL_sb hm.2)
def rwV (T : TK) (j l : Nat) : Int64 := if (ovN T j || decide (2 ^ 63 ≤ suW T j l 64)) = true then -1000004 else lN (suW T j l 64)
noncomputable def spW (T : TK) (j l : Nat) : Nat → Nat := smN (fun i => if Qn T i / 64 = l then cW T j (Qn T i) else 0)
theorem sp_su (hT : WT T) (hB : T 61 13 < 64) {j l : Nat} (hl : l < 16) : suW T j l 64 = spW T j l (LTn T) := by
  unfold suW spW
  rw [← sum_line (h := cW T j) hl, ← sum_D hT hB (f := fun s => if s / 64 = l then cW T j s else 0)]
  apply smN_cong
  intro s _
  cases h : DT T s with
  | some d => rw [if_pos (show (some d).isSome = true from rfl)]
  | none =>
    rw [cW_z hT hB j s h, if_neg (show ¬ (none : Option Nat).isSome = true by decide)]
    split <;> rfl
def RoQ (T : TK) (j l : Nat) (M : AM) (v : Option Value) (M' : AM) : Prop := v = some (.long (rwV T j l)) ∧ (∃ a b, Rab a b ∧ M'.2.2 36 0 = a ∧ M'.2.2 36 1 = b) ∧ Sb [36, 37, 38] M M'
theorem rw_48 (hT : WT T) (hB : T 61 13 < 64) (hG : GR T M) {j l : Nat} (hl : l < 16) (hov : ∀ k, k ≤ j → ∀ i, i < LTn T → cW T k (Qn T i) < 2 ^ 63) {M1 : AM} (hW : RW T (fun i => cW T j (Qn T i)) a b M1) (hS : Sb [36, 37, 38] M M1) : ∀ (n k : Nat), k ≤ LTn T → LTn T < k + n → spW T j l k < 2 ^ 63 → Ex g qX7_rowsTo (tm g qX7_rowsTo (RoQ T j l M)) 48 [some (.ref 36), some (.ref 9), some (.int (nI l)), some (.int (nI j)), some (.long (lN (spW T j l k))), none, some (.int (nI k))] [] M1 := by
  obtain ⟨hab, hra, hrb, hWa⟩ := hW
  have hka := kA hab
  have hLq := q_le hT hB
  have hG2 := gr_sb hG hS (by decide)
  have hovN : ovN T j = false := ovN_not (fun k hk t ht => by
    cases h : DT T t with
    | none => rw [cW_z hT hB k t h]; decide
    | some d =>
      obtain ⟨i, hi, hq⟩ := D_Qn hT hB (s := t) (by rw [h]; exact fun e => by cases e)
      rw [← hq]; exact hov k hk i hi)
  intro n
  induction n with
  | zero => intro k h1 h2; exact absurd h2 (by omega)
  | succ n ih =>
    intro k hk hn hsp
    by_cases hlt : k < LTn T
    · have hq : Qn T k / 64 < 16 := by have := Qn_lt hT hB hlt; omega
      have hw := hWa k hlt
      have e1 : lN (cW T j (Qn T k)) ≤ 9223372036854775807 - lN (spW T j l k) ↔ cW T j (Qn T k) ≤ 2 ^ 63 - 1 - spW T j l k := by rw [maxL, lN_sub (by omega), pk_lLE hw.2 (by omega)]
      have hle : spW T j l (k + 1) ≤ spW T j l (LTn T) := smN_mn _ hlt
      have KN : ¬ Qn T k / 64 = l → Ex g qX7_rowsTo (tm g qX7_rowsTo (RoQ T j l M)) 48 [some (.ref 36), some (.ref 9), some (.int (nI l)), some (.int (nI j)), some (.long (lN (spW T j l k))), none, some (.int (nI (k + 1)))] [] M1 := fun e => by
        have e2 : spW T j l (k + 1) = spW T j l k := by show spW T j l k + (if Qn T k / 64 = l then _ else 0) = _; rw [if_neg e]; rfl
        have := ih (k + 1) (by omega) (by omega) (by rw [e2]; exact hsp)
        rw [e2] at this
        exact this
      have e3 : Qn T k / 64 = l → spW T j l (k + 1) = spW T j l k + cW T j (Qn T k) := fun e => by show spW T j l k + (if Qn T k / 64 = l then cW T j (Qn T k) else 0) = _; rw [if_pos e]
      have KF : Qn T k / 64 = l → ¬ lg_cmp (lN (cW T j (Qn T k))) (9223372036854775807 - lN (spW T j l k)) ≤ 0 → RoQ T j l M (some (.long (-1000004))) M1 := fun e e2 => by
        rw [lg_cmp_le, e1] at e2
        have e4 := e3 e
        refine ⟨?_, ⟨a, b, hab, hra, hrb⟩, hS⟩
        unfold rwV
        rw [sp_su hT hB hl, decide_eq_true (by omega), Bool.or_true, if_pos rfl]
      have KT : Qn T k / 64 = l → lg_cmp (lN (cW T j (Qn T k))) (9223372036854775807 - lN (spW T j l k)) ≤ 0 → Ex g qX7_rowsTo (tm g qX7_rowsTo (RoQ T j l M)) 48 [some (.ref 36), some (.ref 9), some (.int (nI l)), some (.int (nI j)), some (.long (lN (spW T j l k) + lN (cW T j (Qn T k)))), none, some (.int (nI (k + 1)))] [] M1 := fun e e2 => by
        rw [lg_cmp_le, e1] at e2
        have e4 := e3 e
        have := ih (k + 1) (by omega) (by omega) (by omega)
        rw [e4, ← lN_add] at this
        exact this
      refine E_iload dX7_rowsTo_48 rfl ?_
      refine E_aload_n dX7_rowsTo_50 rfl ?_
      refine E_getI' (ci := 2) (j := 11) dX7_rowsTo_51 fkX7_30 rfl (by decide) rfl (by decide) (gr_st hG2) ?_
      refine E_icmp_geN (t := 106) dX7_rowsTo_54 (by decide) (by omega) (by omega) (fun c54 => ?_) (fun c54 => ?_)
      · skip
        exact absurd c54 (by omega)
      · skip
        refine E_aload_n dX7_rowsTo_57 rfl ?_
        refine E_iload dX7_rowsTo_58 rfl ?_
        refine E_callV (r := qX2_lineAt) (ci := 2) dX7_rowsTo_60 mkX7_36 voX2_lineAt rfl rfl rfl ⟨Nat.le_of_ble_eq_true rfl, Nat.le_of_ble_eq_true rfl, Nat.le_of_ble_eq_true rfl, Nat.le_of_ble_eq_true rfl⟩ (c_line hT hB hG2 hlt) rfl (Nat.le_of_ble_eq_true rfl) ?_
        rintro _ _ ⟨rfl, rfl⟩
        refine E_iload_n dX7_rowsTo_63 rfl ?_
        refine E_icmp_neN (t := 100) dX7_rowsTo_64 (by decide) (by omega) (by omega) (fun c64 => ?_) (fun c64 => ?_)
        · skip
          have key := KN c64
          refine E_iincN (b := 1) dX7_rowsTo_100 rfl rfl (by decide) rfl ?_
          refine E_goto (t := 48) dX7_rowsTo_103 (by decide) ?_
          exact key
        · skip
          refine E_aload_n dX7_rowsTo_67 rfl ?_
          refine E_getM' (ci := 7) (j := 0) (p := a) dX7_rowsTo_68 fkX7_9 rfl (by decide) rfl (by decide) (hra) ?_
          refine E_iload dX7_rowsTo_71 rfl ?_
          refine E_laldN dX7_rowsTo_73 hka (by omega) (by decide) (hw.1) ?_
          refine E_ldc2 dX7_rowsTo_74 clX7_40 ?_
          refine E_lload dX7_rowsTo_77 rfl ?_
          refine E_lsub dX7_rowsTo_79 ?_
          refine E_lcmp dX7_rowsTo_80 ?_
          refine E_if_le (t := 88) dX7_rowsTo_81 (by decide) (fun c81 => ?_) (fun c81 => ?_)
          · skip
            have key := KT c64 c81
            refine E_lload dX7_rowsTo_88 rfl ?_
            refine E_aload_n dX7_rowsTo_90 rfl ?_
            refine E_getM' (ci := 7) (j := 0) (p := a) dX7_rowsTo_91 fkX7_9 rfl (by decide) rfl (by decide) (hra) ?_
            refine E_iload dX7_rowsTo_94 rfl ?_
            refine E_laldN dX7_rowsTo_96 hka (by omega) (by decide) (hw.1) ?_
            refine E_ladd dX7_rowsTo_97 ?_
            refine E_lstore dX7_rowsTo_98 (by decide) rfl ?_
            refine E_iincN (b := 1) dX7_rowsTo_100 rfl rfl (by decide) rfl ?_
            refine E_goto (t := 48) dX7_rowsTo_103 (by decide) ?_
            exact key
          · skip
            refine E_ldc2 dX7_rowsTo_84 clX7_28 ?_
            refine E_lret dX7_rowsTo_87 rfl ?_
            exact KF c64 c81
    · have hke : k = LTn T := by omega
      subst hke
      have key : RoQ T j l M (some (.long (lN (spW T j l (LTn T))))) M1 := ⟨by unfold rwV; rw [hovN, sp_su hT hB hl, decide_eq_false (by omega), Bool.or_false, if_neg (by decide)], ⟨a, b, hab, hra, hrb⟩, hS⟩
      refine E_iload dX7_rowsTo_48 rfl ?_
      refine E_aload_n dX7_rowsTo_50 rfl ?_
      refine E_getI' (ci := 2) (j := 11) dX7_rowsTo_51 fkX7_30 rfl (by decide) rfl (by decide) (gr_st hG2) ?_
      refine E_icmp_geN (t := 106) dX7_rowsTo_54 (by decide) (by omega) (by omega) (fun c54 => ?_) (fun c54 => ?_)
      · skip
        refine E_lload dX7_rowsTo_106 rfl ?_
        refine E_lret dX7_rowsTo_108 rfl ?_
        exact key
      · skip
        exact absurd c54 (by omega)
theorem rw_18 (hT : WT T) (hB : T 61 13 < 64) (hG : GR T M) {j l : Nat} (hl : l < 16) (hj : j ≤ 80) : ∀ (n k a b : Nat) (M1 : AM), k ≤ j → j < k + n → (∀ k', k' ≤ k → ∀ i, i < LTn T → cW T k' (Qn T i) < 2 ^ 63) → RW T (fun i => cW T k (Qn T i)) a b M1 → Sb [36, 37, 38] M M1 → Ex g qX7_rowsTo (tm g qX7_rowsTo (RoQ T j l M)) 18 [some (.ref 36), some (.ref 9), some (.int (nI l)), some (.int (nI j)), some (.int (nI k)), none, none] [] M1 := by
  intro n
  induction n with
  | zero => intro k a b M1 h1 h2; exact absurd h2 (by omega)
  | succ n ih =>
    intro k a b M1 hk hn hov hW hS
    have hG2 := gr_sb hG hS (by decide)
    have KE : k = j → Ex g qX7_rowsTo (tm g qX7_rowsTo (RoQ T j l M)) 48 [some (.ref 36), some (.ref 9), some (.int (nI l)), some (.int (nI j)), some (.long 0), none, some (.int (nI 0))] [] M1 := fun e => by
      subst e
      exact rw_48 hT hB hG hl hov hW hS (LTn T + 1) 0 (Nat.zero_le _) (by omega) (show (0 : Nat) < 2 ^ 63 by decide)
    have KT : k < j → ∀ M2, RW T (fun t => nxW T (fun i => cW T k (Qn T i)) t (mN T)) b a M2 → Sb [36, 37, 38] M1 M2 → Ex g qX7_rowsTo (tm g qX7_rowsTo (RoQ T j l M)) 18 [some (.ref 36), some (.ref 9), some (.int (nI l)), some (.int (nI j)), some (.int (nI (k + 1))), none, none] [] M2 := fun e M2 g1 g2 => by
      have e4 : ∀ i, i < LTn T → M2.2.1 b i = lN (cW T (k + 1) (Qn T i)) ∧ cW T (k + 1) (Qn T i) < 2 ^ 63 := fun i hi => by
        have := g1.2.2.2 i hi
        dsimp only at this
        rw [nx_cW hT hB hi] at this
        exact this
      refine ih (k + 1) b a M2 (by omega) (by omega) (fun k' h1 i hi => ?_) ⟨g1.1, g1.2.1, g1.2.2.1, e4⟩ (hS.tr g2)
      by_cases q : k' = k + 1
      · rw [q]; exact (e4 i hi).2
      · exact hov k' (by omega) i hi
    have KF : k < j → ∀ M2, ((∃ t, t < LTn T ∧ 2 ^ 63 ≤ nxW T (fun i => cW T k (Qn T i)) t (mN T)) ∧ M2.2.2 36 = M1.2.2 36) → Sb [36, 37, 38] M1 M2 → RoQ T j l M (some (.long (-1000004))) M2 := fun e M2 g1 g2 => by
      obtain ⟨⟨t, t1, t2⟩, g3⟩ := g1
      rw [nx_cW hT hB t1] at t2
      refine ⟨?_, ⟨a, b, hW.1, by rw [g3]; exact hW.2.1, by rw [g3]; exact hW.2.2.1⟩, hS.tr g2⟩
      unfold rwV
      rw [ovN_of (show k + 1 ≤ j from e) (Qn_lt hT hB t1) t2, Bool.true_or, if_pos rfl]
    refine E_iload dX7_rowsTo_18 rfl ?_
    refine E_iload_n dX7_rowsTo_20 rfl ?_
    refine E_icmp_geN (t := 42) dX7_rowsTo_21 (by decide) (by omega) (by omega) (fun c21 => ?_) (fun c21 => ?_)
    · skip
      have key := KE (by omega)
      refine E_lconst (v := 0) dX7_rowsTo_42 rfl ?_
      refine E_lstore dX7_rowsTo_43 (by decide) rfl ?_
      refine E_iconst (v := nI 0) dX7_rowsTo_45 rfl ?_
      refine E_istore dX7_rowsTo_46 (by decide) rfl ?_
      exact key
    · skip
      refine E_aload_n dX7_rowsTo_24 rfl ?_
      refine E_aload_n dX7_rowsTo_25 rfl ?_
      refine E_callV (r := qX7_lengthen) (ci := 7) dX7_rowsTo_26 mkX7_24 voX7_lengthen rfl rfl rfl ⟨Nat.le_of_ble_eq_true rfl, Nat.le_of_ble_eq_true rfl, Nat.le_of_ble_eq_true rfl, Nat.le_of_ble_eq_true rfl⟩ (c_lengthen hT hB hG2 hW) rfl (Nat.le_of_ble_eq_true rfl) ?_
      rintro _ M2 ⟨bb, rfl, g1, g2, g3⟩
      refine E_if_neB (t := 36) dX7_rowsTo_29 (by decide) (fun c29 => ?_) (fun c29 => ?_)
      · skip
        refine E_iincN (b := 1) dX7_rowsTo_36 rfl rfl (by decide) rfl ?_
        refine E_goto (t := 18) dX7_rowsTo_39 (by decide) ?_
        exact KT c21 M2 (g1 c29) g3
      · skip
        refine E_ldc2 dX7_rowsTo_32 clX7_28 ?_
        refine E_lret dX7_rowsTo_35 rfl ?_
        exact KF c21 M2 (g2 c29) g3
theorem c_rowsTo (hT : WT T) (hB : T 61 13 < 64) (hG : GR T M) {j l : Nat} (hl : l < 16) (hj : j ≤ 80) (hab : Rab a b) (hra : M.2.2 36 0 = a) (hrb : M.2.2 36 1 = b) : Call g qX7_rowsTo [.ref 36, .ref 9, .int (nI l), .int (nI j)] M (RoQ T j l M) := by
  have hka := kA hab
  have hm := abM hab
  have hLq := q_le hT hB
  have hp := q_pos hT hB
  have c0 : ∀ i, i < LTn T → cW T 0 (Qn T i) = if i = 0 then 1 else 0 := fun i hi => by
    rw [cW]
    by_cases e : i = 0
    · rw [if_pos e, e, if_pos hp.2]
    · rw [if_neg e, if_neg (fun q => e (Qn_inj hT hB hi hp.1 (q.trans hp.2.symm)))]
  have key := rw_18 (g := g) hT hB hG hl hj (j + 1) 0 a b (sL (flL M a 1024 0) a 0 1) (Nat.zero_le _) (by omega) (fun k' h1 i hi => by rw [show k' = 0 by omega, c0 i hi]; split <;> decide) ⟨hab, hra, hrb, fun i hi => by
    dsimp only
    rw [c0 i hi, sL_get]
    by_cases e : i = 0
    · rw [if_pos e, if_pos ⟨rfl, e⟩]; exact ⟨rfl, by decide⟩
    · rw [if_neg e, if_neg (fun q => e q.2), flL_in (by omega)]; exact ⟨rfl, by decide⟩⟩ ((flL_sb hm.1).tr (Sb.l hm.1))
  refine Call_of (ls0 := [some (.ref 36), some (.ref 9), some (.int (nI l)), some (.int (nI j)), none, none, none]) rfl rfl (Nat.le_of_ble_eq_true rfl) ?_
  refine E_aload_n dX7_rowsTo_0 rfl ?_
  refine E_getM' (ci := 7) (j := 0) (p := a) dX7_rowsTo_1 fkX7_9 rfl (by decide) rfl (by decide) (hra) ?_
  refine E_lconst (v := 0) dX7_rowsTo_4 rfl ?_
  refine E_callS (r := qJ7_fill_d0a16) dX7_rowsTo_5 mkX7_18 toJ7_fill_d0a16 rfl ⟨Nat.le_of_ble_eq_true rfl, Nat.le_of_ble_eq_true rfl, Nat.le_of_ble_eq_true rfl, Nat.le_of_ble_eq_true rfl⟩ (c_fillL hka (by decide)) rfl (Nat.le_of_ble_eq_true rfl) ?_
  rintro _ _ ⟨rfl, rfl⟩
  refine E_aload_n dX7_rowsTo_8 rfl ?_
  refine E_getM' (ci := 7) (j := 0) (p := a) dX7_rowsTo_9 fkX7_9 rfl (by decide) rfl (by decide) (hra) ?_
  refine E_iconst (v := nI 0) dX7_rowsTo_12 rfl ?_
  refine E_lconst (v := 1) dX7_rowsTo_13 rfl ?_
  refine E_lastN dX7_rowsTo_14 hka (by omega) (by decide) ?_
  refine E_iconst (v := nI 0) dX7_rowsTo_15 rfl ?_
  refine E_istore dX7_rowsTo_16 (by decide) rfl ?_
  exact key
end W1
