-- the class: answers by line
def blL (T : TK) (l n : Nat) : List Nat := (List.range n).filter (fun a => T 62 a == l)
def blN (T : TK) : Nat → List Nat
  | 0 => []
  | n + 1 => blN T n ++ blL T n (T 61 0)
theorem blL_s {T : TK} {l n : Nat} : blL T l (n + 1) = blL T l n ++ (if T 62 n = l then [n] else []) := by
  unfold blL
  rw [List.range_succ, List.filter_append]
  congr 1
  by_cases e : T 62 n = l
  · rw [if_pos e]; simp [e]
  · rw [if_neg e]; simp [e]
theorem blL_m {T : TK} {l n a : Nat} : a ∈ blL T l n ↔ a < n ∧ T 62 a = l := by
  unfold blL
  rw [List.mem_filter, List.mem_range, beq_iff_eq]
theorem blN_m {T : TK} {a : Nat} : ∀ {n : Nat}, a ∈ blN T n ↔ a < T 61 0 ∧ T 62 a < n
  | 0 => by simp [blN]
  | n + 1 => by
    rw [blN, List.mem_append, blN_m, blL_m]
    omega
theorem blL_nd {T : TK} {l n : Nat} : (blL T l n).Nodup := List.Nodup.sublist List.filter_sublist List.nodup_range
theorem bl_nd {T : TK} {l k : Nat} : (blN T l).Nodup → (blN T l ++ blL T l k).Nodup := fun h => by
  rw [List.nodup_append]
  refine ⟨h, blL_nd, fun a ha b hb e => ?_⟩
  have h1 := (blN_m.mp ha).2
  have h2 := (blL_m.mp hb).2
  rw [← e] at h2
  omega
theorem blN_nd {T : TK} : ∀ (n : Nat), (blN T n).Nodup
  | 0 => List.nodup_nil
  | n + 1 => by rw [blN]; exact bl_nd (blN_nd n)
theorem bl_len {T : TK} {l k : Nat} (hk : k ≤ T 61 0) : (blN T l ++ blL T l k).length ≤ T 61 0 := nodup_len _ _ (bl_nd (blN_nd l)) (fun a ha => by
  rcases List.mem_append.mp ha with h | h
  · exact (blN_m.mp h).1
  · have := (blL_m.mp h).1; omega)
/-- the answers lie by line in script p -/
def SL (T : TK) (p : Nat) (M : AM) : Prop := (∀ l, l ≤ 16 → M.1 (p + 10) l = nI (blN T l).length) ∧ ∀ i, i < (blN T 16).length → M.1 (p + 9) i = nI ((blN T 16).getD i 0)
theorem gd_app {L : List Nat} {x i : Nat} (h : i < (L ++ [x]).length) : (L ++ [x]).getD i 0 = if i = L.length then x else L.getD i 0 := by
  by_cases e : i = L.length
  · rw [if_pos e, e]; simp
  · rw [if_neg e, List.length_append] at *
    have h2 : [x].length = 1 := rfl
    rw [List.getD_eq_getElem?_getD, List.getD_eq_getElem?_getD, List.getElem?_append_left (by omega)]
section S3
variable {g : GG} {M : AM} {P : TK} {p : Nat}
theorem cs_f {M1 : AM} (h1 : Sb [p + 9, p + 10] M M1) : M1.1 p = M.1 p ∧ M1.1 (p + 1) = M.1 (p + 1) := ⟨(h1 p (by simp)).1, (h1 (p + 1) (by simp)).1⟩
theorem cs_I (hB : SB P p M) {l : Nat} (hl : l < 16) (hO : ∀ (M1 : AM) (y : Option Value), Sb [p + 9, p + 10] M M1 → (∀ k, k < l + 1 → M1.1 (p + 10) k = nI (blN P k).length) → (∀ i, i < (blN P (l + 1)).length → M1.1 (p + 9) i = nI ((blN P (l + 1)).getD i 0)) → Ex g qX8_sortByLine (tm g qX8_sortByLine (fun v M' => v = none ∧ SL P p M' ∧ Sb [p + 9, p + 10] M M')) 4 [some (.ref p), some (.int (nI (blN P (l + 1)).length)), some (.int (nI (l + 1))), y] [] M1) :
    ∀ (m a : Nat) (M2 : AM) (L : List Nat), L = blN P l ++ blL P l a → a ≤ P 61 0 → P 61 0 < a + m → Sb [p + 9, p + 10] M M2 → (∀ k, k < l + 1 → M2.1 (p + 10) k = nI (blN P k).length) → (∀ i, i < L.length → M2.1 (p + 9) i = nI (L.getD i 0)) → Ex g qX8_sortByLine (tm g qX8_sortByLine (fun v M' => v = none ∧ SL P p M' ∧ Sb [p + 9, p + 10] M M')) 19 [some (.ref p), some (.int (nI L.length)), some (.int (nI l)), some (.int (nI a))] [] M2 := by
  have hs := hB.1
  have h32 : P 61 0 ≤ 32 := hB.2.2.1.1
  have h10 : M.1 p 10 = nI (P 61 0) := sb_6 hB (j := 0) (by decide)
  have hfr : ∀ a, a < P 61 0 → M.1 (p + 1) a = nI (P 62 a) := fun a ha => (hB.2.1 62 a (Or.inr (Or.inl ⟨by omega, ha⟩))).2.2
  intro m
  induction m with
  | zero => intro a M2 L _ h1 h2; exact absurd h2 (by omega)
  | succ m ihI =>
    intro a M2 L hL ha hm hS2 hf2 hb2
    have hLl : L.length ≤ P 61 0 := by rw [hL]; exact bl_len ha
    have h10' : M2.1 p 10 = nI (P 61 0) := by rw [(cs_f hS2).1]; exact h10
    have hLx : a < P 61 0 → P 62 a = l → (L ++ [a]).length ≤ P 61 0 := fun h1 h2 => by
      have := bl_len (T := P) (l := l) (k := a + 1) (by omega)
      rw [blL_s, if_pos h2, ← List.append_assoc, ← hL] at this
      exact this
    have h62 : a < P 61 0 → P 62 a < 16 := fun h1 => (wt_a hB.2.2.1 h1).1
    have hla : (L ++ [a]).length = L.length + 1 := by rw [List.length_append]; rfl
    have K1 : a < P 61 0 → ¬ P 62 a = l → Ex g qX8_sortByLine (tm g qX8_sortByLine (fun v M' => v = none ∧ SL P p M' ∧ Sb [p + 9, p + 10] M M')) 19 [some (.ref p), some (.int (nI L.length)), some (.int (nI l)), some (.int (nI (a + 1)))] [] M2 := fun h1 h2 => ihI (a + 1) M2 L (by rw [blL_s, if_neg h2, List.append_nil]; exact hL) (by omega) (by omega) hS2 hf2 hb2
    have K2 : a < P 61 0 → P 62 a = l → Ex g qX8_sortByLine (tm g qX8_sortByLine (fun v M' => v = none ∧ SL P p M' ∧ Sb [p + 9, p + 10] M M')) 19 [some (.ref p), some (.int (nI (L.length + 1))), some (.int (nI l)), some (.int (nI (a + 1)))] [] (sI M2 (p + 9) L.length (nI a)) := fun h1 h2 => by
      have K := ihI (a + 1) (sI M2 (p + 9) L.length (nI a)) (L ++ [a]) (by rw [blL_s, if_pos h2, ← List.append_assoc, ← hL]) (by omega) (by omega) (hS2.tr (Sb.i (by simp))) (fun k hk => by rw [sI_o (by omega)]; exact hf2 k hk) (fun i hi => by
        rw [gd_app hi]
        by_cases e : i = L.length
        · rw [if_pos e, e, sI_s]
        · rw [if_neg e, sI_o (by omega)]; exact hb2 i (by omega))
      rw [hla] at K
      exact K
    have K3 : a = P 61 0 → Ex g qX8_sortByLine (tm g qX8_sortByLine (fun v M' => v = none ∧ SL P p M' ∧ Sb [p + 9, p + 10] M M')) 4 [some (.ref p), some (.int (nI L.length)), some (.int (nI (l + 1))), some (.int (nI a))] [] M2 := fun h1 => by
      have e : L = blN P (l + 1) := by rw [hL, h1]; rfl
      subst e
      exact hO M2 _ hS2 hf2 hb2
    refine E_iload_n dX8_sortByLine_19 rfl ?_
    refine E_aload_n dX8_sortByLine_20 rfl ?_
    refine E_getI' (ci := 8) (j := 10) dX8_sortByLine_21 fkX8_42 rfl (by decide) (kS hs) (by decide) (h10') ?_
    refine E_icmp_geN (t := 59) dX8_sortByLine_24 (by decide) (by omega) (by omega) (fun c24 => ?_) (fun c24 => ?_)
    · skip
      have key := K3 (by omega)
      refine E_iincN (b := 1) dX8_sortByLine_59 rfl rfl (by decide) rfl ?_
      refine E_goto (t := 4) dX8_sortByLine_62 (by decide) ?_
      exact key
    · skip
      refine E_aload_n dX8_sortByLine_27 rfl ?_
      refine E_getR' (ci := 8) (j := 0) (p := p+1) dX8_sortByLine_28 fkX8_9 rfl (by decide) (kS hs) (by decide) ((srS hs) 0 (by decide)) ?_
      refine E_iload_n dX8_sortByLine_31 rfl ?_
      refine E_ialdN dX8_sortByLine_32 (kp1 hs) (by omega) (by decide) ((congrFun (cs_f hS2).2 a).trans (hfr a c24)) ?_
      refine E_iload_n dX8_sortByLine_33 rfl ?_
      refine E_icmp_neN (t := 53) dX8_sortByLine_34 (by decide) (by have := h62 c24; omega) (by omega) (fun c34 => ?_) (fun c34 => ?_)
      · skip
        have key := K1 c24 c34
        refine E_iincN (b := 1) dX8_sortByLine_53 rfl rfl (by decide) rfl ?_
        refine E_goto (t := 19) dX8_sortByLine_56 (by decide) ?_
        exact key
      · skip
        have key := K2 c24 c34
        refine E_iload_n dX8_sortByLine_37 rfl ?_
        refine E_bipush (v := nI 32) dX8_sortByLine_38 rfl ?_
        refine E_icmp_geN (t := 53) dX8_sortByLine_40 (by decide) (by omega) (by omega) (fun c40 => ?_) (fun c40 => ?_)
        · skip
          exact absurd (hLx c24 c34) (by omega)
        · skip
          refine E_aload_n dX8_sortByLine_43 rfl ?_
          refine E_getR' (ci := 8) (j := 8) (p := p+9) dX8_sortByLine_44 fkX8_36 rfl (by decide) (kS hs) (by decide) ((srS hs) 8 (by decide)) ?_
          refine E_iload_n dX8_sortByLine_47 rfl ?_
          refine E_iload_n dX8_sortByLine_48 rfl ?_
          refine E_iastN dX8_sortByLine_49 (kp9 hs) (by have := hLx c24 c34; omega) (by decide) ?_
          refine E_iincN (b := 1) dX8_sortByLine_50 rfl rfl (by decide) rfl ?_
          refine E_iincN (b := 1) dX8_sortByLine_53 rfl rfl (by decide) rfl ?_
          refine E_goto (t := 19) dX8_sortByLine_56 (by decide) ?_
          exact key
theorem c_sort (hB : SB P p M) : Call g qX8_sortByLine [.ref p] M (fun v M' => v = none ∧ SL P p M' ∧ Sb [p + 9, p + 10] M M') := by
  have hs := hB.1
  have h32 : P 61 0 ≤ 32 := hB.2.2.1.1
  have LO : ∀ (n l : Nat) (M1 : AM) (y : Option Value), l ≤ 16 → 16 < l + n → Sb [p + 9, p + 10] M M1 → (∀ k, k < l → M1.1 (p + 10) k = nI (blN P k).length) → (∀ i, i < (blN P l).length → M1.1 (p + 9) i = nI ((blN P l).getD i 0)) → Ex g qX8_sortByLine (tm g qX8_sortByLine (fun v M' => v = none ∧ SL P p M' ∧ Sb [p + 9, p + 10] M M')) 4 [some (.ref p), some (.int (nI (blN P l).length)), some (.int (nI l)), y] [] M1 := by
    intro n
    induction n with
    | zero => intro l M1 y h1 h2; exact absurd h2 (by omega)
    | succ n ihO =>
      intro l M1 y hl hn hS hf hb
      have hlen0 : (blN P l).length ≤ P 61 0 := by have := bl_len (T := P) (l := l) (k := 0) (Nat.zero_le _); rw [List.length_append] at this; omega
      have K1 : l < 16 → Ex g qX8_sortByLine (tm g qX8_sortByLine (fun v M' => v = none ∧ SL P p M' ∧ Sb [p + 9, p + 10] M M')) 19 [some (.ref p), some (.int (nI (blN P l).length)), some (.int (nI l)), some (.int (nI 0))] [] (sI M1 (p + 10) l (nI (blN P l).length)) := fun h1 => cs_I hB h1 (fun M2 y h2 h3 h4 => ihO (l + 1) M2 y (by omega) (by omega) h2 h3 h4) (P 61 0 + 1) 0 _ (blN P l) (by unfold blL; simp) (Nat.zero_le _) (by omega) (hS.tr (Sb.i (by simp))) (fun k hk => by
        by_cases e : k = l
        · rw [e, sI_s]
        · rw [sI_o (by omega)]; exact hf k (by omega)) (fun i hi => by rw [sI_o (by omega)]; exact hb i hi)
      have K2 : l = 16 → (fun v M' => v = none ∧ SL P p M' ∧ Sb [p + 9, p + 10] M M') (none : Option Value) (sI M1 (p + 10) 16 (nI (blN P l).length)) := fun h1 => by
        subst h1
        refine ⟨rfl, ⟨fun k hk => ?_, fun i hi => by rw [sI_o (by omega)]; exact hb i hi⟩, hS.tr (Sb.i (by simp))⟩
        by_cases e : k = 16
        · rw [e, sI_s]
        · rw [sI_o (by omega)]; exact hf k (by omega)
      refine E_iload_n dX8_sortByLine_4 rfl ?_
      refine E_bipush (v := nI 16) dX8_sortByLine_5 rfl ?_
      refine E_icmp_geN (t := 65) dX8_sortByLine_7 (by decide) (by omega) (by omega) (fun c7 => ?_) (fun c7 => ?_)
      · skip
        refine E_aload_n dX8_sortByLine_65 rfl ?_
        refine E_getR' (ci := 8) (j := 9) (p := p+10) dX8_sortByLine_66 fkX8_39 rfl (by decide) (kS hs) (by decide) ((srS hs) 9 (by decide)) ?_
        refine E_bipush (v := nI 16) dX8_sortByLine_69 rfl ?_
        refine E_iload_n dX8_sortByLine_71 rfl ?_
        refine E_iastN dX8_sortByLine_72 (kp10 hs) (by omega) (by decide) ?_
        refine E_vret dX8_sortByLine_73 rfl ?_
        exact K2 (by omega)
      · skip
        refine E_aload_n dX8_sortByLine_10 rfl ?_
        refine E_getR' (ci := 8) (j := 9) (p := p+10) dX8_sortByLine_11 fkX8_39 rfl (by decide) (kS hs) (by decide) ((srS hs) 9 (by decide)) ?_
        refine E_iload_n dX8_sortByLine_14 rfl ?_
        refine E_iload_n dX8_sortByLine_15 rfl ?_
        refine E_iastN dX8_sortByLine_16 (kp10 hs) (by omega) (by decide) ?_
        refine E_iconst (v := nI 0) dX8_sortByLine_17 rfl ?_
        refine E_ist_n (i := 3) dX8_sortByLine_18 rfl (by decide) rfl ?_
        exact K1 c7
  refine Call_of (ls0 := [some (.ref p), none, none, none]) rfl rfl (Nat.le_of_ble_eq_true rfl) ?_
  refine E_iconst (v := nI 0) dX8_sortByLine_0 rfl ?_
  refine E_ist_n (i := 1) dX8_sortByLine_1 rfl (by decide) rfl ?_
  refine E_iconst (v := nI 0) dX8_sortByLine_2 rfl ?_
  refine E_ist_n (i := 2) dX8_sortByLine_3 rfl (by decide) rfl ?_
  exact LO 17 0 M none (by omega) (by omega) Sb.rf (fun k hk => absurd hk (by omega)) (fun i hi => absurd hi (Nat.not_lt_zero i))
end S3
