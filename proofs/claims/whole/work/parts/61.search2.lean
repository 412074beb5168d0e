-- the class's searches: whether a line is come to; the shortest loop
section H2
variable {g : GG} {M : AM} {T : TK} {ok : Nat → Bool} {f k : Nat}
theorem bp_inv (hT : WT T) (hB : T 61 13 < 64) (hf : f < LTn T) (k : Nat) : bInv (LTn T) (bfN (sP T ok) f k) := bInv_N hf (sP_lt hT hB) k
theorem bp_at (hT : WT T) (hB : T 61 13 < 64) (hf : f < LTn T) (hk : k < (bfN (sP T ok) f k).1.length) : ∃ s, (bfN (sP T ok) f k).1[k]? = some s ∧ s < LTn T ∧ (bfN (sP T ok) f k).2 s = some (dOf (bfN (sP T ok) f k) s) := by
  have hI := bp_inv (ok := ok) hT hB hf k
  have h1 : (bfN (sP T ok) f k).1[k]? = some (bfN (sP T ok) f k).1[k] := List.getElem?_eq_getElem hk
  have h2 := List.mem_of_getElem? h1
  refine ⟨_, h1, hI.2.2 _ h2, ?_⟩
  obtain ⟨d, hd⟩ := Option.ne_none_iff_exists'.mp ((hI.2.1 _).mp h2)
  unfold dOf
  rw [hd]; rfl
theorem bp_len (hT : WT T) (hB : T 61 13 < 64) (hf : f < LTn T) (k : Nat) : (bfN (sP T ok) f k).1.length ≤ LTn T := bfN_len hf (sP_lt hT hB) k
theorem bp_cl (hT : WT T) (hB : T 61 13 < 64) (hf : f < LTn T) (hk : (bfN (sP T ok) f k).1.length ≤ k) (hk2 : k ≤ LTn T) {n t : Nat} (h : rch (sP T ok) f n t) : t ∈ (bfN (sP T ok) f k).1 := by
  have hD := bfs_isD (succ := sP T ok) hf (sP_lt hT hB)
  rw [bfs_at hk2 hk] at hD
  obtain ⟨n0, h1, h2⟩ := pk_least _ (show ∃ n, rch (sP T ok) f n t from ⟨n, h⟩)
  have h3 := (hD t n0).mpr ⟨h1, h2⟩
  exact ((bp_inv hT hB hf k).2.1 t).mpr (by rw [h3]; exact fun e => by cases e)
theorem bp_snd (hT : WT T) (hB : T 61 13 < 64) (hf : f < LTn T) (hk : k ≤ (bfN (sP T ok) f k).1.length) {t d : Nat} (h : (bfN (sP T ok) f k).2 t = some d) : rch (sP T ok) f d t := (bMid_N hf (sP_lt hT hB) k hk).1 t d h
theorem bp_nx (hk : k ≤ (bfN (sP T ok) f k).1.length) {i s : Nat} (hi : i ≤ k) (hl : i < (bfN (sP T ok) f k).1.length) (h : (bfN (sP T ok) f (k + 1)).1[i]? = some s) : (bfN (sP T ok) f k).1[i]? = some s := by
  rw [← bfN_get hl 1]; exact h
def CtQ (T : TK) (ok : Nat → Bool) (l : Nat) (M : AM) (v : Option Value) (M' : AM) : Prop := ∃ b, v = some (.int (bI b)) ∧ (b = true ↔ ∃ n i, rch (sP T ok) 0 n i ∧ Qn T i / 64 = l) ∧ Sb [21, 22, 23] M M'
theorem ct_I (hT : WT T) (hB : T 61 13 < 64) (h : GR T M) {l ban k s : Nat} (hok : ∀ m, ok m = !(ban.testBit (mA T m))) (hs : s < LTn T) (hk : k ≤ 1024) (hd : (bfN (sP T ok) 0 k).2 s = some (dOf (bfN (sP T ok) 0 k) s))
    (nx : ∀ M2 y, Sq (sgP T ok (bfN (sP T ok) 0 k) s (fO T (s + 1) - fO T s)) M2 → Sb [21, 22, 23] M M2 → Ex g qX9_comesTo (tm g qX9_comesTo (CtQ T ok l M)) 8 [some (.ref 21), some (.ref 9), some (.int (nI l)), some (.int (nI ban)), some (.int (nI (k + 1))), some (.int (nI s)), y] [] M2) : ∀ (n j : Nat) (M2 : AM), j ≤ fO T (s + 1) - fO T s → fO T (s + 1) - fO T s < j + n → Sq (sgP T ok (bfN (sP T ok) 0 k) s j) M2 → Sb [21, 22, 23] M M2 → Ex g qX9_comesTo (tm g qX9_comesTo (CtQ T ok l M)) 55 [some (.ref 21), some (.ref 9), some (.int (nI l)), some (.int (nI ban)), some (.int (nI k)), some (.int (nI s)), some (.int (nI (fO T s + j)))] [] M2 := by
  have hL := q_le hT hB
  have hN := mN_le hT hB
  have hp := (q_pos hT hB).1
  have h32 := hT.1
  have hmono := fO_le (T := T) (show s ≤ s + 1 by omega)
  have hmx := fO_le (T := T) (show s + 1 ≤ LTn T from hs)
  have hmN : fO T (LTn T) = mN T := rfl
  intro n
  induction n with
  | zero => intro j M2 h1 h2; exact absurd h2 (by omega)
  | succ n ih =>
    intro j M2 hj hn hq hS
    have hG := gr_sb h hS (by decide)
    have hm : j < fO T (s + 1) - fO T s → fO T s + j < mN T := fun e => (mv_sl hs (show fO T s ≤ fO T s + j by omega) (by omega)).2
    have hI := sgP_inv (ok := ok) (j := j) hT hB hs hj (bp_inv (ok := ok) hT hB hp k)
    have hdb : dB (sgP T ok (bfN (sP T ok) 0 k) s j) := sgP_dB (by omega)
    have h23 : M2.1 23 s = nI (dOf (bfN (sP T ok) 0 k) s) := by
      have e : (sgP T ok (bfN (sP T ok) 0 k) s j).2 s = some (dOf (bfN (sP T ok) 0 k) s) := (fold_old (by rw [hd]; exact fun e => by cases e)).trans hd
      rw [hq.1 s (by omega), e]; rfl
    have KN : j < fO T (s + 1) - fO T s → ban.testBit (mA T (fO T s + j)) = true → Ex g qX9_comesTo (tm g qX9_comesTo (CtQ T ok l M)) 55 [some (.ref 21), some (.ref 9), some (.int (nI l)), some (.int (nI ban)), some (.int (nI k)), some (.int (nI s)), some (.int (nI (fO T s + j + 1)))] [] M2 := fun e1 e2 => ih (j + 1) M2 (by omega) (by omega) (by rw [sgP_n (by rw [hok, e2]; rfl)]; exact hq) hS
    have KY : j < fO T (s + 1) - fO T s → ban.testBit (mA T (fO T s + j)) = false → ∀ M3, Sq (vis (dOf (bfN (sP T ok) 0 k) s + 1) (sgP T ok (bfN (sP T ok) 0 k) s j) (mT T (fO T s + j))) M3 → Sb [21, 22, 23] M2 M3 → Ex g qX9_comesTo (tm g qX9_comesTo (CtQ T ok l M)) 55 [some (.ref 21), some (.ref 9), some (.int (nI l)), some (.int (nI ban)), some (.int (nI k)), some (.int (nI s)), some (.int (nI (fO T s + j + 1)))] [] M3 := fun e1 e2 M3 g1 g2 => ih (j + 1) M3 (by omega) (by omega) (by rw [sgP_y (by rw [hok, e2]; rfl)]; exact g1) (hS.tr g2)
    have KE : j = fO T (s + 1) - fO T s → Ex g qX9_comesTo (tm g qX9_comesTo (CtQ T ok l M)) 8 [some (.ref 21), some (.ref 9), some (.int (nI l)), some (.int (nI ban)), some (.int (nI (k + 1))), some (.int (nI s)), some (.int (nI (fO T s + j)))] [] M2 := fun e => nx M2 _ (by rw [← e]; exact hq) hS
    refine E_iload dX9_comesTo_55 rfl ?_
    refine E_aload_n dX9_comesTo_57 rfl ?_
    refine E_getR' (ci := 2) (j := 5) (p := 15) dX9_comesTo_58 fkX9_42 rfl (by decide) rfl (by decide) (rfl) ?_
    refine E_iload dX9_comesTo_61 rfl ?_
    refine E_iconst (v := nI 1) dX9_comesTo_63 rfl ?_
    refine E_iaddN dX9_comesTo_64 ?_
    refine E_ialdN dX9_comesTo_65 rfl (by omega) (by decide) (gr_fo hG (show s + 1 ≤ LTn T from hs)) ?_
    refine E_icmp_geN (t := 109) dX9_comesTo_66 (by decide) (by omega) (by omega) (fun c66 => ?_) (fun c66 => ?_)
    · skip
      have key := KE (by omega)
      refine E_iincN (b := 1) dX9_comesTo_109 rfl rfl (by decide) rfl ?_
      refine E_goto (t := 8) dX9_comesTo_112 (by decide) ?_
      exact key
    · skip
      have hjl : j < fO T (s + 1) - fO T s := by omega
      refine E_iload_n dX9_comesTo_69 rfl ?_
      refine E_aload_n dX9_comesTo_70 rfl ?_
      refine E_getR' (ci := 2) (j := 8) (p := 18) dX9_comesTo_71 fkX9_45 rfl (by decide) rfl (by decide) (rfl) ?_
      refine E_iload dX9_comesTo_74 rfl ?_
      refine E_ialdN dX9_comesTo_76 rfl (by have := hm hjl; omega) (by decide) (gr_ma hG (hm hjl)) ?_
      refine E_callN (r := qX10_bit) (host := RX10) dX9_comesTo_77 (by decide) toX10_bit rfl ⟨Nat.le_of_ble_eq_true rfl, Nat.le_of_ble_eq_true rfl, Nat.le_of_ble_eq_true rfl, Nat.le_of_ble_eq_true rfl⟩ (c_bit (by have := (mv_ok hT hB (hm hjl)).2.2.2.1; omega)) rfl (Nat.le_of_ble_eq_true rfl) ?_
      rintro _ _ ⟨rfl, rfl⟩
      refine E_if_neB (t := 103) dX9_comesTo_80 (by decide) (fun c80 => ?_) (fun c80 => ?_)
      · skip
        have key := KN hjl c80
        refine E_iincN (b := 1) dX9_comesTo_103 rfl rfl (by decide) rfl ?_
        refine E_goto (t := 55) dX9_comesTo_106 (by decide) ?_
        exact key
      · skip
        refine E_aload_n dX9_comesTo_83 rfl ?_
        refine E_aload_n dX9_comesTo_84 rfl ?_
        refine E_getR' (ci := 2) (j := 7) (p := 17) dX9_comesTo_85 fkX9_52 rfl (by decide) rfl (by decide) (rfl) ?_
        refine E_iload dX9_comesTo_88 rfl ?_
        refine E_ialdN dX9_comesTo_90 rfl (by have := hm hjl; omega) (by decide) (gr_mt hG (hm hjl)) ?_
        refine E_aload_n dX9_comesTo_91 rfl ?_
        refine E_getR' (ci := 9) (j := 1) (p := 23) dX9_comesTo_92 fkX9_15 rfl (by decide) rfl (by decide) (rfl) ?_
        refine E_iload dX9_comesTo_95 rfl ?_
        refine E_ialdN dX9_comesTo_97 rfl (by omega) (by decide) (h23) ?_
        refine E_iconst (v := nI 1) dX9_comesTo_98 rfl ?_
        refine E_iaddN dX9_comesTo_99 ?_
        refine E_callV (r := qX9_enqueue) (ci := 9) dX9_comesTo_100 mkX9_28 voX9_enqueue rfl rfl rfl ⟨Nat.le_of_ble_eq_true rfl, Nat.le_of_ble_eq_true rfl, Nat.le_of_ble_eq_true rfl, Nat.le_of_ble_eq_true rfl⟩ (c_enq hI hL (mv_ok hT hB (hm hjl)).2.2.2.2.2.1 hq hdb) rfl (Nat.le_of_ble_eq_true rfl) ?_
        rintro _ M3 ⟨rfl, g1, g2⟩
        have key := KY hjl c80 M3 g1 g2
        refine E_iincN (b := 1) dX9_comesTo_103 rfl rfl (by decide) rfl ?_
        refine E_goto (t := 55) dX9_comesTo_106 (by decide) ?_
        exact key
theorem c_comesTo (hT : WT T) (hB : T 61 13 < 64) (h : GR T M) {l ban : Nat} (hl : l < 16) (hok : ∀ m, ok m = !(ban.testBit (mA T m))) : Call g qX9_comesTo [.ref 21, .ref 9, .int (nI l), .int (nI ban)] M (CtQ T ok l M) := by
  have hL := q_le hT hB
  have hp := (q_pos hT hB).1
  have LO : ∀ (n k : Nat) (M1 : AM) (y5 y6 : Option Value), k ≤ LTn T → LTn T < k + n → k ≤ (bfN (sP T ok) 0 k).1.length → Sq (bfN (sP T ok) 0 k) M1 → Sb [21, 22, 23] M M1 → (∀ i s, i < k → (bfN (sP T ok) 0 k).1[i]? = some s → Qn T s / 64 ≠ l) → Ex g qX9_comesTo (tm g qX9_comesTo (CtQ T ok l M)) 8 [some (.ref 21), some (.ref 9), some (.int (nI l)), some (.int (nI ban)), some (.int (nI k)), y5, y6] [] M1 := by
    intro n
    induction n with
    | zero => intro k M1 y5 y6 h1 h2; exact absurd h2 (by omega)
    | succ n ih =>
      intro k M1 y5 y6 hk hn hkl hq hS hno
      have hG := gr_sb h hS (by decide)
      have hbl := bp_len (ok := ok) hT hB hp k
      have KF : (bfN (sP T ok) 0 k).1.length ≤ k → CtQ T ok l M (some (.int (bI false))) M1 := fun e => ⟨false, rfl, ⟨fun e => (by cases e), fun ⟨n, i, h1, h2⟩ => by
        have h3 := bp_cl hT hB hp e hk h1
        obtain ⟨j, hj⟩ := List.getElem?_of_mem h3
        have hj2 := (List.getElem?_eq_some_iff.mp hj).1
        exact absurd h2 (hno j i (by omega) hj)⟩, hS⟩
      by_cases hlt : k < (bfN (sP T ok) 0 k).1.length
      · obtain ⟨s, hs1, hs2, hs3⟩ := bp_at hT hB hp hlt
        have hq22 : M1.1 22 k = nI s := by rw [hq.2.1 k hlt, getD_of hs1]
        have hql : Qn T s / 64 < 16 := by have := Qn_lt hT hB hs2; omega
        have KT : Qn T s / 64 = l → CtQ T ok l M (some (.int (bI true))) M1 := fun e => ⟨true, rfl, ⟨fun _ => ⟨_, s, bp_snd hT hB hp hkl hs3, e⟩, fun _ => rfl⟩, hS⟩
        have KI : ¬ Qn T s / 64 = l → Ex g qX9_comesTo (tm g qX9_comesTo (CtQ T ok l M)) 55 [some (.ref 21), some (.ref 9), some (.int (nI l)), some (.int (nI ban)), some (.int (nI k)), some (.int (nI s)), some (.int (nI (fO T s)))] [] M1 := fun e => ct_I hT hB h hok hs2 (by omega) hs3 (fun M2 y g1 g2 => by
            refine ih (k + 1) M2 _ y (by omega) (by omega) ?_ (by rw [bf_1 hs1]; exact g1) g2 (fun i t hi ht => ?_)
            · have := bfN_glen (succ := sP T ok) (f := 0) k 1
              omega
            · have h1 := bp_nx hkl (show i ≤ k by omega) (by omega) ht
              by_cases e2 : i = k
              · subst e2
                rw [hs1] at h1
                rw [← Option.some.inj h1]; exact e
              · exact hno i t (by omega) h1) (fO T (s + 1) - fO T s + 1) 0 M1 (Nat.zero_le _) (by omega) hq hS
        refine E_iload dX9_comesTo_8 rfl ?_
        refine E_sipush (v := nI 1024) dX9_comesTo_10 rfl ?_
        refine E_icmp_geN (t := 115) dX9_comesTo_13 (by decide) (by omega) (by omega) (fun c13 => ?_) (fun c13 => ?_)
        · skip
          exact absurd c13 (by omega)
        · skip
          refine E_iload dX9_comesTo_16 rfl ?_
          refine E_aload_n dX9_comesTo_18 rfl ?_
          refine E_getI' (ci := 9) (j := 2) dX9_comesTo_19 fkX9_24 rfl (by decide) rfl (by decide) (hq.2.2) ?_
          refine E_icmp_geN (t := 115) dX9_comesTo_22 (by decide) (by omega) (by omega) (fun c22 => ?_) (fun c22 => ?_)
          · skip
            exact absurd c22 (by omega)
          · skip
            refine E_aload_n dX9_comesTo_25 rfl ?_
            refine E_getR' (ci := 9) (j := 0) (p := 22) dX9_comesTo_26 fkX9_9 rfl (by decide) rfl (by decide) (rfl) ?_
            refine E_iload dX9_comesTo_29 rfl ?_
            refine E_ialdN dX9_comesTo_31 rfl (by omega) (by decide) (hq22) ?_
            refine E_istore dX9_comesTo_32 (by decide) rfl ?_
            refine E_aload_n dX9_comesTo_34 rfl ?_
            refine E_iload dX9_comesTo_35 rfl ?_
            refine E_callV (r := qX2_lineAt) (ci := 2) dX9_comesTo_37 mkX9_36 voX2_lineAt rfl rfl rfl ⟨Nat.le_of_ble_eq_true rfl, Nat.le_of_ble_eq_true rfl, Nat.le_of_ble_eq_true rfl, Nat.le_of_ble_eq_true rfl⟩ (c_line hT hB hG hs2) rfl (Nat.le_of_ble_eq_true rfl) ?_
            rintro _ _ ⟨rfl, rfl⟩
            refine E_iload_n dX9_comesTo_40 rfl ?_
            refine E_icmp_neN (t := 46) dX9_comesTo_41 (by decide) (by omega) (by omega) (fun c41 => ?_) (fun c41 => ?_)
            · skip
              refine E_aload_n dX9_comesTo_46 rfl ?_
              refine E_getR' (ci := 2) (j := 5) (p := 15) dX9_comesTo_47 fkX9_42 rfl (by decide) rfl (by decide) (rfl) ?_
              refine E_iload dX9_comesTo_50 rfl ?_
              refine E_ialdN dX9_comesTo_52 rfl (by omega) (by decide) (gr_fo hG (show s ≤ LTn T by omega)) ?_
              refine E_istore dX9_comesTo_53 (by decide) rfl ?_
              exact KI c41
            · skip
              refine E_iconst (v := nI 1) dX9_comesTo_44 rfl ?_
              refine E_top (show nI 1 = bI true from rfl) ?_
              refine E_zret dX9_comesTo_45 rfl (bI_01 _) ?_
              exact KT c41
      · have key := KF (by omega)
        refine E_iload dX9_comesTo_8 rfl ?_
        refine E_sipush (v := nI 1024) dX9_comesTo_10 rfl ?_
        refine E_icmp_geN (t := 115) dX9_comesTo_13 (by decide) (by omega) (by omega) (fun c13 => ?_) (fun c13 => ?_)
        · skip
          refine E_iconst (v := nI 0) dX9_comesTo_115 rfl ?_
          refine E_top (show nI 0 = bI false from rfl) ?_
          refine E_zret dX9_comesTo_116 rfl (bI_01 _) ?_
          exact key
        · skip
          refine E_iload dX9_comesTo_16 rfl ?_
          refine E_aload_n dX9_comesTo_18 rfl ?_
          refine E_getI' (ci := 9) (j := 2) dX9_comesTo_19 fkX9_24 rfl (by decide) rfl (by decide) (hq.2.2) ?_
          refine E_icmp_geN (t := 115) dX9_comesTo_22 (by decide) (by omega) (by omega) (fun c22 => ?_) (fun c22 => ?_)
          · skip
            refine E_iconst (v := nI 0) dX9_comesTo_115 rfl ?_
            refine E_top (show nI 0 = bI false from rfl) ?_
            refine E_zret dX9_comesTo_116 rfl (bI_01 _) ?_
            exact key
          · skip
            exact absurd c22 (by omega)
  refine Call_of (ls0 := [some (.ref 21), some (.ref 9), some (.int (nI l)), some (.int (nI ban)), none, none, none]) rfl rfl (Nat.le_of_ble_eq_true rfl) ?_
  refine E_aload_n dX9_comesTo_0 rfl ?_
  refine E_iconst (v := nI 0) dX9_comesTo_1 rfl ?_
  refine E_callV (r := qX9_startAt) (ci := 9) dX9_comesTo_2 mkX9_32 voX9_startAt rfl rfl rfl ⟨Nat.le_of_ble_eq_true rfl, Nat.le_of_ble_eq_true rfl, Nat.le_of_ble_eq_true rfl, Nat.le_of_ble_eq_true rfl⟩ (c_startAt (by decide)) rfl (Nat.le_of_ble_eq_true rfl) ?_
  rintro _ M1 ⟨rfl, h1, h2⟩
  refine E_iconst (v := nI 0) dX9_comesTo_5 rfl ?_
  refine E_istore dX9_comesTo_6 (by decide) rfl ?_
  exact LO (LTn T + 1) 0 M1 none none (Nat.zero_le _) (by omega) (Nat.zero_le _) h1 h2 (fun i s hi => absurd hi (Nat.not_lt_zero i))
end H2
