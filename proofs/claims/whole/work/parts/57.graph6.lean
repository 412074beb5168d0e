-- the class's graph: explored
def S20 : List Nat := [9, 10, 11, 12, 13, 14, 15, 16, 17, 18, 19, 20]
section G6
variable {g : GG} {M : AM} {T : TK} {p : Nat}
theorem g3_fr {n mc : Nat} {M M' : AM} (h : G3 T n mc M) (hf : ∀ c, c ∈ [9, 10, 11, 12, 13, 14, 16, 17, 18] → M'.1 c = M.1 c) : G3 T n mc M' := by
  have e : ∀ c, c ∈ [9, 10, 11, 12, 13, 14, 16, 17, 18] → M'.1 c = M.1 c := hf
  refine ⟨gs_fr h.1 (by rw [e 9 (by decide)]) (e 10 (by decide)) (e 11 (by decide)) (e 12 (by decide)) (e 14 (by decide)), by rw [e 9 (by decide)]; exact h.2.1, fun m hm => ?_, fun i h1 h2 => ?_, h.2.2.2.2⟩
  · rw [e 16 (by decide), e 17 (by decide), e 18 (by decide)]; exact h.2.2.1 m hm
  · rw [e 13 (by decide)]; exact h.2.2.2.1 i h1 h2
def ExQ (T : TK) (M : AM) (v : Option Value) (M' : AM) : Prop := v = none ∧ GR T M' ∧ Sb S20 M M'
theorem ex_81 (hs : Sp p) (hT : WT T) (hB : T 61 13 < 64) {M1 : AM} {z : Option Value} {b : Int32} (hG : G3 T (LTn T) (mN T) M1) (hF : ∀ i, i < LTn T → M1.1 15 i = nI (fO T i)) (hS : Sb S20 M M1) : Ex g qX2_explore (tm g qX2_explore (ExQ T M)) 81 [some (.ref 9), some (.ref p), some (.int b), z] [] M1 := by
  have hL := q_le hT hB
  have hG2 : G3 T (LTn T) (mN T) (sI M1 15 (LTn T) (nI (mN T))) := g3_fr hG (fun c hc => sI_ne (fun e => by subst e; revert hc; decide))
  have K : ∀ M2, GB T M2 → Sb [19, 20] (sI M1 15 (LTn T) (nI (mN T))) M2 → ExQ T M (none : Option Value) M2 := fun M2 h1 h2 => by
    refine ⟨rfl, ⟨g3_fr hG2 (fun c hc => (h2 c (fun h => by revert hc h; revert c; decide)).1), fun i hi => ?_, h1⟩, (hS.tr (Sb.i (by decide))).tr (h2.sub (by decide))⟩
    rw [(h2 15 (by decide)).1]
    by_cases e : i = LTn T
    · rw [e, sI_s]; rfl
    · rw [sI_o (fun h => e h.2)]; exact hF i (by omega)
  refine E_aload_n dX2_explore_81 rfl ?_
  refine E_getR' (ci := 2) (j := 5) (p := 15) dX2_explore_82 fkX2_27 rfl (by decide) rfl (by decide) (rfl) ?_
  refine E_aload_n dX2_explore_85 rfl ?_
  refine E_getI' (ci := 2) (j := 11) dX2_explore_86 fkX2_51 rfl (by decide) rfl (by decide) (hG.1.1) ?_
  refine E_aload_n dX2_explore_89 rfl ?_
  refine E_getI' (ci := 2) (j := 12) dX2_explore_90 fkX2_55 rfl (by decide) rfl (by decide) (hG.2.1) ?_
  refine E_iastN dX2_explore_93 rfl (by omega) (by decide) ?_
  refine E_aload_n dX2_explore_94 rfl ?_
  refine E_callV (r := qX2_turnRound) (ci := 2) dX2_explore_95 mkX2_71 voX2_turnRound rfl rfl rfl ⟨Nat.le_of_ble_eq_true rfl, Nat.le_of_ble_eq_true rfl, Nat.le_of_ble_eq_true rfl, Nat.le_of_ble_eq_true rfl⟩ (c_turn hT hB hG2) rfl (Nat.le_of_ble_eq_true rfl) ?_
  rintro _ M2 ⟨rfl, h1, h2⟩
  refine E_vret dX2_explore_98 rfl ?_
  exact K M2 h1 h2
theorem ex_L (hs : Sp p) (hT : WT T) (hB : T 61 13 < 64) (hSC : SC T p M) (hSL : SL T p M) {b : Int32} : ∀ (n k : Nat) (M1 : AM), k ≤ LTn T → LTn T < k + n → G3 T (bfN (sx0 T) (fst0 T) k).1.length (fO T k) M1 → (∀ i, i < k → M1.1 15 i = nI (fO T i)) → Sb S20 M M1 → Ex g qX2_explore (tm g qX2_explore (ExQ T M)) 44 [some (.ref 9), some (.ref p), some (.int b), some (.int (nI k))] [] M1 := by
  have hL := q_le hT hB
  have hS20 : ∀ c ∈ S20, c < 39 := by decide
  intro n
  induction n with
  | zero => intro k M1 h1 h2; exact absurd h2 (by omega)
  | succ n ih =>
    intro k M1 hk hn hG hF hS
    by_cases hkl : k < LTn T
    · have h1 := (q_end hT hB).2 k hkl
      have h2 := bq_len (T := T) (k := k) (by omega)
      have hG2 : G3 T (bfN (sx0 T) (fst0 T) k).1.length (fO T k) (sI M1 15 k (nI (fO T k))) := g3_fr hG (fun c hc => sI_ne (fun e => by subst e; revert hc; decide))
      have hS2 : Sb S20 M (sI M1 15 k (nI (fO T k))) := hS.tr (Sb.i (by decide))
      have K : ∀ M2, G3 T (bfN (sx0 T) (fst0 T) (k + 1)).1.length (fO T (k + 1)) M2 → Sb S9 (sI M1 15 k (nI (fO T k))) M2 → Ex g qX2_explore (tm g qX2_explore (ExQ T M)) 44 [some (.ref 9), some (.ref p), some (.int b), some (.int (nI (k + 1)))] [] M2 := fun M2 e1 e2 => ih (k + 1) M2 (by omega) (by omega) e1 (fun i hi => by
        rw [(e2 15 (by decide)).1]
        by_cases e : i = k
        · rw [e, sI_s]
        · rw [sI_o (fun h => e h.2)]; exact hF i (by omega)) (hS2.tr (e2.sub (by decide)))
      refine E_iload_n dX2_explore_44 rfl ?_
      refine E_sipush (v := nI 1024) dX2_explore_45 rfl ?_
      refine E_icmp_geN (t := 81) dX2_explore_48 (by decide) (by omega) (by omega) (fun c48 => ?_) (fun c48 => ?_)
      · skip
        exact absurd c48 (by omega)
      · skip
        refine E_iload_n dX2_explore_51 rfl ?_
        refine E_aload_n dX2_explore_52 rfl ?_
        refine E_getI' (ci := 2) (j := 11) dX2_explore_53 fkX2_51 rfl (by decide) rfl (by decide) (hG.1.1) ?_
        refine E_icmp_geN (t := 81) dX2_explore_56 (by decide) (by omega) (by omega) (fun c56 => ?_) (fun c56 => ?_)
        · skip
          exact absurd c56 (by omega)
        · skip
          refine E_aload_n dX2_explore_59 rfl ?_
          refine E_getR' (ci := 2) (j := 5) (p := 15) dX2_explore_60 fkX2_27 rfl (by decide) rfl (by decide) (rfl) ?_
          refine E_iload_n dX2_explore_63 rfl ?_
          refine E_aload_n dX2_explore_64 rfl ?_
          refine E_getI' (ci := 2) (j := 12) dX2_explore_65 fkX2_55 rfl (by decide) rfl (by decide) (hG.2.1) ?_
          refine E_iastN dX2_explore_68 rfl (by omega) (by decide) ?_
          refine E_aload_n dX2_explore_69 rfl ?_
          refine E_iload_n dX2_explore_70 rfl ?_
          refine E_aload_n dX2_explore_71 rfl ?_
          refine E_callV (r := qX2_addMovesFrom) (ci := 2) dX2_explore_72 mkX2_67 voX2_addMovesFrom rfl rfl rfl ⟨Nat.le_of_ble_eq_true rfl, Nat.le_of_ble_eq_true rfl, Nat.le_of_ble_eq_true rfl, Nat.le_of_ble_eq_true rfl⟩ (c_addMoves hs hT hB (sc_lo hSC hS2 hS20) (sl_lo hs hSL hS2 hS20) hkl hG2) rfl (Nat.le_of_ble_eq_true rfl) ?_
          rintro _ M2 ⟨rfl, e1, e2⟩
          refine E_iincN (b := 1) dX2_explore_75 rfl rfl (by decide) rfl ?_
          refine E_goto (t := 44) dX2_explore_78 (by decide) ?_
          exact K M2 e1 e2
    · have hke : k = LTn T := by omega
      subst hke
      have hlen : (bfN (sx0 T) (fst0 T) (LTn T)).1.length = LTn T := by rw [← (q_end hT hB).1]; rfl
      rw [hlen] at hG
      have key := ex_81 (g := g) (z := some (.int (nI (LTn T)))) (b := b) hs hT hB hG hF hS
      refine E_iload_n dX2_explore_44 rfl ?_
      refine E_sipush (v := nI 1024) dX2_explore_45 rfl ?_
      refine E_icmp_geN (t := 81) dX2_explore_48 (by decide) (by omega) (by omega) (fun c48 => ?_) (fun c48 => ?_)
      · skip
        exact key
      · skip
        refine E_iload_n dX2_explore_51 rfl ?_
        refine E_aload_n dX2_explore_52 rfl ?_
        refine E_getI' (ci := 2) (j := 11) dX2_explore_53 fkX2_51 rfl (by decide) rfl (by decide) (hG.1.1) ?_
        refine E_icmp_geN (t := 81) dX2_explore_56 (by decide) (by omega) (by omega) (fun c56 => ?_) (fun c56 => ?_)
        · skip
          exact key
        · skip
          exact absurd c56 (by omega)
theorem c_explore (hT : WT T) (hB : T 61 13 < 64) (hSC : SC T p M) (hSL : SL T p M) : Call g qX2_explore [.ref 9, .ref p, .int (nI (T 61 13))] M (ExQ T M) := by
  have hs := hSC.1
  have hS20 : ∀ c ∈ S20, c < 39 := by decide
  have hq := q_pos hT hB
  have hf := fst0_lt hT hB
  have hd0 : dQ T 0 = 0 := by
    unfold dQ
    rw [hq.2, (DT_isD hT hB (fst0 T) 0).mpr ⟨rfl, fun m hm => absurd hm (Nat.not_lt_zero m)⟩]; rfl
  let M3 := sI (sI (flM (flM M 11 1024 (-1)) 14 16 (-1)) 9 11 (nI 0)) 9 12 (nI 0)
  have hS3 : Sb S20 M M3 := (((flM_sb (by decide)).tr (flM_sb (by decide))).tr (Sb.i (by decide))).tr (Sb.i (by decide))
  have hG0 : GS T 0 M3 := by
    refine ⟨?_, fun i hi => absurd hi (Nat.not_lt_zero i), fun s hs => ?_, fun l hl => ?_⟩
    · show (sI _ 9 12 (nI 0)).1 9 11 = _
      rw [sI_o (by decide), sI_s]
    · show (sI _ 9 12 (nI 0)).1 11 s = -1
      rw [sI_ne (by decide), sI_ne (by decide), flM_ne (by decide), flM_in hs]
    · show (sI _ 9 12 (nI 0)).1 14 l = -1
      rw [sI_ne (by decide), sI_ne (by decide), flM_in hl]
  have hst : M3.1 p 13 = nI (T 61 3) := sc_6 (sc_lo hSC hS3 hS20) (j := 3) (by decide)
  have cA : Call g qX2_admit [.ref 9, .int (nI (T 61 3 * 64 + T 61 13)), .int (nI 0), .int (-1)] M3 (AdQ T 0 (-1) M3) := by
    rw [show T 61 3 * 64 + T 61 13 = fst0 T by unfold fst0; omega]
    exact c_admit hG0 (by decide) hf hq.2 hd0 (fun i hi => absurd hi (Nat.not_lt_zero i))
  have K : ∀ M4, AdQ T 0 (-1) M3 (some (.int (bI true))) M4 → Ex g qX2_explore (tm g qX2_explore (ExQ T M)) 44 [some (.ref 9), some (.ref p), some (.int (nI (T 61 13))), some (.int (nI 0))] [] M4 := fun M4 hA => by
    obtain ⟨-, a1, a2, a3, a4, a5⟩ := hA
    refine ex_L hs hT hB hSC hSL (LTn T + 1) 0 M4 (Nat.zero_le _) (by omega) ⟨a1, ?_, fun m hm => absurd hm (Nat.not_lt_zero m), fun i h1 h2 => absurd (show i < 1 from h2) (by omega), fun m hm => absurd hm (Nat.not_lt_zero m)⟩ (fun i hi => absurd hi (Nat.not_lt_zero i)) (hS3.tr (a5.sub (by decide)))
    rw [a4]; exact sI_s
  refine Call_of (ls0 := [some (.ref 9), some (.ref p), some (.int (nI (T 61 13))), none]) rfl rfl (Nat.le_of_ble_eq_true rfl) ?_
  refine E_aload_n dX2_explore_0 rfl ?_
  refine E_getR' (ci := 2) (j := 1) (p := 11) dX2_explore_1 fkX2_15 rfl (by decide) rfl (by decide) (rfl) ?_
  refine E_iconst (v := -1) dX2_explore_4 rfl ?_
  refine E_callS (r := qJ7_fill_53178) dX2_explore_5 mkX2_45 toJ7_fill_53178 rfl ⟨Nat.le_of_ble_eq_true rfl, Nat.le_of_ble_eq_true rfl, Nat.le_of_ble_eq_true rfl, Nat.le_of_ble_eq_true rfl⟩ (c_fill rfl (by decide)) rfl (Nat.le_of_ble_eq_true rfl) ?_
  rintro _ _ ⟨rfl, rfl⟩
  refine E_aload_n dX2_explore_8 rfl ?_
  refine E_getR' (ci := 2) (j := 4) (p := 14) dX2_explore_9 fkX2_24 rfl (by decide) rfl (by decide) (rfl) ?_
  refine E_iconst (v := -1) dX2_explore_12 rfl ?_
  refine E_callS (r := qJ7_fill_53178) dX2_explore_13 mkX2_45 toJ7_fill_53178 rfl ⟨Nat.le_of_ble_eq_true rfl, Nat.le_of_ble_eq_true rfl, Nat.le_of_ble_eq_true rfl, Nat.le_of_ble_eq_true rfl⟩ (c_fill rfl (by decide)) rfl (Nat.le_of_ble_eq_true rfl) ?_
  rintro _ _ ⟨rfl, rfl⟩
  refine E_aload_n dX2_explore_16 rfl ?_
  refine E_iconst (v := nI 0) dX2_explore_17 rfl ?_
  refine E_putI (ci := 2) (j := 11) dX2_explore_18 fkX2_51 rfl (by decide) rfl (by decide) ?_
  refine E_aload_n dX2_explore_21 rfl ?_
  refine E_iconst (v := nI 0) dX2_explore_22 rfl ?_
  refine E_putI (ci := 2) (j := 12) dX2_explore_23 fkX2_55 rfl (by decide) rfl (by decide) ?_
  refine E_aload_n dX2_explore_26 rfl ?_
  refine E_aload_n dX2_explore_27 rfl ?_
  refine E_getI' (ci := 8) (j := 13) dX2_explore_28 fkX2_58 rfl (by decide) (kS hs) (by decide) (hst) ?_
  refine E_bipush (v := nI 64) dX2_explore_31 rfl ?_
  refine E_imulN dX2_explore_33 ?_
  refine E_iload_n dX2_explore_34 rfl ?_
  refine E_iaddN dX2_explore_35 ?_
  refine E_iconst (v := nI 0) dX2_explore_36 rfl ?_
  refine E_iconst (v := -1) dX2_explore_37 rfl ?_
  refine E_callV (r := qX2_admit) (ci := 2) dX2_explore_38 mkX2_63 voX2_admit rfl rfl rfl ⟨Nat.le_of_ble_eq_true rfl, Nat.le_of_ble_eq_true rfl, Nat.le_of_ble_eq_true rfl, Nat.le_of_ble_eq_true rfl⟩ (cA) rfl (Nat.le_of_ble_eq_true rfl) ?_
  rintro _ M4 ⟨rfl, hA⟩
  refine E_pop dX2_explore_41 rfl ?_
  refine E_iconst (v := nI 0) dX2_explore_42 rfl ?_
  refine E_ist_n (i := 3) dX2_explore_43 rfl (by decide) rfl ?_
  exact K M4 ⟨rfl, hA⟩
end G6
