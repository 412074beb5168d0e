-- the class's public methods: line, least, row, use, rows, whole
section PU2
variable {g : GG} {M : AM} {T : TK} {p q : Nat}
theorem ms_B (hM : MS T M) : T 61 13 < 64 := hM.2.1.2
theorem c_line2 (hM : MS T M) (hC : CX T p q M) {x w : Int32} : Call g qX10_line [.ref 0, .int x, .int w] M (RtC (mrLine T x w) T p q M) := by
  have hT := rm_wt hM.1
  have hB := ms_B hM
  have kun : isLn T x = false → -1000001 = mrLine T x w := fun e => by unfold mrLine; rw [if_pos (show (inI x 0 15 && (T 61 1).testBit x.toInt.toNat) = false from e)]
  have K11 : isLn T x = true → Ex g qX10_line (tm g qX10_line (RtC (mrLine T x w) T p q M)) 11 [some (.ref 0), some (.int x), some (.int w)] [] M := fun hx => by
    have ht := isLn_t hx
    obtain ⟨l, hl, rfl, hlb⟩ := isLn_n hx
    have hl31 : l < 2 ^ 31 := by omega
    have hxn : ¬ (inI (nI l) 0 15 && (T 61 1).testBit (nI l).toInt.toNat) = false := by
      show ¬ isLn T (nI l) = false
      rw [hx]; decide
    have kout : (w.toInt < 0 ∨ 5 < w.toInt) → -1000002 = mrLine T (nI l) w := fun e => by unfold mrLine; rw [if_neg hxn, if_pos (inI_f.mpr e)]
    have vj : ∀ j, j ≤ 5 → inI (nI j) 0 5 = true := fun j hj => by rw [inI_of (by omega), decide_eq_true (by omega)]
    have v0 : nI (cntN (fun i => Qn T i / 64 == l) (LTn T)) = mrLine T (nI l) (nI 0) := by
      unfold mrLine
      rw [if_neg hxn, if_neg (by rw [vj 0 (by decide)]; decide), nI_tn (show 0 < 2 ^ 31 by decide), nI_tn hl31]
      show _ = nI (cntN (fun k => (DT T (64 * l + k)).isSome) 64)
      rw [cnt_line1 hT hB hl]
    have v1 : nI (maN T l) = mrLine T (nI l) (nI 1) := by
      unfold mrLine
      rw [if_neg hxn, if_neg (by rw [vj 1 (by decide)]; decide), nI_tn (show 1 < 2 ^ 31 by decide), nI_tn hl31]
      show _ = nI (mkR true (DT T) l)
      rw [mk_all hT hB]
    have v2 : nI (orF (fun i => Qn T i / 64 == l) (fun i => Qn T i % 64) (LTn T)) = mrLine T (nI l) (nI 2) := by
      unfold mrLine
      rw [if_neg hxn, if_neg (by rw [vj 2 (by decide)]; decide), nI_tn (show 2 < 2 ^ 31 by decide), nI_tn hl31]
      show _ = nI (mkR false (DT T) l)
      rw [mk_some hT hB]
    have v3 : nI (cntN (fun i => (Qn T i / 64 == l) && stP T i) (LTn T)) = mrLine T (nI l) (nI 3) := by
      unfold mrLine
      rw [if_neg hxn, if_neg (by rw [vj 3 (by decide)]; decide), nI_tn (show 3 < 2 ^ 31 by decide), nI_tn hl31]
      show _ = nI (cntN (fun k => stuF T (DT T) (64 * l + k)) 64)
      rw [cnt_stu hT hB hl]
    have v4 : nI (cntN (fun i => (Qn T i / 64 == l) && !canB T (Qn T i)) (LTn T)) = mrLine T (nI l) (nI 4) := by
      unfold mrLine
      rw [if_neg hxn, if_neg (by rw [vj 4 (by decide)]; decide), nI_tn (show 4 < 2 ^ 31 by decide), nI_tn hl31]
      show _ = nI (cntN (fun k => (DT T (64 * l + k)).isSome && !canB T (64 * l + k)) 64)
      rw [cnt_lost hT hB hl]
    have v5 : bI ((T 61 2).testBit l) = mrLine T (nI l) (nI 5) := by
      unfold mrLine
      rw [if_neg hxn, if_neg (by rw [vj 5 (by decide)]; decide), nI_tn (show 5 < 2 ^ 31 by decide), nI_tn hl31]
      show _ = bI ((T 61 2).testBit l)
      rfl
    have K16 : ∀ M1, CF T p q M1 → F60 M M1 → Ex g qX10_line (tm g qX10_line (RtC (mrLine T (nI l) w) T p q M)) 16 [some (.ref 0), some (.int (nI l)), some (.int w)] [.int w] M1 := fun M1 hF h60 => by
      have hG := hF.2.2
      have hCB := hF.1.1
      have hs := spq_p (cb_pq hCB)
      have hscr := cb_scr hCB
      have hSC := (cb_tld hCB ht).1
      have hsw : w = nI 0 ∨ w = nI 1 ∨ w = nI 2 ∨ w = nI 3 ∨ w = nI 4 ∨ w = nI 5 ∨ (w.toInt < 0 ∨ 5 < w.toInt) := by
        rcases sw_ex w 5 (by decide) with ⟨j, hj, rfl⟩ | h7
        · rcases (show j = 0 ∨ j = 1 ∨ j = 2 ∨ j = 3 ∨ j = 4 ∨ j = 5 by omega) with rfl | rfl | rfl | rfl | rfl | rfl <;> simp
        · exact Or.inr (Or.inr (Or.inr (Or.inr (Or.inr (Or.inr (h7))))))
      rcases hsw with rfl | rfl | rfl | rfl | rfl | rfl | hsw5
      · skip
        refine E_swIn (t := 56) (off := 40) dX10_line_16 (by decide) (by decide) (by decide) (by decide) ?_
        refine E_aload_n dX10_line_56 rfl ?_
        refine E_getR' (ci := 10) (j := 3) (p := 9) dX10_line_57 fkX10_33 rfl (by decide) rfl (by decide) (rfl) ?_
        refine E_iload_n dX10_line_60 rfl ?_
        refine E_callV (r := qX2_statesOf) (ci := 2) dX10_line_61 mkX10_215 voX2_statesOf rfl rfl rfl ⟨Nat.le_of_ble_eq_true rfl, Nat.le_of_ble_eq_true rfl, Nat.le_of_ble_eq_true rfl, Nat.le_of_ble_eq_true rfl⟩ (c_statesOf hT hB hG hl) rfl (Nat.le_of_ble_eq_true rfl) ?_
        rintro _ _ ⟨rfl, rfl⟩
        refine E_iret dX10_line_64 rfl ?_
        exact rtc v0 hF.1 h60
      · skip
        refine E_swIn (t := 65) (off := 49) dX10_line_16 (by decide) (by decide) (by decide) (by decide) ?_
        refine E_aload_n dX10_line_65 rfl ?_
        refine E_getR' (ci := 10) (j := 3) (p := 9) dX10_line_66 fkX10_33 rfl (by decide) rfl (by decide) (rfl) ?_
        refine E_iload_n dX10_line_69 rfl ?_
        refine E_callV (r := qX2_marksInAll) (ci := 2) dX10_line_70 mkX10_218 voX2_marksInAll rfl rfl rfl ⟨Nat.le_of_ble_eq_true rfl, Nat.le_of_ble_eq_true rfl, Nat.le_of_ble_eq_true rfl, Nat.le_of_ble_eq_true rfl⟩ (c_marksInAll hT hB hG hl) rfl (Nat.le_of_ble_eq_true rfl) ?_
        rintro _ _ ⟨rfl, rfl⟩
        refine E_iret dX10_line_73 rfl ?_
        exact rtc v1 hF.1 h60
      · skip
        refine E_swIn (t := 74) (off := 58) dX10_line_16 (by decide) (by decide) (by decide) (by decide) ?_
        refine E_aload_n dX10_line_74 rfl ?_
        refine E_getR' (ci := 10) (j := 3) (p := 9) dX10_line_75 fkX10_33 rfl (by decide) rfl (by decide) (rfl) ?_
        refine E_iload_n dX10_line_78 rfl ?_
        refine E_callV (r := qX2_marksInSome) (ci := 2) dX10_line_79 mkX10_221 voX2_marksInSome rfl rfl rfl ⟨Nat.le_of_ble_eq_true rfl, Nat.le_of_ble_eq_true rfl, Nat.le_of_ble_eq_true rfl, Nat.le_of_ble_eq_true rfl⟩ (c_marksInSome hT hB hG hl) rfl (Nat.le_of_ble_eq_true rfl) ?_
        rintro _ _ ⟨rfl, rfl⟩
        refine E_iret dX10_line_82 rfl ?_
        exact rtc v2 hF.1 h60
      · skip
        refine E_swIn (t := 83) (off := 67) dX10_line_16 (by decide) (by decide) (by decide) (by decide) ?_
        refine E_aload_n dX10_line_83 rfl ?_
        refine E_iload_n dX10_line_84 rfl ?_
        refine E_callV (r := qX10_stuckStates) (ci := 10) dX10_line_85 mkX10_224 voX10_stuckStates rfl rfl rfl ⟨Nat.le_of_ble_eq_true rfl, Nat.le_of_ble_eq_true rfl, Nat.le_of_ble_eq_true rfl, Nat.le_of_ble_eq_true rfl⟩ (c_stuckStates hF ht hT hB hl) rfl (Nat.le_of_ble_eq_true rfl) ?_
        rintro _ _ ⟨rfl, rfl⟩
        refine E_iret dX10_line_88 rfl ?_
        exact rtc v3 hF.1 h60
      · skip
        refine E_swIn (t := 89) (off := 73) dX10_line_16 (by decide) (by decide) (by decide) (by decide) ?_
        refine E_aload_n dX10_line_89 rfl ?_
        refine E_iload_n dX10_line_90 rfl ?_
        refine E_callV (r := qX10_lostStates) (ci := 10) dX10_line_91 mkX10_227 voX10_lostStates rfl rfl rfl ⟨Nat.le_of_ble_eq_true rfl, Nat.le_of_ble_eq_true rfl, Nat.le_of_ble_eq_true rfl, Nat.le_of_ble_eq_true rfl⟩ (c_lostStates hF ht hT hB hl) rfl (Nat.le_of_ble_eq_true rfl) ?_
        rintro _ M2 ⟨rfl, g1, g2⟩
        refine E_iret dX10_line_94 rfl ?_
        exact rtc v4 g1 (h60.tr g2)
      · skip
        refine E_swIn (t := 95) (off := 79) dX10_line_16 (by decide) (by decide) (by decide) (by decide) ?_
        refine E_aload_n dX10_line_95 rfl ?_
        refine E_getM' (ci := 10) (j := 9) (p := p) dX10_line_96 fkX10_75 rfl (by decide) rfl (by decide) (hscr) ?_
        refine E_getI' (ci := 8) (j := 12) dX10_line_99 fkX10_203 rfl (by decide) (kS hs) (by decide) (sc_6 hSC (j := 2) (by decide)) ?_
        refine E_iload_n dX10_line_102 rfl ?_
        refine E_callS (r := qX10_bit) dX10_line_103 mkX10_135 toX10_bit rfl ⟨Nat.le_of_ble_eq_true rfl, Nat.le_of_ble_eq_true rfl, Nat.le_of_ble_eq_true rfl, Nat.le_of_ble_eq_true rfl⟩ (c_bit (by omega)) rfl (Nat.le_of_ble_eq_true rfl) ?_
        rintro _ _ ⟨rfl, rfl⟩
        refine E_iret dX10_line_106 rfl ?_
        exact rtc v5 hF.1 h60
      · skip
        refine E_swOut (t := 107) dX10_line_16 (hsw5) (by decide) ?_
        refine E_ldc dX10_line_107 ckX10_82 ?_
        refine E_iret dX10_line_109 rfl ?_
        exact rtc (kout hsw5) hF.1 h60
    refine E_aload_n dX10_line_11 rfl ?_
    refine E_callV (r := qX10_refreshGraph) (ci := 10) dX10_line_12 mkX10_212 voX10_refreshGraph rfl rfl rfl ⟨Nat.le_of_ble_eq_true rfl, Nat.le_of_ble_eq_true rfl, Nat.le_of_ble_eq_true rfl, Nat.le_of_ble_eq_true rfl⟩ (c_refreshGraph hC ht hT hB) rfl (Nat.le_of_ble_eq_true rfl) ?_
    rintro _ M1 ⟨rfl, g1, g2⟩
    refine E_iload_n dX10_line_15 rfl ?_
    exact K16 M1 g1 g2
  refine Call_of (ls0 := [some (.ref 0), some (.int x), some (.int w)]) rfl rfl (Nat.le_of_ble_eq_true rfl) ?_
  refine E_aload_n dX10_line_0 rfl ?_
  refine E_iload_n dX10_line_1 rfl ?_
  refine E_callV (r := qX10_isLine) (ci := 10) dX10_line_2 mkX10_209 voX10_isLine rfl rfl rfl ⟨Nat.le_of_ble_eq_true rfl, Nat.le_of_ble_eq_true rfl, Nat.le_of_ble_eq_true rfl, Nat.le_of_ble_eq_true rfl⟩ (c_isLine hC.1) rfl (Nat.le_of_ble_eq_true rfl) ?_
  rintro _ _ ⟨rfl, rfl⟩
  refine E_if_neB (t := 11) dX10_line_5 (by decide) (fun c5 => ?_) (fun c5 => ?_)
  · skip
    exact K11 c5
  · skip
    refine E_ldc dX10_line_8 ckX10_114 ?_
    refine E_iret dX10_line_10 rfl ?_
    exact rtc (kun c5) hC F60.rf
theorem nr_b (hT : WT T) (hB : T 61 13 < 64) {l : Nat} : ∀ e, nrT T l = some e → e < 2 ^ 31 := fun e he => by have := fdN_le he; have := q_le hT hB; omega
theorem c_least (hM : MS T M) (hC : CX T p q M) {x w : Int32} : Call g qX10_least [.ref 0, .int x, .int w] M (RtC (mrLeast T x w) T p q M) := by
  have hT := rm_wt hM.1
  have hB := ms_B hM
  have hLq := q_le hT hB
  have kun : isLn T x = false → -1000001 = mrLeast T x w := fun e => by unfold mrLeast; rw [if_pos e]
  have K11 : isLn T x = true → Ex g qX10_least (tm g qX10_least (RtC (mrLeast T x w) T p q M)) 11 [some (.ref 0), some (.int x), some (.int w), none] [] M := fun hx => by
    have ht := isLn_t hx
    obtain ⟨l, hl, rfl, hlb⟩ := isLn_n hx
    have hl31 : l < 2 ^ 31 := by omega
    have hxn : ¬ isLn T (nI l) = false := by rw [hx]; decide
    have kout : ¬ w = 0 → ¬ w = nI 1 → -1000002 = mrLeast T (nI l) w := fun e1 e2 => by
      unfold mrLeast
      rw [if_neg hxn, if_pos]
      rw [inI_f]
      have h1 : ¬ w.toInt = 0 := fun e => e1 (Int32.toInt_inj.mp e)
      have h2 : ¬ w.toInt = 1 := fun e => e2 (Int32.toInt_inj.mp (e.trans (nI_toInt (by decide)).symm))
      omega
    have h01 : inI (nI 0) 0 1 = true ∧ inI (nI 1) 0 1 = true := by decide
    have v0 : mrLeast T (nI l) (nI 0) = oI ((nrT T l).map (dQ T)) := by unfold mrLeast; rw [if_neg hxn, if_neg (by rw [h01.1]; decide), if_neg (nq 0 1 (by decide)), nI_tn hl31, near_few hT hB]
    have v1 : mrLeast T (nI l) (nI 1) = oI (omN (fun i => CT T (64 * l + i)) 64) := by unfold mrLeast; rw [if_neg hxn, if_neg (by rw [h01.2]; decide), if_pos rfl, nI_tn hl31]
    have K23 : ∀ c, c ≤ 1 → Ex g qX10_least (tm g qX10_least (RtC (mrLeast T (nI l) (nI c)) T p q M)) 23 [some (.ref 0), some (.int (nI l)), some (.int (nI c)), none] [] M := fun c hc => by
      have vn : nrT T l = none → -1 = mrLeast T (nI l) (nI c) := fun e => by
        rcases (show c = 0 ∨ c = 1 by omega) with rfl | rfl
        · rw [v0, e]; rfl
        · rw [v1, cheap_none hT hB hl e]; rfl
      have K27 : ∀ M1, CF T p q M1 → F60 M M1 → Ex g qX10_least (tm g qX10_least (RtC (mrLeast T (nI l) (nI c)) T p q M)) 27 [some (.ref 0), some (.int (nI l)), some (.int (nI c)), none] [] M1 := fun M1 hF h60 => by
        have hG := hF.2.2
        have K44 : ∀ e, nrT T l = some e → Ex g qX10_least (tm g qX10_least (RtC (mrLeast T (nI l) (nI c)) T p q M)) 44 [some (.ref 0), some (.int (nI l)), some (.int (nI c)), some (.int (nI e))] [] M1 := fun e he => by
          have hen := fdN_le he
          have w0 : c = 0 → nI (dQ T e) = mrLeast T (nI l) (nI c) := fun q => by rw [q, v0, he]; rfl
          have w1 : 0 < c → nI (miF (fun i => Qn T i / 64 == l) (cQ T) (LTn T)) = mrLeast T (nI l) (nI c) := fun q => by
            rw [show c = 1 by omega, v1, cheap_eq hT hB hl (by rw [show fdN (fun i => Qn T i / 64 == l) (LTn T) = some e from he]; exact fun z => by cases z)]; rfl
          refine E_iload_n dX10_least_44 rfl ?_
          refine E_if_neN (t := 58) dX10_least_45 (by decide) (by omega) (fun c45 => ?_) (fun c45 => ?_)
          · skip
            refine E_aload_n dX10_least_58 rfl ?_
            refine E_callV (r := qX10_refreshPrices) (ci := 10) dX10_least_59 mkX10_236 voX10_refreshPrices rfl rfl rfl ⟨Nat.le_of_ble_eq_true rfl, Nat.le_of_ble_eq_true rfl, Nat.le_of_ble_eq_true rfl, Nat.le_of_ble_eq_true rfl⟩ (c_refreshPrices hF ht hT hB) rfl (Nat.le_of_ble_eq_true rfl) ?_
            rintro _ M2 ⟨rfl, g1, g2, g3⟩
            refine E_aload_n dX10_least_62 rfl ?_
            refine E_getR' (ci := 10) (j := 7) (p := 34) dX10_least_63 fkX10_61 rfl (by decide) rfl (by decide) (rfl) ?_
            refine E_aload_n dX10_least_66 rfl ?_
            refine E_getR' (ci := 10) (j := 3) (p := 9) dX10_least_67 fkX10_33 rfl (by decide) rfl (by decide) (rfl) ?_
            refine E_iload_n dX10_least_70 rfl ?_
            refine E_callV (r := qX5_cheapestOf) (ci := 5) dX10_least_71 mkX10_239 voX5_cheapestOf rfl rfl rfl ⟨Nat.le_of_ble_eq_true rfl, Nat.le_of_ble_eq_true rfl, Nat.le_of_ble_eq_true rfl, Nat.le_of_ble_eq_true rfl⟩ (c_cheapestOf hT hB g1.2.2 g2 hl) rfl (Nat.le_of_ble_eq_true rfl) ?_
            rintro _ _ ⟨rfl, rfl⟩
            refine E_iret dX10_least_74 rfl ?_
            exact rtc (w1 c45) g1.1 (h60.tr g3)
          · skip
            refine E_aload_n dX10_least_48 rfl ?_
            refine E_getR' (ci := 10) (j := 3) (p := 9) dX10_least_49 fkX10_33 rfl (by decide) rfl (by decide) (rfl) ?_
            refine E_getR' (ci := 2) (j := 2) (p := 12) dX10_least_52 fkX10_233 rfl (by decide) rfl (by decide) (rfl) ?_
            refine E_iload_n dX10_least_55 rfl ?_
            refine E_ialdN dX10_least_56 rfl (by omega) (by decide) (gr_d hG hen) ?_
            refine E_iret dX10_least_57 rfl ?_
            exact rtc (w0 c45) hF.1 h60
        cases hn : nrT T l with
        | none =>
          have hnl : M1.1 14 l = oI none := by rw [gr_nr hG hl]; exact congrArg oI hn
          refine E_aload_n dX10_least_27 rfl ?_
          refine E_getR' (ci := 10) (j := 3) (p := 9) dX10_least_28 fkX10_33 rfl (by decide) rfl (by decide) (rfl) ?_
          refine E_getR' (ci := 2) (j := 4) (p := 14) dX10_least_31 fkX10_230 rfl (by decide) rfl (by decide) (rfl) ?_
          refine E_iload_n dX10_least_34 rfl ?_
          refine E_ialdN dX10_least_35 rfl (by omega) (by decide) (hnl) ?_
          refine E_ist_n (i := 3) dX10_least_36 rfl (by decide) rfl ?_
          refine E_iload_n dX10_least_37 rfl ?_
          refine E_iconst (v := -1) dX10_least_38 rfl ?_
          refine E_icmp_neO (t := 44) dX10_least_39 (by decide) (fun d z => by cases z) (fun c39 => ?_) (fun c39 => ?_)
          · skip
            exact absurd rfl c39
          · skip
            refine E_iconst (v := -1) dX10_least_42 rfl ?_
            refine E_iret dX10_least_43 rfl ?_
            exact rtc (vn hn) hF.1 h60
        | some e =>
          have hnl : M1.1 14 l = oI (some e) := by rw [gr_nr hG hl]; exact congrArg oI hn
          refine E_aload_n dX10_least_27 rfl ?_
          refine E_getR' (ci := 10) (j := 3) (p := 9) dX10_least_28 fkX10_33 rfl (by decide) rfl (by decide) (rfl) ?_
          refine E_getR' (ci := 2) (j := 4) (p := 14) dX10_least_31 fkX10_230 rfl (by decide) rfl (by decide) (rfl) ?_
          refine E_iload_n dX10_least_34 rfl ?_
          refine E_ialdN dX10_least_35 rfl (by omega) (by decide) (hnl) ?_
          refine E_ist_n (i := 3) dX10_least_36 rfl (by decide) rfl ?_
          refine E_iload_n dX10_least_37 rfl ?_
          refine E_iconst (v := -1) dX10_least_38 rfl ?_
          refine E_icmp_neO (t := 44) dX10_least_39 (by decide) (fun d z => by cases z; have := nr_b hT hB e hn; omega) (fun c39 => ?_) (fun c39 => ?_)
          · skip
            exact K44 e hn
          · skip
            cases c39
      refine E_aload_n dX10_least_23 rfl ?_
      refine E_callV (r := qX10_refreshGraph) (ci := 10) dX10_least_24 mkX10_212 voX10_refreshGraph rfl rfl rfl ⟨Nat.le_of_ble_eq_true rfl, Nat.le_of_ble_eq_true rfl, Nat.le_of_ble_eq_true rfl, Nat.le_of_ble_eq_true rfl⟩ (c_refreshGraph hC ht hT hB) rfl (Nat.le_of_ble_eq_true rfl) ?_
      rintro _ M1 ⟨rfl, g1, g2⟩
      exact K27 M1 g1 g2
    refine E_iload_n dX10_least_11 rfl ?_
    refine E_if_eq (t := 23) dX10_least_12 (by decide) (fun c12 => ?_) (fun c12 => ?_)
    · skip
      subst c12
      have key := K23 0 (by decide)
      exact key
    · skip
      refine E_iload_n dX10_least_15 rfl ?_
      refine E_iconst (v := nI 1) dX10_least_16 rfl ?_
      refine E_icmp_eq (t := 23) dX10_least_17 (by decide) (fun c17 => ?_) (fun c17 => ?_)
      · skip
        subst c17
        have key := K23 1 (by decide)
        exact key
      · skip
        refine E_ldc dX10_least_20 ckX10_82 ?_
        refine E_iret dX10_least_22 rfl ?_
        exact rtc (kout c12 c17) hC F60.rf
  refine Call_of (ls0 := [some (.ref 0), some (.int x), some (.int w), none]) rfl rfl (Nat.le_of_ble_eq_true rfl) ?_
  refine E_aload_n dX10_least_0 rfl ?_
  refine E_iload_n dX10_least_1 rfl ?_
  refine E_callV (r := qX10_isLine) (ci := 10) dX10_least_2 mkX10_209 voX10_isLine rfl rfl rfl ⟨Nat.le_of_ble_eq_true rfl, Nat.le_of_ble_eq_true rfl, Nat.le_of_ble_eq_true rfl, Nat.le_of_ble_eq_true rfl⟩ (c_isLine hC.1) rfl (Nat.le_of_ble_eq_true rfl) ?_
  rintro _ _ ⟨rfl, rfl⟩
  refine E_if_neB (t := 11) dX10_least_5 (by decide) (fun c5 => ?_) (fun c5 => ?_)
  · skip
    exact K11 c5
  · skip
    refine E_ldc dX10_least_8 ckX10_114 ?_
    refine E_iret dX10_least_10 rfl ?_
    exact rtc (kun c5) hC F60.rf
theorem i_ge0 {x : Int32} (h : 0 ≤ x) : ∃ j, x = nI j ∧ j < 2 ^ 31 ∧ x.toInt.toNat = j := by
  obtain ⟨j, -, -, rfl, j3⟩ := inI_nat (x := x) (lo := 0) (hi := 2 ^ 31) (inI_t.mpr ⟨by have := Int32.le_iff_toInt_le.mp h; exact this, by have := x.toInt_lt; omega⟩) (by decide)
  exact ⟨j, rfl, j3, nI_tn j3⟩
theorem row_v (hT : WT T) (hB : T 61 13 < 64) (hV : VF T) {l j : Nat} (hl : l < 16) (hx : isLn T (nI l) = true) (hj : j < 2 ^ 31) : mrRow T (nI l) (nI j) = oI (roA T (nrT T l) j) := by
  unfold mrRow
  have hn : fewN (DT T) (64 * l) 64 = (nrT T l).map (dQ T) := near_few hT hB
  rw [if_neg (by rw [hx]; decide), if_neg (nI_pos hj), nI_tn (show l < 2 ^ 31 by omega), nI_tn hj, hn]
  cases he : nrT T l with
  | none => rfl
  | some e =>
    show (if j < dQ T e then nI (rwA T (DT T) l (dQ T e) j) else -1) = oI (if j < dQ T e then some (mA T (viT T (ancT T e (dQ T e - 1 - j)))) else none)
    by_cases q : j < dQ T e
    · rw [if_pos q, if_pos q, (row_eq hT hB hV he j (by omega)).2 q]; rfl
    · rw [if_neg q, if_neg q]; rfl
theorem c_row (hM : MS T M) (hC : CX T p q M) {x i : Int32} : Call g qX10_row [.ref 0, .int x, .int i] M (RtC (mrRow T x i) T p q M) := by
  have hT := rm_wt hM.1
  have hB := ms_B hM
  have hLq := q_le hT hB
  have kun : isLn T x = false → -1000001 = mrRow T x i := fun e => by unfold mrRow; rw [if_pos e]
  have kout : isLn T x = true → ¬ 0 ≤ i → -1000002 = mrRow T x i := fun e1 e2 => by unfold mrRow; rw [if_neg (by rw [e1]; decide), if_pos (Int32.not_le.mp e2)]
  have K18 : isLn T x = true → 0 ≤ i → Ex g qX10_row (tm g qX10_row (RtC (mrRow T x i) T p q M)) 18 [some (.ref 0), some (.int x), some (.int i)] [] M := fun hx hi => by
    have ht := isLn_t hx
    obtain ⟨l, hl, rfl, hlb⟩ := isLn_n hx
    obtain ⟨j, rfl, hj, -⟩ := i_ge0 hi
    refine E_aload_n dX10_row_18 rfl ?_
    refine E_callV (r := qX10_refreshGraph) (ci := 10) dX10_row_19 mkX10_212 voX10_refreshGraph rfl rfl rfl ⟨Nat.le_of_ble_eq_true rfl, Nat.le_of_ble_eq_true rfl, Nat.le_of_ble_eq_true rfl, Nat.le_of_ble_eq_true rfl⟩ (c_refreshGraph hC ht hT hB) rfl (Nat.le_of_ble_eq_true rfl) ?_
    rintro _ M1 ⟨rfl, g1, g2⟩
    refine E_aload_n dX10_row_22 rfl ?_
    refine E_getR' (ci := 10) (j := 3) (p := 9) dX10_row_23 fkX10_33 rfl (by decide) rfl (by decide) (rfl) ?_
    refine E_aload_n dX10_row_26 rfl ?_
    refine E_getR' (ci := 10) (j := 3) (p := 9) dX10_row_27 fkX10_33 rfl (by decide) rfl (by decide) (rfl) ?_
    refine E_getR' (ci := 2) (j := 4) (p := 14) dX10_row_30 fkX10_230 rfl (by decide) rfl (by decide) (rfl) ?_
    refine E_iload_n dX10_row_33 rfl ?_
    refine E_ialdN dX10_row_34 rfl (by omega) (by decide) (gr_nr g1.2.2 hl) ?_
    refine E_iload_n dX10_row_35 rfl ?_
    refine E_callV (r := qX2_answerOfRow) (ci := 2) dX10_row_36 mkX10_243 voX2_answerOfRow rfl rfl rfl ⟨Nat.le_of_ble_eq_true rfl, Nat.le_of_ble_eq_true rfl, Nat.le_of_ble_eq_true rfl, Nat.le_of_ble_eq_true rfl⟩ (c_answerOfRow hT hB g1.2.2 hj (fun e he => fdN_le he)) rfl (Nat.le_of_ble_eq_true rfl) ?_
    rintro _ _ ⟨rfl, rfl⟩
    refine E_iret dX10_row_39 rfl ?_
    exact rtc (row_v hT hB (gr_VF hT hB g1.2.2) hl hx hj).symm g1.1 g2
  refine Call_of (ls0 := [some (.ref 0), some (.int x), some (.int i)]) rfl rfl (Nat.le_of_ble_eq_true rfl) ?_
  refine E_aload_n dX10_row_0 rfl ?_
  refine E_iload_n dX10_row_1 rfl ?_
  refine E_callV (r := qX10_isLine) (ci := 10) dX10_row_2 mkX10_209 voX10_isLine rfl rfl rfl ⟨Nat.le_of_ble_eq_true rfl, Nat.le_of_ble_eq_true rfl, Nat.le_of_ble_eq_true rfl, Nat.le_of_ble_eq_true rfl⟩ (c_isLine hC.1) rfl (Nat.le_of_ble_eq_true rfl) ?_
  rintro _ _ ⟨rfl, rfl⟩
  refine E_if_neB (t := 11) dX10_row_5 (by decide) (fun c5 => ?_) (fun c5 => ?_)
  · skip
    refine E_iload_n dX10_row_11 rfl ?_
    refine E_if_ge (t := 18) dX10_row_12 (by decide) (fun c12 => ?_) (fun c12 => ?_)
    · skip
      exact K18 c5 c12
    · skip
      refine E_ldc dX10_row_15 ckX10_82 ?_
      refine E_iret dX10_row_17 rfl ?_
      exact rtc (kout c5 c12) hC F60.rf
  · skip
    refine E_ldc dX10_row_8 ckX10_114 ?_
    refine E_iret dX10_row_10 rfl ?_
    exact rtc (kun c5) hC F60.rf
theorem c_use (hM : MS T M) (hC : CX T p q M) {x : Int32} : Call g qX10_use [.ref 0, .int x] M (RtC (mrUse T x) T p q M) := by
  have hT := rm_wt hM.1
  have hB := ms_B hM
  have h32 := hT.1
  have hLq := q_le hT hB
  have kun : isAn T x = false → -1000001 = mrUse T x := fun e => by unfold mrUse; rw [if_pos (show inI x 0 ((T 61 0 : Int) - 1) = false from e)]
  have K11 : isAn T x = true → Ex g qX10_use (tm g qX10_use (RtC (mrUse T x) T p q M)) 11 [some (.ref 0), some (.int x), none] [] M := fun hx => by
    have ht := isAn_t hC.1 hx
    obtain ⟨a, ha, rfl⟩ := isAn_n hx h32
    have ha31 : a < 2 ^ 31 := by omega
    obtain ⟨u1, u2⟩ := use_n hT hB ha
    have u3 := us_le (T := T) (a := a)
    have u4 : usA T a ≤ 64 := cntN_le _ 64
    have hv : mrUse T (nI a) = if usN T a = 0 then nI 0 else if usN T a < usA T a then nI 1 else nI 2 := by
      unfold mrUse
      rw [if_neg (show ¬ inI (nI a) 0 ((T 61 0 : Int) - 1) = false by show ¬ isAn T (nI a) = false; rw [hx]; decide), nI_tn ha31]
    have k0 : usN T a = 0 → nI 0 = mrUse T (nI a) := fun e => by rw [hv, if_pos e]
    have k1 : 0 < usN T a → ¬ usN T a = usA T a → nI 1 = mrUse T (nI a) := fun e1 e2 => by rw [hv, if_neg (by omega), if_pos (by omega)]
    have k2 : 0 < usN T a → usN T a = usA T a → nI 2 = mrUse T (nI a) := fun e1 e2 => by rw [hv, if_neg (by omega), if_neg (by omega)]
    have K15 : ∀ M1, CF T p q M1 → F60 M M1 → Ex g qX10_use (tm g qX10_use (RtC (mrUse T (nI a)) T p q M)) 15 [some (.ref 0), some (.int (nI a)), none] [] M1 := fun M1 hF h60 => by
      have hG := hF.2.2
      have hCB := hF.1.1
      have hs := spq_p (cb_pq hCB)
      have hscr := cb_scr hCB
      have hSC := (cb_tld hCB ht).1
      have cM : Call g qX2_movesBy [.ref 9, .int (nI a)] M1 (Rt (nI (usN T a)) M1) := by rw [← u1]; exact c_movesBy hT hB hG ha
      have cS : Call g qX2_statesOf [.ref 9, .int (nI (T 62 a))] M1 (Rt (nI (usA T a)) M1) := by rw [← u2]; exact c_statesOf hT hB hG (wt_a hT ha).1
      refine E_aload_n dX10_use_15 rfl ?_
      refine E_getR' (ci := 10) (j := 3) (p := 9) dX10_use_16 fkX10_33 rfl (by decide) rfl (by decide) (rfl) ?_
      refine E_iload_n dX10_use_19 rfl ?_
      refine E_callV (r := qX2_movesBy) (ci := 2) dX10_use_20 mkX10_276 voX2_movesBy rfl rfl rfl ⟨Nat.le_of_ble_eq_true rfl, Nat.le_of_ble_eq_true rfl, Nat.le_of_ble_eq_true rfl, Nat.le_of_ble_eq_true rfl⟩ (cM) rfl (Nat.le_of_ble_eq_true rfl) ?_
      rintro _ _ ⟨rfl, rfl⟩
      refine E_ist_n (i := 2) dX10_use_23 rfl (by decide) rfl ?_
      refine E_iload_n dX10_use_24 rfl ?_
      refine E_if_neN (t := 30) dX10_use_25 (by decide) (by omega) (fun c25 => ?_) (fun c25 => ?_)
      · skip
        refine E_iload_n dX10_use_30 rfl ?_
        refine E_aload_n dX10_use_31 rfl ?_
        refine E_getR' (ci := 10) (j := 3) (p := 9) dX10_use_32 fkX10_33 rfl (by decide) rfl (by decide) (rfl) ?_
        refine E_aload_n dX10_use_35 rfl ?_
        refine E_getM' (ci := 10) (j := 9) (p := p) dX10_use_36 fkX10_75 rfl (by decide) rfl (by decide) (hscr) ?_
        refine E_getR' (ci := 8) (j := 0) (p := p+1) dX10_use_39 fkX10_169 rfl (by decide) (kS hs) (by decide) ((srS hs) 0 (by decide)) ?_
        refine E_iload_n dX10_use_42 rfl ?_
        refine E_ialdN dX10_use_43 (kp1 hs) (by omega) (by decide) (sc_from hSC ha) ?_
        refine E_callV (r := qX2_statesOf) (ci := 2) dX10_use_44 mkX10_215 voX2_statesOf rfl rfl rfl ⟨Nat.le_of_ble_eq_true rfl, Nat.le_of_ble_eq_true rfl, Nat.le_of_ble_eq_true rfl, Nat.le_of_ble_eq_true rfl⟩ (cS) rfl (Nat.le_of_ble_eq_true rfl) ?_
        rintro _ _ ⟨rfl, rfl⟩
        refine E_icmp_neN (t := 54) dX10_use_47 (by decide) (by omega) (by omega) (fun c47 => ?_) (fun c47 => ?_)
        · skip
          have key := k1 c25 c47
          refine E_iconst (v := nI 1) dX10_use_54 rfl ?_
          refine E_iret dX10_use_55 rfl ?_
          exact rtc key hF.1 h60
        · skip
          have key := k2 c25 c47
          refine E_iconst (v := nI 2) dX10_use_50 rfl ?_
          refine E_goto (t := 55) dX10_use_51 (by decide) ?_
          refine E_iret dX10_use_55 rfl ?_
          exact rtc key hF.1 h60
      · skip
        refine E_iconst (v := nI 0) dX10_use_28 rfl ?_
        refine E_iret dX10_use_29 rfl ?_
        exact rtc (k0 c25) hF.1 h60
    refine E_aload_n dX10_use_11 rfl ?_
    refine E_callV (r := qX10_refreshGraph) (ci := 10) dX10_use_12 mkX10_212 voX10_refreshGraph rfl rfl rfl ⟨Nat.le_of_ble_eq_true rfl, Nat.le_of_ble_eq_true rfl, Nat.le_of_ble_eq_true rfl, Nat.le_of_ble_eq_true rfl⟩ (c_refreshGraph hC ht hT hB) rfl (Nat.le_of_ble_eq_true rfl) ?_
    rintro _ M1 ⟨rfl, g1, g2⟩
    exact K15 M1 g1 g2
  refine Call_of (ls0 := [some (.ref 0), some (.int x), none]) rfl rfl (Nat.le_of_ble_eq_true rfl) ?_
  refine E_aload_n dX10_use_0 rfl ?_
  refine E_iload_n dX10_use_1 rfl ?_
  refine E_callV (r := qX10_isAnswer) (ci := 10) dX10_use_2 mkX10_118 voX10_isAnswer rfl rfl rfl ⟨Nat.le_of_ble_eq_true rfl, Nat.le_of_ble_eq_true rfl, Nat.le_of_ble_eq_true rfl, Nat.le_of_ble_eq_true rfl⟩ (c_isAnswer hC.1 h32) rfl (Nat.le_of_ble_eq_true rfl) ?_
  rintro _ _ ⟨rfl, rfl⟩
  refine E_if_neB (t := 11) dX10_use_5 (by decide) (fun c5 => ?_) (fun c5 => ?_)
  · skip
    exact K11 c5
  · skip
    refine E_ldc dX10_use_8 ckX10_114 ?_
    refine E_iret dX10_use_10 rfl ?_
    exact rtc (kun c5) hC F60.rf
abbrev RtCL (x : Int64) (T : TK) (p q : Nat) (M : AM) : Option Value → AM → Prop := fun v M' => v = some (.long x) ∧ CX T p q M' ∧ F60 M M'
theorem rtcl {M' : AM} {x y : Int64} (h1 : x = y) (hC : CX T p q M') (hF : F60 M M') : RtCL y T p q M (some (.long x)) M' := ⟨by rw [h1], hC, hF⟩
theorem c_rows (hM : MS T M) (hC : CX T p q M) {x n : Int32} : Call g qX10_rows [.ref 0, .int x, .int n] M (RtCL (mrRows T x n) T p q M) := by
  have hT := rm_wt hM.1
  have hB := ms_B hM
  have kun : isLn T x = false → -1000001 = mrRows T x n := fun e => by unfold mrRows; rw [if_pos e]
  have kout : isLn T x = true → inI n 0 80 = false → -1000002 = mrRows T x n := fun e1 e2 => by unfold mrRows; rw [if_neg (by rw [e1]; decide), if_pos e2]
  have K26 : isLn T x = true → ¬ n < 0 → n ≤ nI 80 → Ex g qX10_rows (tm g qX10_rows (RtCL (mrRows T x n) T p q M)) 26 [some (.ref 0), some (.int x), some (.int n)] [] M := fun hx n1 n2 => by
    have ht := isLn_t hx
    obtain ⟨l, hl, rfl, hlb⟩ := isLn_n hx
    have hn : inI n 0 80 = true := by rw [inI_t]; rw [i_lt0] at n1; rw [i_Nle (by decide)] at n2; omega
    obtain ⟨j, j1, j2, rfl, j3⟩ := inI_nat hn (by decide)
    have hv : rwV T j l = mrRows T (nI l) (nI j) := by unfold mrRows rwV; rw [if_neg (show ¬ isLn T (nI l) = false by rw [hx]; decide), if_neg (show ¬ inI (nI j) 0 80 = false by rw [hn]; decide), nI_tn (show l < 2 ^ 31 by omega), nI_tn j3]
    have K : ∀ M1, CF T p q M1 → F60 M M1 → ∀ M2, RoQ T j l M1 (some (.long (rwV T j l))) M2 → RtCL (mrRows T (nI l) (nI j)) T p q M (some (.long (rwV T j l))) M2 := fun M1 hF h60 M2 hR => by
      obtain ⟨-, r1, r2⟩ := hR
      have e : ∀ k, k ≠ 36 → k ≠ 37 → k ≠ 38 → M2.1 k = M1.1 k ∧ M2.2.2 k = M1.2.2 k := fun k q1 q2 q3 => ⟨(r2 k (by simp; omega)).1, (r2 k (by simp; omega)).2.2⟩
      have hCB := hF.1.1
      have hp := sp_39 (spq_p (cb_pq hCB))
      refine rtcl hv ⟨⟨hCB.1, by rw [(e 0 (by decide) (by decide) (by decide)).2]; exact hCB.2.1, by rw [(e 0 (by decide) (by decide) (by decide)).2]; exact hCB.2.2.1, by rw [(e 0 (by decide) (by decide) (by decide)).1]; exact hCB.2.2.2.1, by rw [(e 1 (by decide) (by decide) (by decide)).1, (e 2 (by decide) (by decide) (by decide)).1]; exact hCB.2.2.2.2.1, co_fr (cb_co hCB) (e 3 (by decide) (by decide) (by decide)).1 (e 4 (by decide) (by decide) (by decide)).1, ac_fr (cb_ac hCB) (e 5 (by decide) (by decide) (by decide)).1 (e 6 (by decide) (by decide) (by decide)).1 (e 7 (by decide) (by decide) (by decide)).1 (e 8 (by decide) (by decide) (by decide)).1, r1, fun ht => ?_, hCB.2.2.2.2.2.2.2.2.2⟩, fg_fr hF.1.2 (fun k hk => (e k (by omega) (by omega) (by omega)).1)⟩ (h60.tr (F60.s r2 (by decide)))
      obtain ⟨a, b, c⟩ := cb_tld hCB ht
      exact ⟨sc_fr a (fun k q1 q2 => (e k (by omega) (by omega) (by omega)).1), sl_fr b (e _ (by omega) (by omega) (by omega)).1 (e _ (by omega) (by omega) (by omega)).1, c⟩
    have K30 : ∀ M1, CF T p q M1 → F60 M M1 → Ex g qX10_rows (tm g qX10_rows (RtCL (mrRows T (nI l) (nI j)) T p q M)) 30 [some (.ref 0), some (.int (nI l)), some (.int (nI j))] [] M1 := fun M1 hF h60 => by
      obtain ⟨a, b, r1, r2, r3⟩ := cb_row hF.1.1
      refine E_aload_n dX10_rows_30 rfl ?_
      refine E_getR' (ci := 10) (j := 8) (p := 36) dX10_rows_31 fkX10_68 rfl (by decide) rfl (by decide) (rfl) ?_
      refine E_aload_n dX10_rows_34 rfl ?_
      refine E_getR' (ci := 10) (j := 3) (p := 9) dX10_rows_35 fkX10_33 rfl (by decide) rfl (by decide) (rfl) ?_
      refine E_iload_n dX10_rows_38 rfl ?_
      refine E_iload_n dX10_rows_39 rfl ?_
      refine E_callV (r := qX7_rowsTo) (ci := 7) dX10_rows_40 mkX10_316 voX7_rowsTo rfl rfl rfl ⟨Nat.le_of_ble_eq_true rfl, Nat.le_of_ble_eq_true rfl, Nat.le_of_ble_eq_true rfl, Nat.le_of_ble_eq_true rfl⟩ (c_rowsTo hT hB hF.2.2 hl (by omega) r1 r2 r3) rfl (Nat.le_of_ble_eq_true rfl) ?_
      rintro _ M2 ⟨rfl, hR⟩
      refine E_lret dX10_rows_43 rfl ?_
      exact K M1 hF h60 M2 ⟨rfl, hR⟩
    refine E_aload_n dX10_rows_26 rfl ?_
    refine E_callV (r := qX10_refreshGraph) (ci := 10) dX10_rows_27 mkX10_212 voX10_refreshGraph rfl rfl rfl ⟨Nat.le_of_ble_eq_true rfl, Nat.le_of_ble_eq_true rfl, Nat.le_of_ble_eq_true rfl, Nat.le_of_ble_eq_true rfl⟩ (c_refreshGraph hC ht hT hB) rfl (Nat.le_of_ble_eq_true rfl) ?_
    rintro _ M1 ⟨rfl, g1, g2⟩
    exact K30 M1 g1 g2
  have q1 : n < 0 → inI n 0 80 = false := fun e => by rw [inI_f]; rw [i_lt0] at e; omega
  have q2 : ¬ n ≤ nI 80 → inI n 0 80 = false := fun e => by rw [inI_f]; rw [i_Nle (by decide)] at e; omega
  refine Call_of (ls0 := [some (.ref 0), some (.int x), some (.int n)]) rfl rfl (Nat.le_of_ble_eq_true rfl) ?_
  refine E_aload_n dX10_rows_0 rfl ?_
  refine E_iload_n dX10_rows_1 rfl ?_
  refine E_callV (r := qX10_isLine) (ci := 10) dX10_rows_2 mkX10_209 voX10_isLine rfl rfl rfl ⟨Nat.le_of_ble_eq_true rfl, Nat.le_of_ble_eq_true rfl, Nat.le_of_ble_eq_true rfl, Nat.le_of_ble_eq_true rfl⟩ (c_isLine hC.1) rfl (Nat.le_of_ble_eq_true rfl) ?_
  rintro _ _ ⟨rfl, rfl⟩
  refine E_if_neB (t := 12) dX10_rows_5 (by decide) (fun c5 => ?_) (fun c5 => ?_)
  · skip
    refine E_iload_n dX10_rows_12 rfl ?_
    refine E_if_lt (t := 22) dX10_rows_13 (by decide) (fun c13 => ?_) (fun c13 => ?_)
    · skip
      have key := kout c5 (q1 c13)
      refine E_ldc2 dX10_rows_22 clX10_314 ?_
      refine E_lret dX10_rows_25 rfl ?_
      exact rtcl key hC F60.rf
    · skip
      refine E_iload_n dX10_rows_16 rfl ?_
      refine E_bipush (v := nI 80) dX10_rows_17 rfl ?_
      refine E_icmp_le (t := 26) dX10_rows_19 (by decide) (fun c19 => ?_) (fun c19 => ?_)
      · skip
        exact K26 c5 c13 c19
      · skip
        have key := kout c5 (q2 c19)
        refine E_ldc2 dX10_rows_22 clX10_314 ?_
        refine E_lret dX10_rows_25 rfl ?_
        exact rtcl key hC F60.rf
  · skip
    refine E_ldc2 dX10_rows_8 clX10_312 ?_
    refine E_lret dX10_rows_11 rfl ?_
    exact rtcl (kun c5) hC F60.rf
theorem c_whole (hM : MS T M) (hC : CX T p q M) {x : Int32} : Call g qX10_whole [.ref 0, .int x] M (RtC (mrWhole T x) T p q M) := by
  have hT := rm_wt hM.1
  have hB := ms_B hM
  have htol := cb_tol hC.1
  have tk : ∀ b, tlk T = b → (T 61 1 == 0) = !b := fun b e => by unfold tlk at e; rw [← e, Bool.not_not]
  have kun : tlk T = false → -1000001 = mrWhole T x := fun e => by unfold mrWhole; rw [if_pos (show (T 61 1 == 0) = true from tk _ e)]
  have K10 : tlk T = true → Ex g qX10_whole (tm g qX10_whole (RtC (mrWhole T x) T p q M)) 10 [some (.ref 0), some (.int x)] [] M := fun ht => by
    have htn : ¬ (T 61 1 == 0) = true := by rw [tk _ ht]; decide
    have hNL := (cb_tld hC.1 ht).2.2
    have ht0 := tlk_n ht
    have v0 : nI (LTn T) = mrWhole T (nI 0) := by unfold mrWhole; rw [if_neg htn, if_pos rfl]
    have v1 : nI (ndf (T 61 1) (orF (fun _ => true) (fun i => 1 * 2 ^ (Qn T i / 64)) (LTn T))) = mrWhole T (nI 1) := by unfold mrWhole; rw [if_neg htn, if_neg (nq 1 0 (by decide)), if_pos rfl]; rw [w_unr hT hB]
    have v2 : nI (orF (stP T) (fun i => 1 * 2 ^ (Qn T i / 64)) (LTn T)) = mrWhole T (nI 2) := by unfold mrWhole; rw [if_neg htn, if_neg (nq 2 0 (by decide)), if_neg (nq 2 1 (by decide)), if_pos rfl]; rw [w_stuck hT hB hNL ht0]
    have v3 : nI (orF (fun i => !canB T (Qn T i)) (fun i => 1 * 2 ^ (Qn T i / 64)) (LTn T)) = mrWhole T (nI 3) := by unfold mrWhole; rw [if_neg htn, if_neg (nq 3 0 (by decide)), if_neg (nq 3 1 (by decide)), if_neg (nq 3 2 (by decide)), if_pos rfl]; rw [w_lost hT hB hNL ht0]
    have v4 : nI (orF (fun i => (lpS T (Qn T i)).isSome) (fun i => 1 * 2 ^ (Qn T i / 64)) (LTn T)) = mrWhole T (nI 4) := by unfold mrWhole; rw [if_neg htn, if_neg (nq 4 0 (by decide)), if_neg (nq 4 1 (by decide)), if_neg (nq 4 2 (by decide)), if_neg (nq 4 3 (by decide)), if_pos rfl]; rw [w_loop hT hB hNL ht0]
    have v5 : nI (mxF (fun i => (mvA T (Qn T i)).length) (LTn T)) = mrWhole T (nI 5) := by unfold mrWhole; rw [if_neg htn, if_neg (nq 5 0 (by decide)), if_neg (nq 5 1 (by decide)), if_neg (nq 5 2 (by decide)), if_neg (nq 5 3 (by decide)), if_neg (nq 5 4 (by decide)), if_pos rfl]; rw [mx_eq hT hB (f := ofF T (DT T) 0) (x := fun i => (mvA T (Qn T i)).length) (fun i _ => (mvA_cnt (T := T) (s := Qn T i)).symm)]
    have v6 : nI (cntN (fun i => (T 61 2).testBit (Qn T i / 64)) (LTn T)) = mrWhole T (nI 6) := by unfold mrWhole; rw [if_neg htn, if_neg (nq 6 0 (by decide)), if_neg (nq 6 1 (by decide)), if_neg (nq 6 2 (by decide)), if_neg (nq 6 3 (by decide)), if_neg (nq 6 4 (by decide)), if_neg (nq 6 5 (by decide)), if_pos rfl]; rw [cnt_all hT hB (p := fun k => (T 61 2).testBit (k / 64))]
    have v7 : nI (dQ T (LTn T - 1)) = mrWhole T (nI 7) := by unfold mrWhole; rw [if_neg htn, if_neg (nq 7 0 (by decide)), if_neg (nq 7 1 (by decide)), if_neg (nq 7 2 (by decide)), if_neg (nq 7 3 (by decide)), if_neg (nq 7 4 (by decide)), if_neg (nq 7 5 (by decide)), if_neg (nq 7 6 (by decide)), if_pos rfl]; rw [mx_eq hT hB (f := ofF T (DT T) 2) (x := dQ T) (fun i _ => rfl), mx_depth hT hB]
    have kout : (x.toInt < 0 ∨ 7 < x.toInt) → -1000002 = mrWhole T x := fun e => by
      unfold mrWhole
      rw [if_neg htn, if_neg (sw_no e 0 (by decide) (by decide)), if_neg (sw_no e 1 (by decide) (by decide)), if_neg (sw_no e 2 (by decide) (by decide)), if_neg (sw_no e 3 (by decide) (by decide)), if_neg (sw_no e 4 (by decide) (by decide)), if_neg (sw_no e 5 (by decide) (by decide)), if_neg (sw_no e 6 (by decide) (by decide)), if_neg (sw_no e 7 (by decide) (by decide))]
    have K15 : ∀ M1, CF T p q M1 → F60 M M1 → Ex g qX10_whole (tm g qX10_whole (RtC (mrWhole T x) T p q M)) 15 [some (.ref 0), some (.int x)] [.int x] M1 := fun M1 hF h60 => by
      have hG := hF.2.2
      have hCB := hF.1.1
      have hs := spq_p (cb_pq hCB)
      have hscr := cb_scr hCB
      have hSC := (cb_tld hCB ht).1
      have hsw : x = nI 0 ∨ x = nI 1 ∨ x = nI 2 ∨ x = nI 3 ∨ x = nI 4 ∨ x = nI 5 ∨ x = nI 6 ∨ x = nI 7 ∨ (x.toInt < 0 ∨ 7 < x.toInt) := by
        rcases sw_ex x 7 (by decide) with ⟨j, hj, rfl⟩ | h7
        · rcases (show j = 0 ∨ j = 1 ∨ j = 2 ∨ j = 3 ∨ j = 4 ∨ j = 5 ∨ j = 6 ∨ j = 7 by omega) with rfl | rfl | rfl | rfl | rfl | rfl | rfl | rfl <;> simp
        · exact Or.inr (Or.inr (Or.inr (Or.inr (Or.inr (Or.inr (Or.inr (Or.inr (h7))))))))
      rcases hsw with rfl | rfl | rfl | rfl | rfl | rfl | rfl | rfl | hsw7
      · skip
        refine E_swIn (t := 60) (off := 45) dX10_whole_15 (by decide) (by decide) (by decide) (by decide) ?_
        refine E_aload_n dX10_whole_60 rfl ?_
        refine E_getR' (ci := 10) (j := 3) (p := 9) dX10_whole_61 fkX10_33 rfl (by decide) rfl (by decide) (rfl) ?_
        refine E_getI' (ci := 2) (j := 11) dX10_whole_64 fkX10_262 rfl (by decide) rfl (by decide) (gr_st hG) ?_
        refine E_iret dX10_whole_67 rfl ?_
        exact rtc v0 hF.1 h60
      · skip
        refine E_swIn (t := 68) (off := 53) dX10_whole_15 (by decide) (by decide) (by decide) (by decide) ?_
        refine E_aload_n dX10_whole_68 rfl ?_
        refine E_getM' (ci := 10) (j := 9) (p := p) dX10_whole_69 fkX10_75 rfl (by decide) rfl (by decide) (hscr) ?_
        refine E_getI' (ci := 8) (j := 11) dX10_whole_72 fkX10_200 rfl (by decide) (kS hs) (by decide) (sc_6 hSC (j := 1) (by decide)) ?_
        refine E_aload_n dX10_whole_75 rfl ?_
        refine E_getR' (ci := 10) (j := 3) (p := 9) dX10_whole_76 fkX10_33 rfl (by decide) rfl (by decide) (rfl) ?_
        refine E_callV (r := qX2_linesReached) (ci := 2) dX10_whole_79 mkX10_291 voX2_linesReached rfl rfl rfl ⟨Nat.le_of_ble_eq_true rfl, Nat.le_of_ble_eq_true rfl, Nat.le_of_ble_eq_true rfl, Nat.le_of_ble_eq_true rfl⟩ (c_linesReached hT hB hG) rfl (Nat.le_of_ble_eq_true rfl) ?_
        rintro _ _ ⟨rfl, rfl⟩
        refine E_iconst (v := -1) dX10_whole_82 rfl ?_
        refine E_ixor dX10_whole_83 ?_
        refine E_iandNC dX10_whole_84 ?_
        refine E_iret dX10_whole_85 rfl ?_
        exact rtc v1 hF.1 h60
      · skip
        refine E_swIn (t := 86) (off := 71) dX10_whole_15 (by decide) (by decide) (by decide) (by decide) ?_
        refine E_aload_n dX10_whole_86 rfl ?_
        refine E_callV (r := qX10_stuckLines) (ci := 10) dX10_whole_87 mkX10_294 voX10_stuckLines rfl rfl rfl ⟨Nat.le_of_ble_eq_true rfl, Nat.le_of_ble_eq_true rfl, Nat.le_of_ble_eq_true rfl, Nat.le_of_ble_eq_true rfl⟩ (c_stuckLines hF ht hT hB) rfl (Nat.le_of_ble_eq_true rfl) ?_
        rintro _ _ ⟨rfl, rfl⟩
        refine E_iret dX10_whole_90 rfl ?_
        exact rtc v2 hF.1 h60
      · skip
        refine E_swIn (t := 91) (off := 76) dX10_whole_15 (by decide) (by decide) (by decide) (by decide) ?_
        refine E_aload_n dX10_whole_91 rfl ?_
        refine E_callV (r := qX10_lostLines) (ci := 10) dX10_whole_92 mkX10_297 voX10_lostLines rfl rfl rfl ⟨Nat.le_of_ble_eq_true rfl, Nat.le_of_ble_eq_true rfl, Nat.le_of_ble_eq_true rfl, Nat.le_of_ble_eq_true rfl⟩ (c_lostLines hF ht hT hB) rfl (Nat.le_of_ble_eq_true rfl) ?_
        rintro _ M2 ⟨rfl, g1, g2⟩
        refine E_iret dX10_whole_95 rfl ?_
        exact rtc v3 g1 (h60.tr g2)
      · skip
        refine E_swIn (t := 96) (off := 81) dX10_whole_15 (by decide) (by decide) (by decide) (by decide) ?_
        refine E_aload_n dX10_whole_96 rfl ?_
        refine E_callV (r := qX10_loopingLines) (ci := 10) dX10_whole_97 mkX10_300 voX10_loopingLines rfl rfl rfl ⟨Nat.le_of_ble_eq_true rfl, Nat.le_of_ble_eq_true rfl, Nat.le_of_ble_eq_true rfl, Nat.le_of_ble_eq_true rfl⟩ (c_loopingLines hF ht hT hB) rfl (Nat.le_of_ble_eq_true rfl) ?_
        rintro _ M2 ⟨rfl, g1, g2⟩
        refine E_iret dX10_whole_100 rfl ?_
        exact rtc v4 g1 (h60.tr g2)
      · skip
        refine E_swIn (t := 101) (off := 86) dX10_whole_15 (by decide) (by decide) (by decide) (by decide) ?_
        refine E_aload_n dX10_whole_101 rfl ?_
        refine E_getR' (ci := 10) (j := 3) (p := 9) dX10_whole_102 fkX10_33 rfl (by decide) rfl (by decide) (rfl) ?_
        refine E_callV (r := qX2_mostMovesOfAState) (ci := 2) dX10_whole_105 mkX10_303 voX2_mostMovesOfAState rfl rfl rfl ⟨Nat.le_of_ble_eq_true rfl, Nat.le_of_ble_eq_true rfl, Nat.le_of_ble_eq_true rfl, Nat.le_of_ble_eq_true rfl⟩ (c_mostMoves hT hB hG) rfl (Nat.le_of_ble_eq_true rfl) ?_
        rintro _ _ ⟨rfl, rfl⟩
        refine E_iret dX10_whole_108 rfl ?_
        exact rtc v5 hF.1 h60
      · skip
        refine E_swIn (t := 109) (off := 94) dX10_whole_15 (by decide) (by decide) (by decide) (by decide) ?_
        refine E_aload_n dX10_whole_109 rfl ?_
        refine E_callV (r := qX10_statesAtEndings) (ci := 10) dX10_whole_110 mkX10_306 voX10_statesAtEndings rfl rfl rfl ⟨Nat.le_of_ble_eq_true rfl, Nat.le_of_ble_eq_true rfl, Nat.le_of_ble_eq_true rfl, Nat.le_of_ble_eq_true rfl⟩ (c_statesAtEndings hF ht hT hB) rfl (Nat.le_of_ble_eq_true rfl) ?_
        rintro _ _ ⟨rfl, rfl⟩
        refine E_iret dX10_whole_113 rfl ?_
        exact rtc v6 hF.1 h60
      · skip
        refine E_swIn (t := 114) (off := 99) dX10_whole_15 (by decide) (by decide) (by decide) (by decide) ?_
        refine E_aload_n dX10_whole_114 rfl ?_
        refine E_getR' (ci := 10) (j := 3) (p := 9) dX10_whole_115 fkX10_33 rfl (by decide) rfl (by decide) (rfl) ?_
        refine E_callV (r := qX2_greatestDepth) (ci := 2) dX10_whole_118 mkX10_309 voX2_greatestDepth rfl rfl rfl ⟨Nat.le_of_ble_eq_true rfl, Nat.le_of_ble_eq_true rfl, Nat.le_of_ble_eq_true rfl, Nat.le_of_ble_eq_true rfl⟩ (c_greatestDepth hT hB hG) rfl (Nat.le_of_ble_eq_true rfl) ?_
        rintro _ _ ⟨rfl, rfl⟩
        refine E_iret dX10_whole_121 rfl ?_
        exact rtc v7 hF.1 h60
      · skip
        refine E_swOut (t := 122) dX10_whole_15 (hsw7) (by decide) ?_
        refine E_ldc dX10_whole_122 ckX10_82 ?_
        refine E_iret dX10_whole_124 rfl ?_
        exact rtc (kout hsw7) hF.1 h60
    refine E_aload_n dX10_whole_10 rfl ?_
    refine E_callV (r := qX10_refreshGraph) (ci := 10) dX10_whole_11 mkX10_212 voX10_refreshGraph rfl rfl rfl ⟨Nat.le_of_ble_eq_true rfl, Nat.le_of_ble_eq_true rfl, Nat.le_of_ble_eq_true rfl, Nat.le_of_ble_eq_true rfl⟩ (c_refreshGraph hC ht hT hB) rfl (Nat.le_of_ble_eq_true rfl) ?_
    rintro _ M1 ⟨rfl, g1, g2⟩
    refine E_iload_n dX10_whole_14 rfl ?_
    exact K15 M1 g1 g2
  refine Call_of (ls0 := [some (.ref 0), some (.int x)]) rfl rfl (Nat.le_of_ble_eq_true rfl) ?_
  refine E_aload_n dX10_whole_0 rfl ?_
  refine E_getI' (ci := 10) (j := 11) dX10_whole_1 fkX10_96 rfl (by decide) rfl (by decide) (htol) ?_
  refine E_if_neB (t := 10) dX10_whole_4 (by decide) (fun c4 => ?_) (fun c4 => ?_)
  · skip
    exact K10 c4
  · skip
    refine E_ldc dX10_whole_7 ckX10_114 ?_
    refine E_iret dX10_whole_9 rfl ?_
    exact rtc (kun c4) hC F60.rf
end PU2
