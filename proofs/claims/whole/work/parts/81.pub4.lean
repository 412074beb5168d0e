-- the class's public methods: needs, must, loop
section PU4
variable {g : GG} {M : AM} {T : TK} {p q : Nat}
theorem ok_U {k : Nat} (hT : WT T) (hB : T 61 13 < 64) : ∀ m, m < mN T → (fun m => !((bsN (fun a => (T 68 a).testBit k) (T 61 0)).testBit (mA T m))) m = okA T none (some k) (mA T m) := fun m hm => by
  have ha := (mv_ok hT hB hm).2.2.2.1
  show (!((bsN (fun a => (T 68 a).testBit k) (T 61 0)).testBit (mA T m))) = (!((none : Option Nat) == some (mA T m)) && !((T 68 (mA T m)).testBit k))
  rw [bsN_bit, decide_eq_true ha, Bool.true_and]
  rfl
theorem ok_B {a : Nat} : ∀ m, m < mN T → (fun m => !((1 * 2 ^ a).testBit (mA T m))) m = okA T (some a) none (mA T m) := fun m _ => by
  show (!((1 * 2 ^ a).testBit (mA T m))) = (!(some a == some (mA T m)) && true)
  rw [Bool.and_true, Nat.one_mul, Nat.testBit_two_pow]
  congr 1
theorem c_needs (hM : MS T M) (hC : CX T p q M) {x : Int32} : Call g qX10_needs [.ref 0, .int x] M (RtC (mrNeeds T x) T p q M) := by
  have hT := rm_wt hM.1
  have hB := ms_B hM
  have hLq := q_le hT hB
  have kun : isLn T x = false → -1000001 = mrNeeds T x := fun e => by unfold mrNeeds; rw [if_pos e]
  have K11 : isLn T x = true → Ex g qX10_needs (tm g qX10_needs (RtC (mrNeeds T x) T p q M)) 11 [some (.ref 0), some (.int x), none, none] [] M := fun hx => by
    have ht := isLn_t hx
    obtain ⟨l, hl, rfl, hlb⟩ := isLn_n hx
    have hv : mrNeeds T (nI l) = if (nrT T l).map (dQ T) = none then -1 else nI (nsN T l 6) := by
      have hn : fewN (DT T) (64 * l) 64 = (nrT T l).map (dQ T) := near_few hT hB
      unfold mrNeeds
      rw [if_neg (show ¬ isLn T (nI l) = false by rw [hx]; decide), nI_tn (show l < 2 ^ 31 by omega), hn]
    have kn : nrT T l = none → -1 = mrNeeds T (nI l) := fun e => by rw [hv, e]; rfl
    have L : ¬ nrT T l = none → ∀ (n k : Nat) (M1 : AM), k ≤ 6 → 6 < k + n → CF T p q M1 → F60 M M1 → Ex g qX10_needs (tm g qX10_needs (RtC (mrNeeds T (nI l)) T p q M)) 34 [some (.ref 0), some (.int (nI l)), some (.int (nI (nsN T l k))), some (.int (nI k))] [] M1 := by
      intro hne n
      induction n with
      | zero => intro k M1 h1 h2; exact absurd h2 (by omega)
      | succ n ih =>
        intro k M1 hk hn hF h60
        have hG := hF.2.2
        have hCB := hF.1.1
        have hs := spq_p (cb_pq hCB)
        have hscr := cb_scr hCB
        have hSC := (cb_tld hCB ht).1
        have hCO := cb_co hCB
        have hsh : k < 6 → 1 * 2 ^ k < 2 ^ 32 := fun e => by have := p2_64 e; omega
        have s0 : ndB T l k = false → nsN T l (k + 1) = nsN T l k := fun e => by rw [nsN, if_neg (by rw [e]; decide), Nat.or_zero]
        have s1 : ndB T l k = true → nsN T l (k + 1) = nsN T l k ||| 1 * 2 ^ k := fun e => by rw [nsN, if_pos e, Nat.one_mul]
        have K1 : k < 6 → (T 61 13).testBit k = true → Ex g qX10_needs (tm g qX10_needs (RtC (mrNeeds T (nI l)) T p q M)) 34 [some (.ref 0), some (.int (nI l)), some (.int (nI (nsN T l k))), some (.int (nI (k + 1)))] [] M1 := fun e1 e2 => by
          have := ih (k + 1) M1 (by omega) (by omega) hF h60
          rw [s0 (by unfold ndB; rw [e2]; rfl)] at this
          exact this
        have K2 : k < 6 → (T 61 13).testBit k = false → ∀ M2 b, (b = true ↔ ∃ n i, rch (sP T (fun m => !((bsN (fun a => (T 68 a).testBit k) (T 61 0)).testBit (mA T m)))) 0 n i ∧ Qn T i / 64 = l) → Sb [21, 22, 23] M1 M2 → (b = true → Ex g qX10_needs (tm g qX10_needs (RtC (mrNeeds T (nI l)) T p q M)) 34 [some (.ref 0), some (.int (nI l)), some (.int (nI (nsN T l k))), some (.int (nI (k + 1)))] [] M2) ∧ (b = false → Ex g qX10_needs (tm g qX10_needs (RtC (mrNeeds T (nI l)) T p q M)) 34 [some (.ref 0), some (.int (nI l)), some (.int (nI (nsN T l k ||| 1 * 2 ^ k))), some (.int (nI (k + 1)))] [] M2) := fun e1 e2 M2 b hb hS => by
          have hF2 := cf_idle hF hS (by decide)
          have := ih (k + 1) M2 (by omega) (by omega) hF2 (h60.tr (F60.s hS (by decide)))
          rw [few_x hT hB hl (ok_U (k := k) hT hB)] at hb
          have hnd : ndB T l k = !b := by
            unfold ndB DU
            rw [e2, Bool.not_false, Bool.true_and]
            cases hz : (fewN (bfs (sux T none (some k) none) (fst0 T) 1024).2 (64 * l) 64).isNone with
            | true =>
              rw [hz] at hb
              cases b with
              | false => rfl
              | true => exact absurd (hb.mp rfl) (by decide)
            | false =>
              rw [hb.mpr hz]; rfl
          refine ⟨fun e => ?_, fun e => ?_⟩
          · rw [s0 (by rw [hnd, e]; rfl)] at this; exact this
          · rw [s1 (by rw [hnd, e]; rfl)] at this; exact this
        have KE : k = 6 → nI (nsN T l k) = mrNeeds T (nI l) := fun e => by
          rw [hv, e, if_neg]
          intro z
          cases hz : nrT T l with
          | none => exact hne hz
          | some d => rw [hz] at z; cases z
        refine E_iload_n dX10_needs_34 rfl ?_
        refine E_bipush (v := nI 6) dX10_needs_35 rfl ?_
        refine E_icmp_geN (t := 89) dX10_needs_37 (by decide) (by omega) (by omega) (fun c37 => ?_) (fun c37 => ?_)
        · skip
          refine E_iload_n dX10_needs_89 rfl ?_
          refine E_iret dX10_needs_90 rfl ?_
          exact rtc (KE (by omega)) hF.1 h60
        · skip
          refine E_aload_n dX10_needs_40 rfl ?_
          refine E_getR' (ci := 10) (j := 1) (p := 3) dX10_needs_41 fkX10_19 rfl (by decide) rfl (by decide) (rfl) ?_
          refine E_getI' (ci := 1) (j := 2) dX10_needs_44 fkX10_246 rfl (by decide) rfl (by decide) (hCO.2.2.1) ?_
          refine E_iload_n dX10_needs_47 rfl ?_
          refine E_callS (r := qX10_bit) dX10_needs_48 mkX10_135 toX10_bit rfl ⟨Nat.le_of_ble_eq_true rfl, Nat.le_of_ble_eq_true rfl, Nat.le_of_ble_eq_true rfl, Nat.le_of_ble_eq_true rfl⟩ (c_bit (by omega)) rfl (Nat.le_of_ble_eq_true rfl) ?_
          rintro _ _ ⟨rfl, rfl⟩
          refine E_if_neB (t := 83) dX10_needs_51 (by decide) (fun c51 => ?_) (fun c51 => ?_)
          · skip
            have key := K1 c37 c51
            refine E_iincN (b := 1) dX10_needs_83 rfl rfl (by decide) rfl ?_
            refine E_goto (t := 34) dX10_needs_86 (by decide) ?_
            exact key
          · skip
            refine E_aload_n dX10_needs_54 rfl ?_
            refine E_getR' (ci := 10) (j := 4) (p := 21) dX10_needs_55 fkX10_40 rfl (by decide) rfl (by decide) (rfl) ?_
            refine E_aload_n dX10_needs_58 rfl ?_
            refine E_getR' (ci := 10) (j := 3) (p := 9) dX10_needs_59 fkX10_33 rfl (by decide) rfl (by decide) (rfl) ?_
            refine E_iload_n dX10_needs_62 rfl ?_
            refine E_aload_n dX10_needs_63 rfl ?_
            refine E_getM' (ci := 10) (j := 9) (p := p) dX10_needs_64 fkX10_75 rfl (by decide) rfl (by decide) (hscr) ?_
            refine E_iload_n dX10_needs_67 rfl ?_
            refine E_callV (r := qX8_answersThatLay) (ci := 8) dX10_needs_68 mkX10_249 voX8_answersThatLay rfl (kS hs) rfl ⟨Nat.le_of_ble_eq_true rfl, Nat.le_of_ble_eq_true rfl, Nat.le_of_ble_eq_true rfl, Nat.le_of_ble_eq_true rfl⟩ (c_thatLay hSC c37) rfl (Nat.le_of_ble_eq_true rfl) ?_
            rintro _ _ ⟨rfl, rfl⟩
            refine E_callV (r := qX9_comesTo) (ci := 9) dX10_needs_71 mkX10_252 voX9_comesTo rfl rfl rfl ⟨Nat.le_of_ble_eq_true rfl, Nat.le_of_ble_eq_true rfl, Nat.le_of_ble_eq_true rfl, Nat.le_of_ble_eq_true rfl⟩ (c_comesTo (ok := fun m => !((bsN (fun a => (T 68 a).testBit k) (T 61 0)).testBit (mA T m))) hT hB hG hl (fun _ => rfl)) rfl (Nat.le_of_ble_eq_true rfl) ?_
            rintro _ M2 ⟨b, rfl, b1, b2⟩
            have key2 := K2 c37 c51 M2 b b1 b2
            refine E_if_neB (t := 83) dX10_needs_74 (by decide) (fun c74 => ?_) (fun c74 => ?_)
            · skip
              have key := key2.1 c74
              refine E_iincN (b := 1) dX10_needs_83 rfl rfl (by decide) rfl ?_
              refine E_goto (t := 34) dX10_needs_86 (by decide) ?_
              exact key
            · skip
              have key := key2.2 c74
              refine E_iload_n dX10_needs_77 rfl ?_
              refine E_iconst (v := nI 1) dX10_needs_78 rfl ?_
              refine E_iload_n dX10_needs_79 rfl ?_
              refine E_ishlN dX10_needs_80 (by omega) (hsh c37) ?_
              refine E_iorN dX10_needs_81 ?_
              refine E_ist_n (i := 2) dX10_needs_82 rfl (by decide) rfl ?_
              refine E_iincN (b := 1) dX10_needs_83 rfl rfl (by decide) rfl ?_
              refine E_goto (t := 34) dX10_needs_86 (by decide) ?_
              exact key
    have K15 : ∀ M1, CF T p q M1 → F60 M M1 → Ex g qX10_needs (tm g qX10_needs (RtC (mrNeeds T (nI l)) T p q M)) 15 [some (.ref 0), some (.int (nI l)), none, none] [] M1 := fun M1 hF h60 => by
      have hnl : M1.1 14 l = oI (nrT T l) := gr_nr hF.2.2 hl
      refine E_aload_n dX10_needs_15 rfl ?_
      refine E_getR' (ci := 10) (j := 3) (p := 9) dX10_needs_16 fkX10_33 rfl (by decide) rfl (by decide) (rfl) ?_
      refine E_getR' (ci := 2) (j := 4) (p := 14) dX10_needs_19 fkX10_230 rfl (by decide) rfl (by decide) (rfl) ?_
      refine E_iload_n dX10_needs_22 rfl ?_
      refine E_ialdN dX10_needs_23 rfl (by omega) (by decide) (hnl) ?_
      refine E_iconst (v := -1) dX10_needs_24 rfl ?_
      refine E_icmp_neO (t := 30) dX10_needs_25 (by decide) (nr_b hT hB) (fun c25 => ?_) (fun c25 => ?_)
      · skip
        refine E_iconst (v := nI 0) dX10_needs_30 rfl ?_
        refine E_ist_n (i := 2) dX10_needs_31 rfl (by decide) rfl ?_
        refine E_iconst (v := nI 0) dX10_needs_32 rfl ?_
        refine E_ist_n (i := 3) dX10_needs_33 rfl (by decide) rfl ?_
        exact L c25 7 0 M1 (by decide) (by decide) hF h60
      · skip
        refine E_iconst (v := -1) dX10_needs_28 rfl ?_
        refine E_iret dX10_needs_29 rfl ?_
        exact rtc (kn c25) hF.1 h60
    refine E_aload_n dX10_needs_11 rfl ?_
    refine E_callV (r := qX10_refreshGraph) (ci := 10) dX10_needs_12 mkX10_212 voX10_refreshGraph rfl rfl rfl ⟨Nat.le_of_ble_eq_true rfl, Nat.le_of_ble_eq_true rfl, Nat.le_of_ble_eq_true rfl, Nat.le_of_ble_eq_true rfl⟩ (c_refreshGraph hC ht hT hB) rfl (Nat.le_of_ble_eq_true rfl) ?_
    rintro _ M1 ⟨rfl, g1, g2⟩
    exact K15 M1 g1 g2
  refine Call_of (ls0 := [some (.ref 0), some (.int x), none, none]) rfl rfl (Nat.le_of_ble_eq_true rfl) ?_
  refine E_aload_n dX10_needs_0 rfl ?_
  refine E_iload_n dX10_needs_1 rfl ?_
  refine E_callV (r := qX10_isLine) (ci := 10) dX10_needs_2 mkX10_209 voX10_isLine rfl rfl rfl ⟨Nat.le_of_ble_eq_true rfl, Nat.le_of_ble_eq_true rfl, Nat.le_of_ble_eq_true rfl, Nat.le_of_ble_eq_true rfl⟩ (c_isLine hC.1) rfl (Nat.le_of_ble_eq_true rfl) ?_
  rintro _ _ ⟨rfl, rfl⟩
  refine E_if_neB (t := 11) dX10_needs_5 (by decide) (fun c5 => ?_) (fun c5 => ?_)
  · skip
    exact K11 c5
  · skip
    refine E_ldc dX10_needs_8 ckX10_114 ?_
    refine E_iret dX10_needs_10 rfl ?_
    exact rtc (kun c5) hC F60.rf
theorem kth_stay {f : Nat → Bool} {j k a : Nat} (h : kthN f j k = some a) : ∀ n, kthN f j (k + n) = some a
  | 0 => h
  | n + 1 => by
    show (match kthN f j (k + n) with
      | some a => some a
      | none => _) = some a
    rw [kth_stay h n]
theorem kth_in {f : Nat → Bool} {j k n : Nat} (h0 : kthN f j k = none) (h1 : f k = true) (h2 : cntN f k = j) (hk : k < n) : kthN f j n = some k := by
  have h3 : kthN f j (k + 1) = some k := by
    show (match kthN f j k with
      | some a => some a
      | none => if (f k && cntN f k == j) = true then some k else none) = some k
    rw [h0]
    show (if (f k && cntN f k == j) = true then some k else none) = some k
    rw [if_pos (by rw [h1, h2, beq_self_eq_true]; rfl)]
  have := kth_stay h3 (n - (k + 1))
  rw [show k + 1 + (n - (k + 1)) = n by omega] at this
  exact this
theorem kth_no {f : Nat → Bool} {j k : Nat} (h0 : kthN f j k = none) (h1 : f k = false ∨ ¬ cntN f k = j) : kthN f j (k + 1) = none := by
  show (match kthN f j k with
      | some a => some a
      | none => if (f k && cntN f k == j) = true then some k else none) = none
  rw [h0]
  show (if (f k && cntN f k == j) = true then some k else none) = none
  rw [if_neg]
  rcases h1 with q | q
  · rw [q, Bool.false_and]; decide
  · rw [beq_eq_false_iff_ne.mpr q, Bool.and_false]; decide
theorem c_must (hM : MS T M) (hC : CX T p q M) {x i : Int32} : Call g qX10_must [.ref 0, .int x, .int i] M (RtC (mrMust T x i) T p q M) := by
  have hT := rm_wt hM.1
  have hB := ms_B hM
  have hLq := q_le hT hB
  have h32 := hT.1
  have kun : isLn T x = false → -1000001 = mrMust T x i := fun e => by unfold mrMust; rw [if_pos e]
  have kout : isLn T x = true → ¬ 0 ≤ i → -1000002 = mrMust T x i := fun e1 e2 => by unfold mrMust; rw [if_neg (by rw [e1]; decide), if_pos (Int32.not_le.mp e2)]
  have K18 : isLn T x = true → 0 ≤ i → Ex g qX10_must (tm g qX10_must (RtC (mrMust T x i) T p q M)) 18 [some (.ref 0), some (.int x), some (.int i), none, none, none] [] M := fun hx hi => by
    have ht := isLn_t hx
    obtain ⟨l, hl, rfl, hlb⟩ := isLn_n hx
    obtain ⟨j, rfl, hj, -⟩ := i_ge0 hi
    have hv : mrMust T (nI l) (nI j) = if (nrT T l).map (dQ T) = none then -1 else oI (kthN (mstB T l) j (T 61 0)) := by
      have hn : fewN (DT T) (64 * l) 64 = (nrT T l).map (dQ T) := near_few hT hB
      unfold mrMust
      rw [if_neg (show ¬ isLn T (nI l) = false by rw [hx]; decide), if_neg (nI_pos hj), nI_tn (show l < 2 ^ 31 by omega), nI_tn hj, hn]
    have LN : nrT T l = none → ∀ (n k : Nat) (M1 : AM), k ≤ T 61 0 → T 61 0 < k + n → CF T p q M1 → F60 M M1 → Ex g qX10_must (tm g qX10_must (RtC (mrMust T (nI l) (nI j)) T p q M)) 45 [some (.ref 0), some (.int (nI l)), some (.int (nI j)), some (.int (nI 0)), some (.int (nI 0)), some (.int (nI k))] [] M1 := by
      intro hno n
      induction n with
      | zero => intro k M1 h1 h2; exact absurd h2 (by omega)
      | succ n ih =>
        intro k M1 hk hn hF h60
        have hCB := hF.1.1
        have hs := spq_p (cb_pq hCB)
        have hscr := cb_scr hCB
        have hSC := (cb_tld hCB ht).1
        have key : -1 = mrMust T (nI l) (nI j) := by rw [hv, hno]; rfl
        refine E_iload dX10_must_45 rfl ?_
        refine E_aload_n dX10_must_47 rfl ?_
        refine E_getM' (ci := 10) (j := 9) (p := p) dX10_must_48 fkX10_75 rfl (by decide) rfl (by decide) (hscr) ?_
        refine E_getI' (ci := 8) (j := 10) dX10_must_51 fkX10_108 rfl (by decide) (kS hs) (by decide) (sc_6 hSC (j := 0) (by decide)) ?_
        refine E_icmp_geN (t := 104) dX10_must_54 (by decide) (by omega) (by omega) (fun c54 => ?_) (fun c54 => ?_)
        · skip
          refine E_iconst (v := -1) dX10_must_104 rfl ?_
          refine E_iret dX10_must_105 rfl ?_
          exact rtc key hF.1 h60
        · skip
          refine E_iload_n dX10_must_57 rfl ?_
          refine E_iload dX10_must_58 rfl ?_
          refine E_callS (r := qX10_bit) dX10_must_60 mkX10_135 toX10_bit rfl ⟨Nat.le_of_ble_eq_true rfl, Nat.le_of_ble_eq_true rfl, Nat.le_of_ble_eq_true rfl, Nat.le_of_ble_eq_true rfl⟩ (c_bit (by omega)) rfl (Nat.le_of_ble_eq_true rfl) ?_
          rintro _ _ ⟨rfl, rfl⟩
          refine E_iconst (v := nI 1) dX10_must_63 rfl ?_
          refine E_icmp_neB (t := 98) dX10_must_64 (by decide) (fun c64 => ?_) (fun c64 => ?_)
          · skip
            refine E_iincN (b := 1) dX10_must_98 rfl rfl (by decide) rfl ?_
            refine E_goto (t := 45) dX10_must_101 (by decide) ?_
            exact ih (k + 1) M1 (by omega) (by omega) hF h60
          · skip
            exact absurd (c64.symm.trans (Nat.zero_testBit k)) (by decide)
    have LS : ∀ e, nrT T l = some e → ∀ (n k : Nat) (M1 : AM), k ≤ T 61 0 → T 61 0 < k + n → kthN (mstB T l) j k = none → CF T p q M1 → F60 M M1 → Ex g qX10_must (tm g qX10_must (RtC (mrMust T (nI l) (nI j)) T p q M)) 45 [some (.ref 0), some (.int (nI l)), some (.int (nI j)), some (.int (nI (rsA T (some e)))), some (.int (nI (cntN (mstB T l) k))), some (.int (nI k))] [] M1 := by
      intro e he n
      induction n with
      | zero => intro k M1 h1 h2; exact absurd h2 (by omega)
      | succ n ih =>
        intro k M1 hk hn hkn hF h60
        have hG := hF.2.2
        have hCB := hF.1.1
        have hs := spq_p (cb_pq hCB)
        have hscr := cb_scr hCB
        have hSC := (cb_tld hCB ht).1
        have hvs : mrMust T (nI l) (nI j) = oI (kthN (mstB T l) j (T 61 0)) := by rw [hv, he]; rfl
        have hcl := cntN_le (mstB T l) k
        have hsh : k < T 61 0 → 1 * 2 ^ k < 2 ^ 32 := fun e => by rw [Nat.one_mul]; exact Nat.pow_lt_pow_right (by decide) (by omega)
        have KN : k < T 61 0 → mstB T l k = false → ∀ M2, CF T p q M2 → F60 M M2 → Ex g qX10_must (tm g qX10_must (RtC (mrMust T (nI l) (nI j)) T p q M)) 45 [some (.ref 0), some (.int (nI l)), some (.int (nI j)), some (.int (nI (rsA T (some e)))), some (.int (nI (cntN (mstB T l) k))), some (.int (nI (k + 1)))] [] M2 := fun e1 e2 M2 g1 g2 => by
          have := ih (k + 1) M2 (by omega) (by omega) (kth_no hkn (Or.inl e2)) g1 g2
          rw [cntN_f e2] at this
          exact this
        have KY : k < T 61 0 → mstB T l k = true → ¬ cntN (mstB T l) k = j → ∀ M2, CF T p q M2 → F60 M M2 → Ex g qX10_must (tm g qX10_must (RtC (mrMust T (nI l) (nI j)) T p q M)) 45 [some (.ref 0), some (.int (nI l)), some (.int (nI j)), some (.int (nI (rsA T (some e)))), some (.int (nI (cntN (mstB T l) k + 1))), some (.int (nI (k + 1)))] [] M2 := fun e1 e2 e3 M2 g1 g2 => by
          have := ih (k + 1) M2 (by omega) (by omega) (kth_no hkn (Or.inr e3)) g1 g2
          rw [cntN_t e2] at this
          exact this
        have KR : k < T 61 0 → mstB T l k = true → cntN (mstB T l) k = j → nI k = mrMust T (nI l) (nI j) := fun e1 e2 e3 => by rw [hvs, kth_in hkn e2 e3 e1]; rfl
        have KE : k = T 61 0 → -1 = mrMust T (nI l) (nI j) := fun e => by rw [hvs, ← e, hkn]; rfl
        have KC : k < T 61 0 → (rsA T (some e)).testBit k = false → mstB T l k = false := fun e1 e2 => must_c hT hB hl he (by rw [e2]; decide)
        have KB : k < T 61 0 → ∀ b, (b = true ↔ ∃ n i, rch (sP T (fun m => !((1 * 2 ^ k).testBit (mA T m)))) 0 n i ∧ Qn T i / 64 = l) → mstB T l k = !b := fun e1 b hb => by
          rw [few_x hT hB hl (ok_B (a := k))] at hb
          unfold mstB DB
          cases hz : (fewN (bfs (sux T (some k) none none) (fst0 T) 1024).2 (64 * l) 64).isNone with
          | true =>
            rw [hz] at hb
            cases b with
            | false => rfl
            | true => exact absurd (hb.mp rfl) (by decide)
          | false => rw [hb.mpr hz]; rfl
        refine E_iload dX10_must_45 rfl ?_
        refine E_aload_n dX10_must_47 rfl ?_
        refine E_getM' (ci := 10) (j := 9) (p := p) dX10_must_48 fkX10_75 rfl (by decide) rfl (by decide) (hscr) ?_
        refine E_getI' (ci := 8) (j := 10) dX10_must_51 fkX10_108 rfl (by decide) (kS hs) (by decide) (sc_6 hSC (j := 0) (by decide)) ?_
        refine E_icmp_geN (t := 104) dX10_must_54 (by decide) (by omega) (by omega) (fun c54 => ?_) (fun c54 => ?_)
        · skip
          refine E_iconst (v := -1) dX10_must_104 rfl ?_
          refine E_iret dX10_must_105 rfl ?_
          exact rtc (KE (by omega)) hF.1 h60
        · skip
          refine E_iload_n dX10_must_57 rfl ?_
          refine E_iload dX10_must_58 rfl ?_
          refine E_callS (r := qX10_bit) dX10_must_60 mkX10_135 toX10_bit rfl ⟨Nat.le_of_ble_eq_true rfl, Nat.le_of_ble_eq_true rfl, Nat.le_of_ble_eq_true rfl, Nat.le_of_ble_eq_true rfl⟩ (c_bit (by omega)) rfl (Nat.le_of_ble_eq_true rfl) ?_
          rintro _ _ ⟨rfl, rfl⟩
          refine E_iconst (v := nI 1) dX10_must_63 rfl ?_
          refine E_icmp_neB (t := 98) dX10_must_64 (by decide) (fun c64 => ?_) (fun c64 => ?_)
          · skip
            have key := KN c54 (KC c54 c64) M1 hF h60
            refine E_iincN (b := 1) dX10_must_98 rfl rfl (by decide) rfl ?_
            refine E_goto (t := 45) dX10_must_101 (by decide) ?_
            exact key
          · skip
            refine E_aload_n dX10_must_67 rfl ?_
            refine E_getR' (ci := 10) (j := 4) (p := 21) dX10_must_68 fkX10_40 rfl (by decide) rfl (by decide) (rfl) ?_
            refine E_aload_n dX10_must_71 rfl ?_
            refine E_getR' (ci := 10) (j := 3) (p := 9) dX10_must_72 fkX10_33 rfl (by decide) rfl (by decide) (rfl) ?_
            refine E_iload_n dX10_must_75 rfl ?_
            refine E_iconst (v := nI 1) dX10_must_76 rfl ?_
            refine E_iload dX10_must_77 rfl ?_
            refine E_ishlN dX10_must_79 (by omega) (hsh c54) ?_
            refine E_callV (r := qX9_comesTo) (ci := 9) dX10_must_80 mkX10_252 voX9_comesTo rfl rfl rfl ⟨Nat.le_of_ble_eq_true rfl, Nat.le_of_ble_eq_true rfl, Nat.le_of_ble_eq_true rfl, Nat.le_of_ble_eq_true rfl⟩ (c_comesTo (ok := fun m => !((1 * 2 ^ k).testBit (mA T m))) hT hB hG hl (fun _ => rfl)) rfl (Nat.le_of_ble_eq_true rfl) ?_
            rintro _ M2 ⟨b, rfl, b1, b2⟩
            have hF2 := cf_idle hF b2 (by decide)
            have h62 := h60.tr (F60.s b2 (by decide))
            have hbb := KB c54 b b1
            refine E_if_neB (t := 98) dX10_must_83 (by decide) (fun c83 => ?_) (fun c83 => ?_)
            · skip
              have key := KN c54 (by rw [hbb, c83]; rfl) M2 hF2 h62
              refine E_iincN (b := 1) dX10_must_98 rfl rfl (by decide) rfl ?_
              refine E_goto (t := 45) dX10_must_101 (by decide) ?_
              exact key
            · skip
              have hmt : mstB T l k = true := by rw [hbb, c83]; rfl
              refine E_iload dX10_must_86 rfl ?_
              refine E_iload_n dX10_must_88 rfl ?_
              refine E_icmp_neN (t := 95) dX10_must_89 (by decide) (by omega) hj (fun c89 => ?_) (fun c89 => ?_)
              · skip
                have key := KY c54 hmt c89 M2 hF2 h62
                refine E_iincN (b := 1) dX10_must_95 rfl rfl (by decide) rfl ?_
                refine E_iincN (b := 1) dX10_must_98 rfl rfl (by decide) rfl ?_
                refine E_goto (t := 45) dX10_must_101 (by decide) ?_
                exact key
              · skip
                refine E_iload dX10_must_92 rfl ?_
                refine E_iret dX10_must_94 rfl ?_
                exact rtc (KR c54 hmt c89) hF2.1 h62
    have K45 : ∀ M1, CF T p q M1 → F60 M M1 → Ex g qX10_must (tm g qX10_must (RtC (mrMust T (nI l) (nI j)) T p q M)) 45 [some (.ref 0), some (.int (nI l)), some (.int (nI j)), some (.int (nI (rsA T (nrT T l)))), some (.int (nI 0)), some (.int (nI 0))] [] M1 := fun M1 hF h60 => by
      cases hn : nrT T l with
      | none => exact LN hn (T 61 0 + 1) 0 M1 (Nat.zero_le _) (by omega) hF h60
      | some e => exact LS e hn (T 61 0 + 1) 0 M1 (Nat.zero_le _) (by omega) rfl hF h60
    refine E_aload_n dX10_must_18 rfl ?_
    refine E_callV (r := qX10_refreshGraph) (ci := 10) dX10_must_19 mkX10_212 voX10_refreshGraph rfl rfl rfl ⟨Nat.le_of_ble_eq_true rfl, Nat.le_of_ble_eq_true rfl, Nat.le_of_ble_eq_true rfl, Nat.le_of_ble_eq_true rfl⟩ (c_refreshGraph hC ht hT hB) rfl (Nat.le_of_ble_eq_true rfl) ?_
    rintro _ M1 ⟨rfl, g1, g2⟩
    refine E_aload_n dX10_must_22 rfl ?_
    refine E_getR' (ci := 10) (j := 3) (p := 9) dX10_must_23 fkX10_33 rfl (by decide) rfl (by decide) (rfl) ?_
    refine E_aload_n dX10_must_26 rfl ?_
    refine E_getR' (ci := 10) (j := 3) (p := 9) dX10_must_27 fkX10_33 rfl (by decide) rfl (by decide) (rfl) ?_
    refine E_getR' (ci := 2) (j := 4) (p := 14) dX10_must_30 fkX10_230 rfl (by decide) rfl (by decide) (rfl) ?_
    refine E_iload_n dX10_must_33 rfl ?_
    refine E_ialdN dX10_must_34 rfl (by omega) (by decide) (gr_nr g1.2.2 hl) ?_
    refine E_callV (r := qX2_answersOfRow) (ci := 2) dX10_must_35 mkX10_256 voX2_answersOfRow rfl rfl rfl ⟨Nat.le_of_ble_eq_true rfl, Nat.le_of_ble_eq_true rfl, Nat.le_of_ble_eq_true rfl, Nat.le_of_ble_eq_true rfl⟩ (c_answersOfRow hT hB g1.2.2 (fun e he => fdN_le he)) rfl (Nat.le_of_ble_eq_true rfl) ?_
    rintro _ _ ⟨rfl, rfl⟩
    refine E_ist_n (i := 3) dX10_must_38 rfl (by decide) rfl ?_
    refine E_iconst (v := nI 0) dX10_must_39 rfl ?_
    refine E_istore dX10_must_40 (by decide) rfl ?_
    refine E_iconst (v := nI 0) dX10_must_42 rfl ?_
    refine E_istore dX10_must_43 (by decide) rfl ?_
    exact K45 M1 g1 g2
  refine Call_of (ls0 := [some (.ref 0), some (.int x), some (.int i), none, none, none]) rfl rfl (Nat.le_of_ble_eq_true rfl) ?_
  refine E_aload_n dX10_must_0 rfl ?_
  refine E_iload_n dX10_must_1 rfl ?_
  refine E_callV (r := qX10_isLine) (ci := 10) dX10_must_2 mkX10_209 voX10_isLine rfl rfl rfl ⟨Nat.le_of_ble_eq_true rfl, Nat.le_of_ble_eq_true rfl, Nat.le_of_ble_eq_true rfl, Nat.le_of_ble_eq_true rfl⟩ (c_isLine hC.1) rfl (Nat.le_of_ble_eq_true rfl) ?_
  rintro _ _ ⟨rfl, rfl⟩
  refine E_if_neB (t := 11) dX10_must_5 (by decide) (fun c5 => ?_) (fun c5 => ?_)
  · skip
    refine E_iload_n dX10_must_11 rfl ?_
    refine E_if_ge (t := 18) dX10_must_12 (by decide) (fun c12 => ?_) (fun c12 => ?_)
    · skip
      exact K18 c5 c12
    · skip
      refine E_ldc dX10_must_15 ckX10_82 ?_
      refine E_iret dX10_must_17 rfl ?_
      exact rtc (kout c5 c12) hC F60.rf
  · skip
    refine E_ldc dX10_must_8 ckX10_114 ?_
    refine E_iret dX10_must_10 rfl ?_
    exact rtc (kun c5) hC F60.rf
theorem sh_le (hT : WT T) (hB : T 61 13 < 64) {l k c : Nat} (hk : k ≤ LTn T) (h : shO T l k = some c) : c ≤ LTn T := by
  obtain ⟨⟨i, hi, h1⟩, -⟩ := omN_spec.mp h
  by_cases e : Qn T i / 64 = l
  · rw [if_pos e] at h1; exact lp_le hT hB (by omega) h1
  · rw [if_neg e] at h1; cases h1
theorem c_loop (hM : MS T M) (hC : CX T p q M) {x : Int32} : Call g qX10_loop [.ref 0, .int x] M (RtC (mrLoop T x) T p q M) := by
  have hT := rm_wt hM.1
  have hB := ms_B hM
  have hLq := q_le hT hB
  have kun : isLn T x = false → -1000001 = mrLoop T x := fun e => by unfold mrLoop; rw [if_pos (show (inI x 0 15 && (T 61 1).testBit x.toInt.toNat) = false from e)]
  have K11 : isLn T x = true → Ex g qX10_loop (tm g qX10_loop (RtC (mrLoop T x) T p q M)) 11 [some (.ref 0), some (.int x), none, none, none] [] M := fun hx => by
    have ht := isLn_t hx
    obtain ⟨l, hl, rfl, hlb⟩ := isLn_n hx
    have hv : mrLoop T (nI l) = oI (shO T l (LTn T)) := by
      unfold mrLoop
      rw [if_neg (show ¬ (inI (nI l) 0 15 && (T 61 1).testBit (nI l).toInt.toNat) = false by show ¬ isLn T (nI l) = false; rw [hx]; decide), nI_tn (show l < 2 ^ 31 by omega), sh_ln hT hB]
    have L : ∀ (n k : Nat) (M1 : AM), k ≤ LTn T → LTn T < k + n → CF T p q M1 → LoP T M1 → F60 M M1 → Ex g qX10_loop (tm g qX10_loop (RtC (mrLoop T (nI l)) T p q M)) 34 [some (.ref 0), some (.int (nI l)), some (.int (nI (LTn T + 1))), some (.int (nI ((shO T l k).getD (LTn T + 1)))), some (.int (nI k))] [] M1 := by
      intro n
      induction n with
      | zero => intro k M1 h1 h2; exact absurd h2 (by omega)
      | succ n ih =>
        intro k M1 hk hn hF hLo h60
        have hG := hF.2.2
        have hq : k < LTn T → Qn T k / 64 < 16 := fun e => by have := Qn_lt hT hB e; omega
        have hcur : (shO T l k).getD (LTn T + 1) ≤ LTn T + 1 := by
          cases h : shO T l k with
          | none => exact Nat.le_refl _
          | some c => have := sh_le hT hB hk h; show c ≤ _; omega
        have hst : shO T l (k + 1) = omin (shO T l k) (if Qn T k / 64 = l then lpS T (Qn T k) else none) := rfl
        have om0 : ∀ y : Option Nat, omin y none = y := fun y => by cases y <;> rfl
        have KN : (¬ Qn T k / 64 = l ∨ (lpS T (Qn T k)).isSome = false) → k < LTn T → Ex g qX10_loop (tm g qX10_loop (RtC (mrLoop T (nI l)) T p q M)) 34 [some (.ref 0), some (.int (nI l)), some (.int (nI (LTn T + 1))), some (.int (nI ((shO T l k).getD (LTn T + 1)))), some (.int (nI (k + 1)))] [] M1 := fun e e1 => by
          have h0 : (if Qn T k / 64 = l then lpS T (Qn T k) else none) = none := by
            rcases e with e | e
            · rw [if_neg e]
            · cases hz : lpS T (Qn T k) with
              | none => split <;> rfl
              | some c => rw [hz] at e; cases e
          have := ih (k + 1) M1 (by omega) (by omega) hF hLo h60
          rw [hst, h0, om0] at this
          exact this
        have KL : k < LTn T → Qn T k / 64 = l → (lpS T (Qn T k)).isSome = true → ∀ M2 r, r ≤ (shO T l k).getD (LTn T + 1) → (r < (shO T l k).getD (LTn T + 1) → 0 < r ∧ rch (sP T okT) k r k) → (∀ c, 0 < c → rch (sP T okT) k c k → r ≤ c) → Sb [21, 22, 23] M1 M2 → Ex g qX10_loop (tm g qX10_loop (RtC (mrLoop T (nI l)) T p q M)) 34 [some (.ref 0), some (.int (nI l)), some (.int (nI (LTn T + 1))), some (.int (nI r)), some (.int (nI (k + 1)))] [] M2 := fun e1 e2 e3 M2 r r1 r2 r3 hS => by
          obtain ⟨c, hc⟩ := Option.isSome_iff_exists.mp e3
          obtain ⟨c1, c2, c3⟩ := (lp_spec hT (Qn_lt hT hB e1)).mp hc
          have c2' := (rp_c hT hB e1).mpr c2
          have hrc := r3 c c1 c2'
          have hcl := lp_le hT hB e1 hc
          have hr : (shO T l (k + 1)).getD (LTn T + 1) = r := by
            rw [hst, if_pos e2, hc]
            have hmin : r = min ((shO T l k).getD (LTn T + 1)) c := by
              rcases Nat.lt_or_ge r ((shO T l k).getD (LTn T + 1)) with q | q
              · obtain ⟨q1, q2⟩ := r2 q
                have := c3 r q1 ((rp_c hT hB e1).mp q2)
                omega
              · omega
            rw [hmin]
            cases hz : shO T l k with
            | none =>
              rw [omin_none]
              show c = min (LTn T + 1) c
              omega
            | some d =>
              cases hy : omin (some d) (some c) with
              | none => exact absurd (omin_eqn.mp hy).1 (by simp)
              | some y =>
                obtain ⟨y1, y2, y3⟩ := omin_spec.mp hy
                have y2 := y2 d rfl
                have y3 := y3 c rfl
                show y = min d c
                rcases y1 with y1 | y1
                · have := Option.some.inj y1; omega
                · have := Option.some.inj y1; omega
          have hF2 := cf_idle hF hS (by decide)
          have hLo2 : LoP T M2 := by unfold LoP; rw [(hS 28 (by decide)).1]; exact hLo
          have := ih (k + 1) M2 (by omega) (by omega) hF2 hLo2 (h60.tr (F60.s hS (by decide)))
          rw [hr] at this
          exact this
        have KE : k = LTn T → ((shO T l k).getD (LTn T + 1) < LTn T + 1 → nI ((shO T l k).getD (LTn T + 1)) = mrLoop T (nI l)) ∧ (LTn T + 1 ≤ (shO T l k).getD (LTn T + 1) → -1 = mrLoop T (nI l)) := fun e => by
          rw [hv, ← e]
          cases h : shO T l k with
          | none => exact ⟨fun z => absurd z (by show ¬ k + 1 < k + 1; omega), fun _ => rfl⟩
          | some c =>
            have := sh_le hT hB hk h
            exact ⟨fun _ => rfl, fun z => absurd (show k + 1 ≤ c from z) (by omega)⟩
        refine E_iload dX10_loop_34 rfl ?_
        refine E_aload_n dX10_loop_36 rfl ?_
        refine E_getR' (ci := 10) (j := 3) (p := 9) dX10_loop_37 fkX10_33 rfl (by decide) rfl (by decide) (rfl) ?_
        refine E_getI' (ci := 2) (j := 11) dX10_loop_40 fkX10_262 rfl (by decide) rfl (by decide) (gr_st hG) ?_
        refine E_icmp_geN (t := 93) dX10_loop_43 (by decide) (by omega) (by omega) (fun c43 => ?_) (fun c43 => ?_)
        · skip
          refine E_iload_n dX10_loop_93 rfl ?_
          refine E_iload_n dX10_loop_94 rfl ?_
          refine E_icmp_geN (t := 102) dX10_loop_95 (by decide) (by omega) (by omega) (fun c95 => ?_) (fun c95 => ?_)
          · skip
            have key := (KE (by omega)).2 c95
            refine E_iconst (v := -1) dX10_loop_102 rfl ?_
            refine E_iret dX10_loop_103 rfl ?_
            exact rtc key hF.1 h60
          · skip
            have key := (KE (by omega)).1 c95
            refine E_iload_n dX10_loop_98 rfl ?_
            refine E_goto (t := 103) dX10_loop_99 (by decide) ?_
            refine E_iret dX10_loop_103 rfl ?_
            exact rtc key hF.1 h60
        · skip
          refine E_aload_n dX10_loop_46 rfl ?_
          refine E_getR' (ci := 10) (j := 3) (p := 9) dX10_loop_47 fkX10_33 rfl (by decide) rfl (by decide) (rfl) ?_
          refine E_iload dX10_loop_50 rfl ?_
          refine E_callV (r := qX2_lineAt) (ci := 2) dX10_loop_52 mkX10_265 voX2_lineAt rfl rfl rfl ⟨Nat.le_of_ble_eq_true rfl, Nat.le_of_ble_eq_true rfl, Nat.le_of_ble_eq_true rfl, Nat.le_of_ble_eq_true rfl⟩ (c_line hT hB hG c43) rfl (Nat.le_of_ble_eq_true rfl) ?_
          rintro _ _ ⟨rfl, rfl⟩
          refine E_iload_n dX10_loop_55 rfl ?_
          refine E_icmp_neN (t := 87) dX10_loop_56 (by decide) (by have := hq c43; omega) (by omega) (fun c56 => ?_) (fun c56 => ?_)
          · skip
            have key := KN (Or.inl c56) c43
            refine E_iincN (b := 1) dX10_loop_87 rfl rfl (by decide) rfl ?_
            refine E_goto (t := 34) dX10_loop_90 (by decide) ?_
            exact key
          · skip
            refine E_aload_n dX10_loop_59 rfl ?_
            refine E_getR' (ci := 10) (j := 6) (p := 27) dX10_loop_60 fkX10_54 rfl (by decide) rfl (by decide) (rfl) ?_
            refine E_getR' (ci := 4) (j := 0) (p := 28) dX10_loop_63 fkX10_268 rfl (by decide) rfl (by decide) (rfl) ?_
            refine E_iload dX10_loop_66 rfl ?_
            refine E_zaldN dX10_loop_68 rfl (by omega) (by decide) (lo_b hT hB hLo c43) ?_
            refine E_if_eqB (t := 87) dX10_loop_69 (by decide) (fun c69 => ?_) (fun c69 => ?_)
            · skip
              have key := KN (Or.inr c69) c43
              refine E_iincN (b := 1) dX10_loop_87 rfl rfl (by decide) rfl ?_
              refine E_goto (t := 34) dX10_loop_90 (by decide) ?_
              exact key
            · skip
              refine E_aload_n dX10_loop_72 rfl ?_
              refine E_getR' (ci := 10) (j := 4) (p := 21) dX10_loop_73 fkX10_40 rfl (by decide) rfl (by decide) (rfl) ?_
              refine E_aload_n dX10_loop_76 rfl ?_
              refine E_getR' (ci := 10) (j := 3) (p := 9) dX10_loop_77 fkX10_33 rfl (by decide) rfl (by decide) (rfl) ?_
              refine E_iload dX10_loop_80 rfl ?_
              refine E_iload_n dX10_loop_82 rfl ?_
              refine E_callV (r := qX9_shortestLoop) (ci := 9) dX10_loop_83 mkX10_272 voX9_shortestLoop rfl rfl rfl ⟨Nat.le_of_ble_eq_true rfl, Nat.le_of_ble_eq_true rfl, Nat.le_of_ble_eq_true rfl, Nat.le_of_ble_eq_true rfl⟩ (c_shortestLoop hT hB hG c43 (by omega)) rfl (Nat.le_of_ble_eq_true rfl) ?_
              rintro _ M2 ⟨r, rfl, r1, r2, r3, r4⟩
              have key := KL c43 c56 c69 M2 r r1 r2 r3 r4
              refine E_ist_n (i := 3) dX10_loop_86 rfl (by decide) rfl ?_
              refine E_iincN (b := 1) dX10_loop_87 rfl rfl (by decide) rfl ?_
              refine E_goto (t := 34) dX10_loop_90 (by decide) ?_
              exact key
    have K19 : ∀ M1, CF T p q M1 → LoP T M1 → F60 M M1 → Ex g qX10_loop (tm g qX10_loop (RtC (mrLoop T (nI l)) T p q M)) 19 [some (.ref 0), some (.int (nI l)), none, none, none] [] M1 := fun M1 hF hLo h60 => by
      have key := L (LTn T + 1) 0 M1 (Nat.zero_le _) (by omega) hF hLo h60
      refine E_aload_n dX10_loop_19 rfl ?_
      refine E_getR' (ci := 10) (j := 3) (p := 9) dX10_loop_20 fkX10_33 rfl (by decide) rfl (by decide) (rfl) ?_
      refine E_getI' (ci := 2) (j := 11) dX10_loop_23 fkX10_262 rfl (by decide) rfl (by decide) (gr_st hF.2.2) ?_
      refine E_iconst (v := nI 1) dX10_loop_26 rfl ?_
      refine E_iaddN dX10_loop_27 ?_
      refine E_ist_n (i := 2) dX10_loop_28 rfl (by decide) rfl ?_
      refine E_iload_n dX10_loop_29 rfl ?_
      refine E_ist_n (i := 3) dX10_loop_30 rfl (by decide) rfl ?_
      refine E_iconst (v := nI 0) dX10_loop_31 rfl ?_
      refine E_istore dX10_loop_32 (by decide) rfl ?_
      exact key
    refine E_aload_n dX10_loop_11 rfl ?_
    refine E_callV (r := qX10_refreshGraph) (ci := 10) dX10_loop_12 mkX10_212 voX10_refreshGraph rfl rfl rfl ⟨Nat.le_of_ble_eq_true rfl, Nat.le_of_ble_eq_true rfl, Nat.le_of_ble_eq_true rfl, Nat.le_of_ble_eq_true rfl⟩ (c_refreshGraph hC ht hT hB) rfl (Nat.le_of_ble_eq_true rfl) ?_
    rintro _ M1 ⟨rfl, g1, g2⟩
    refine E_aload_n dX10_loop_15 rfl ?_
    refine E_callV (r := qX10_refreshLoops) (ci := 10) dX10_loop_16 mkX10_259 voX10_refreshLoops rfl rfl rfl ⟨Nat.le_of_ble_eq_true rfl, Nat.le_of_ble_eq_true rfl, Nat.le_of_ble_eq_true rfl, Nat.le_of_ble_eq_true rfl⟩ (c_refreshLoops g1 hT hB) rfl (Nat.le_of_ble_eq_true rfl) ?_
    rintro _ M2 ⟨rfl, g3, g4, g5⟩
    exact K19 M2 g3 g4 (g2.tr g5)
  refine Call_of (ls0 := [some (.ref 0), some (.int x), none, none, none]) rfl rfl (Nat.le_of_ble_eq_true rfl) ?_
  refine E_aload_n dX10_loop_0 rfl ?_
  refine E_iload_n dX10_loop_1 rfl ?_
  refine E_callV (r := qX10_isLine) (ci := 10) dX10_loop_2 mkX10_209 voX10_isLine rfl rfl rfl ⟨Nat.le_of_ble_eq_true rfl, Nat.le_of_ble_eq_true rfl, Nat.le_of_ble_eq_true rfl, Nat.le_of_ble_eq_true rfl⟩ (c_isLine hC.1) rfl (Nat.le_of_ble_eq_true rfl) ?_
  rintro _ _ ⟨rfl, rfl⟩
  refine E_if_neB (t := 11) dX10_loop_5 (by decide) (fun c5 => ?_) (fun c5 => ?_)
  · skip
    exact K11 c5
  · skip
    refine E_ldc dX10_loop_8 ckX10_114 ?_
    refine E_iret dX10_loop_10 rfl ?_
    exact rtc (kun c5) hC F60.rf
end PU4
