-- the class's public methods: cost, cut, undo
section PU6
variable {g : GG} {M : AM} {T : TK} {p q : Nat}
theorem wt_70 (h : WT T) {a o : Nat} (ho : o ≤ 1) : WT (upT T 70 a o) := by
  unfold WT
  rw [uk (k' := 61) (by decide), uk (k' := 62) (by decide), uk (k' := 63) (by decide), uk (k' := 64) (by decide), uk (k' := 65) (by decide), uk (k' := 68) (by decide), uk (k' := 69) (by decide), uk (k' := 66) (by decide), uk (k' := 67) (by decide)]
  refine ⟨h.1, h.2.1, h.2.2.1, h.2.2.2.1, fun b hb => ?_⟩
  obtain ⟨⟨j1, j2, j3, j4, j5, j6, j7, j8⟩, j9⟩ := h.2.2.2.2 b hb
  refine ⟨⟨j1, j2, j3, j4, j5, j6, j7, ?_⟩, j9⟩
  by_cases e : b = a
  · rw [e, upT_at]; exact ho
  · rw [upT_ne (fun y => e y.2)]; exact j8
theorem sc_pr (h : SC T p M) {a v : Nat} (hv : v ≤ 9) : SC (upT T 64 a v) p (sI M (p + 3) a (nI v)) := by
  have hs := h.1
  have hpn := sp_39 hs
  refine ⟨hs, rp_set aS_inj h.2.1 (k := 64) (j := a) (v := v) (by decide) (by decide) (by omega) (by decide), wt_set h.2.2.1 (by decide) (by decide) (by decide) (fun e => by cases e) (fun e => by cases e) (fun _ => hv) (fun e => by cases e) (fun e => by cases e) (fun e => by cases e) (fun e => by cases e), ?_⟩
  obtain ⟨C, c1, c2, c3⟩ := h.2.2.2
  exact ⟨C, by rw [sI_o (by omega)]; exact c1, c2, fun i => by rw [uk (by decide), uk (by decide)]; exact c3 i⟩
theorem sc_cu (h : SC T p M) {C a o : Nat} (hC : M.1 p 14 = nI C) (hc : cutS T C) (ha : a < T 61 0) (ho : o ≤ 1) : SC (upT T 70 a o) p (sI M p 14 (nI (cuS C a o))) := by
  have hs := h.1
  refine ⟨hs, fun k j hd => ?_, wt_70 h.2.2.1 ho, cuS C a o, sI_s, cuS_ok hc ha (sc_32 h) ho (by rw [uk (by decide)]) (fun i _ => by
    by_cases e : i = a
    · rw [if_pos e, e, upT_at]
    · rw [if_neg e, upT_ne (fun y => e y.2)])⟩
  have hd2 : dom T k j := by
    unfold dom at *
    rw [uk (by decide), uk (by decide)] at hd
    exact hd
  obtain ⟨e1, e2, e3⟩ := h.2.1 k j hd2
  refine ⟨e1, e2, ?_⟩
  rw [uk (show k ≠ 70 by omega), sI_o, e3]
  rintro ⟨y1, y2⟩
  unfold aS at y1 y2
  by_cases e : k = 61
  · rw [if_pos e] at y2
    dsimp only at y2
    rcases hd2 with z | z | z
    · omega
    · omega
    · omega
  · rw [if_neg e] at y1
    dsimp only at y1
    omega
theorem n72 {i c : Nat} (h12 : T 61 17 ≤ 12) (hi : i ≤ acF T) (hc : c < 32) : nxNotes T 72 (32 * i + c) = snp T (i + shA T) c := by
  have hs := acF_sh (T := T)
  rw [nn_7 hc]
  unfold snp
  by_cases e : i = acF T
  · rw [if_pos e, e, hs, if_neg (by omega)]
  · by_cases e2 : T 61 17 = 12
    · have h1 : shA T = 1 := by unfold shA; rw [if_pos e2]
      rw [if_neg e, if_pos e2, h1, if_pos (by omega)]
    · have h1 : shA T = 0 := by unfold shA; rw [if_neg e2]
      rw [if_neg e, if_neg e2, h1, Nat.add_zero, if_pos (by omega)]
theorem cnt_not {f : Nat → Bool} : ∀ n, cntN (fun k => !f k) n + cntN f n = n
  | 0 => rfl
  | n + 1 => by
    have h1 := cnt_not (f := f) n
    show cntN (fun k => !f k) n + (!f n).toNat + (cntN f n + (f n).toNat) = n + 1
    cases f n
    · show _ + 1 + (_ + 0) = _; omega
    · show _ + 0 + (_ + 1) = _; omega
theorem cnt_cut {f : Nat → Bool} {m : Nat} (hm : m ≤ 32) : cntN (fun i => decide (i < m) && f i) 32 = cntN f m := by
  rw [show (32 : Nat) = m + (32 - m) by omega, cntN_add]
  have h1 : cntN (fun i => decide (i < m) && f i) m = cntN f m := cntN_cong (fun t ht => by rw [decide_eq_true ht, Bool.true_and])
  have h2 : cntN (fun i => decide (m + i < m) && f (m + i)) (32 - m) = 0 := cnt0.mpr (fun t _ => by rw [decide_eq_false (by omega), Bool.false_and])
  rw [h1]
  show cntN f m + cntN (fun i => decide (m + i < m) && f (m + i)) (32 - m) = _
  rw [h2]; rfl
/-- acts kept, the script changed at one place -/
theorem cx_act {T1 T' : TK} {M1 M2 : AM} {a k b : Nat} (hM : MS T M) (hC : CX T p q M) (hKE : KE T a k b M M1) (ht : tlk T = true) (hr : M2.2.2 = M1.2.2) (hf : ∀ c, c < 9 → c ≠ 0 → M2.1 c = M1.1 c) (h11 : M2.1 0 11 = M1.1 0 11) (h9 : M2.1 (p + 9) = M1.1 (p + 9)) (h10 : M2.1 (p + 10) = M1.1 (p + 10)) (hSC : SC T p M1 → SC T1 p M2) (hk : ∀ c, c ≠ 61 → c ≠ 72 → T' c = T1 c) (hk2 : ∀ c, c ≠ 64 → c ≠ 70 → T1 c = T c) (h61 : ∀ i, i ≠ 17 → T' 61 i = T 61 i) (h17 : T' 61 17 = acF T + 1) (h72 : T' 72 = nxNotes T 72) (ha : a < T 61 0) (hak : ACk (T 64 a + 10 * T 70 a) (T1 64 a + 10 * T1 70 a) k b) (hoth : ∀ c, c ≠ a → T1 64 c = T 64 c ∧ T1 70 c = T 70 c) (hFG : FG T' M2) : CX T' p q M2 := by
  have hT := rm_wt hM.1
  have hKS := hKE.2.2.2.2.2
  have h12 := (cb_ac hC.1).2.1
  have hpn := sp_39 (spq_p (cb_pq hC.1))
  have ek : ∀ c, ¬ (5 ≤ c ∧ c ≤ 8) → M1.1 c = M.1 c ∧ M1.2.2 c = M.2.2 c := fun c hc => by
    have h := hKS c (by simp; omega)
    exact ⟨h.1, h.2.2⟩
  have hkk : ∀ c, c ≠ 61 → c ≠ 72 → c ≠ 64 → c ≠ 70 → T' c = T c := fun c q1 q2 q3 q4 => (hk c q1 q2).trans (hk2 c q3 q4)
  have e1 : ∀ c, c < 9 → c ≠ 0 → ¬ (5 ≤ c ∧ c ≤ 8) → M2.1 c = M.1 c := fun c q1 q2 q3 => (hf c q1 q2).trans (ek c q3).1
  refine ⟨cb_x hC.1 (by rw [hr]; exact (ek 0 (by decide)).2) (by rw [hr]; exact (ek 36 (by decide)).2) (by rw [h11, (ek 0 (by decide)).1]) (h61 1 (by decide)) (h61 0 (by decide)) ?_ (co_ag (co_fr (cb_co hC.1) (e1 3 (by decide) (by decide) (by decide)) (e1 4 (by decide) (by decide) (by decide))) (h61 15 (by decide)) (h61 13 (by decide)) (h61 0 (by decide)) (hkk 71 (by decide) (by decide) (by decide) (by decide))) ?_ (fun _ x y z => ⟨?_, ?_, ?_⟩), hFG⟩
  · rw [e1 1 (by decide) (by decide) (by decide), e1 2 (by decide) (by decide) (by decide), h61 21 (by decide), h61 22 (by decide), hkk 75 (by decide) (by decide) (by decide) (by decide)]
    exact hC.1.2.2.2.2.1
  · refine ac_fr (ac_keep (T' := T') (cb_ac hC.1) hKE (h61 0 (by decide)) h17 (fun i c hi hc => ?_) ⟨ha, ?_, fun c _ hne => ?_⟩) (hf 5 (by decide) (by decide)) (hf 6 (by decide) (by decide)) (hf 7 (by decide) (by decide)) (hf 8 (by decide) (by decide))
    · rw [h72]; exact n72 h12 hi (by have := hT.1; omega)
    · rw [hk 64 (by decide) (by decide), hk 70 (by decide) (by decide)]; exact hak
    · rw [hk 64 (by decide) (by decide), hk 70 (by decide) (by decide), (hoth c hne).1, (hoth c hne).2]
  · have h1 : SC T p M1 := sc_fr x (fun c q1 q2 => (ek c (by omega)).1)
    exact sc_ag (hSC h1) (fun i hi => by rw [h61 i (by omega), hk2 61 (by decide) (by decide)]) (fun c q1 q2 => hk c (by omega) (by omega))
  · exact sl_ag (sl_fr y (h9.trans (ek _ (by omega)).1) (h10.trans (ek _ (by omega)).1)) (h61 0 (by decide)) (hkk 62 (by decide) (by decide) (by decide) (by decide))
  · exact nl_ag z (h61 0 (by decide)) (h61 1 (by decide)) (h61 3 (by decide)) (fun i => by rw [hkk 63 (by decide) (by decide) (by decide) (by decide)])
theorem c_cost2 (hM : MS T M) (hC : CX T p q M) {x w : Int32} : Call g qX10_cost [.ref 0, .int x, .int w] M (RtY (mrCost T x w) (nxCost T x w) M) := by
  have hT := rm_wt hM.1
  have hB := ms_B hM
  have h32 := hT.1
  have kun : isAn T x = false → -1000001 = mrCost T x w ∧ T = nxCost T x w := fun e => ⟨by unfold mrCost; rw [if_pos e], by unfold nxCost; rw [if_pos e]⟩
  have kout : isAn T x = true → inI w 0 9 = false → -1000002 = mrCost T x w ∧ T = nxCost T x w := fun e1 e => ⟨by unfold mrCost; rw [if_neg (by rw [e1]; decide), if_pos e], by unfold nxCost; rw [if_neg (by rw [e1]; decide), if_pos e]⟩
  have q1 : w < 0 → inI w 0 9 = false := fun e => by rw [inI_f]; rw [i_lt0] at e; omega
  have q2 : ¬ w ≤ nI 9 → inI w 0 9 = false := fun e => by rw [inI_f]; rw [i_Nle (by decide)] at e; omega
  have K24 : isAn T x = true → ¬ w < 0 → w ≤ nI 9 → Ex g qX10_cost (tm g qX10_cost (RtY (mrCost T x w) (nxCost T x w) M)) 24 [some (.ref 0), some (.int x), some (.int w), none] [] M := fun hx w1 w2 => by
    have hw : inI w 0 9 = true := by rw [inI_t]; rw [i_lt0] at w1; rw [i_Nle (by decide)] at w2; omega
    obtain ⟨v, v1, v2, rfl, v3⟩ := inI_nat hw (by decide)
    have hv9 : v ≤ 9 := by omega
    have ht := isAn_t hC.1 hx
    obtain ⟨a, ha, rfl⟩ := isAn_n hx h32
    have hxn : ¬ isAn T (nI a) = false := by rw [hx]; decide
    have hwn : ¬ inI (nI v) 0 9 = false := by rw [hw]; decide
    have ha31 : a < 2 ^ 31 := by omega
    have hs := spq_p (cb_pq hC.1)
    have hpn := sp_39 hs
    have hscr := cb_scr hC.1
    have hSC := (cb_tld hC.1 ht).1
    have hpr := sc_price hSC ha
    have hwa := wt_a hT ha
    have K : ∀ M1, KE T a 1 (T 64 a) M M1 → RtY (mrCost T (nI a) (nI v)) (nxCost T (nI a) (nI v)) M (some (.int (nI (T 64 a)))) (sI (sI M1 (p + 3) a (nI v)) 0 15 (bI false)) := fun M1 hKE => by
      have hKS := hKE.2.2.2.2.2
      refine rty (by unfold mrCost; rw [if_neg hxn, if_neg hwn, nI_tn ha31]) (show upT (nxNotes T) 64 a v = _ by unfold nxCost; rw [if_neg hxn, if_neg hwn, nI_tn ha31, nI_tn v3]) (p := p) (q := q) (cx_act (T1 := upT T 64 a v) hM hC hKE ht rfl (fun c q1 q2 => by rw [sI_ne q2, sI_ne (by omega)]) (by rw [sI_o (by decide), sI_ne (by omega)]) (by rw [sI_ne (by omega), sI_ne (by omega)]) (by rw [sI_ne (by omega), sI_ne (by omega)]) (fun z => sc_fr (sc_pr z hv9) (fun c _ _ => sI_ne (by omega))) (fun c q1 q2 => ?_) (fun c q1 _ => uk q1) (fun i hi => by rw [uk (by decide)]; exact nn_o (by decide) (fun z => hi z.2)) (by rw [uk (by decide)]; exact nn_a) (by rw [uk (by decide)]) ha (Or.inr ⟨rfl, hwa.2.2.1, ?_⟩) (fun c hc => ⟨upT_ne (fun z => hc z.2), by rw [uk (by decide)]⟩) (fg_pr hC.2 ⟨fun i hi => ?_, fun c hc => ?_⟩ (fun c q1 q2 => ?_) ?_ ?_ ?_ sI_s)) (((F60.s hKS (by decide)).i (by omega)).i (by decide))
      · funext j
        by_cases z : c = 64 ∧ j = a
        · rw [z.1, z.2, upT_at, upT_at]
        · rw [upT_ne z, upT_ne z]; exact nn_o q2 (fun y => q1 y.1)
      · rw [upT_at, uk (by decide)]; omega
      · rw [uk (by decide)]; exact nn_o (by decide) (by omega)
      · rw [uk (by omega)]; exact nn_k (by omega) (by omega)
      · rw [sI_ne q1, sI_ne (by omega), (hKS c (by simp; omega)).1]
      · rw [sI_o (by decide), sI_ne (by omega), (hKS 0 (by decide)).1]
      · rw [sI_o (by decide), sI_ne (by omega), (hKS 0 (by decide)).1]
      · rw [sI_o (by decide), sI_ne (by omega), (hKS 0 (by decide)).1]
    have hscr1 : ∀ M1, KE T a 1 (T 64 a) M M1 → M1.2.2 0 9 = p := fun M1 h => by rw [(h.2.2.2.2.2 0 (by decide)).2.2]; exact hscr
    have K44 : ∀ M1, KE T a 1 (T 64 a) M M1 → Ex g qX10_cost (tm g qX10_cost (RtY (mrCost T (nI a) (nI v)) (nxCost T (nI a) (nI v)) M)) 44 [some (.ref 0), some (.int (nI a)), some (.int (nI v)), some (.int (nI (T 64 a)))] [] M1 := fun M1 hKE => by
      have hsc1 := hscr1 M1 hKE
      have key := K M1 hKE
      refine E_aload_n dX10_cost_44 rfl ?_
      refine E_getM' (ci := 10) (j := 9) (p := p) dX10_cost_45 fkX10_75 rfl (by decide) rfl (by decide) (hsc1) ?_
      refine E_getR' (ci := 8) (j := 2) (p := p+3) dX10_cost_48 fkX10_153 rfl (by decide) (kS hs) (by decide) ((srS hs) 2 (by decide)) ?_
      refine E_iload_n dX10_cost_51 rfl ?_
      refine E_iload_n dX10_cost_52 rfl ?_
      refine E_iastN dX10_cost_53 (kp3 hs) (by omega) (by decide) ?_
      refine E_aload_n dX10_cost_54 rfl ?_
      refine E_iconst (v := nI 0) dX10_cost_55 rfl ?_
      refine E_putZ (ci := 10) (j := 15) dX10_cost_56 fkX10_157 rfl (by decide) rfl (by decide) (Or.inl rfl) ?_
      refine E_iload_n dX10_cost_59 rfl ?_
      refine E_iret dX10_cost_60 rfl ?_
      exact key
    refine E_aload_n dX10_cost_24 rfl ?_
    refine E_getM' (ci := 10) (j := 9) (p := p) dX10_cost_25 fkX10_75 rfl (by decide) rfl (by decide) (hscr) ?_
    refine E_getR' (ci := 8) (j := 2) (p := p+3) dX10_cost_28 fkX10_153 rfl (by decide) (kS hs) (by decide) ((srS hs) 2 (by decide)) ?_
    refine E_iload_n dX10_cost_31 rfl ?_
    refine E_ialdN dX10_cost_32 (kp3 hs) (by omega) (by decide) (hpr) ?_
    refine E_ist_n (i := 3) dX10_cost_33 rfl (by decide) rfl ?_
    refine E_aload_n dX10_cost_34 rfl ?_
    refine E_getR' (ci := 10) (j := 2) (p := 5) dX10_cost_35 fkX10_26 rfl (by decide) rfl (by decide) (rfl) ?_
    refine E_iload_n dX10_cost_38 rfl ?_
    refine E_iconst (v := nI 1) dX10_cost_39 rfl ?_
    refine E_iload_n dX10_cost_40 rfl ?_
    refine E_callV (r := qX0_keep) (ci := 0) dX10_cost_41 mkX10_139 voX0_keep rfl rfl rfl ⟨Nat.le_of_ble_eq_true rfl, Nat.le_of_ble_eq_true rfl, Nat.le_of_ble_eq_true rfl, Nat.le_of_ble_eq_true rfl⟩ (c_keep (cb_ac hC.1)) rfl (Nat.le_of_ble_eq_true rfl) ?_
    rintro _ M1 ⟨rfl, hKE⟩
    exact K44 M1 hKE
  refine Call_of (ls0 := [some (.ref 0), some (.int x), some (.int w), none]) rfl rfl (Nat.le_of_ble_eq_true rfl) ?_
  refine E_aload_n dX10_cost_0 rfl ?_
  refine E_iload_n dX10_cost_1 rfl ?_
  refine E_callV (r := qX10_isAnswer) (ci := 10) dX10_cost_2 mkX10_118 voX10_isAnswer rfl rfl rfl ⟨Nat.le_of_ble_eq_true rfl, Nat.le_of_ble_eq_true rfl, Nat.le_of_ble_eq_true rfl, Nat.le_of_ble_eq_true rfl⟩ (c_isAnswer hC.1 h32) rfl (Nat.le_of_ble_eq_true rfl) ?_
  rintro _ _ ⟨rfl, rfl⟩
  refine E_if_neB (t := 11) dX10_cost_5 (by decide) (fun c5 => ?_) (fun c5 => ?_)
  · skip
    refine E_iload_n dX10_cost_11 rfl ?_
    refine E_if_lt (t := 21) dX10_cost_12 (by decide) (fun c12 => ?_) (fun c12 => ?_)
    · skip
      have key := kout c5 (q1 c12)
      refine E_ldc dX10_cost_21 ckX10_82 ?_
      refine E_iret dX10_cost_23 rfl ?_
      exact rty key.1 key.2 hC F60.rf
    · skip
      refine E_iload_n dX10_cost_15 rfl ?_
      refine E_bipush (v := nI 9) dX10_cost_16 rfl ?_
      refine E_icmp_le (t := 24) dX10_cost_18 (by decide) (fun c18 => ?_) (fun c18 => ?_)
      · skip
        exact K24 c5 c12 c18
      · skip
        have key := kout c5 (q2 c18)
        refine E_ldc dX10_cost_21 ckX10_82 ?_
        refine E_iret dX10_cost_23 rfl ?_
        exact rty key.1 key.2 hC F60.rf
  · skip
    refine E_ldc dX10_cost_8 ckX10_114 ?_
    refine E_iret dX10_cost_10 rfl ?_
    exact rty (kun c5).1 (kun c5).2 hC F60.rf
theorem c_cut (hM : MS T M) (hC : CX T p q M) {x w : Int32} : Call g qX10_cut [.ref 0, .int x, .int w] M (RtY (mrCut T x w) (nxCut T x w) M) := by
  have hT := rm_wt hM.1
  have hB := ms_B hM
  have h32 := hT.1
  have kun : isAn T x = false → -1000001 = mrCut T x w ∧ T = nxCut T x w := fun e => ⟨by unfold mrCut; rw [if_pos e], by unfold nxCut; rw [if_pos e]⟩
  have kout : isAn T x = true → ¬ w = 0 → ¬ w = nI 1 → -1000002 = mrCut T x w ∧ T = nxCut T x w := fun e1 w1 w2 => by
    have e : inI w 0 1 = false := by
      rw [inI_f]
      have h1 : ¬ w.toInt = 0 := fun e => w1 (Int32.toInt_inj.mp e)
      have h2 : ¬ w.toInt = 1 := fun e => w2 (Int32.toInt_inj.mp (e.trans (nI_toInt (by decide)).symm))
      omega
    exact ⟨by unfold mrCut; rw [if_neg (by rw [e1]; decide), if_pos e], by unfold nxCut; rw [if_neg (by rw [e1]; decide), if_pos e]⟩
  have K23 : isAn T x = true → ∀ o, o ≤ 1 → Ex g qX10_cut (tm g qX10_cut (RtY (mrCut T x (nI o)) (nxCut T x (nI o)) M)) 23 [some (.ref 0), some (.int x), some (.int (nI o))] [] M := fun hx o ho => by
    have ho31 : o < 2 ^ 31 := by omega
    have hw : inI (nI o) 0 1 = true := by rw [inI_of ho31, decide_eq_true (by omega)]
    have ht := isAn_t hC.1 hx
    obtain ⟨a, ha, rfl⟩ := isAn_n hx h32
    have hxn : ¬ isAn T (nI a) = false := by rw [hx]; decide
    have hwn : ¬ inI (nI o) 0 1 = false := by rw [hw]; decide
    have ha31 : a < 2 ^ 31 := by omega
    have hs := spq_p (cb_pq hC.1)
    have hpn := sp_39 hs
    have hscr := cb_scr hC.1
    have hSC := (cb_tld hC.1 ht).1
    have hwa := wt_a hT ha
    obtain ⟨C, c1, hcut⟩ := id hSC.2.2.2
    have hcb : (C.testBit a).toNat = T 70 a := by
      rw [hcut.2 a, decide_eq_true ha, Bool.true_and]
      rcases (show T 70 a = 0 ∨ T 70 a = 1 by omega) with e | e <;> rw [e] <;> rfl
    have kno : (C.testBit a).toNat = o → -1000003 = mrCut T (nI a) (nI o) ∧ T = nxCut T (nI a) (nI o) := fun e => by
      rw [hcb] at e
      exact ⟨by unfold mrCut; rw [if_neg hxn, if_neg hwn, nI_tn ha31, nI_tn ho31, if_pos e], by unfold nxCut; rw [if_neg hxn, if_neg hwn, nI_tn ha31, nI_tn ho31, if_pos e]⟩
    have hcS : cutS (upT T 70 a o) (cuS C a o) := cuS_ok hcut ha h32 ho (by rw [uk (by decide)]) (fun i _ => by
      by_cases e : i = a
      · rw [if_pos e, e, upT_at]
      · rw [if_neg e, upT_ne (fun y => e y.2)])
    have hbc : cntN (fun i => (cuS C a o).testBit i) 32 = cntN (fun k => upT T 70 a o 70 k == 1) (T 61 0) := by
      rw [show (fun i => (cuS C a o).testBit i) = (fun i => decide (i < T 61 0) && (upT T 70 a o 70 i == 1)) from funext (fun i => by rw [hcS.2 i, uk (by decide)])]
      exact cnt_cut h32
    have hcn := cnt_not (f := fun k => upT T 70 a o 70 k == 1) (T 61 0)
    have K : ¬ T 70 a = o → ∀ M1, KE T a 0 (1 - o) M M1 → RtY (mrCut T (nI a) (nI o)) (nxCut T (nI a) (nI o)) M (some (.int (nI (T 61 0 - cntN (fun i => (cuS C a o).testBit i) 32)))) (sI (sI M1 p 14 (nI (cuS C a o))) 0 12 (bI false)) := fun hne M1 hKE => by
      have hKS := hKE.2.2.2.2.2
      have hM1 : M1.1 p 14 = nI C := by rw [(hKS p (by simp; omega)).1]; exact c1
      refine rty (by rw [hbc]; unfold mrCut; rw [if_neg hxn, if_neg hwn, nI_tn ha31, nI_tn ho31, if_neg hne]; congr 1; omega) (show upT (nxNotes T) 70 a o = _ by unfold nxCut nxCutT; rw [if_neg hxn, if_neg hwn, nI_tn ha31, nI_tn ho31, if_neg hne]) (p := p) (q := q) (cx_act (T1 := upT T 70 a o) hM hC hKE ht rfl (fun c q1 q2 => by rw [sI_ne q2, sI_ne (by omega)]) (by rw [sI_o (by decide), sI_ne (by omega)]) (by rw [sI_ne (by omega), sI_ne (by omega)]) (by rw [sI_ne (by omega), sI_ne (by omega)]) (fun z => sc_fr (sc_cu z hM1 hcut ha ho) (fun c _ _ => sI_ne (by omega))) (fun c q1 q2 => ?_) (fun c _ q1 => uk q1) (fun i hi => by rw [uk (by decide)]; exact nn_o (by decide) (fun z => hi z.2)) (by rw [uk (by decide)]; exact nn_a) (by rw [uk (by decide)]) ha (Or.inl ⟨rfl, by omega, ?_⟩) (fun c hc => ⟨by rw [uk (by decide)], upT_ne (fun z => hc z.2)⟩) (fg_st hC.2 sI_s ?_ ?_ ?_)) (((F60.s hKS (by decide)).i (by omega)).i (by decide))
      · funext j
        by_cases z : c = 70 ∧ j = a
        · rw [z.1, z.2, upT_at, upT_at]
        · rw [upT_ne z, upT_ne z]; exact nn_o q2 (fun y => q1 y.1)
      · rw [upT_at, uk (by decide)]; omega
      · rw [sI_o (by decide), sI_ne (by omega), (hKS 0 (by decide)).1]
      · rw [sI_o (by decide), sI_ne (by omega), (hKS 0 (by decide)).1]
      · rw [sI_o (by decide), sI_ne (by omega), (hKS 0 (by decide)).1]
    have K53 : ¬ T 70 a = o → ∀ M1, KE T a 0 (1 - o) M M1 → Ex g qX10_cut (tm g qX10_cut (RtY (mrCut T (nI a) (nI o)) (nxCut T (nI a) (nI o)) M)) 53 [some (.ref 0), some (.int (nI a)), some (.int (nI o))] [] M1 := fun hne M1 hKE => by
      have hKS := hKE.2.2.2.2.2
      have hM1 : M1.1 p 14 = nI C := by rw [(hKS p (by simp; omega)).1]; exact c1
      have hsc1 : M1.2.2 0 9 = p := by rw [(hKS 0 (by decide)).2.2]; exact hscr
      have key := K hne M1 hKE
      have han : (sI (sI M1 p 14 (nI (cuS C a o))) 0 12 (bI false)).1 p 10 = nI (T 61 0) := by
        rw [sI_ne (by omega), sI_o (by omega), (hKS p (by simp; omega)).1]; exact sc_6 hSC (j := 0) (by decide)
      have hcu : (sI (sI M1 p 14 (nI (cuS C a o))) 0 12 (bI false)).1 p 14 = nI (cuS C a o) := by rw [sI_ne (by omega), sI_s]
      refine E_aload_n dX10_cut_53 rfl ?_
      refine E_getM' (ci := 10) (j := 9) (p := p) dX10_cut_54 fkX10_75 rfl (by decide) rfl (by decide) (hsc1) ?_
      refine E_iload_n dX10_cut_57 rfl ?_
      refine E_iload_n dX10_cut_58 rfl ?_
      refine E_callV (r := qX8_setCut) (ci := 8) dX10_cut_59 mkX10_143 voX8_setCut rfl (kS hs) rfl ⟨Nat.le_of_ble_eq_true rfl, Nat.le_of_ble_eq_true rfl, Nat.le_of_ble_eq_true rfl, Nat.le_of_ble_eq_true rfl⟩ (c_setCut hs hM1 (by omega) ho) rfl (Nat.le_of_ble_eq_true rfl) ?_
      rintro _ _ ⟨rfl, rfl⟩
      refine E_aload_n dX10_cut_62 rfl ?_
      refine E_iconst (v := nI 0) dX10_cut_63 rfl ?_
      refine E_putZ (ci := 10) (j := 12) dX10_cut_64 fkX10_105 rfl (by decide) rfl (by decide) (Or.inl rfl) ?_
      refine E_aload_n dX10_cut_67 rfl ?_
      refine E_getM' (ci := 10) (j := 9) (p := p) dX10_cut_68 fkX10_75 rfl (by decide) rfl (by decide) (hsc1) ?_
      refine E_getI' (ci := 8) (j := 10) dX10_cut_71 fkX10_108 rfl (by decide) (kS hs) (by decide) (han) ?_
      refine E_aload_n dX10_cut_74 rfl ?_
      refine E_getM' (ci := 10) (j := 9) (p := p) dX10_cut_75 fkX10_75 rfl (by decide) rfl (by decide) (hsc1) ?_
      refine E_getI' (ci := 8) (j := 14) dX10_cut_78 fkX10_132 rfl (by decide) (kS hs) (by decide) (hcu) ?_
      refine E_callS (r := qJ6_bitCount_0f7a4) dX10_cut_81 mkX10_147 toJ6_bitCount_0f7a4 rfl ⟨Nat.le_of_ble_eq_true rfl, Nat.le_of_ble_eq_true rfl, Nat.le_of_ble_eq_true rfl, Nat.le_of_ble_eq_true rfl⟩ (c_bitCount hcS.1) rfl (Nat.le_of_ble_eq_true rfl) ?_
      rintro _ _ ⟨rfl, rfl⟩
      refine E_isubN dX10_cut_84 (by omega) ?_
      refine E_iret dX10_cut_85 rfl ?_
      exact key
    refine E_aload_n dX10_cut_23 rfl ?_
    refine E_getM' (ci := 10) (j := 9) (p := p) dX10_cut_24 fkX10_75 rfl (by decide) rfl (by decide) (hscr) ?_
    refine E_getI' (ci := 8) (j := 14) dX10_cut_27 fkX10_132 rfl (by decide) (kS hs) (by decide) (c1) ?_
    refine E_iload_n dX10_cut_30 rfl ?_
    refine E_callS (r := qX10_bit) dX10_cut_31 mkX10_135 toX10_bit rfl ⟨Nat.le_of_ble_eq_true rfl, Nat.le_of_ble_eq_true rfl, Nat.le_of_ble_eq_true rfl, Nat.le_of_ble_eq_true rfl⟩ (c_bit (by omega)) rfl (Nat.le_of_ble_eq_true rfl) ?_
    rintro _ _ ⟨rfl, rfl⟩
    refine E_top (bI_nI _) ?_
    refine E_iload_n dX10_cut_34 rfl ?_
    refine E_icmp_neN (t := 41) dX10_cut_35 (by decide) (by omega) (by omega) (fun c35 => ?_) (fun c35 => ?_)
    · skip
      refine E_aload_n dX10_cut_41 rfl ?_
      refine E_getR' (ci := 10) (j := 2) (p := 5) dX10_cut_42 fkX10_26 rfl (by decide) rfl (by decide) (rfl) ?_
      refine E_iload_n dX10_cut_45 rfl ?_
      refine E_iconst (v := nI 0) dX10_cut_46 rfl ?_
      refine E_iconst (v := nI 1) dX10_cut_47 rfl ?_
      refine E_iload_n dX10_cut_48 rfl ?_
      refine E_isubN dX10_cut_49 ho ?_
      refine E_callV (r := qX0_keep) (ci := 0) dX10_cut_50 mkX10_139 voX0_keep rfl rfl rfl ⟨Nat.le_of_ble_eq_true rfl, Nat.le_of_ble_eq_true rfl, Nat.le_of_ble_eq_true rfl, Nat.le_of_ble_eq_true rfl⟩ (c_keep (cb_ac hC.1)) rfl (Nat.le_of_ble_eq_true rfl) ?_
      rintro _ M1 ⟨rfl, hKE⟩
      exact K53 (by rw [← hcb]; exact c35) M1 hKE
    · skip
      refine E_ldc dX10_cut_38 ckX10_124 ?_
      refine E_iret dX10_cut_40 rfl ?_
      exact rty (kno c35).1 (kno c35).2 hC F60.rf
  refine Call_of (ls0 := [some (.ref 0), some (.int x), some (.int w)]) rfl rfl (Nat.le_of_ble_eq_true rfl) ?_
  refine E_aload_n dX10_cut_0 rfl ?_
  refine E_iload_n dX10_cut_1 rfl ?_
  refine E_callV (r := qX10_isAnswer) (ci := 10) dX10_cut_2 mkX10_118 voX10_isAnswer rfl rfl rfl ⟨Nat.le_of_ble_eq_true rfl, Nat.le_of_ble_eq_true rfl, Nat.le_of_ble_eq_true rfl, Nat.le_of_ble_eq_true rfl⟩ (c_isAnswer hC.1 h32) rfl (Nat.le_of_ble_eq_true rfl) ?_
  rintro _ _ ⟨rfl, rfl⟩
  refine E_if_neB (t := 11) dX10_cut_5 (by decide) (fun c5 => ?_) (fun c5 => ?_)
  · skip
    refine E_iload_n dX10_cut_11 rfl ?_
    refine E_if_eq (t := 23) dX10_cut_12 (by decide) (fun c12 => ?_) (fun c12 => ?_)
    · skip
      subst c12
      have key := K23 c5 0 (by decide)
      exact key
    · skip
      refine E_iload_n dX10_cut_15 rfl ?_
      refine E_iconst (v := nI 1) dX10_cut_16 rfl ?_
      refine E_icmp_eq (t := 23) dX10_cut_17 (by decide) (fun c17 => ?_) (fun c17 => ?_)
      · skip
        subst c17
        have key := K23 c5 1 (by decide)
        exact key
      · skip
        refine E_ldc dX10_cut_20 ckX10_82 ?_
        refine E_iret dX10_cut_22 rfl ?_
        exact rty (kout c5 c12 c17).1 (kout c5 c12 c17).2 hC F60.rf
  · skip
    refine E_ldc dX10_cut_8 ckX10_114 ?_
    refine E_iret dX10_cut_10 rfl ?_
    exact rty (kun c5).1 (kun c5).2 hC F60.rf
end PU6
