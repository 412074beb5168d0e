-- the class's public methods: write, begin, take, back
section PU5
variable {g : GG} {M : AM} {T : TK} {p q : Nat}
theorem u1 {T : TK} {j v k i : Nat} (h : k ≠ 61) : upT T 61 j v k i = T k i := upT_ne (fun e => h e.1)
theorem uk {T : TK} {k j v k' : Nat} (h : k' ≠ k) : upT T k j v k' = T k' := funext (fun i => upT_ne (fun e => h e.1))
theorem u6 {T : TK} {j v i : Nat} (h : i ≠ j) : upT T 61 j v 61 i = T 61 i := upT_ne (fun e => h e.2)
theorem c_write (hM : MS T M) (hC : CX T p q M) {x : Int32} : Call g qX10_write [.ref 0, .int x] M (RtY (mrWrite T x) (nxWrite T x) M) := by
  have hT := rm_wt hM.1
  have hB := ms_B hM
  have h200 : T 61 21 ≤ 200 := hM.2.2.2.2.2.1
  have q1 : x < 0 → inI x 0 255 = false := fun e => by rw [inI_f]; rw [i_lt0] at e; omega
  have q2 : ¬ x ≤ nI 255 → inI x 0 255 = false := fun e => by rw [inI_f]; rw [i_Nle (by decide)] at e; omega
  have kout : inI x 0 255 = false → -1000002 = mrWrite T x ∧ T = nxWrite T x := fun e => ⟨by unfold mrWrite; rw [if_pos e], by unfold nxWrite; rw [if_pos e]⟩
  have K14 : ¬ x < 0 → x ≤ nI 255 → Ex g qX10_write (tm g qX10_write (RtY (mrWrite T x) (nxWrite T x) M)) 14 [some (.ref 0), some (.int x)] [] M := fun x1 x2 => by
    have hx : inI x 0 255 = true := by rw [inI_t]; rw [i_lt0] at x1; rw [i_Nle (by decide)] at x2; omega
    obtain ⟨j, j1, j2, rfl, j3⟩ := inI_nat hx (by decide)
    have hxn : ¬ inI (nI j) 0 255 = false := by rw [hx]; decide
    have hsz := cb_siz hC.1
    have KF : ¬ T 61 21 < 200 → RtY (mrWrite T (nI j)) (nxWrite T (nI j)) M (some (.int (-1000004))) M := fun e => rty (by unfold mrWrite; rw [if_neg hxn, if_pos (by omega)]) (by unfold nxWrite; rw [if_neg hxn, if_pos (by omega)]) hC F60.rf
    have KT : T 61 21 < 200 → RtY (mrWrite T (nI j)) (nxWrite T (nI j)) M (some (.int (nI (T 61 21 + 1)))) (sI (sI M 2 (T 61 21) (nI j)) 1 1 (nI (T 61 21 + 1))) := fun e => by
      have hn : upT (upT T 75 (T 61 21) j) 61 21 (T 61 21 + 1) = nxWrite T (nI j) := by unfold nxWrite; rw [if_neg hxn, if_neg (by omega), nI_tn j3]
      refine rty (by unfold mrWrite; rw [if_neg hxn, if_neg (by omega)]) hn (p := p) (q := q) ?_ ((F60.rf.i (by decide)).i (by decide))
      have hne : ∀ k, k ≠ 1 → k ≠ 2 → (sI (sI M 2 (T 61 21) (nI j)) 1 1 (nI (T 61 21 + 1))).1 k = M.1 k := fun k a b => by rw [sI_ne a, sI_ne b]
      have h61 : ∀ i, i ≠ 21 → upT (upT T 75 (T 61 21) j) 61 21 (T 61 21 + 1) 61 i = T 61 i := fun i hi => by rw [u6 hi, uk (by decide)]
      have hk : ∀ k, k ≠ 61 → k ≠ 75 → upT (upT T 75 (T 61 21) j) 61 21 (T 61 21 + 1) k = T k := fun k a b => by rw [uk a, uk b]
      have hpn := sp_39 (spq_p (cb_pq hC.1))
      refine ⟨cb_x hC.1 rfl rfl (by rw [hne 0 (by decide) (by decide)]) (h61 1 (by decide)) (h61 0 (by decide)) ⟨?_, fun i hi => ?_, ?_⟩ (co_ag (co_fr (cb_co hC.1) (hne 3 (by decide) (by decide)) (hne 4 (by decide) (by decide))) (h61 15 (by decide)) (h61 13 (by decide)) (h61 0 (by decide)) (hk 71 (by decide) (by decide))) (ac_ag (ac_fr (cb_ac hC.1) (hne 5 (by decide) (by decide)) (hne 6 (by decide) (by decide)) (hne 7 (by decide) (by decide)) (hne 8 (by decide) (by decide))) (h61 17 (by decide)) (h61 0 (by decide)) (hk 72 (by decide) (by decide)) (hk 64 (by decide) (by decide)) (hk 70 (by decide) (by decide))) (fun _ a b c => ⟨sc_ag (sc_fr a (fun k q1 q2 => hne k (by omega) (by omega))) (fun i hi => h61 i (by omega)) (fun k q1 q2 => hk k (by omega) (by omega)), sl_ag (sl_fr b (hne _ (by omega) (by omega)) (hne _ (by omega) (by omega))) (h61 0 (by decide)) (hk 62 (by decide) (by decide)), nl_ag c (h61 0 (by decide)) (h61 1 (by decide)) (h61 3 (by decide)) (fun i => by rw [hk 63 (by decide) (by decide)])⟩), fg_ag hT hB ⟨fun i hi => h61 i (by omega), fun k hk2 => hk k (by omega) (by omega)⟩ (hk 64 (by decide) (by decide)) (fg_fr hC.2 (fun k hk2 => hne k (by omega) (by omega)))⟩
      · rw [sI_s, upT_at]
      · rw [upT_at] at hi
        rw [sI_ne (by decide), u1 (by decide)]
        by_cases z : i = T 61 21
        · rw [z, sI_s, upT_at]
        · rw [sI_o (fun y => z y.2), upT_ne (fun y => z y.2)]; exact cb_let hC.1 i (by omega)
      · rw [sI_o (by decide), sI_ne (by decide), h61 22 (by decide)]; exact cb_fau hC.1
    refine E_aload_n dX10_write_14 rfl ?_
    refine E_getR' (ci := 10) (j := 0) (p := 1) dX10_write_15 fkX10_10 rfl (by decide) rfl (by decide) (rfl) ?_
    refine E_iload_n dX10_write_18 rfl ?_
    refine E_callV (r := qX6_append) (ci := 6) dX10_write_19 mkX10_83 voX6_append rfl rfl rfl ⟨Nat.le_of_ble_eq_true rfl, Nat.le_of_ble_eq_true rfl, Nat.le_of_ble_eq_true rfl, Nat.le_of_ble_eq_true rfl⟩ (c_append hsz h200) rfl (Nat.le_of_ble_eq_true rfl) ?_
    rintro _ M2 ⟨rfl, hM2⟩
    refine E_if_eqB (t := 35) dX10_write_22 (by decide) (fun c22 => ?_) (fun c22 => ?_)
    · skip
      have e22 := of_decide_eq_false c22
      rw [if_neg e22] at hM2
      subst hM2
      have key := KF e22
      refine E_ldc dX10_write_35 ckX10_91 ?_
      refine E_iret dX10_write_37 rfl ?_
      exact key
    · skip
      have e22 := of_decide_eq_true c22
      rw [if_pos e22] at hM2
      subst hM2
      have key := KT e22
      refine E_aload_n dX10_write_25 rfl ?_
      refine E_getR' (ci := 10) (j := 0) (p := 1) dX10_write_26 fkX10_10 rfl (by decide) rfl (by decide) (rfl) ?_
      refine E_getI' (ci := 6) (j := 1) dX10_write_29 fkX10_87 rfl (by decide) rfl (by decide) (sI_s) ?_
      refine E_goto (t := 37) dX10_write_32 (by decide) ?_
      refine E_iret dX10_write_37 rfl ?_
      exact key
  refine Call_of (ls0 := [some (.ref 0), some (.int x)]) rfl rfl (Nat.le_of_ble_eq_true rfl) ?_
  refine E_iload_n dX10_write_0 rfl ?_
  refine E_if_lt (t := 11) dX10_write_1 (by decide) (fun c1 => ?_) (fun c1 => ?_)
  · skip
    have key := kout (q1 c1)
    refine E_ldc dX10_write_11 ckX10_82 ?_
    refine E_iret dX10_write_13 rfl ?_
    exact rty key.1 key.2 hC F60.rf
  · skip
    refine E_iload_n dX10_write_4 rfl ?_
    refine E_sipush (v := nI 255) dX10_write_5 rfl ?_
    refine E_icmp_le (t := 14) dX10_write_8 (by decide) (fun c8 => ?_) (fun c8 => ?_)
    · skip
      exact K14 c1 c8
    · skip
      have key := kout (q2 c8)
      refine E_ldc dX10_write_11 ckX10_82 ?_
      refine E_iret dX10_write_13 rfl ?_
      exact rty key.1 key.2 hC F60.rf
theorem c_begin (hM : MS T M) (hC : CX T p q M) {x : Int32} : Call g qX10_begin [.ref 0, .int x] M (RtY (mrBegin T x) (nxBegin T x) M) := by
  have hT := rm_wt hM.1
  have hB := ms_B hM
  have htol := cb_tol hC.1
  have hs := spq_p (cb_pq hC.1)
  have kun : tlk T = false → -1000001 = mrBegin T x ∧ T = nxBegin T x := fun e => ⟨by unfold mrBegin; rw [if_pos e], by unfold nxBegin; rw [if_pos e]⟩
  have kout : tlk T = true → inI x 0 63 = false → -1000002 = mrBegin T x ∧ T = nxBegin T x := fun e1 e => ⟨by unfold mrBegin; rw [if_neg (by rw [e1]; decide), if_pos e], by unfold nxBegin; rw [if_neg (by rw [e1]; decide), if_pos e]⟩
  have q1 : x < 0 → inI x 0 63 = false := fun e => by rw [inI_f]; rw [i_lt0] at e; omega
  have q2 : ¬ x < nI 64 → inI x 0 63 = false := fun e => by rw [inI_f]; rw [i_ltN (by decide)] at e; omega
  have K23 : tlk T = true → ¬ x < 0 → x < nI 64 → Ex g qX10_begin (tm g qX10_begin (RtY (mrBegin T x) (nxBegin T x) M)) 23 [some (.ref 0), some (.int x)] [] M := fun ht x1 x2 => by
    have hx : inI x 0 63 = true := by rw [inI_t]; rw [i_lt0] at x1; rw [i_ltN (by decide)] at x2; omega
    obtain ⟨m, m1, m2, rfl, m3⟩ := inI_nat hx (by decide)
    have hSC := (cb_tld hC.1 ht).1
    let M2 := sI (sI (sI M 3 2 (nI m)) 3 1 (nI 0)) 0 12 (bI false)
    have hne : ∀ k, k ≠ 0 → k ≠ 3 → M2.1 k = M.1 k := fun k a b => by show (sI (sI (sI M 3 2 (nI m)) 3 1 (nI 0)) 0 12 (bI false)).1 k = _; rw [sI_ne a, sI_ne b, sI_ne b]
    have h0j : ∀ j, j ≠ 12 → M2.1 0 j = M.1 0 j := fun j hj => by show (sI (sI (sI M 3 2 (nI m)) 3 1 (nI 0)) 0 12 (bI false)).1 0 j = _; rw [sI_o (fun y => hj y.2), sI_o (by omega), sI_o (by omega)]
    have hpn := sp_39 hs
    have hscr : M2.2.2 0 9 = p := (show M.2.2 0 9 = p from cb_scr hC.1)
    have hst : M2.1 p 13 = nI (T 61 3) := by rw [hne p (by omega) (by omega)]; exact sc_6 hSC (j := 3) (by decide)
    have h61 : ∀ i, i ≠ 13 → i ≠ 15 → upT (upT T 61 13 m) 61 15 0 61 i = T 61 i := fun i a b => by rw [u6 b, u6 a]
    have hk : ∀ k, k ≠ 61 → upT (upT T 61 13 m) 61 15 0 k = T k := fun k a => by rw [uk a, uk a]
    have key : RtY (mrBegin T (nI m)) (nxBegin T (nI m)) M (some (.int (nI (T 61 3)))) M2 := by
      refine rty (by unfold mrBegin; rw [if_neg (by rw [ht]; decide), if_neg (by rw [hx]; decide)]) (show upT (upT T 61 13 m) 61 15 0 = nxBegin T (nI m) by unfold nxBegin; rw [if_neg (by rw [ht]; decide), if_neg (by rw [hx]; decide), nI_tn m3]) (p := p) (q := q) ?_ (((F60.rf.i (by decide)).i (by decide)).i (by decide))
      refine ⟨cb_x hC.1 rfl rfl (h0j 11 (by decide)) (h61 1 (by decide) (by decide)) (h61 0 (by decide) (by decide)) ?_ ⟨?_, ?_, ?_, ?_, fun i hi => ?_⟩ (ac_ag (ac_fr (cb_ac hC.1) (hne 5 (by decide) (by decide)) (hne 6 (by decide) (by decide)) (hne 7 (by decide) (by decide)) (hne 8 (by decide) (by decide))) (h61 17 (by decide) (by decide)) (h61 0 (by decide) (by decide)) (hk 72 (by decide)) (hk 64 (by decide)) (hk 70 (by decide))) (fun _ a b c => ⟨sc_ag (sc_fr a (fun k q1 q2 => hne k (by omega) (by omega))) (fun i hi => h61 i (by omega) (by omega)) (fun k q1 q2 => hk k (by omega)), sl_ag (sl_fr b (hne _ (by omega) (by omega)) (hne _ (by omega) (by omega))) (h61 0 (by decide) (by decide)) (hk 62 (by decide)), nl_ag c (h61 0 (by decide) (by decide)) (h61 1 (by decide) (by decide)) (h61 3 (by decide) (by decide)) (fun i => by rw [hk 63 (by decide)])⟩), fg_st hC.2 ?_ (h0j 13 (by decide)) (h0j 14 (by decide)) (h0j 15 (by decide))⟩
      · rw [hne 1 (by decide) (by decide), hne 2 (by decide) (by decide), h61 21 (by decide) (by decide), h61 22 (by decide) (by decide), hk 75 (by decide)]
        exact hC.1.2.2.2.2.1
      · show (sI (sI (sI M 3 2 (nI m)) 3 1 (nI 0)) 0 12 (bI false)).1 3 1 = _
        rw [sI_ne (by decide), sI_s, upT_at]
      · rw [upT_at]; decide
      · show (sI (sI (sI M 3 2 (nI m)) 3 1 (nI 0)) 0 12 (bI false)).1 3 2 = _
        rw [sI_ne (by decide), sI_o (by decide), sI_s, u6 (by decide), upT_at]
      · rw [u6 (by decide), upT_at]; omega
      · rw [upT_at] at hi; exact absurd hi (Nat.not_lt_zero i)
      · show (sI (sI (sI M 3 2 (nI m)) 3 1 (nI 0)) 0 12 (bI false)).1 0 12 = _
        rw [sI_s]
    refine E_aload_n dX10_begin_23 rfl ?_
    refine E_getR' (ci := 10) (j := 1) (p := 3) dX10_begin_24 fkX10_19 rfl (by decide) rfl (by decide) (rfl) ?_
    refine E_iload_n dX10_begin_27 rfl ?_
    refine E_callV (r := qX1_restart) (ci := 1) dX10_begin_28 mkX10_101 voX1_restart rfl rfl rfl ⟨Nat.le_of_ble_eq_true rfl, Nat.le_of_ble_eq_true rfl, Nat.le_of_ble_eq_true rfl, Nat.le_of_ble_eq_true rfl⟩ (c_restart) rfl (Nat.le_of_ble_eq_true rfl) ?_
    rintro _ _ ⟨rfl, rfl⟩
    refine E_aload_n dX10_begin_31 rfl ?_
    refine E_iconst (v := nI 0) dX10_begin_32 rfl ?_
    refine E_putZ (ci := 10) (j := 12) dX10_begin_33 fkX10_105 rfl (by decide) rfl (by decide) (Or.inl rfl) ?_
    refine E_aload_n dX10_begin_36 rfl ?_
    refine E_getM' (ci := 10) (j := 9) (p := p) dX10_begin_37 fkX10_75 rfl (by decide) rfl (by decide) (hscr) ?_
    refine E_getI' (ci := 8) (j := 13) dX10_begin_40 fkX10_115 rfl (by decide) (kS hs) (by decide) (hst) ?_
    refine E_iret dX10_begin_43 rfl ?_
    exact key
  refine Call_of (ls0 := [some (.ref 0), some (.int x)]) rfl rfl (Nat.le_of_ble_eq_true rfl) ?_
  refine E_aload_n dX10_begin_0 rfl ?_
  refine E_getI' (ci := 10) (j := 11) dX10_begin_1 fkX10_96 rfl (by decide) rfl (by decide) (htol) ?_
  refine E_if_neB (t := 10) dX10_begin_4 (by decide) (fun c4 => ?_) (fun c4 => ?_)
  · skip
    refine E_iload_n dX10_begin_10 rfl ?_
    refine E_if_lt (t := 20) dX10_begin_11 (by decide) (fun c11 => ?_) (fun c11 => ?_)
    · skip
      have key := kout c4 (q1 c11)
      refine E_ldc dX10_begin_20 ckX10_82 ?_
      refine E_iret dX10_begin_22 rfl ?_
      exact rty key.1 key.2 hC F60.rf
    · skip
      refine E_iload_n dX10_begin_14 rfl ?_
      refine E_bipush (v := nI 64) dX10_begin_15 rfl ?_
      refine E_icmp_lt (t := 23) dX10_begin_17 (by decide) (fun c17 => ?_) (fun c17 => ?_)
      · skip
        exact K23 c4 c11 c17
      · skip
        have key := kout c4 (q2 c17)
        refine E_ldc dX10_begin_20 ckX10_82 ?_
        refine E_iret dX10_begin_22 rfl ?_
        exact rty key.1 key.2 hC F60.rf
  · skip
    refine E_ldc dX10_begin_7 ckX10_114 ?_
    refine E_iret dX10_begin_9 rfl ?_
    exact rty (kun c4).1 (kun c4).2 hC F60.rf
/-- steps changed -/
theorem cx_steps {M' : AM} {T' : TK} (hM : MS T M) (hC : CX T p q M) (hco : CO T' M') (hr : M'.2.2 = M.2.2) (hne : ∀ k, k ≠ 3 → k ≠ 4 → M'.1 k = M.1 k) (h61 : ∀ i, i ≠ 15 → T' 61 i = T 61 i) (hk : ∀ k, k ≠ 61 → k ≠ 71 → T' k = T k) : CX T' p q M' := by
  have hT := rm_wt hM.1
  have hB := ms_B hM
  have hpn := sp_39 (spq_p (cb_pq hC.1))
  refine ⟨cb_x hC.1 (by rw [hr]) (by rw [hr]) (by rw [hne 0 (by decide) (by decide)]) (h61 1 (by decide)) (h61 0 (by decide)) ?_ hco (ac_ag (ac_fr (cb_ac hC.1) (hne 5 (by decide) (by decide)) (hne 6 (by decide) (by decide)) (hne 7 (by decide) (by decide)) (hne 8 (by decide) (by decide))) (h61 17 (by decide)) (h61 0 (by decide)) (hk 72 (by decide) (by decide)) (hk 64 (by decide) (by decide)) (hk 70 (by decide) (by decide))) (fun _ a b c => ⟨sc_ag (sc_fr a (fun k q1 q2 => hne k (by omega) (by omega))) (fun i hi => h61 i (by omega)) (fun k q1 q2 => hk k (by omega) (by omega)), sl_ag (sl_fr b (hne _ (by omega) (by omega)) (hne _ (by omega) (by omega))) (h61 0 (by decide)) (hk 62 (by decide) (by decide)), nl_ag c (h61 0 (by decide)) (h61 1 (by decide)) (h61 3 (by decide)) (fun i => by rw [hk 63 (by decide) (by decide)])⟩), fg_ag hT hB ⟨fun i hi => h61 i (by omega), fun k hk2 => hk k (by omega) (by omega)⟩ (hk 64 (by decide) (by decide)) (fg_fr hC.2 (fun k hk2 => hne k (by omega) (by omega)))⟩
  rw [hne 1 (by decide) (by decide), hne 2 (by decide) (by decide), h61 21 (by decide), h61 22 (by decide), hk 75 (by decide) (by decide)]
  exact hC.1.2.2.2.2.1
theorem c_take (hM : MS T M) (hC : CX T p q M) {x : Int32} : Call g qX10_take [.ref 0, .int x] M (RtY (mrTake T x) (nxTake T x) M) := by
  have hT := rm_wt hM.1
  have hB := ms_B hM
  have h32 := hT.1
  have hher := her_lt hM
  have kun : isAn T x = false → -1000001 = mrTake T x ∧ T = nxTake T x := fun e => ⟨by unfold mrTake; rw [if_pos e], by unfold nxTake; rw [if_pos e]⟩
  have K11 : isAn T x = true → Ex g qX10_take (tm g qX10_take (RtY (mrTake T x) (nxTake T x) M)) 11 [some (.ref 0), some (.int x)] [] M := fun hx => by
    have ht := isAn_t hC.1 hx
    obtain ⟨a, ha, rfl⟩ := isAn_n hx h32
    have hxn : ¬ isAn T (nI a) = false := by rw [hx]; decide
    have ha31 : a < 2 ^ 31 := by omega
    have hs := spq_p (cb_pq hC.1)
    have hSC := (cb_tld hC.1 ht).1
    have hCO := cb_co hC.1
    have h60 := hCO.2.1
    have kn : opn T a (her T) 0 = false → -1000003 = mrTake T (nI a) ∧ T = nxTake T (nI a) := fun e => ⟨by unfold mrTake; rw [if_neg hxn, nI_tn ha31, if_pos e], by unfold nxTake; rw [if_neg hxn, nI_tn ha31, if_pos e]⟩
    have KF : opn T a (her T) 0 = true → ¬ T 61 15 < 60 → RtY (mrTake T (nI a)) (nxTake T (nI a)) M (some (.int (-1000004))) M := fun e1 e => rty (by unfold mrTake; rw [if_neg hxn, nI_tn ha31, if_neg (by rw [e1]; decide), if_pos (by omega)]) (by unfold nxTake; rw [if_neg hxn, nI_tn ha31, if_neg (by rw [e1]; decide), if_pos (by omega)]) hC F60.rf
    let T2 := upT (upT T 71 (T 61 15) a) 61 15 (T 61 15 + 1)
    let M2 := sI (sI M 4 (T 61 15) (nI a)) 3 1 (nI (T 61 15 + 1))
    have hne : ∀ k, k ≠ 3 → k ≠ 4 → M2.1 k = M.1 k := fun k q1 q2 => by show (sI (sI M 4 (T 61 15) (nI a)) 3 1 (nI (T 61 15 + 1))).1 k = _; rw [sI_ne q1, sI_ne q2]
    have h61 : ∀ i, i ≠ 15 → T2 61 i = T 61 i := fun i hi => by show upT (upT T 71 (T 61 15) a) 61 15 (T 61 15 + 1) 61 i = _; rw [u6 hi, uk (by decide)]
    have hk : ∀ k, k ≠ 61 → k ≠ 71 → T2 k = T k := fun k q1 q2 => by show upT (upT T 71 (T 61 15) a) 61 15 (T 61 15 + 1) k = _; rw [uk q1, uk q2]
    have h15 : T2 61 15 = T 61 15 + 1 := upT_at
    have CK : T 61 15 < 60 → CX T2 p q M2 := fun e => by
      refine cx_steps hM hC ⟨?_, ?_, ?_, ?_, fun i hi => ?_⟩ rfl hne h61 hk
      · rw [h15]; exact sI_s
      · rw [h15]; omega
      · rw [h61 13 (by decide)]
        show (sI (sI M 4 (T 61 15) (nI a)) 3 1 (nI (T 61 15 + 1))).1 3 2 = _
        rw [sI_o (by decide), sI_ne (by decide)]; exact hCO.2.2.1
      · rw [h61 13 (by decide)]; exact hCO.2.2.2.1
      · rw [h15] at hi
        rw [h61 0 (by decide)]
        show (sI (sI M 4 (T 61 15) (nI a)) 3 1 (nI (T 61 15 + 1))).1 4 i = nI (upT (upT T 71 (T 61 15) a) 61 15 (T 61 15 + 1) 71 i) ∧ upT (upT T 71 (T 61 15) a) 61 15 (T 61 15 + 1) 71 i < T 61 0
        rw [sI_ne (by decide), u1 (by decide)]
        by_cases z : i = T 61 15
        · rw [z, sI_s, upT_at]; exact ⟨rfl, ha⟩
        · rw [sI_o (fun y => z y.2), upT_ne (fun y => z y.2)]; exact hCO.2.2.2.2 i (by omega)
    have hhl : herN T2 (T2 61 15) / 64 = T 63 a := by
      rw [h15]
      show nxt T2 (T2 71 (T 61 15)) (herN T2 (T 61 15)) / 64 = T 63 a
      have e71 : T2 71 (T 61 15) = a := by show upT (upT T 71 (T 61 15) a) 61 15 (T 61 15 + 1) 71 (T 61 15) = a; rw [u1 (by decide), upT_at]
      have hT2 : WT T2 := wt_v hT (fun i hi => h61 i (by omega)) (fun k q1 q2 _ _ j _ => by rw [hk k (by omega) (by omega)]) (hk 66 (by decide) (by decide)) (hk 67 (by decide) (by decide))
      rw [e71, (nxt_sp hT2 (by rw [h61 0 (by decide)]; exact ha)).1, hk 63 (by decide) (by decide)]
    have KT : opn T a (her T) 0 = true → T 61 15 < 60 → RtY (mrTake T (nI a)) (nxTake T (nI a)) M (some (.int (nI (herN T2 (T2 61 15) / 64)))) M2 := fun e1 e => rty (by rw [hhl]; unfold mrTake; rw [if_neg hxn, nI_tn ha31, if_neg (by rw [e1]; decide), if_neg (by omega)]) (by unfold nxTake; rw [if_neg hxn, nI_tn ha31, if_neg (by rw [e1]; decide), if_neg (by omega)]) (CK e) ((F60.rf.i (by decide)).i (by decide))
    refine E_aload_n dX10_take_11 rfl ?_
    refine E_iload_n dX10_take_12 rfl ?_
    refine E_callV (r := qX10_isOpenHere) (ci := 10) dX10_take_13 mkX10_121 voX10_isOpenHere rfl rfl rfl ⟨Nat.le_of_ble_eq_true rfl, Nat.le_of_ble_eq_true rfl, Nat.le_of_ble_eq_true rfl, Nat.le_of_ble_eq_true rfl⟩ (c_isOpenHere hC.1 ht hher ha) rfl (Nat.le_of_ble_eq_true rfl) ?_
    rintro _ _ ⟨rfl, rfl⟩
    refine E_if_neB (t := 22) dX10_take_16 (by decide) (fun c16 => ?_) (fun c16 => ?_)
    · skip
      refine E_aload_n dX10_take_22 rfl ?_
      refine E_getR' (ci := 10) (j := 1) (p := 3) dX10_take_23 fkX10_19 rfl (by decide) rfl (by decide) (rfl) ?_
      refine E_iload_n dX10_take_26 rfl ?_
      refine E_callV (r := qX1_advance) (ci := 1) dX10_take_27 mkX10_125 voX1_advance rfl rfl rfl ⟨Nat.le_of_ble_eq_true rfl, Nat.le_of_ble_eq_true rfl, Nat.le_of_ble_eq_true rfl, Nat.le_of_ble_eq_true rfl⟩ (c_advance hCO) rfl (Nat.le_of_ble_eq_true rfl) ?_
      rintro _ M3 ⟨rfl, hM3⟩
      refine E_if_eqB (t := 47) dX10_take_30 (by decide) (fun c30 => ?_) (fun c30 => ?_)
      · skip
        have e30 := of_decide_eq_false c30
        rw [if_neg e30] at hM3
        subst hM3
        have key := KF c16 e30
        refine E_ldc dX10_take_47 ckX10_91 ?_
        refine E_iret dX10_take_49 rfl ?_
        exact key
      · skip
        have e30 := of_decide_eq_true c30
        rw [if_pos e30] at hM3
        subst hM3
        have hCK := CK e30
        have hscr := cb_scr hCK.1
        have htk : tlk T2 = true := (by unfold tlk; rw [h61 1 (by decide)]; exact ht)
        refine E_aload_n dX10_take_33 rfl ?_
        refine E_getR' (ci := 10) (j := 1) (p := 3) dX10_take_34 fkX10_19 rfl (by decide) rfl (by decide) (rfl) ?_
        refine E_aload_n dX10_take_37 rfl ?_
        refine E_getM' (ci := 10) (j := 9) (p := p) dX10_take_38 fkX10_75 rfl (by decide) rfl (by decide) (hscr) ?_
        refine E_callV (r := qX1_lineHere) (ci := 1) dX10_take_41 mkX10_128 voX1_lineHere rfl rfl rfl ⟨Nat.le_of_ble_eq_true rfl, Nat.le_of_ble_eq_true rfl, Nat.le_of_ble_eq_true rfl, Nat.le_of_ble_eq_true rfl⟩ (c_lineHere (cb_tld hCK.1 htk).1 (cb_co hCK.1)) rfl (Nat.le_of_ble_eq_true rfl) ?_
        rintro _ _ ⟨rfl, rfl⟩
        have key := KT c16 e30
        refine E_goto (t := 49) dX10_take_44 (by decide) ?_
        refine E_iret dX10_take_49 rfl ?_
        exact key
    · skip
      refine E_ldc dX10_take_19 ckX10_124 ?_
      refine E_iret dX10_take_21 rfl ?_
      exact rty (kn c16).1 (kn c16).2 hC F60.rf
  refine Call_of (ls0 := [some (.ref 0), some (.int x)]) rfl rfl (Nat.le_of_ble_eq_true rfl) ?_
  refine E_aload_n dX10_take_0 rfl ?_
  refine E_iload_n dX10_take_1 rfl ?_
  refine E_callV (r := qX10_isAnswer) (ci := 10) dX10_take_2 mkX10_118 voX10_isAnswer rfl rfl rfl ⟨Nat.le_of_ble_eq_true rfl, Nat.le_of_ble_eq_true rfl, Nat.le_of_ble_eq_true rfl, Nat.le_of_ble_eq_true rfl⟩ (c_isAnswer hC.1 h32) rfl (Nat.le_of_ble_eq_true rfl) ?_
  rintro _ _ ⟨rfl, rfl⟩
  refine E_if_neB (t := 11) dX10_take_5 (by decide) (fun c5 => ?_) (fun c5 => ?_)
  · skip
    exact K11 c5
  · skip
    refine E_ldc dX10_take_8 ckX10_114 ?_
    refine E_iret dX10_take_10 rfl ?_
    exact rty (kun c5).1 (kun c5).2 hC F60.rf
theorem c_back (hM : MS T M) (hC : CX T p q M) {x : Int32} : Call g qX10_back [.ref 0, .int x] M (RtY (mrBack T x) (nxBack T x) M) := by
  have hT := rm_wt hM.1
  have hB := ms_B hM
  have htol := cb_tol hC.1
  have hs := spq_p (cb_pq hC.1)
  have kun : tlk T = false → -1000001 = mrBack T x ∧ T = nxBack T x := fun e => ⟨by unfold mrBack; rw [if_pos e], by unfold nxBack; rw [if_pos e]⟩
  have kout : tlk T = true → inI x 1 60 = false → -1000002 = mrBack T x ∧ T = nxBack T x := fun e1 e => ⟨by unfold mrBack; rw [if_neg (by rw [e1]; decide), if_pos e], by unfold nxBack; rw [if_neg (by rw [e1]; decide), if_pos e]⟩
  have q1 : x < nI 1 → inI x 1 60 = false := fun e => by rw [inI_f]; rw [i_ltN (by decide)] at e; omega
  have q2 : ¬ x ≤ nI 60 → inI x 1 60 = false := fun e => by rw [inI_f]; rw [i_Nle (by decide)] at e; omega
  have K24 : tlk T = true → ¬ x < nI 1 → x ≤ nI 60 → Ex g qX10_back (tm g qX10_back (RtY (mrBack T x) (nxBack T x) M)) 24 [some (.ref 0), some (.int x)] [] M := fun ht x1 x2 => by
    have hx : inI x 1 60 = true := by rw [inI_t]; rw [i_ltN (by decide)] at x1; rw [i_Nle (by decide)] at x2; omega
    obtain ⟨n, n1, n2, rfl, n3⟩ := inI_nat hx (by decide)
    have hCO := cb_co hC.1
    have h60 := hCO.2.1
    have htn : ¬ tlk T = false := by rw [ht]; decide
    have hxn : ¬ inI (nI n) 1 60 = false := by rw [hx]; decide
    have kno : T 61 15 < n → -1000003 = mrBack T (nI n) ∧ T = nxBack T (nI n) := fun e => ⟨by unfold mrBack; rw [if_neg htn, if_neg hxn, nI_tn n3, if_pos e], by unfold nxBack; rw [if_neg htn, if_neg hxn, nI_tn n3, if_pos e]⟩
    let T2 := upT T 61 15 (T 61 15 - n)
    let M2 := sI M 3 1 (nI (T 61 15 - n))
    have h61 : ∀ i, i ≠ 15 → T2 61 i = T 61 i := fun i hi => u6 hi
    have hk : ∀ k, k ≠ 61 → T2 k = T k := fun k q1 => uk q1
    have h15 : T2 61 15 = T 61 15 - n := upT_at
    have hCK : CX T2 p q M2 := by
      refine cx_steps hM hC ⟨?_, ?_, ?_, ?_, fun i hi => ?_⟩ rfl (fun k q1 _ => sI_ne q1) h61 (fun k q1 _ => hk k q1)
      · rw [h15]; exact sI_s
      · rw [h15]; omega
      · rw [h61 13 (by decide)]
        show (sI M 3 1 (nI (T 61 15 - n))).1 3 2 = _
        rw [sI_o (by decide)]; exact hCO.2.2.1
      · rw [h61 13 (by decide)]; exact hCO.2.2.2.1
      · rw [h15] at hi
        rw [h61 0 (by decide), hk 71 (by decide)]
        show (sI M 3 1 (nI (T 61 15 - n))).1 4 i = _ ∧ _
        rw [sI_ne (by decide)]; exact hCO.2.2.2.2 i (by omega)
    have htk : tlk T2 = true := by unfold tlk; rw [h61 1 (by decide)]; exact ht
    have hscr := cb_scr hCK.1
    have hhn : herN T2 (T2 61 15) = herN T (T 61 15 - n) := by
      rw [h15]
      exact herN_ag (show fst0 T2 = fst0 T by unfold fst0; rw [h61 3 (by decide), h61 13 (by decide)]) (hk 71 (by decide)) (fun a s => by unfold nxt; rw [hk 63 (by decide), hk 68 (by decide), hk 69 (by decide)]) _
    have key : n ≤ T 61 15 → RtY (mrBack T (nI n)) (nxBack T (nI n)) M (some (.int (nI (herN T2 (T2 61 15) / 64)))) M2 := fun e => rty (by rw [hhn]; unfold mrBack; rw [if_neg htn, if_neg hxn, nI_tn n3, if_neg (by omega)]) (by unfold nxBack; rw [if_neg htn, if_neg hxn, nI_tn n3, if_neg (by omega)]) hCK (F60.rf.i (by decide))
    refine E_iload_n dX10_back_24 rfl ?_
    refine E_aload_n dX10_back_25 rfl ?_
    refine E_getR' (ci := 10) (j := 1) (p := 3) dX10_back_26 fkX10_19 rfl (by decide) rfl (by decide) (rfl) ?_
    refine E_getI' (ci := 1) (j := 1) dX10_back_29 fkX10_131 rfl (by decide) rfl (by decide) (hCO.1) ?_
    refine E_icmp_leN (t := 38) dX10_back_32 (by decide) (by omega) (by omega) (fun c32 => ?_) (fun c32 => ?_)
    · skip
      refine E_aload_n dX10_back_38 rfl ?_
      refine E_getR' (ci := 10) (j := 1) (p := 3) dX10_back_39 fkX10_19 rfl (by decide) rfl (by decide) (rfl) ?_
      refine E_dup dX10_back_42 rfl ?_
      refine E_getI' (ci := 1) (j := 1) dX10_back_43 fkX10_131 rfl (by decide) rfl (by decide) (hCO.1) ?_
      refine E_iload_n dX10_back_46 rfl ?_
      refine E_isubN dX10_back_47 c32 ?_
      refine E_putI (ci := 1) (j := 1) dX10_back_48 fkX10_131 rfl (by decide) rfl (by decide) ?_
      refine E_aload_n dX10_back_51 rfl ?_
      refine E_getR' (ci := 10) (j := 1) (p := 3) dX10_back_52 fkX10_19 rfl (by decide) rfl (by decide) (rfl) ?_
      refine E_aload_n dX10_back_55 rfl ?_
      refine E_getM' (ci := 10) (j := 9) (p := p) dX10_back_56 fkX10_75 rfl (by decide) rfl (by decide) (hscr) ?_
      refine E_callV (r := qX1_lineHere) (ci := 1) dX10_back_59 mkX10_128 voX1_lineHere rfl rfl rfl ⟨Nat.le_of_ble_eq_true rfl, Nat.le_of_ble_eq_true rfl, Nat.le_of_ble_eq_true rfl, Nat.le_of_ble_eq_true rfl⟩ (c_lineHere (cb_tld hCK.1 htk).1 (cb_co hCK.1)) rfl (Nat.le_of_ble_eq_true rfl) ?_
      rintro _ _ ⟨rfl, rfl⟩
      refine E_iret dX10_back_62 rfl ?_
      exact key c32
    · skip
      refine E_ldc dX10_back_35 ckX10_124 ?_
      refine E_iret dX10_back_37 rfl ?_
      exact rty (kno c32).1 (kno c32).2 hC F60.rf
  refine Call_of (ls0 := [some (.ref 0), some (.int x)]) rfl rfl (Nat.le_of_ble_eq_true rfl) ?_
  refine E_aload_n dX10_back_0 rfl ?_
  refine E_getI' (ci := 10) (j := 11) dX10_back_1 fkX10_96 rfl (by decide) rfl (by decide) (htol) ?_
  refine E_if_neB (t := 10) dX10_back_4 (by decide) (fun c4 => ?_) (fun c4 => ?_)
  · skip
    refine E_iload_n dX10_back_10 rfl ?_
    refine E_iconst (v := nI 1) dX10_back_11 rfl ?_
    refine E_icmp_lt (t := 21) dX10_back_12 (by decide) (fun c12 => ?_) (fun c12 => ?_)
    · skip
      have key := kout c4 (q1 c12)
      refine E_ldc dX10_back_21 ckX10_82 ?_
      refine E_iret dX10_back_23 rfl ?_
      exact rty key.1 key.2 hC F60.rf
    · skip
      refine E_iload_n dX10_back_15 rfl ?_
      refine E_bipush (v := nI 60) dX10_back_16 rfl ?_
      refine E_icmp_le (t := 24) dX10_back_18 (by decide) (fun c18 => ?_) (fun c18 => ?_)
      · skip
        exact K24 c4 c12 c18
      · skip
        have key := kout c4 (q2 c18)
        refine E_ldc dX10_back_21 ckX10_82 ?_
        refine E_iret dX10_back_23 rfl ?_
        exact rty key.1 key.2 hC F60.rf
  · skip
    refine E_ldc dX10_back_7 ckX10_114 ?_
    refine E_iret dX10_back_9 rfl ?_
    exact rty (kun c4).1 (kun c4).2 hC F60.rf
end PU5
