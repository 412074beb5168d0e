-- the class's public methods: fault, step, count, answer
theorem nq (a b : Nat) (h : a < 100 ∧ b < 100 ∧ a ≠ b) : ¬ nI a = nI b := fun e => h.2.2 ((nI_eq (by omega) (by omega)).mp e)
theorem sw_no {w : Int32} {N : Nat} (h : w.toInt < 0 ∨ (N : Int) < w.toInt) (j : Nat) (hj : j ≤ N) (hN : N < 2 ^ 31) : ¬ w = nI j := sw_ne h hj hN
section PU1
variable {g : GG} {M : AM} {T : TK} {p q : Nat}
theorem her_lt (hM : MS T M) : her T < 1024 := herN_lt hM.1 hM.2.1 hM.2.2.1 (T 61 15) (Nat.le_refl _)
theorem c_fault (hC : CX T p q M) : Call g qX10_fault [.ref 0] M (RtC (nI (T 61 22)) T p q M) := by
  refine Call_of (ls0 := [some (.ref 0)]) rfl rfl (Nat.le_of_ble_eq_true rfl) ?_
  refine E_aload_n dX10_fault_0 rfl ?_
  refine E_getR' (ci := 10) (j := 0) (p := 1) dX10_fault_1 fkX10_10 rfl (by decide) rfl (by decide) (rfl) ?_
  refine E_getI' (ci := 6) (j := 2) dX10_fault_4 fkX10_111 rfl (by decide) rfl (by decide) (cb_fau hC.1) ?_
  refine E_iret dX10_fault_7 rfl ?_
  exact rtc rfl hC F60.rf
theorem c_step (hC : CX T p q M) {x : Int32} : Call g qX10_step [.ref 0, .int x] M (RtC (mrStep T x) T p q M) := by
  have hCO := cb_co hC.1
  have h60 := hCO.2.1
  have htol := cb_tol hC.1
  have k1 : tlk T = false → -1000001 = mrStep T x := fun e => by unfold mrStep; rw [if_pos e]
  have k2 : tlk T = true → ¬ 0 ≤ x → -1000002 = mrStep T x := fun e1 e2 => by unfold mrStep; rw [if_neg (by rw [e1]; decide), if_pos (Int32.not_le.mp e2)]
  have k3 : tlk T = true → 0 ≤ x → ∃ j, x = nI j ∧ j < 2 ^ 31 ∧ mrStep T x = if j < T 61 15 then nI (T 71 j) else -1 := fun e1 e2 => by
    obtain ⟨j, -, -, rfl, j3⟩ := inI_nat (x := x) (lo := 0) (hi := 2 ^ 31) (inI_t.mpr ⟨by have := Int32.le_iff_toInt_le.mp e2; exact this, by have := x.toInt_lt; omega⟩) (by decide)
    refine ⟨j, rfl, j3, ?_⟩
    unfold mrStep
    rw [if_neg (by rw [e1]; decide), if_neg (Int32.not_lt.mpr e2), nI_tn j3]
  have K17 : tlk T = true → 0 ≤ x → Ex g qX10_step (tm g qX10_step (RtC (mrStep T x) T p q M)) 17 [some (.ref 0), some (.int x)] [] M := fun e1 e2 => by
    obtain ⟨j, rfl, hj, hv⟩ := k3 e1 e2
    refine E_iload_n dX10_step_17 rfl ?_
    refine E_aload_n dX10_step_18 rfl ?_
    refine E_getR' (ci := 10) (j := 1) (p := 3) dX10_step_19 fkX10_19 rfl (by decide) rfl (by decide) (rfl) ?_
    refine E_getI' (ci := 1) (j := 1) dX10_step_22 fkX10_131 rfl (by decide) rfl (by decide) (hCO.1) ?_
    refine E_icmp_geN (t := 40) dX10_step_25 (by decide) hj (by omega) (fun c25 => ?_) (fun c25 => ?_)
    · skip
      have key : -1 = mrStep T (nI j) := by rw [hv, if_neg (by omega)]
      refine E_iconst (v := -1) dX10_step_40 rfl ?_
      refine E_iret dX10_step_41 rfl ?_
      exact rtc key hC F60.rf
    · skip
      have key : nI (T 71 j) = mrStep T (nI j) := by rw [hv, if_pos c25]
      refine E_aload_n dX10_step_28 rfl ?_
      refine E_getR' (ci := 10) (j := 1) (p := 3) dX10_step_29 fkX10_19 rfl (by decide) rfl (by decide) (rfl) ?_
      refine E_getR' (ci := 1) (j := 0) (p := 4) dX10_step_32 fkX10_206 rfl (by decide) rfl (by decide) (rfl) ?_
      refine E_iload_n dX10_step_35 rfl ?_
      refine E_ialdN dX10_step_36 rfl (by omega) (by decide) ((hCO.2.2.2.2 j c25).1) ?_
      refine E_goto (t := 41) dX10_step_37 (by decide) ?_
      refine E_iret dX10_step_41 rfl ?_
      exact rtc key hC F60.rf
  refine Call_of (ls0 := [some (.ref 0), some (.int x)]) rfl rfl (Nat.le_of_ble_eq_true rfl) ?_
  refine E_aload_n dX10_step_0 rfl ?_
  refine E_getI' (ci := 10) (j := 11) dX10_step_1 fkX10_96 rfl (by decide) rfl (by decide) (htol) ?_
  refine E_if_neB (t := 10) dX10_step_4 (by decide) (fun c4 => ?_) (fun c4 => ?_)
  · skip
    refine E_iload_n dX10_step_10 rfl ?_
    refine E_if_ge (t := 17) dX10_step_11 (by decide) (fun c11 => ?_) (fun c11 => ?_)
    · skip
      exact K17 c4 c11
    · skip
      refine E_ldc dX10_step_14 ckX10_82 ?_
      refine E_iret dX10_step_16 rfl ?_
      exact rtc (k2 c4 c11) hC F60.rf
  · skip
    refine E_ldc dX10_step_7 ckX10_114 ?_
    refine E_iret dX10_step_9 rfl ?_
    exact rtc (k1 c4) hC F60.rf
theorem c_count (hM : MS T M) (hC : CX T p q M) {w : Int32} : Call g qX10_count [.ref 0, .int w] M (RtC (mrCount T w) T p q M) := by
  have hs := spq_p (cb_pq hC.1)
  have hscr := cb_scr hC.1
  have hCO := cb_co hC.1
  have htol := cb_tol hC.1
  have hher := her_lt hM
  have k10 : w = nI 10 → nI (T 61 21) = mrCount T w := fun e => by unfold mrCount; rw [if_pos e]
  have kun : ¬ w = nI 10 → tlk T = false → -1000001 = mrCount T w := fun e1 e2 => by unfold mrCount; rw [if_neg e1, if_pos e2]
  have K24 : ¬ w = nI 10 → tlk T = true → Ex g qX10_count (tm g qX10_count (RtC (mrCount T w) T p q M)) 24 [some (.ref 0), some (.int w)] [] M := fun e10 ht => by
    have hSC := (cb_tld hC.1 ht).1
    have htn : ¬ tlk T = false := by rw [ht]; decide
    have kout : (w.toInt < 0 ∨ 9 < w.toInt) → -1000002 = mrCount T w := fun e => by
      unfold mrCount
      rw [if_neg e10, if_neg htn, if_neg (sw_no e 0 (by decide) (by decide)), if_neg (sw_no e 1 (by decide) (by decide)), if_neg (sw_no e 2 (by decide) (by decide)), if_neg (sw_no e 3 (by decide) (by decide)), if_neg (sw_no e 4 (by decide) (by decide)), if_neg (sw_no e 5 (by decide) (by decide)), if_neg (sw_no e 6 (by decide) (by decide)), if_neg (sw_no e 7 (by decide) (by decide)), if_neg (sw_no e 8 (by decide) (by decide)), if_neg (sw_no e 9 (by decide) (by decide))]
    have v0 : nI (her T / 64) = mrCount T (nI 0) := by unfold mrCount; rw [if_neg (nq 0 10 (by decide)), if_neg htn, if_pos rfl]
    have v1 : nI (her T % 64) = mrCount T (nI 1) := by unfold mrCount; rw [if_neg (nq 1 10 (by decide)), if_neg htn, if_neg (nq 1 0 (by decide)), if_pos rfl]
    have v2 : nI (T 61 15) = mrCount T (nI 2) := by unfold mrCount; rw [if_neg (nq 2 10 (by decide)), if_neg htn, if_neg (nq 2 0 (by decide)), if_neg (nq 2 1 (by decide)), if_pos rfl]
    have v3 : nI (cntN (fun a => opn T a (her T) 0) (T 61 0)) = mrCount T (nI 3) := by unfold mrCount; rw [if_neg (nq 3 10 (by decide)), if_neg htn, if_neg (nq 3 0 (by decide)), if_neg (nq 3 1 (by decide)), if_neg (nq 3 2 (by decide)), if_pos rfl]
    have v4 : nI (csN T (T 61 15)) = mrCount T (nI 4) := by unfold mrCount; rw [if_neg (nq 4 10 (by decide)), if_neg htn, if_neg (nq 4 0 (by decide)), if_neg (nq 4 1 (by decide)), if_neg (nq 4 2 (by decide)), if_neg (nq 4 3 (by decide)), if_pos rfl]
    have v5 : nI (T 61 3) = mrCount T (nI 5) := by unfold mrCount; rw [if_neg (nq 5 10 (by decide)), if_neg htn, if_neg (nq 5 0 (by decide)), if_neg (nq 5 1 (by decide)), if_neg (nq 5 2 (by decide)), if_neg (nq 5 3 (by decide)), if_neg (nq 5 4 (by decide)), if_pos rfl]
    have v6 : nI (T 61 1) = mrCount T (nI 6) := by unfold mrCount; rw [if_neg (nq 6 10 (by decide)), if_neg htn, if_neg (nq 6 0 (by decide)), if_neg (nq 6 1 (by decide)), if_neg (nq 6 2 (by decide)), if_neg (nq 6 3 (by decide)), if_neg (nq 6 4 (by decide)), if_neg (nq 6 5 (by decide)), if_pos rfl]
    have v7 : nI (T 61 2) = mrCount T (nI 7) := by unfold mrCount; rw [if_neg (nq 7 10 (by decide)), if_neg htn, if_neg (nq 7 0 (by decide)), if_neg (nq 7 1 (by decide)), if_neg (nq 7 2 (by decide)), if_neg (nq 7 3 (by decide)), if_neg (nq 7 4 (by decide)), if_neg (nq 7 5 (by decide)), if_neg (nq 7 6 (by decide)), if_pos rfl]
    have v8 : nI (T 61 0) = mrCount T (nI 8) := by unfold mrCount; rw [if_neg (nq 8 10 (by decide)), if_neg htn, if_neg (nq 8 0 (by decide)), if_neg (nq 8 1 (by decide)), if_neg (nq 8 2 (by decide)), if_neg (nq 8 3 (by decide)), if_neg (nq 8 4 (by decide)), if_neg (nq 8 5 (by decide)), if_neg (nq 8 6 (by decide)), if_neg (nq 8 7 (by decide)), if_pos rfl]
    have v9 : nI (T 61 17) = mrCount T (nI 9) := by unfold mrCount; rw [if_neg (nq 9 10 (by decide)), if_neg htn, if_neg (nq 9 0 (by decide)), if_neg (nq 9 1 (by decide)), if_neg (nq 9 2 (by decide)), if_neg (nq 9 3 (by decide)), if_neg (nq 9 4 (by decide)), if_neg (nq 9 5 (by decide)), if_neg (nq 9 6 (by decide)), if_neg (nq 9 7 (by decide)), if_neg (nq 9 8 (by decide)), if_pos rfl]
    refine E_iload_n dX10_count_24 rfl ?_
    have hsw : w = nI 0 ∨ w = nI 1 ∨ w = nI 2 ∨ w = nI 3 ∨ w = nI 4 ∨ w = nI 5 ∨ w = nI 6 ∨ w = nI 7 ∨ w = nI 8 ∨ w = nI 9 ∨ (w.toInt < 0 ∨ 9 < w.toInt) := by
      rcases sw_ex w 9 (by decide) with ⟨j, hj, rfl⟩ | h7
      · rcases (show j = 0 ∨ j = 1 ∨ j = 2 ∨ j = 3 ∨ j = 4 ∨ j = 5 ∨ j = 6 ∨ j = 7 ∨ j = 8 ∨ j = 9 by omega) with rfl | rfl | rfl | rfl | rfl | rfl | rfl | rfl | rfl | rfl <;> simp
      · exact Or.inr (Or.inr (Or.inr (Or.inr (Or.inr (Or.inr (Or.inr (Or.inr (Or.inr (Or.inr (h7))))))))))
    rcases hsw with rfl | rfl | rfl | rfl | rfl | rfl | rfl | rfl | rfl | rfl | hsw9
    · skip
      refine E_swIn (t := 80) (off := 55) dX10_count_25 (by decide) (by decide) (by decide) (by decide) ?_
      refine E_aload_n dX10_count_80 rfl ?_
      refine E_getR' (ci := 10) (j := 1) (p := 3) dX10_count_81 fkX10_19 rfl (by decide) rfl (by decide) (rfl) ?_
      refine E_aload_n dX10_count_84 rfl ?_
      refine E_getM' (ci := 10) (j := 9) (p := p) dX10_count_85 fkX10_75 rfl (by decide) rfl (by decide) (hscr) ?_
      refine E_callV (r := qX1_lineHere) (ci := 1) dX10_count_88 mkX10_128 voX1_lineHere rfl rfl rfl ⟨Nat.le_of_ble_eq_true rfl, Nat.le_of_ble_eq_true rfl, Nat.le_of_ble_eq_true rfl, Nat.le_of_ble_eq_true rfl⟩ (c_lineHere hSC hCO) rfl (Nat.le_of_ble_eq_true rfl) ?_
      rintro _ _ ⟨rfl, rfl⟩
      refine E_iret dX10_count_91 rfl ?_
      exact rtc v0 hC F60.rf
    · skip
      refine E_swIn (t := 92) (off := 67) dX10_count_25 (by decide) (by decide) (by decide) (by decide) ?_
      refine E_aload_n dX10_count_92 rfl ?_
      refine E_getR' (ci := 10) (j := 1) (p := 3) dX10_count_93 fkX10_19 rfl (by decide) rfl (by decide) (rfl) ?_
      refine E_aload_n dX10_count_96 rfl ?_
      refine E_getM' (ci := 10) (j := 9) (p := p) dX10_count_97 fkX10_75 rfl (by decide) rfl (by decide) (hscr) ?_
      refine E_callV (r := qX1_marksHere) (ci := 1) dX10_count_100 mkX10_190 voX1_marksHere rfl rfl rfl ⟨Nat.le_of_ble_eq_true rfl, Nat.le_of_ble_eq_true rfl, Nat.le_of_ble_eq_true rfl, Nat.le_of_ble_eq_true rfl⟩ (c_marksHere hSC hCO) rfl (Nat.le_of_ble_eq_true rfl) ?_
      rintro _ _ ⟨rfl, rfl⟩
      refine E_iret dX10_count_103 rfl ?_
      exact rtc v1 hC F60.rf
    · skip
      refine E_swIn (t := 104) (off := 79) dX10_count_25 (by decide) (by decide) (by decide) (by decide) ?_
      refine E_aload_n dX10_count_104 rfl ?_
      refine E_getR' (ci := 10) (j := 1) (p := 3) dX10_count_105 fkX10_19 rfl (by decide) rfl (by decide) (rfl) ?_
      refine E_getI' (ci := 1) (j := 1) dX10_count_108 fkX10_131 rfl (by decide) rfl (by decide) (hCO.1) ?_
      refine E_iret dX10_count_111 rfl ?_
      exact rtc v2 hC F60.rf
    · skip
      refine E_swIn (t := 112) (off := 87) dX10_count_25 (by decide) (by decide) (by decide) (by decide) ?_
      refine E_aload_n dX10_count_112 rfl ?_
      refine E_callV (r := qX10_openHere) (ci := 10) dX10_count_113 mkX10_193 voX10_openHere rfl rfl rfl ⟨Nat.le_of_ble_eq_true rfl, Nat.le_of_ble_eq_true rfl, Nat.le_of_ble_eq_true rfl, Nat.le_of_ble_eq_true rfl⟩ (c_openHere hC.1 ht hher) rfl (Nat.le_of_ble_eq_true rfl) ?_
      rintro _ _ ⟨rfl, rfl⟩
      refine E_iret dX10_count_116 rfl ?_
      exact rtc v3 hC F60.rf
    · skip
      refine E_swIn (t := 117) (off := 92) dX10_count_25 (by decide) (by decide) (by decide) (by decide) ?_
      refine E_aload_n dX10_count_117 rfl ?_
      refine E_getR' (ci := 10) (j := 1) (p := 3) dX10_count_118 fkX10_19 rfl (by decide) rfl (by decide) (rfl) ?_
      refine E_aload_n dX10_count_121 rfl ?_
      refine E_getM' (ci := 10) (j := 9) (p := p) dX10_count_122 fkX10_75 rfl (by decide) rfl (by decide) (hscr) ?_
      refine E_callV (r := qX1_priceOfSteps) (ci := 1) dX10_count_125 mkX10_197 voX1_priceOfSteps rfl rfl rfl ⟨Nat.le_of_ble_eq_true rfl, Nat.le_of_ble_eq_true rfl, Nat.le_of_ble_eq_true rfl, Nat.le_of_ble_eq_true rfl⟩ (c_priceOfSteps hSC hCO) rfl (Nat.le_of_ble_eq_true rfl) ?_
      rintro _ _ ⟨rfl, rfl⟩
      refine E_iret dX10_count_128 rfl ?_
      exact rtc v4 hC F60.rf
    · skip
      refine E_swIn (t := 129) (off := 104) dX10_count_25 (by decide) (by decide) (by decide) (by decide) ?_
      refine E_aload_n dX10_count_129 rfl ?_
      refine E_getM' (ci := 10) (j := 9) (p := p) dX10_count_130 fkX10_75 rfl (by decide) rfl (by decide) (hscr) ?_
      refine E_getI' (ci := 8) (j := 13) dX10_count_133 fkX10_115 rfl (by decide) (kS hs) (by decide) (sc_6 hSC (j := 3) (by decide)) ?_
      refine E_iret dX10_count_136 rfl ?_
      exact rtc v5 hC F60.rf
    · skip
      refine E_swIn (t := 137) (off := 112) dX10_count_25 (by decide) (by decide) (by decide) (by decide) ?_
      refine E_aload_n dX10_count_137 rfl ?_
      refine E_getM' (ci := 10) (j := 9) (p := p) dX10_count_138 fkX10_75 rfl (by decide) rfl (by decide) (hscr) ?_
      refine E_getI' (ci := 8) (j := 11) dX10_count_141 fkX10_200 rfl (by decide) (kS hs) (by decide) (sc_6 hSC (j := 1) (by decide)) ?_
      refine E_iret dX10_count_144 rfl ?_
      exact rtc v6 hC F60.rf
    · skip
      refine E_swIn (t := 145) (off := 120) dX10_count_25 (by decide) (by decide) (by decide) (by decide) ?_
      refine E_aload_n dX10_count_145 rfl ?_
      refine E_getM' (ci := 10) (j := 9) (p := p) dX10_count_146 fkX10_75 rfl (by decide) rfl (by decide) (hscr) ?_
      refine E_getI' (ci := 8) (j := 12) dX10_count_149 fkX10_203 rfl (by decide) (kS hs) (by decide) (sc_6 hSC (j := 2) (by decide)) ?_
      refine E_iret dX10_count_152 rfl ?_
      exact rtc v7 hC F60.rf
    · skip
      refine E_swIn (t := 153) (off := 128) dX10_count_25 (by decide) (by decide) (by decide) (by decide) ?_
      refine E_aload_n dX10_count_153 rfl ?_
      refine E_getM' (ci := 10) (j := 9) (p := p) dX10_count_154 fkX10_75 rfl (by decide) rfl (by decide) (hscr) ?_
      refine E_getI' (ci := 8) (j := 10) dX10_count_157 fkX10_108 rfl (by decide) (kS hs) (by decide) (sc_6 hSC (j := 0) (by decide)) ?_
      refine E_iret dX10_count_160 rfl ?_
      exact rtc v8 hC F60.rf
    · skip
      refine E_swIn (t := 161) (off := 136) dX10_count_25 (by decide) (by decide) (by decide) (by decide) ?_
      refine E_aload_n dX10_count_161 rfl ?_
      refine E_getR' (ci := 10) (j := 2) (p := 5) dX10_count_162 fkX10_26 rfl (by decide) rfl (by decide) (rfl) ?_
      refine E_getI' (ci := 0) (j := 3) dX10_count_165 fkX10_100 rfl (by decide) rfl (by decide) ((cb_ac hC.1).1) ?_
      refine E_iret dX10_count_168 rfl ?_
      exact rtc v9 hC F60.rf
    · skip
      refine E_swOut (t := 169) dX10_count_25 (hsw9) (by decide) ?_
      refine E_ldc dX10_count_169 ckX10_82 ?_
      refine E_iret dX10_count_171 rfl ?_
      exact rtc (kout hsw9) hC F60.rf
  refine Call_of (ls0 := [some (.ref 0), some (.int w)]) rfl rfl (Nat.le_of_ble_eq_true rfl) ?_
  refine E_iload_n dX10_count_0 rfl ?_
  refine E_bipush (v := nI 10) dX10_count_1 rfl ?_
  refine E_icmp_ne (t := 14) dX10_count_3 (by decide) (fun c3 => ?_) (fun c3 => ?_)
  · skip
    refine E_aload_n dX10_count_14 rfl ?_
    refine E_getI' (ci := 10) (j := 11) dX10_count_15 fkX10_96 rfl (by decide) rfl (by decide) (htol) ?_
    refine E_if_neB (t := 24) dX10_count_18 (by decide) (fun c18 => ?_) (fun c18 => ?_)
    · skip
      exact K24 c3 c18
    · skip
      refine E_ldc dX10_count_21 ckX10_114 ?_
      refine E_iret dX10_count_23 rfl ?_
      exact rtc (kun c3 c18) hC F60.rf
  · skip
    refine E_aload_n dX10_count_6 rfl ?_
    refine E_getR' (ci := 10) (j := 0) (p := 1) dX10_count_7 fkX10_10 rfl (by decide) rfl (by decide) (rfl) ?_
    refine E_getI' (ci := 6) (j := 1) dX10_count_10 fkX10_87 rfl (by decide) rfl (by decide) (cb_siz hC.1) ?_
    refine E_iret dX10_count_13 rfl ?_
    exact rtc (k10 c3) hC F60.rf
theorem c_altSet (hC : CB T p q M) (ht : tlk T = true) (hT : WT T) {a : Nat} {w : Int32} (ha : a < T 61 0) : Call g qX10_alternativeSet [.ref 0, .int (nI a), .int w] M (Rt (if inI w 10 ((9 + 2 * T 65 a : Nat) : Int) = false then -1000002 else if w.toInt.toNat % 2 = 0 then nI (T 66 (3 * a + (w.toInt.toNat - 10) / 2)) else nI (T 67 (3 * a + (w.toInt.toNat - 10) / 2))) M) := by
  have hs := spq_p (cb_pq hC)
  have hscr := cb_scr hC
  have hSC := (cb_tld hC ht).1
  have h3 := (wt_a hT ha).2.2.2.1
  have h32 := hT.1
  have hal := sc_alts hSC ha
  cases hx : inI w 10 ((9 + 2 * T 65 a : Nat) : Int) with
  | false =>
    have hx2 := inI_f.mp hx
    rw [if_pos rfl]
    refine Call_of (ls0 := [some (.ref 0), some (.int (nI a)), some (.int w), none]) rfl rfl (Nat.le_of_ble_eq_true rfl) ?_
    refine E_iload_n dX10_alternativeSet_0 rfl ?_
    refine E_bipush (v := nI 10) dX10_alternativeSet_1 rfl ?_
    refine E_icmp_lt (t := 24) dX10_alternativeSet_3 (by decide) (fun c3 => ?_) (fun c3 => ?_)
    · skip
      refine E_ldc dX10_alternativeSet_24 ckX10_82 ?_
      refine E_iret dX10_alternativeSet_26 rfl ?_
      exact Rt_i rfl
    · skip
      refine E_iload_n dX10_alternativeSet_6 rfl ?_
      refine E_bipush (v := nI 10) dX10_alternativeSet_7 rfl ?_
      refine E_iconst (v := nI 2) dX10_alternativeSet_9 rfl ?_
      refine E_aload_n dX10_alternativeSet_10 rfl ?_
      refine E_getM' (ci := 10) (j := 9) (p := p) dX10_alternativeSet_11 fkX10_75 rfl (by decide) rfl (by decide) (hscr) ?_
      refine E_getR' (ci := 8) (j := 3) (p := p+4) dX10_alternativeSet_14 fkX10_175 rfl (by decide) (kS hs) (by decide) ((srS hs) 3 (by decide)) ?_
      refine E_iload_n dX10_alternativeSet_17 rfl ?_
      refine E_ialdN dX10_alternativeSet_18 (kp4 hs) (by omega) (by decide) (hal) ?_
      refine E_imulN dX10_alternativeSet_19 ?_
      refine E_iaddN dX10_alternativeSet_20 ?_
      refine E_icmp_lt (t := 27) dX10_alternativeSet_21 (by decide) (fun c21 => ?_) (fun c21 => ?_)
      · skip
        exact absurd c21 (by rw [i_ltN (by omega)]; rw [i_ltN (by decide)] at c3; omega)
        skip
      · skip
        refine E_ldc dX10_alternativeSet_24 ckX10_82 ?_
        refine E_iret dX10_alternativeSet_26 rfl ?_
        exact Rt_i rfl
  | true =>
    obtain ⟨j, j1, j2, rfl, j3⟩ := inI_nat hx (by decide)
    have j1 : 10 ≤ j := by omega
    have j2 : j ≤ 9 + 2 * T 65 a := by omega
    rw [if_neg (by decide), nI_tn j3]
    have hk : (j - 10) / 2 < T 65 a := by omega
    have e1 : a * 3 + (j - 10) / 2 = 3 * a + (j - 10) / 2 := by omega
    have hw : M.1 (p + 5) (a * 3 + (j - 10) / 2) = nI (T 66 (3 * a + (j - 10) / 2)) := by rw [e1]; exact sc_wants hSC ha hk
    have hb : M.1 (p + 6) (a * 3 + (j - 10) / 2) = nI (T 67 (3 * a + (j - 10) / 2)) := by rw [e1]; exact sc_bars hSC ha hk
    refine Call_of (ls0 := [some (.ref 0), some (.int (nI a)), some (.int (nI j)), none]) rfl rfl (Nat.le_of_ble_eq_true rfl) ?_
    refine E_iload_n dX10_alternativeSet_0 rfl ?_
    refine E_bipush (v := nI 10) dX10_alternativeSet_1 rfl ?_
    refine E_icmp_ltN (t := 24) dX10_alternativeSet_3 (by decide) (by omega) (by omega) (fun c3 => ?_) (fun c3 => ?_)
    · skip
      exact absurd c3 (by omega)
    · skip
      refine E_iload_n dX10_alternativeSet_6 rfl ?_
      refine E_bipush (v := nI 10) dX10_alternativeSet_7 rfl ?_
      refine E_iconst (v := nI 2) dX10_alternativeSet_9 rfl ?_
      refine E_aload_n dX10_alternativeSet_10 rfl ?_
      refine E_getM' (ci := 10) (j := 9) (p := p) dX10_alternativeSet_11 fkX10_75 rfl (by decide) rfl (by decide) (hscr) ?_
      refine E_getR' (ci := 8) (j := 3) (p := p+4) dX10_alternativeSet_14 fkX10_175 rfl (by decide) (kS hs) (by decide) ((srS hs) 3 (by decide)) ?_
      refine E_iload_n dX10_alternativeSet_17 rfl ?_
      refine E_ialdN dX10_alternativeSet_18 (kp4 hs) (by omega) (by decide) (hal) ?_
      refine E_imulN dX10_alternativeSet_19 ?_
      refine E_iaddN dX10_alternativeSet_20 ?_
      refine E_icmp_ltN (t := 27) dX10_alternativeSet_21 (by decide) (by omega) (by omega) (fun c21 => ?_) (fun c21 => ?_)
      · skip
        refine E_iload_n dX10_alternativeSet_27 rfl ?_
        refine E_iconst (v := nI 3) dX10_alternativeSet_28 rfl ?_
        refine E_imulN dX10_alternativeSet_29 ?_
        refine E_iload_n dX10_alternativeSet_30 rfl ?_
        refine E_bipush (v := nI 10) dX10_alternativeSet_31 rfl ?_
        refine E_isubN dX10_alternativeSet_33 (by omega) ?_
        refine E_iconst (v := nI 2) dX10_alternativeSet_34 rfl ?_
        refine E_idivN dX10_alternativeSet_35 (by omega) (by decide) (by decide) ?_
        refine E_iaddN dX10_alternativeSet_36 ?_
        refine E_ist_n (i := 3) dX10_alternativeSet_37 rfl (by decide) rfl ?_
        refine E_iload_n dX10_alternativeSet_38 rfl ?_
        refine E_bipush (v := nI 10) dX10_alternativeSet_39 rfl ?_
        refine E_isubN dX10_alternativeSet_41 (by omega) ?_
        refine E_iconst (v := nI 2) dX10_alternativeSet_42 rfl ?_
        refine E_iremN dX10_alternativeSet_43 (by omega) (by decide) (by decide) ?_
        refine E_if_neN (t := 59) dX10_alternativeSet_44 (by decide) (by omega) (fun c44 => ?_) (fun c44 => ?_)
        · skip
          have key : nI (T 67 (3 * a + (j - 10) / 2)) = if j % 2 = 0 then nI (T 66 (3 * a + (j - 10) / 2)) else nI (T 67 (3 * a + (j - 10) / 2)) := by rw [if_neg (by omega)]
          refine E_aload_n dX10_alternativeSet_59 rfl ?_
          refine E_getM' (ci := 10) (j := 9) (p := p) dX10_alternativeSet_60 fkX10_75 rfl (by decide) rfl (by decide) (hscr) ?_
          refine E_getR' (ci := 8) (j := 5) (p := p+6) dX10_alternativeSet_63 fkX10_327 rfl (by decide) (kS hs) (by decide) ((srS hs) 5 (by decide)) ?_
          refine E_iload_n dX10_alternativeSet_66 rfl ?_
          refine E_ialdN dX10_alternativeSet_67 (kp6 hs) (by omega) (by decide) (hb) ?_
          refine E_iret dX10_alternativeSet_68 rfl ?_
          exact Rt_i key
        · skip
          have key : nI (T 66 (3 * a + (j - 10) / 2)) = if j % 2 = 0 then nI (T 66 (3 * a + (j - 10) / 2)) else nI (T 67 (3 * a + (j - 10) / 2)) := by rw [if_pos (by omega)]
          refine E_aload_n dX10_alternativeSet_47 rfl ?_
          refine E_getM' (ci := 10) (j := 9) (p := p) dX10_alternativeSet_48 fkX10_75 rfl (by decide) rfl (by decide) (hscr) ?_
          refine E_getR' (ci := 8) (j := 4) (p := p+5) dX10_alternativeSet_51 fkX10_324 rfl (by decide) (kS hs) (by decide) ((srS hs) 4 (by decide)) ?_
          refine E_iload_n dX10_alternativeSet_54 rfl ?_
          refine E_ialdN dX10_alternativeSet_55 (kp5 hs) (by omega) (by decide) (hw) ?_
          refine E_goto (t := 68) dX10_alternativeSet_56 (by decide) ?_
          refine E_iret dX10_alternativeSet_68 rfl ?_
          exact Rt_i key
      · skip
        exact absurd c21 (by omega)
theorem c_answer (hM : MS T M) (hC : CX T p q M) {x w : Int32} : Call g qX10_answer [.ref 0, .int x, .int w] M (RtC (mrAnswer T x w) T p q M) := by
  have hs := spq_p (cb_pq hC.1)
  have hscr := cb_scr hC.1
  have hT := rm_wt hM.1
  have h32 := hT.1
  have hher := her_lt hM
  have kun : isAn T x = false → -1000001 = mrAnswer T x w := fun e => by unfold mrAnswer; rw [if_pos e]
  have K11 : isAn T x = true → Ex g qX10_answer (tm g qX10_answer (RtC (mrAnswer T x w) T p q M)) 11 [some (.ref 0), some (.int x), some (.int w)] [] M := fun hx => by
    have ht := isAn_t hC.1 hx
    obtain ⟨a, ha, rfl⟩ := isAn_n hx h32
    have hSC := (cb_tld hC.1 ht).1
    have hxn : ¬ isAn T (nI a) = false := by rw [hx]; decide
    have ha31 : a < 2 ^ 31 := by omega
    obtain ⟨C, hC14, hcut⟩ := hSC.2.2.2
    have hcb : C.testBit a = (T 70 a == 1) := by rw [hcut.2 a, decide_eq_true ha, Bool.true_and]
    have v0 : nI (T 62 a) = mrAnswer T (nI a) (nI 0) := by unfold mrAnswer; rw [if_neg hxn, nI_tn ha31, if_pos rfl]
    have v1 : nI (T 63 a) = mrAnswer T (nI a) (nI 1) := by unfold mrAnswer; rw [if_neg hxn, nI_tn ha31, if_neg (nq 1 0 (by decide)), if_pos rfl]
    have v2 : nI (T 64 a) = mrAnswer T (nI a) (nI 2) := by unfold mrAnswer; rw [if_neg hxn, nI_tn ha31, if_neg (nq 2 0 (by decide)), if_neg (nq 2 1 (by decide)), if_pos rfl]
    have v3 : nI (T 65 a) = mrAnswer T (nI a) (nI 3) := by unfold mrAnswer; rw [if_neg hxn, nI_tn ha31, if_neg (nq 3 0 (by decide)), if_neg (nq 3 1 (by decide)), if_neg (nq 3 2 (by decide)), if_pos rfl]
    have v4 : nI (T 68 a) = mrAnswer T (nI a) (nI 4) := by unfold mrAnswer; rw [if_neg hxn, nI_tn ha31, if_neg (nq 4 0 (by decide)), if_neg (nq 4 1 (by decide)), if_neg (nq 4 2 (by decide)), if_neg (nq 4 3 (by decide)), if_pos rfl]
    have v5 : nI (T 69 a) = mrAnswer T (nI a) (nI 5) := by unfold mrAnswer; rw [if_neg hxn, nI_tn ha31, if_neg (nq 5 0 (by decide)), if_neg (nq 5 1 (by decide)), if_neg (nq 5 2 (by decide)), if_neg (nq 5 3 (by decide)), if_neg (nq 5 4 (by decide)), if_pos rfl]
    have v6 : bI (C.testBit a) = mrAnswer T (nI a) (nI 6) := by unfold mrAnswer; rw [if_neg hxn, nI_tn ha31, if_neg (nq 6 0 (by decide)), if_neg (nq 6 1 (by decide)), if_neg (nq 6 2 (by decide)), if_neg (nq 6 3 (by decide)), if_neg (nq 6 4 (by decide)), if_neg (nq 6 5 (by decide)), if_pos rfl]; rw [hcb]
    have v7 : bI (opn T a (her T) 0) = mrAnswer T (nI a) (nI 7) := by unfold mrAnswer; rw [if_neg hxn, nI_tn ha31, if_neg (nq 7 0 (by decide)), if_neg (nq 7 1 (by decide)), if_neg (nq 7 2 (by decide)), if_neg (nq 7 3 (by decide)), if_neg (nq 7 4 (by decide)), if_neg (nq 7 5 (by decide)), if_neg (nq 7 6 (by decide)), if_pos rfl]
    have v8 : bI (vaiB T a) = mrAnswer T (nI a) (nI 8) := by unfold mrAnswer; rw [if_neg hxn, nI_tn ha31, if_neg (nq 8 0 (by decide)), if_neg (nq 8 1 (by decide)), if_neg (nq 8 2 (by decide)), if_neg (nq 8 3 (by decide)), if_neg (nq 8 4 (by decide)), if_neg (nq 8 5 (by decide)), if_neg (nq 8 6 (by decide)), if_neg (nq 8 7 (by decide)), if_pos rfl]
    have kout : (w.toInt < 0 ∨ 8 < w.toInt) → (if inI w 10 ((9 + 2 * T 65 a : Nat) : Int) = false then -1000002 else if w.toInt.toNat % 2 = 0 then nI (T 66 (3 * a + (w.toInt.toNat - 10) / 2)) else nI (T 67 (3 * a + (w.toInt.toNat - 10) / 2))) = mrAnswer T (nI a) w := fun e => by
      unfold mrAnswer
      rw [if_neg hxn, nI_tn ha31, if_neg (sw_no e 0 (by decide) (by decide)), if_neg (sw_no e 1 (by decide) (by decide)), if_neg (sw_no e 2 (by decide) (by decide)), if_neg (sw_no e 3 (by decide) (by decide)), if_neg (sw_no e 4 (by decide) (by decide)), if_neg (sw_no e 5 (by decide) (by decide)), if_neg (sw_no e 6 (by decide) (by decide)), if_neg (sw_no e 7 (by decide) (by decide)), if_neg (sw_no e 8 (by decide) (by decide))]
    refine E_iload_n dX10_answer_11 rfl ?_
    have hsw : w = nI 0 ∨ w = nI 1 ∨ w = nI 2 ∨ w = nI 3 ∨ w = nI 4 ∨ w = nI 5 ∨ w = nI 6 ∨ w = nI 7 ∨ w = nI 8 ∨ (w.toInt < 0 ∨ 8 < w.toInt) := by
      rcases sw_ex w 8 (by decide) with ⟨j, hj, rfl⟩ | h7
      · rcases (show j = 0 ∨ j = 1 ∨ j = 2 ∨ j = 3 ∨ j = 4 ∨ j = 5 ∨ j = 6 ∨ j = 7 ∨ j = 8 by omega) with rfl | rfl | rfl | rfl | rfl | rfl | rfl | rfl | rfl <;> simp
      · exact Or.inr (Or.inr (Or.inr (Or.inr (Or.inr (Or.inr (Or.inr (Or.inr (Or.inr (h7)))))))))
    rcases hsw with rfl | rfl | rfl | rfl | rfl | rfl | rfl | rfl | rfl | hsw8
    · skip
      refine E_swIn (t := 64) (off := 52) dX10_answer_12 (by decide) (by decide) (by decide) (by decide) ?_
      refine E_aload_n dX10_answer_64 rfl ?_
      refine E_getM' (ci := 10) (j := 9) (p := p) dX10_answer_65 fkX10_75 rfl (by decide) rfl (by decide) (hscr) ?_
      refine E_getR' (ci := 8) (j := 0) (p := p+1) dX10_answer_68 fkX10_169 rfl (by decide) (kS hs) (by decide) ((srS hs) 0 (by decide)) ?_
      refine E_iload_n dX10_answer_71 rfl ?_
      refine E_ialdN dX10_answer_72 (kp1 hs) (by omega) (by decide) (sc_from hSC ha) ?_
      refine E_iret dX10_answer_73 rfl ?_
      exact rtc v0 hC F60.rf
    · skip
      refine E_swIn (t := 74) (off := 62) dX10_answer_12 (by decide) (by decide) (by decide) (by decide) ?_
      refine E_aload_n dX10_answer_74 rfl ?_
      refine E_getM' (ci := 10) (j := 9) (p := p) dX10_answer_75 fkX10_75 rfl (by decide) rfl (by decide) (hscr) ?_
      refine E_getR' (ci := 8) (j := 1) (p := p+2) dX10_answer_78 fkX10_172 rfl (by decide) (kS hs) (by decide) ((srS hs) 1 (by decide)) ?_
      refine E_iload_n dX10_answer_81 rfl ?_
      refine E_ialdN dX10_answer_82 (kp2 hs) (by omega) (by decide) (sc_to hSC ha) ?_
      refine E_iret dX10_answer_83 rfl ?_
      exact rtc v1 hC F60.rf
    · skip
      refine E_swIn (t := 84) (off := 72) dX10_answer_12 (by decide) (by decide) (by decide) (by decide) ?_
      refine E_aload_n dX10_answer_84 rfl ?_
      refine E_getM' (ci := 10) (j := 9) (p := p) dX10_answer_85 fkX10_75 rfl (by decide) rfl (by decide) (hscr) ?_
      refine E_getR' (ci := 8) (j := 2) (p := p+3) dX10_answer_88 fkX10_153 rfl (by decide) (kS hs) (by decide) ((srS hs) 2 (by decide)) ?_
      refine E_iload_n dX10_answer_91 rfl ?_
      refine E_ialdN dX10_answer_92 (kp3 hs) (by omega) (by decide) (sc_price hSC ha) ?_
      refine E_iret dX10_answer_93 rfl ?_
      exact rtc v2 hC F60.rf
    · skip
      refine E_swIn (t := 94) (off := 82) dX10_answer_12 (by decide) (by decide) (by decide) (by decide) ?_
      refine E_aload_n dX10_answer_94 rfl ?_
      refine E_getM' (ci := 10) (j := 9) (p := p) dX10_answer_95 fkX10_75 rfl (by decide) rfl (by decide) (hscr) ?_
      refine E_getR' (ci := 8) (j := 3) (p := p+4) dX10_answer_98 fkX10_175 rfl (by decide) (kS hs) (by decide) ((srS hs) 3 (by decide)) ?_
      refine E_iload_n dX10_answer_101 rfl ?_
      refine E_ialdN dX10_answer_102 (kp4 hs) (by omega) (by decide) (sc_alts hSC ha) ?_
      refine E_iret dX10_answer_103 rfl ?_
      exact rtc v3 hC F60.rf
    · skip
      refine E_swIn (t := 104) (off := 92) dX10_answer_12 (by decide) (by decide) (by decide) (by decide) ?_
      refine E_aload_n dX10_answer_104 rfl ?_
      refine E_getM' (ci := 10) (j := 9) (p := p) dX10_answer_105 fkX10_75 rfl (by decide) rfl (by decide) (hscr) ?_
      refine E_getR' (ci := 8) (j := 6) (p := p+7) dX10_answer_108 fkX10_178 rfl (by decide) (kS hs) (by decide) ((srS hs) 6 (by decide)) ?_
      refine E_iload_n dX10_answer_111 rfl ?_
      refine E_ialdN dX10_answer_112 (kp7 hs) (by omega) (by decide) (sc_lays hSC ha) ?_
      refine E_iret dX10_answer_113 rfl ?_
      exact rtc v4 hC F60.rf
    · skip
      refine E_swIn (t := 114) (off := 102) dX10_answer_12 (by decide) (by decide) (by decide) (by decide) ?_
      refine E_aload_n dX10_answer_114 rfl ?_
      refine E_getM' (ci := 10) (j := 9) (p := p) dX10_answer_115 fkX10_75 rfl (by decide) rfl (by decide) (hscr) ?_
      refine E_getR' (ci := 8) (j := 7) (p := p+8) dX10_answer_118 fkX10_181 rfl (by decide) (kS hs) (by decide) ((srS hs) 7 (by decide)) ?_
      refine E_iload_n dX10_answer_121 rfl ?_
      refine E_ialdN dX10_answer_122 (kp8 hs) (by omega) (by decide) (sc_takes hSC ha) ?_
      refine E_iret dX10_answer_123 rfl ?_
      exact rtc v5 hC F60.rf
    · skip
      refine E_swIn (t := 124) (off := 112) dX10_answer_12 (by decide) (by decide) (by decide) (by decide) ?_
      refine E_aload_n dX10_answer_124 rfl ?_
      refine E_getM' (ci := 10) (j := 9) (p := p) dX10_answer_125 fkX10_75 rfl (by decide) rfl (by decide) (hscr) ?_
      refine E_getI' (ci := 8) (j := 14) dX10_answer_128 fkX10_132 rfl (by decide) (kS hs) (by decide) (hC14) ?_
      refine E_iload_n dX10_answer_131 rfl ?_
      refine E_callS (r := qX10_bit) dX10_answer_132 mkX10_135 toX10_bit rfl ⟨Nat.le_of_ble_eq_true rfl, Nat.le_of_ble_eq_true rfl, Nat.le_of_ble_eq_true rfl, Nat.le_of_ble_eq_true rfl⟩ (c_bit (by omega)) rfl (Nat.le_of_ble_eq_true rfl) ?_
      rintro _ _ ⟨rfl, rfl⟩
      refine E_iret dX10_answer_135 rfl ?_
      exact rtc v6 hC F60.rf
    · skip
      refine E_swIn (t := 136) (off := 124) dX10_answer_12 (by decide) (by decide) (by decide) (by decide) ?_
      refine E_aload_n dX10_answer_136 rfl ?_
      refine E_iload_n dX10_answer_137 rfl ?_
      refine E_callV (r := qX10_isOpenHere) (ci := 10) dX10_answer_138 mkX10_121 voX10_isOpenHere rfl rfl rfl ⟨Nat.le_of_ble_eq_true rfl, Nat.le_of_ble_eq_true rfl, Nat.le_of_ble_eq_true rfl, Nat.le_of_ble_eq_true rfl⟩ (c_isOpenHere hC.1 ht hher ha) rfl (Nat.le_of_ble_eq_true rfl) ?_
      rintro _ _ ⟨rfl, rfl⟩
      refine E_if_eqB (t := 148) dX10_answer_141 (by decide) (fun c141 => ?_) (fun c141 => ?_)
      · skip
        have v7' : nI 0 = mrAnswer T (nI a) (nI 7) := by rw [← v7, c141]; rfl
        refine E_iconst (v := nI 0) dX10_answer_148 rfl ?_
        refine E_iret dX10_answer_149 rfl ?_
        exact rtc v7' hC F60.rf
      · skip
        have v7' : nI 1 = mrAnswer T (nI a) (nI 7) := by rw [← v7, c141]; rfl
        refine E_iconst (v := nI 1) dX10_answer_144 rfl ?_
        refine E_goto (t := 149) dX10_answer_145 (by decide) ?_
        refine E_iret dX10_answer_149 rfl ?_
        exact rtc v7' hC F60.rf
    · skip
      refine E_swIn (t := 150) (off := 138) dX10_answer_12 (by decide) (by decide) (by decide) (by decide) ?_
      refine E_aload_n dX10_answer_150 rfl ?_
      refine E_getM' (ci := 10) (j := 9) (p := p) dX10_answer_151 fkX10_75 rfl (by decide) rfl (by decide) (hscr) ?_
      refine E_iload_n dX10_answer_154 rfl ?_
      refine E_callV (r := qX8_guardContradictsItself) (ci := 8) dX10_answer_155 mkX10_184 voX8_guardContradictsItself rfl (kS hs) rfl ⟨Nat.le_of_ble_eq_true rfl, Nat.le_of_ble_eq_true rfl, Nat.le_of_ble_eq_true rfl, Nat.le_of_ble_eq_true rfl⟩ (c_contra hSC ha) rfl (Nat.le_of_ble_eq_true rfl) ?_
      rintro _ _ ⟨rfl, rfl⟩
      refine E_if_eqB (t := 165) dX10_answer_158 (by decide) (fun c158 => ?_) (fun c158 => ?_)
      · skip
        have v8' : nI 0 = mrAnswer T (nI a) (nI 8) := by rw [← v8, c158]; rfl
        refine E_iconst (v := nI 0) dX10_answer_165 rfl ?_
        refine E_iret dX10_answer_166 rfl ?_
        exact rtc v8' hC F60.rf
      · skip
        have v8' : nI 1 = mrAnswer T (nI a) (nI 8) := by rw [← v8, c158]; rfl
        refine E_iconst (v := nI 1) dX10_answer_161 rfl ?_
        refine E_goto (t := 166) dX10_answer_162 (by decide) ?_
        refine E_iret dX10_answer_166 rfl ?_
        exact rtc v8' hC F60.rf
    · skip
      refine E_swOut (t := 167) dX10_answer_12 (hsw8) (by decide) ?_
      refine E_aload_n dX10_answer_167 rfl ?_
      refine E_iload_n dX10_answer_168 rfl ?_
      refine E_iload_n dX10_answer_169 rfl ?_
      refine E_callV (r := qX10_alternativeSet) (ci := 10) dX10_answer_170 mkX10_187 voX10_alternativeSet rfl rfl rfl ⟨Nat.le_of_ble_eq_true rfl, Nat.le_of_ble_eq_true rfl, Nat.le_of_ble_eq_true rfl, Nat.le_of_ble_eq_true rfl⟩ (c_altSet hC.1 ht hT ha) rfl (Nat.le_of_ble_eq_true rfl) ?_
      rintro _ _ ⟨rfl, rfl⟩
      refine E_iret dX10_answer_173 rfl ?_
      exact rtc (kout hsw8) hC F60.rf
  refine Call_of (ls0 := [some (.ref 0), some (.int x), some (.int w)]) rfl rfl (Nat.le_of_ble_eq_true rfl) ?_
  refine E_aload_n dX10_answer_0 rfl ?_
  refine E_iload_n dX10_answer_1 rfl ?_
  refine E_callV (r := qX10_isAnswer) (ci := 10) dX10_answer_2 mkX10_118 voX10_isAnswer rfl rfl rfl ⟨Nat.le_of_ble_eq_true rfl, Nat.le_of_ble_eq_true rfl, Nat.le_of_ble_eq_true rfl, Nat.le_of_ble_eq_true rfl⟩ (c_isAnswer hC.1 h32) rfl (Nat.le_of_ble_eq_true rfl) ?_
  rintro _ _ ⟨rfl, rfl⟩
  refine E_if_neB (t := 11) dX10_answer_5 (by decide) (fun c5 => ?_) (fun c5 => ?_)
  · skip
    exact K11 c5
  · skip
    refine E_ldc dX10_answer_8 ckX10_114 ?_
    refine E_iret dX10_answer_10 rfl ?_
    exact rtc (kun c5) hC F60.rf
end PU1
