-- the model's state whole; write, fault, begin, take, back, step, count, answer
def RA (T : TK) (M : AM) : Prop := M.1 61 17 = nI (T 61 17) ∧ T 61 17 ≤ 12 ∧ (∀ a, a < 32 → M.1 70 a = 0 ∨ M.1 70 a = 1) ∧ ∀ i, i < T 61 17 → ∀ a, a < T 61 0 → M.1 72 (32 * i + a) = nI (T 72 (32 * i + a)) ∧ T 72 (32 * i + a) < 20
def RX (T : TK) (M : AM) : Prop := M.1 61 21 = nI (T 61 21) ∧ T 61 21 ≤ 200 ∧ (∀ i, i < T 61 21 → M.1 75 i = nI (T 75 i) ∧ T 75 i < 256) ∧ M.1 61 22 = nI (T 61 22) ∧ T 61 22 ≤ 4
def MS (T : TK) (M : AM) : Prop := RM T M ∧ RB T M ∧ RS T M ∧ RA T M ∧ RX T M
def upT (T : TK) (k j v : Nat) : TK := fun a b => if a = k ∧ b = j then v else T a b
theorem upT_at {T : TK} {k j v : Nat} : upT T k j v k j = v := by unfold upT; rw [if_pos ⟨rfl, rfl⟩]
theorem upT_ne {T : TK} {k j v a b : Nat} (h1 : ¬ (a = k ∧ b = j)) : upT T k j v a b = T a b := by unfold upT; rw [if_neg h1]
theorem wt_ag {T T' : TK} (hT : WT T) (h1 : ∀ j, j < 4 → T' 61 j = T 61 j) (h2 : ∀ i, i < 9 → T' (62 + i) = T (62 + i)) : WT T' := by
  have e0 := h1 0 (by decide)
  have e1 := h1 1 (by decide)
  have e2 := h1 2 (by decide)
  have e3 := h1 3 (by decide)
  have f0 : T' 62 = T 62 := h2 0 (by decide)
  have f1 : T' 63 = T 63 := h2 1 (by decide)
  have f2 : T' 64 = T 64 := h2 2 (by decide)
  have f3 : T' 65 = T 65 := h2 3 (by decide)
  have f4 : T' 66 = T 66 := h2 4 (by decide)
  have f5 : T' 67 = T 67 := h2 5 (by decide)
  have f6 : T' 68 = T 68 := h2 6 (by decide)
  have f7 : T' 69 = T 69 := h2 7 (by decide)
  have f8 : T' 70 = T 70 := h2 8 (by decide)
  unfold WT
  rw [e0, e1, e2, e3, f0, f1, f2, f3, f4, f5, f6, f7, f8]
  exact hT
theorem rm_ag {T T' : TK} {M M' : AM} (hR : RM T M) (h1 : ∀ j, j < 4 → M'.1 61 j = M.1 61 j ∧ T' 61 j = T 61 j) (h2 : ∀ i, i < 9 → M'.1 (62 + i) = M.1 (62 + i) ∧ T' (62 + i) = T (62 + i)) : RM T' M' := by
  have hR2 := rm_cong hR (fun j hj => (h1 j hj).1) (fun i hi => (h2 i hi).1)
  have e0 := (h1 0 (by decide)).2
  have f3 : T' 65 = T 65 := (h2 3 (by decide)).2
  have f4 : T' 66 = T 66 := (h2 4 (by decide)).2
  have f5 : T' 67 = T 67 := (h2 5 (by decide)).2
  refine ⟨fun j hj => by rw [(h1 j hj).2]; exact hR2.1 j hj, fun a ha i hi n4 n5 => by rw [(h2 i hi).2]; exact hR2.2.1 a (by rw [← e0]; exact ha) i hi n4 n5, fun a ha k hk => ?_, wt_ag hR2.2.2.2 (fun j hj => (h1 j hj).2) (fun i hi => (h2 i hi).2)⟩
  rw [f4, f5]
  rw [f3] at hk
  exact hR2.2.2.1 a (by rw [← e0]; exact ha) k hk
theorem rb_ag {T T' : TK} {M M' : AM} (hB : RB T M) (h1 : M'.1 61 13 = M.1 61 13) (h2 : T' 61 13 = T 61 13) : RB T' M' := ⟨by rw [h1, h2]; exact hB.1, by rw [h2]; exact hB.2⟩
theorem rs_ag {T T' : TK} {M M' : AM} (hS : RS T M) (h1 : M'.1 61 15 = M.1 61 15) (h2 : T' 61 15 = T 61 15) (h3 : M'.1 71 = M.1 71) (h4 : T' 71 = T 71) (h5 : T' 61 0 = T 61 0) : RS T' M' := by
  unfold RS
  rw [h1, h2, h3, h4, h5]
  exact hS
theorem ra_ag {T T' : TK} {M M' : AM} (hA : RA T M) (h1 : M'.1 61 17 = M.1 61 17) (h2 : T' 61 17 = T 61 17) (h3 : M'.1 70 = M.1 70) (h4 : M'.1 72 = M.1 72) (h5 : T' 72 = T 72) (h6 : T' 61 0 = T 61 0) : RA T' M' := by
  unfold RA
  rw [h1, h2, h3, h4, h5, h6]
  exact hA
theorem rx_ag {T T' : TK} {M M' : AM} (hX : RX T M) (h1 : M'.1 61 21 = M.1 61 21) (h2 : T' 61 21 = T 61 21) (h3 : M'.1 75 = M.1 75) (h4 : T' 75 = T 75) (h5 : M'.1 61 22 = M.1 61 22) (h6 : T' 61 22 = T 61 22) : RX T' M' := by
  unfold RX
  rw [h1, h2, h3, h4, h5, h6]
  exact hX
def mdlP : List Nat := [61, 62, 63, 64, 65, 66, 67, 68, 69, 70, 71, 72, 73, 74, 75, 76, 77, 78, 79, 80, 81, 82, 83, 84]
theorem ms_sb {T : TK} {M M' : AM} (h1 : MS T M) (hS : Sb scrM M M') : MS T M' := by
  have q : ∀ k, k ∉ scrM → M'.1 k = M.1 k := fun k hk => (hS k hk).1
  have q61 := q 61 (by decide)
  exact ⟨rm_sb h1.1 hS (by decide), rb_ag h1.2.1 (by rw [q61]) rfl, rs_ag h1.2.2.1 (by rw [q61]) rfl (q 71 (by decide)) rfl rfl, ra_ag h1.2.2.2.1 (by rw [q61]) rfl (q 70 (by decide)) (q 72 (by decide)) rfl rfl, rx_ag h1.2.2.2.2 (by rw [q61]) rfl (q 75 (by decide)) rfl (by rw [q61]) rfl⟩
abbrev RtM (x : Int32) (T : TK) (M : AM) : Option Value → AM → Prop := fun v M' => v = some (.int x) ∧ Sb mdlP M M' ∧ MS T M'
theorem sI_o {M : AM} {k j a b : Nat} {x : Int32} (h1 : ¬ (a = k ∧ b = j)) : (sI M k j x).1 a b = M.1 a b := by rw [sI_get, if_neg h1]
theorem sI_s {M : AM} {k j : Nat} {x : Int32} : (sI M k j x).1 k j = x := by rw [sI_get, if_pos ⟨rfl, rfl⟩]
section M14
variable {g : GG} {M : AM} {T : TK}
def mrWrite (T : TK) (x : Int32) : Int32 := if inI x 0 255 = false then -1000002 else if T 61 21 = 200 then -1000004 else nI (T 61 21 + 1)
def nxWrite (T : TK) (x : Int32) : TK := if inI x 0 255 = false then T else if T 61 21 = 200 then T else upT (upT T 75 (T 61 21) x.toInt.toNat) 61 21 (T 61 21 + 1)
theorem m_write (hM : MS T M) {x : Int32} : Call g qX11_write [.ref 61, .int x] M (RtM (mrWrite T x) (nxWrite T x) M) := by
  obtain ⟨hR, hB, hS, hA, hX⟩ := id hM
  have hsz := hX.2.1
  refine Call_of (ls0 := [some (.ref 61), some (.int x)]) rfl rfl (Nat.le_of_ble_eq_true rfl) ?_
  refine E_iload_n dX11_write_0 rfl ?_
  refine E_i2l dX11_write_1 ?_
  refine E_lconst (v := 0) dX11_write_2 rfl ?_
  refine E_ldc2 dX11_write_3 clX11_129 ?_
  refine E_callS (r := qX11_in) dX11_write_6 mkX11_88 toX11_in rfl ⟨Nat.le_of_ble_eq_true rfl, Nat.le_of_ble_eq_true rfl, Nat.le_of_ble_eq_true rfl, Nat.le_of_ble_eq_true rfl⟩ (m_inI) rfl (Nat.le_of_ble_eq_true rfl) ?_
  rintro _ _ ⟨rfl, rfl⟩
  refine E_top (show _ = bI (inI x 0 255) from rfl) ?_
  refine E_if_neB (t := 15) dX11_write_9 (by decide) (fun c9 => ?_) (fun c9 => ?_)
  · skip
    obtain ⟨c, hc1, hc2, rfl, hc3⟩ := inI_nat c9 (by decide)
    refine E_aload_n dX11_write_15 rfl ?_
    refine E_getI' (ci := 11) (j := 21) dX11_write_16 fkX11_132 rfl (by decide) rfl (by decide) (hX.1) ?_
    refine E_sipush (v := nI 200) dX11_write_19 rfl ?_
    refine E_icmp_neN (t := 28) dX11_write_22 (by decide) (by omega) (by omega) (fun c22 => ?_) (fun c22 => ?_)
    · skip
      refine E_aload_n dX11_write_28 rfl ?_
      refine E_getR' (ci := 11) (j := 20) (p := 75) dX11_write_29 fkX11_50 rfl (by decide) rfl (by decide) (rfl) ?_
      refine E_aload_n dX11_write_32 rfl ?_
      refine E_getI' (ci := 11) (j := 21) dX11_write_33 fkX11_132 rfl (by decide) rfl (by decide) (hX.1) ?_
      refine E_iload_n dX11_write_36 rfl ?_
      refine E_iastN dX11_write_37 rfl (by omega) (by decide) ?_
      refine E_aload_n dX11_write_38 rfl ?_
      refine E_dup dX11_write_39 rfl ?_
      refine E_getI' (ci := 11) (j := 21) dX11_write_40 fkX11_132 rfl (by decide) rfl (by decide) ((sI_o (by omega)).trans hX.1) ?_
      refine E_iconst (v := nI 1) dX11_write_43 rfl ?_
      refine E_iaddN dX11_write_44 ?_
      refine E_putI (ci := 11) (j := 21) dX11_write_45 fkX11_132 rfl (by decide) rfl (by decide) ?_
      refine E_aload_n dX11_write_48 rfl ?_
      refine E_getI' (ci := 11) (j := 21) dX11_write_49 fkX11_132 rfl (by decide) rfl (by decide) (sI_s) ?_
      refine E_iret dX11_write_52 rfl ?_
      refine ⟨by unfold mrWrite; rw [if_neg (by rw [c9]; decide), if_neg c22], (Sb.i (by decide)).tr (Sb.i (by decide)), ?_⟩
      unfold nxWrite
      rw [if_neg (by rw [c9]; decide), if_neg c22, nI_tn hc3]
      have qM : ∀ k, k ≠ 61 → k ≠ 75 → (sI (sI M 75 (T 61 21) (nI c)) 61 21 (nI (T 61 21 + 1))).1 k = M.1 k := fun k h1 h2 => by rw [sI_ne h1, sI_ne h2]
      have q6 : ∀ j, j ≠ 21 → (sI (sI M 75 (T 61 21) (nI c)) 61 21 (nI (T 61 21 + 1))).1 61 j = M.1 61 j := fun j h1 => by rw [sI_o (fun e => h1 e.2), sI_o (by omega)]
      have qT : ∀ k, k ≠ 61 → k ≠ 75 → (upT (upT T 75 (T 61 21) c) 61 21 (T 61 21 + 1)) k = T k := fun k h1 h2 => by funext j; rw [upT_ne (fun e => h1 e.1), upT_ne (fun e => h2 e.1)]
      have qt : ∀ j, j ≠ 21 → (upT (upT T 75 (T 61 21) c) 61 21 (T 61 21 + 1)) 61 j = T 61 j := fun j h1 => by rw [upT_ne (fun e => h1 e.2), upT_ne (by omega)]
      refine ⟨rm_ag hR (fun j hj => ⟨q6 j (by omega), qt j (by omega)⟩) (fun i hi => ⟨qM _ (by omega) (by omega), qT _ (by omega) (by omega)⟩), rb_ag hB (q6 13 (by decide)) (qt 13 (by decide)), rs_ag hS (q6 15 (by decide)) (qt 15 (by decide)) (qM 71 (by decide) (by decide)) (qT 71 (by decide) (by decide)) (qt 0 (by decide)), ra_ag hA (q6 17 (by decide)) (qt 17 (by decide)) (qM 70 (by decide) (by decide)) (qM 72 (by decide) (by decide)) (qT 72 (by decide) (by decide)) (qt 0 (by decide)), ?_⟩
      refine ⟨by rw [sI_s, upT_at], by rw [upT_at]; omega, fun i hi => ?_, by rw [q6 22 (by decide), qt 22 (by decide)]; exact hX.2.2.2.1, by rw [qt 22 (by decide)]; exact hX.2.2.2.2⟩
      rw [upT_at] at hi
      rw [sI_o (by omega), upT_ne (by omega)]
      by_cases e : i = T 61 21
      · rw [e, sI_s, upT_at]; exact ⟨rfl, by omega⟩
      · rw [sI_o (fun h2 => e h2.2), upT_ne (fun h2 => e h2.2)]; exact hX.2.2.1 i (by omega)
    · skip
      refine E_ldc dX11_write_25 ckX11_135 ?_
      refine E_iret dX11_write_27 rfl ?_
      exact ⟨by unfold mrWrite; rw [if_neg (by rw [c9]; decide), if_pos c22], Sb.rf, by unfold nxWrite; rw [if_neg (by rw [c9]; decide), if_pos c22]; exact hM⟩
  · skip
    refine E_ldc dX11_write_12 ckX11_131 ?_
    refine E_iret dX11_write_14 rfl ?_
    exact ⟨by unfold mrWrite; rw [if_pos c9], Sb.rf, by unfold nxWrite; rw [if_pos c9]; exact hM⟩
theorem m_fault (hM : MS T M) : Call g qX11_fault [.ref 61] M (RtM (nI (T 61 22)) T M) := by
  refine Call_of (ls0 := [some (.ref 61)]) rfl rfl (Nat.le_of_ble_eq_true rfl) ?_
  refine E_aload_n dX11_fault_0 rfl ?_
  refine E_getI' (ci := 11) (j := 22) dX11_fault_1 fkX11_202 rfl (by decide) rfl (by decide) (hM.2.2.2.2.2.2.2.1) ?_
  refine E_iret dX11_fault_4 rfl ?_
  exact ⟨rfl, Sb.rf, hM⟩
def tlk (T : TK) : Bool := !(T 61 1 == 0)
def mrBegin (T : TK) (x : Int32) : Int32 := if tlk T = false then -1000001 else if inI x 0 63 = false then -1000002 else nI (T 61 3)
def nxBegin (T : TK) (x : Int32) : TK := if tlk T = false then T else if inI x 0 63 = false then T else upT (upT T 61 13 x.toInt.toNat) 61 15 0
theorem m_begin (hM : MS T M) {x : Int32} : Call g qX11_begin [.ref 61, .int x] M (RtM (mrBegin T x) (nxBegin T x) M) := by
  obtain ⟨hR, hB, hS, hA, hX⟩ := id hM
  refine Call_of (ls0 := [some (.ref 61), some (.int x)]) rfl rfl (Nat.le_of_ble_eq_true rfl) ?_
  refine E_aload_n dX11_begin_0 rfl ?_
  refine E_callV (r := qX11_isTalk) (ci := 11) dX11_begin_1 mkX11_211 voX11_isTalk rfl rfl rfl ⟨Nat.le_of_ble_eq_true rfl, Nat.le_of_ble_eq_true rfl, Nat.le_of_ble_eq_true rfl, Nat.le_of_ble_eq_true rfl⟩ (m_isTalk hR) rfl (Nat.le_of_ble_eq_true rfl) ?_
  rintro _ _ ⟨rfl, rfl⟩
  refine E_if_neB (t := 10) dX11_begin_4 (by decide) (fun c4 => ?_) (fun c4 => ?_)
  · skip
    have ht : ¬ tlk T = false := by unfold tlk; rw [c4]; decide
    refine E_iload_n dX11_begin_10 rfl ?_
    refine E_i2l dX11_begin_11 ?_
    refine E_lconst (v := 0) dX11_begin_12 rfl ?_
    refine E_ldc2 dX11_begin_13 clX11_215 ?_
    refine E_callS (r := qX11_in) dX11_begin_16 mkX11_88 toX11_in rfl ⟨Nat.le_of_ble_eq_true rfl, Nat.le_of_ble_eq_true rfl, Nat.le_of_ble_eq_true rfl, Nat.le_of_ble_eq_true rfl⟩ (m_inI) rfl (Nat.le_of_ble_eq_true rfl) ?_
    rintro _ _ ⟨rfl, rfl⟩
    refine E_top (show _ = bI (inI x 0 63) from rfl) ?_
    refine E_if_neB (t := 25) dX11_begin_19 (by decide) (fun c19 => ?_) (fun c19 => ?_)
    · skip
      obtain ⟨c, hc1, hc2, rfl, hc3⟩ := inI_nat c19 (by decide)
      refine E_aload_n dX11_begin_25 rfl ?_
      refine E_iload_n dX11_begin_26 rfl ?_
      refine E_putI (ci := 11) (j := 13) dX11_begin_27 fkX11_115 rfl (by decide) rfl (by decide) ?_
      refine E_aload_n dX11_begin_30 rfl ?_
      refine E_iconst (v := nI 0) dX11_begin_31 rfl ?_
      refine E_putI (ci := 11) (j := 15) dX11_begin_32 fkX11_126 rfl (by decide) rfl (by decide) ?_
      refine E_aload_n dX11_begin_35 rfl ?_
      refine E_getI' (ci := 11) (j := 3) dX11_begin_36 fkX11_112 rfl (by decide) rfl (by decide) (((sI_o (by decide)).trans ((sI_o (by decide)).trans (rm_start hR)))) ?_
      refine E_iret dX11_begin_39 rfl ?_
      refine ⟨by unfold mrBegin; rw [if_neg ht, if_neg (by rw [c19]; decide)], (Sb.i (by decide)).tr (Sb.i (by decide)), ?_⟩
      unfold nxBegin
      rw [if_neg ht, if_neg (by rw [c19]; decide), nI_tn hc3]
      have qM : ∀ k, k ≠ 61 → (sI (sI M 61 13 (nI c)) 61 15 (nI 0)).1 k = M.1 k := fun k h1 => by rw [sI_ne h1, sI_ne h1]
      have q6 : ∀ j, j ≠ 13 → j ≠ 15 → (sI (sI M 61 13 (nI c)) 61 15 (nI 0)).1 61 j = M.1 61 j := fun j h1 h2 => by rw [sI_o (fun e => h2 e.2), sI_o (fun e => h1 e.2)]
      have qT : ∀ k, k ≠ 61 → (upT (upT T 61 13 c) 61 15 0) k = T k := fun k h1 => by funext j; rw [upT_ne (fun e => h1 e.1), upT_ne (fun e => h1 e.1)]
      have qt : ∀ j, j ≠ 13 → j ≠ 15 → (upT (upT T 61 13 c) 61 15 0) 61 j = T 61 j := fun j h1 h2 => by rw [upT_ne (fun e => h2 e.2), upT_ne (fun e => h1 e.2)]
      refine ⟨rm_ag hR (fun j hj => ⟨q6 j (by omega) (by omega), qt j (by omega) (by omega)⟩) (fun i hi => ⟨qM _ (by omega), qT _ (by omega)⟩), ⟨by rw [sI_o (by decide), sI_s, upT_ne (by decide), upT_at], by rw [upT_ne (by decide), upT_at]; omega⟩, ⟨by rw [sI_s, upT_at], by rw [upT_at]; decide, fun k hk => by rw [upT_at] at hk; exact absurd hk (Nat.not_lt_zero k)⟩, ra_ag hA (q6 17 (by decide) (by decide)) (qt 17 (by decide) (by decide)) (qM 70 (by decide)) (qM 72 (by decide)) (qT 72 (by decide)) (qt 0 (by decide) (by decide)), rx_ag hX (q6 21 (by decide) (by decide)) (qt 21 (by decide) (by decide)) (qM 75 (by decide)) (qT 75 (by decide)) (q6 22 (by decide) (by decide)) (qt 22 (by decide) (by decide))⟩
    · skip
      refine E_ldc dX11_begin_22 ckX11_131 ?_
      refine E_iret dX11_begin_24 rfl ?_
      exact ⟨by unfold mrBegin; rw [if_neg ht, if_pos c19], Sb.rf, by unfold nxBegin; rw [if_neg ht, if_pos c19]; exact hM⟩
  · skip
    have ht : tlk T = false := c4
    refine E_ldc dX11_begin_7 ckX11_214 ?_
    refine E_iret dX11_begin_9 rfl ?_
    exact ⟨by unfold mrBegin; rw [if_pos ht], Sb.rf, by unfold nxBegin; rw [if_pos ht]; exact hM⟩
def her (T : TK) : Nat := herN T (T 61 15)
def isAn (T : TK) (x : Int32) : Bool := inI x 0 ((T 61 0 : Int) - 1)
def mrTake (T : TK) (x : Int32) : Int32 := if isAn T x = false then -1000001 else if opn T x.toInt.toNat (her T) 0 = false then -1000003 else if T 61 15 = 60 then -1000004 else nI (T 63 x.toInt.toNat)
def nxTake (T : TK) (x : Int32) : TK := if isAn T x = false then T else if opn T x.toInt.toNat (her T) 0 = false then T else if T 61 15 = 60 then T else upT (upT T 71 (T 61 15) x.toInt.toNat) 61 15 (T 61 15 + 1)
theorem m_take (hM : MS T M) {x : Int32} : Call g qX11_take [.ref 61, .int x] M (RtM (mrTake T x) (nxTake T x) M) := by
  obtain ⟨hR, hB, hS, hA, hX⟩ := id hM
  have hst := hS.2.1
  have h32 := rm_32 hR
  have hher := herN_lt hR hB hS (T 61 15) (Nat.le_refl _)
  refine Call_of (ls0 := [some (.ref 61), some (.int x)]) rfl rfl (Nat.le_of_ble_eq_true rfl) ?_
  refine E_aload_n dX11_take_0 rfl ?_
  refine E_iload_n dX11_take_1 rfl ?_
  refine E_callV (r := qX11_isAnswer) (ci := 11) dX11_take_2 mkX11_217 voX11_isAnswer rfl rfl rfl ⟨Nat.le_of_ble_eq_true rfl, Nat.le_of_ble_eq_true rfl, Nat.le_of_ble_eq_true rfl, Nat.le_of_ble_eq_true rfl⟩ (m_isAnswer hR) rfl (Nat.le_of_ble_eq_true rfl) ?_
  rintro _ _ ⟨rfl, rfl⟩
  refine E_if_neB (t := 11) dX11_take_5 (by decide) (fun c5 => ?_) (fun c5 => ?_)
  · skip
    obtain ⟨a, ha1, ha2, rfl, ha3⟩ := inI_nat c5 (by decide)
    have ht : ¬ isAn T (nI a) = false := by unfold isAn; rw [c5]; decide
    have ha : a < T 61 0 := by omega
    refine E_aload_n dX11_take_11 rfl ?_
    refine E_iload_n dX11_take_12 rfl ?_
    refine E_aload_n dX11_take_13 rfl ?_
    refine E_callV (r := qX11_here) (ci := 11) dX11_take_14 mkX11_221 voX11_here rfl rfl rfl ⟨Nat.le_of_ble_eq_true rfl, Nat.le_of_ble_eq_true rfl, Nat.le_of_ble_eq_true rfl, Nat.le_of_ble_eq_true rfl⟩ (m_here hR hB hS) rfl (Nat.le_of_ble_eq_true rfl) ?_
    rintro _ _ ⟨rfl, rfl⟩
    refine E_iconst (v := -1) dX11_take_17 rfl ?_
    refine E_callV (r := qX11_isOpen) (ci := 11) dX11_take_18 mkX11_105 voX11_isOpen rfl rfl rfl ⟨Nat.le_of_ble_eq_true rfl, Nat.le_of_ble_eq_true rfl, Nat.le_of_ble_eq_true rfl, Nat.le_of_ble_eq_true rfl⟩ (m_isOpen0 hR ha hher) rfl (Nat.le_of_ble_eq_true rfl) ?_
    rintro _ _ ⟨rfl, rfl⟩
    refine E_if_neB (t := 27) dX11_take_21 (by decide) (fun c21 => ?_) (fun c21 => ?_)
    · skip
      have ho : ¬ opn T a (her T) 0 = false := by unfold her; rw [c21]; decide
      refine E_aload_n dX11_take_27 rfl ?_
      refine E_getI' (ci := 11) (j := 15) dX11_take_28 fkX11_126 rfl (by decide) rfl (by decide) (hS.1) ?_
      refine E_bipush (v := nI 60) dX11_take_31 rfl ?_
      refine E_icmp_neN (t := 39) dX11_take_33 (by decide) (by omega) (by omega) (fun c33 => ?_) (fun c33 => ?_)
      · skip
        refine E_aload_n dX11_take_39 rfl ?_
        refine E_getR' (ci := 11) (j := 14) (p := 71) dX11_take_40 fkX11_38 rfl (by decide) rfl (by decide) (rfl) ?_
        refine E_aload_n dX11_take_43 rfl ?_
        refine E_getI' (ci := 11) (j := 15) dX11_take_44 fkX11_126 rfl (by decide) rfl (by decide) (hS.1) ?_
        refine E_iload_n dX11_take_47 rfl ?_
        refine E_iastN dX11_take_48 rfl (by omega) (by decide) ?_
        refine E_aload_n dX11_take_49 rfl ?_
        refine E_dup dX11_take_50 rfl ?_
        refine E_getI' (ci := 11) (j := 15) dX11_take_51 fkX11_126 rfl (by decide) rfl (by decide) ((sI_o (by omega)).trans hS.1) ?_
        refine E_iconst (v := nI 1) dX11_take_54 rfl ?_
        refine E_iaddN dX11_take_55 ?_
        refine E_putI (ci := 11) (j := 15) dX11_take_56 fkX11_126 rfl (by decide) rfl (by decide) ?_
        refine E_aload_n dX11_take_59 rfl ?_
        refine E_getR' (ci := 11) (j := 5) (p := 63) dX11_take_60 fkX11_13 rfl (by decide) rfl (by decide) (rfl) ?_
        refine E_iload_n dX11_take_63 rfl ?_
        refine E_ialdN dX11_take_64 rfl (by omega) (by decide) ((congrFun (sI_ne (by decide)) a).trans ((congrFun (sI_ne (by decide)) a).trans (rm_to hR ha))) ?_
        refine E_iret dX11_take_65 rfl ?_
        refine ⟨by unfold mrTake; rw [if_neg ht, nI_tn ha3, if_neg ho, if_neg c33], (Sb.i (by decide)).tr (Sb.i (by decide)), ?_⟩
        unfold nxTake
        rw [if_neg ht, nI_tn ha3, if_neg ho, if_neg c33]
        have qM : ∀ k, k ≠ 61 → k ≠ 71 → (sI (sI M 71 (T 61 15) (nI a)) 61 15 (nI (T 61 15 + 1))).1 k = M.1 k := fun k h1 h2 => by rw [sI_ne h1, sI_ne h2]
        have q6 : ∀ j, j ≠ 15 → (sI (sI M 71 (T 61 15) (nI a)) 61 15 (nI (T 61 15 + 1))).1 61 j = M.1 61 j := fun j h1 => by rw [sI_o (fun e => h1 e.2), sI_o (by omega)]
        have qT : ∀ k, k ≠ 61 → k ≠ 71 → (upT (upT T 71 (T 61 15) a) 61 15 (T 61 15 + 1)) k = T k := fun k h1 h2 => by funext j; rw [upT_ne (fun e => h1 e.1), upT_ne (fun e => h2 e.1)]
        have qt : ∀ j, j ≠ 15 → (upT (upT T 71 (T 61 15) a) 61 15 (T 61 15 + 1)) 61 j = T 61 j := fun j h1 => by rw [upT_ne (fun e => h1 e.2), upT_ne (by omega)]
        refine ⟨rm_ag hR (fun j hj => ⟨q6 j (by omega), qt j (by omega)⟩) (fun i hi => ⟨qM _ (by omega) (by omega), qT _ (by omega) (by omega)⟩), rb_ag hB (q6 13 (by decide)) (qt 13 (by decide)), ?_, ra_ag hA (q6 17 (by decide)) (qt 17 (by decide)) (qM 70 (by decide) (by decide)) (qM 72 (by decide) (by decide)) (qT 72 (by decide) (by decide)) (qt 0 (by decide)), rx_ag hX (q6 21 (by decide)) (qt 21 (by decide)) (qM 75 (by decide) (by decide)) (qT 75 (by decide) (by decide)) (q6 22 (by decide)) (qt 22 (by decide))⟩
        refine ⟨by rw [sI_s, upT_at], by rw [upT_at]; omega, fun i hi => ?_⟩
        rw [upT_at] at hi
        rw [sI_o (by omega), upT_ne (by omega), qt 0 (by decide)]
        by_cases e : i = T 61 15
        · rw [e, sI_s, upT_at]; exact ⟨rfl, ha⟩
        · rw [sI_o (fun h2 => e h2.2), upT_ne (fun h2 => e h2.2)]; exact hS.2.2 i (by omega)
      · skip
        refine E_ldc dX11_take_36 ckX11_135 ?_
        refine E_iret dX11_take_38 rfl ?_
        exact ⟨by unfold mrTake; rw [if_neg ht, nI_tn ha3, if_neg ho, if_pos c33], Sb.rf, by unfold nxTake; rw [if_neg ht, nI_tn ha3, if_neg ho, if_pos c33]; exact hM⟩
    · skip
      have ho : opn T a (her T) 0 = false := c21
      refine E_ldc dX11_take_24 ckX11_224 ?_
      refine E_iret dX11_take_26 rfl ?_
      exact ⟨by unfold mrTake; rw [if_neg ht, nI_tn ha3, if_pos ho], Sb.rf, by unfold nxTake; rw [if_neg ht, nI_tn ha3, if_pos ho]; exact hM⟩
  · skip
    have ht : isAn T x = false := c5
    refine E_ldc dX11_take_8 ckX11_214 ?_
    refine E_iret dX11_take_10 rfl ?_
    exact ⟨by unfold mrTake; rw [if_pos ht], Sb.rf, by unfold nxTake; rw [if_pos ht]; exact hM⟩
end M14
