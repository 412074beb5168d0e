-- the class's public methods: undo, talk
section PU7
variable {g : GG} {M : AM} {T : TK} {p q : Nat}
/-- the last act, taken back: the script changed at one place -/
theorem cx_un {T1 : TK} {M2 : AM} {a k b n : Nat} (hM : MS T M) (hC : CX T p q M) (hn : T 61 17 = n + 1) (hA : ACe T n a k b) (h1 : T1 = upT T (if k = 0 then 70 else 64) a b) (hr : M2.2.2 = M.2.2) (hf : ∀ c, c < 9 → c ≠ 0 → c ≠ 5 → M2.1 c = M.1 c) (h5 : M2.1 5 3 = nI n) (h11 : M2.1 0 11 = M.1 0 11) (h9 : M2.1 (p + 9) = M.1 (p + 9)) (h10 : M2.1 (p + 10) = M.1 (p + 10)) (hSC : tlk T = true → SC T1 p M2) (hFG : FG (upT T1 61 17 n) M2) : CX (upT T1 61 17 n) p q M2 ∧ agV (nxUndoT T) (upT T1 61 17 n) := by
  have hT := rm_wt hM.1
  have hA2 := cb_ac hC.1
  obtain ⟨ha, hak, hoth⟩ := hA
  have hs0 : ∀ c, snp T n c = T 72 (32 * n + c) := fun c => by unfold snp; rw [if_pos (by omega)]
  have hs1 : ∀ c, snp T (n + 1) c = T 64 c + 10 * T 70 c := fun c => by unfold snp; rw [if_neg (by omega)]
  have hk1 : ∀ c, c ≠ 64 → c ≠ 70 → T1 c = T c := fun c q1 q2 => by
    rw [h1]
    split
    · exact uk q2
    · exact uk q1
  have hv : ∀ c, c < T 61 0 → T1 64 c + 10 * T1 70 c = T 72 (32 * n + c) ∧ T1 64 c ≤ 9 ∧ T1 70 c ≤ 1 := fun c hc => by
    have hw := wt_a hT hc
    by_cases e : c = a
    · subst e
      have hx : T 72 (32 * n + c) = snp T n c := (hs0 c).symm
      rw [hs1] at hak
      rcases hak with ⟨k0, b1, e1⟩ | ⟨k1, b9, e1⟩
      · rw [hx, e1, h1, if_pos k0, upT_at, uk (by decide)]; omega
      · rw [hx, e1, h1, if_neg (by omega), upT_at, uk (by decide)]; omega
    · have e1 : T1 64 c = T 64 c ∧ T1 70 c = T 70 c := by
        rw [h1]
        exact ⟨upT_ne (fun z => e z.2), upT_ne (fun z => e z.2)⟩
      have := hoth c hc e
      rw [hs0, hs1] at this
      rw [e1.1, e1.2, this]
      exact ⟨rfl, hw.2.2.1, hw.2.2.2.2.2.2.2⟩
  have h61 : ∀ i, i ≠ 17 → upT T1 61 17 n 61 i = T 61 i := fun i hi => by rw [u6 hi, hk1 61 (by decide) (by decide)]
  have h17 : upT T1 61 17 n 61 17 = n := upT_at
  have hkk : ∀ c, c ≠ 61 → upT T1 61 17 n c = T1 c := fun c q1 => uk q1
  have hkt : ∀ c, c ≠ 61 → c ≠ 64 → c ≠ 70 → upT T1 61 17 n c = T c := fun c q1 q2 q3 => (uk q1).trans (hk1 c q2 q3)
  have hpn := sp_39 (spq_p (cb_pq hC.1))
  have e1 : ∀ c, c < 9 → c ≠ 0 → c ≠ 5 → M2.1 c = M.1 c := hf
  refine ⟨⟨cb_x hC.1 (by rw [hr]) (by rw [hr]) h11 (h61 1 (by decide)) (h61 0 (by decide)) ?_ (co_ag (co_fr (cb_co hC.1) (e1 3 (by decide) (by decide) (by decide)) (e1 4 (by decide) (by decide) (by decide))) (h61 15 (by decide)) (h61 13 (by decide)) (h61 0 (by decide)) (hkt 71 (by decide) (by decide) (by decide))) ⟨by rw [h17]; exact h5, by rw [h17]; have := hA2.2.1; omega, fun i hi => ?_⟩ (fun ht x y z => ⟨sc_ag (hSC ht) (fun i hi => by rw [h61 i (by omega), hk1 61 (by decide) (by decide)]) (fun c q1 q2 => hkk c (by omega)), sl_ag (sl_fr y h9 h10) (h61 0 (by decide)) (hkt 62 (by decide) (by decide) (by decide)), nl_ag z (h61 0 (by decide)) (h61 1 (by decide)) (h61 3 (by decide)) (fun i => by rw [hkt 63 (by decide) (by decide) (by decide)])⟩), hFG⟩, ⟨fun j => ?_, fun c q1 q2 q3 q4 j hj => ?_, ?_, ?_, ?_, ?_, ?_⟩⟩
  · rw [e1 1 (by decide) (by decide) (by decide), e1 2 (by decide) (by decide) (by decide), h61 21 (by decide), h61 22 (by decide), hkt 75 (by decide) (by decide) (by decide)]
    exact hC.1.2.2.2.2.1
  · rw [h17] at hi
    obtain ⟨a1, k1, b1, x1, x2, x3, x4, x5, x6⟩ := hA2.2.2 i (by omega)
    have sn : ∀ c, c < T 61 0 → ∀ i', i' ≤ n → snp (upT T1 61 17 n) i' c = snp T i' c := fun c hc i' hi' => by
      unfold snp
      rw [h17, hn, hkt 72 (by decide) (by decide) (by decide), hkk 64 (by decide), hkk 70 (by decide)]
      by_cases z : i' < n
      · rw [if_pos z, if_pos (by omega)]
      · have z2 : i' = n := by omega
        rw [if_neg z, if_pos (by omega), z2]
        exact (hv c hc).1
    refine ⟨a1, k1, b1, by rw [e1 6 (by decide) (by decide) (by decide)]; exact x1, by rw [e1 7 (by decide) (by decide) (by decide)]; exact x2, by rw [e1 8 (by decide) (by decide) (by decide)]; exact x3, by rw [h61 0 (by decide)]; exact x4, ?_, fun c hc hne => ?_⟩
    · rw [sn a1 x4 i (by omega), sn a1 x4 (i + 1) (by omega)]; exact x5
    · rw [h61 0 (by decide)] at hc
      rw [sn c hc i (by omega), sn c hc (i + 1) (by omega)]; exact x6 c hc hne
  · by_cases z : j = 17
    · rw [z, h17]
      unfold nxUndoT
      rw [if_pos ⟨rfl, rfl⟩]; omega
    · rw [h61 j z]
      unfold nxUndoT
      rw [if_neg (fun y => z y.2), if_neg (by decide), if_neg (by decide)]
  · have hj : j < T 61 0 := by
      have : nxUndoT T 61 0 = T 61 0 := by unfold nxUndoT; rw [if_neg (by decide), if_neg (by decide), if_neg (by decide)]
      rw [this] at hj; exact hj
    have hvj := hv j hj
    have en : T 61 17 - 1 = n := by omega
    unfold nxUndoT
    rw [if_neg (by omega), hkk c (by omega), en]
    by_cases z : c = 64
    · rw [if_pos z, z]; omega
    · rw [if_neg z]
      by_cases z2 : c = 70
      · rw [if_pos z2, z2]
        by_cases z3 : 10 ≤ T 72 (32 * n + j)
        · rw [if_pos z3]; omega
        · rw [if_neg z3]; omega
      · rw [if_neg z2, hk1 c z z2]
  · rw [hkt 66 (by decide) (by decide) (by decide)]; funext j; unfold nxUndoT; rw [if_neg (by omega), if_neg (by decide), if_neg (by decide)]
  · rw [hkt 67 (by decide) (by decide) (by decide)]; funext j; unfold nxUndoT; rw [if_neg (by omega), if_neg (by decide), if_neg (by decide)]
  · rw [hkt 71 (by decide) (by decide) (by decide)]; funext j; unfold nxUndoT; rw [if_neg (by omega), if_neg (by decide), if_neg (by decide)]
  · rw [hkt 72 (by decide) (by decide) (by decide)]; funext j; unfold nxUndoT; rw [if_neg (by omega), if_neg (by decide), if_neg (by decide)]
  · rw [hkt 75 (by decide) (by decide) (by decide)]; funext j; unfold nxUndoT; rw [if_neg (by omega), if_neg (by decide), if_neg (by decide)]
set_option maxRecDepth 8000 in
theorem c_undo (hM : MS T M) (hC : CX T p q M) : Call g qX10_undo [.ref 0] M (RtY (mrUndo T) (nxUndo T) M) := by
  have hT := rm_wt hM.1
  have hB := ms_B hM
  have h32 := hT.1
  have htol := cb_tol hC.1
  have hAC := cb_ac hC.1
  have h12 := hAC.2.1
  have kun : tlk T = false → -1000001 = mrUndo T ∧ T = nxUndo T := fun e => ⟨by unfold mrUndo; rw [if_pos e], by unfold nxUndo; rw [if_pos e]⟩
  have kno : tlk T = true → T 61 17 = 0 → -1000003 = mrUndo T ∧ T = nxUndo T := fun e1 e => ⟨by unfold mrUndo; rw [if_neg (by rw [e1]; decide), if_pos e], by unfold nxUndo; rw [if_neg (by rw [e1]; decide), if_pos e]⟩
  have K23 : tlk T = true → 0 < T 61 17 → Ex g qX10_undo (tm g qX10_undo (RtY (mrUndo T) (nxUndo T) M)) 23 [some (.ref 0), none, none] [] M := fun ht hpos => by
    obtain ⟨n, hn⟩ : ∃ n, T 61 17 = n + 1 := ⟨T 61 17 - 1, by omega⟩
    obtain ⟨a, k, b, x1, x2, x3, x4⟩ := hAC.2.2 n (by omega)
    have hs := spq_p (cb_pq hC.1)
    have hpn := sp_39 hs
    have hscr := cb_scr hC.1
    have hSC := (cb_tld hC.1 ht).1
    have ha := x4.1
    have hkb : (k = 0 ∧ b ≤ 1) ∨ (k = 1 ∧ b ≤ 9) := x4.2.1.elim (fun z => Or.inl ⟨z.1, z.2.1⟩) (fun z => Or.inr ⟨z.1, z.2.1⟩)
    let M1 := sI M 5 3 (nI (T 61 17 - 1))
    have hne5 : ∀ c, c ≠ 5 → M1.1 c = M.1 c := fun c z => sI_ne z
    have h53 : M1.1 5 3 = nI n := by show (sI M 5 3 (nI (T 61 17 - 1))).1 5 3 = _; rw [sI_s, show T 61 17 - 1 = n by omega]
    have hv : mrUndo T = nI n := by unfold mrUndo; rw [if_neg (by rw [ht]; decide), if_neg (by omega), show T 61 17 - 1 = n by omega]
    have hnu : nxUndo T = nxUndoT T := by unfold nxUndo; rw [if_neg (by rw [ht]; decide), if_neg (by omega)]
    have hSC1 : SC T p M1 := sc_fr hSC (fun c _ _ => hne5 c (by omega))
    obtain ⟨C, c1, hcut⟩ := id hSC1.2.2.2
    have KC : k = 0 → RtY (mrUndo T) (nxUndo T) M (some (.int (nI n))) (sI (sI M1 p 14 (nI (cuS C a b))) 0 12 (bI false)) := fun e => by
      have hb1 : b ≤ 1 := by omega
      have h2 := cx_un (T1 := upT T 70 a b) (M2 := sI (sI M1 p 14 (nI (cuS C a b))) 0 12 (bI false)) hM hC hn x4 (by rw [if_pos e]) rfl (fun c q1 q2 q3 => by rw [sI_ne q2, sI_ne (by omega)]; exact hne5 c q3) (by rw [sI_ne (by decide), sI_ne (by omega)]; exact h53) (by rw [sI_o (by decide), sI_ne (by omega), hne5 0 (by decide)]) (by rw [sI_ne (by omega), sI_ne (by omega)]; exact hne5 _ (by omega)) (by rw [sI_ne (by omega), sI_ne (by omega)]; exact hne5 _ (by omega)) (fun _ => sc_fr (sc_cu hSC1 c1 hcut ha hb1) (fun c _ _ => sI_ne (by omega))) (fg_st hC.2 sI_s (by rw [sI_o (by decide), sI_ne (by omega), hne5 0 (by decide)]) (by rw [sI_o (by decide), sI_ne (by omega), hne5 0 (by decide)]) (by rw [sI_o (by decide), sI_ne (by omega), hne5 0 (by decide)]))
      rw [hv, hnu]
      exact ⟨rfl, ⟨_, p, q, h2.2, h2.1⟩, ((F60.rf.i (by decide)).i (by omega)).i (by decide)⟩
    have KP : k = 1 → RtY (mrUndo T) (nxUndo T) M (some (.int (nI n))) (sI (sI M1 (p + 3) a (nI b)) 0 15 (bI false)) := fun e => by
      have hb9 : b ≤ 9 := by omega
      have h2 := cx_un (T1 := upT T 64 a b) (M2 := sI (sI M1 (p + 3) a (nI b)) 0 15 (bI false)) hM hC hn x4 (by rw [if_neg (by omega)]) rfl (fun c q1 q2 q3 => by rw [sI_ne q2, sI_ne (by omega)]; exact hne5 c q3) (by rw [sI_ne (by decide), sI_ne (by omega)]; exact h53) (by rw [sI_o (by decide), sI_ne (by omega), hne5 0 (by decide)]) (by rw [sI_ne (by omega), sI_ne (by omega)]; exact hne5 _ (by omega)) (by rw [sI_ne (by omega), sI_ne (by omega)]; exact hne5 _ (by omega)) (fun _ => sc_fr (sc_pr hSC1 hb9) (fun c _ _ => sI_ne (by omega))) (fg_pr hC.2 ⟨fun i hi => by rw [u6 (by omega), uk (by decide)], fun c hc => by rw [uk (by omega), uk (by omega)]⟩ (fun c q1 q2 => by rw [sI_ne q1, sI_ne (by omega)]; exact hne5 c (by omega)) (by rw [sI_o (by decide), sI_ne (by omega), hne5 0 (by decide)]) (by rw [sI_o (by decide), sI_ne (by omega), hne5 0 (by decide)]) (by rw [sI_o (by decide), sI_ne (by omega), hne5 0 (by decide)]) sI_s)
      rw [hv, hnu]
      exact ⟨rfl, ⟨_, p, q, h2.2, h2.1⟩, ((F60.rf.i (by decide)).i (by omega)).i (by decide)⟩
    have hl6 : M1.1 6 n = nI a := by rw [hne5 6 (by decide)]; exact x1
    have hl7 : M1.1 7 n = nI k := by rw [hne5 7 (by decide)]; exact x2
    have hl8 : M1.1 8 n = nI b := by rw [hne5 8 (by decide)]; exact x3
    have hscr1 : M1.2.2 0 9 = p := hscr
    have hend1 : (sI (sI M1 p 14 (nI (cuS C a b))) 0 12 (bI false)).1 5 3 = nI n := by rw [sI_ne (by decide), sI_ne (by omega)]; exact h53
    have hend2 : (sI (sI M1 (p + 3) a (nI b)) 0 15 (bI false)).1 5 3 = nI n := by rw [sI_ne (by decide), sI_ne (by omega)]; exact h53
    have K86 : k = 0 → Ex g qX10_undo (tm g qX10_undo (RtY (mrUndo T) (nxUndo T) M)) 86 [some (.ref 0), some (.int (nI a)), some (.int (nI b))] [] M1 := fun e => by
      have key := KC e
      refine E_aload_n dX10_undo_86 rfl ?_
      refine E_getM' (ci := 10) (j := 9) (p := p) dX10_undo_87 fkX10_75 rfl (by decide) rfl (by decide) (hscr1) ?_
      refine E_iload_n dX10_undo_90 rfl ?_
      refine E_iload_n dX10_undo_91 rfl ?_
      refine E_callV (r := qX8_setCut) (ci := 8) dX10_undo_92 mkX10_143 voX8_setCut rfl (kS hs) rfl ⟨Nat.le_of_ble_eq_true rfl, Nat.le_of_ble_eq_true rfl, Nat.le_of_ble_eq_true rfl, Nat.le_of_ble_eq_true rfl⟩ (c_setCut hs c1 (by omega) (by omega)) rfl (Nat.le_of_ble_eq_true rfl) ?_
      rintro _ _ ⟨rfl, rfl⟩
      refine E_aload_n dX10_undo_95 rfl ?_
      refine E_iconst (v := nI 0) dX10_undo_96 rfl ?_
      refine E_putZ (ci := 10) (j := 12) dX10_undo_97 fkX10_105 rfl (by decide) rfl (by decide) (Or.inl rfl) ?_
      refine E_goto (t := 118) dX10_undo_100 (by decide) ?_
      refine E_aload_n dX10_undo_118 rfl ?_
      refine E_getR' (ci := 10) (j := 2) (p := 5) dX10_undo_119 fkX10_26 rfl (by decide) rfl (by decide) (rfl) ?_
      refine E_getI' (ci := 0) (j := 3) dX10_undo_122 fkX10_100 rfl (by decide) rfl (by decide) (hend1) ?_
      refine E_iret dX10_undo_125 rfl ?_
      exact key
    have K103 : 0 < k → Ex g qX10_undo (tm g qX10_undo (RtY (mrUndo T) (nxUndo T) M)) 103 [some (.ref 0), some (.int (nI a)), some (.int (nI b))] [] M1 := fun e => by
      have key := KP (by omega)
      refine E_aload_n dX10_undo_103 rfl ?_
      refine E_getM' (ci := 10) (j := 9) (p := p) dX10_undo_104 fkX10_75 rfl (by decide) rfl (by decide) (hscr1) ?_
      refine E_getR' (ci := 8) (j := 2) (p := p+3) dX10_undo_107 fkX10_153 rfl (by decide) (kS hs) (by decide) ((srS hs) 2 (by decide)) ?_
      refine E_iload_n dX10_undo_110 rfl ?_
      refine E_iload_n dX10_undo_111 rfl ?_
      refine E_iastN dX10_undo_112 (kp3 hs) (by omega) (by decide) ?_
      refine E_aload_n dX10_undo_113 rfl ?_
      refine E_iconst (v := nI 0) dX10_undo_114 rfl ?_
      refine E_putZ (ci := 10) (j := 15) dX10_undo_115 fkX10_157 rfl (by decide) rfl (by decide) (Or.inl rfl) ?_
      refine E_aload_n dX10_undo_118 rfl ?_
      refine E_getR' (ci := 10) (j := 2) (p := 5) dX10_undo_119 fkX10_26 rfl (by decide) rfl (by decide) (rfl) ?_
      refine E_getI' (ci := 0) (j := 3) dX10_undo_122 fkX10_100 rfl (by decide) rfl (by decide) (hend2) ?_
      refine E_iret dX10_undo_125 rfl ?_
      exact key
    refine E_aload_n dX10_undo_23 rfl ?_
    refine E_getR' (ci := 10) (j := 2) (p := 5) dX10_undo_24 fkX10_26 rfl (by decide) rfl (by decide) (rfl) ?_
    refine E_dup dX10_undo_27 rfl ?_
    refine E_getI' (ci := 0) (j := 3) dX10_undo_28 fkX10_100 rfl (by decide) rfl (by decide) (hAC.1) ?_
    refine E_iconst (v := nI 1) dX10_undo_31 rfl ?_
    refine E_isubN dX10_undo_32 (by omega) ?_
    refine E_putI (ci := 0) (j := 3) dX10_undo_33 fkX10_100 rfl (by decide) rfl (by decide) ?_
    refine E_aload_n dX10_undo_36 rfl ?_
    refine E_getR' (ci := 10) (j := 2) (p := 5) dX10_undo_37 fkX10_26 rfl (by decide) rfl (by decide) (rfl) ?_
    refine E_getR' (ci := 0) (j := 0) (p := 6) dX10_undo_40 fkX10_160 rfl (by decide) rfl (by decide) (rfl) ?_
    refine E_aload_n dX10_undo_43 rfl ?_
    refine E_getR' (ci := 10) (j := 2) (p := 5) dX10_undo_44 fkX10_26 rfl (by decide) rfl (by decide) (rfl) ?_
    refine E_getI' (ci := 0) (j := 3) dX10_undo_47 fkX10_100 rfl (by decide) rfl (by decide) (h53) ?_
    refine E_ialdN dX10_undo_50 rfl (by omega) (by decide) (hl6) ?_
    refine E_ist_n (i := 1) dX10_undo_51 rfl (by decide) rfl ?_
    refine E_aload_n dX10_undo_52 rfl ?_
    refine E_getR' (ci := 10) (j := 2) (p := 5) dX10_undo_53 fkX10_26 rfl (by decide) rfl (by decide) (rfl) ?_
    refine E_getR' (ci := 0) (j := 2) (p := 8) dX10_undo_56 fkX10_163 rfl (by decide) rfl (by decide) (rfl) ?_
    refine E_aload_n dX10_undo_59 rfl ?_
    refine E_getR' (ci := 10) (j := 2) (p := 5) dX10_undo_60 fkX10_26 rfl (by decide) rfl (by decide) (rfl) ?_
    refine E_getI' (ci := 0) (j := 3) dX10_undo_63 fkX10_100 rfl (by decide) rfl (by decide) (h53) ?_
    refine E_ialdN dX10_undo_66 rfl (by omega) (by decide) (hl8) ?_
    refine E_ist_n (i := 2) dX10_undo_67 rfl (by decide) rfl ?_
    refine E_aload_n dX10_undo_68 rfl ?_
    refine E_getR' (ci := 10) (j := 2) (p := 5) dX10_undo_69 fkX10_26 rfl (by decide) rfl (by decide) (rfl) ?_
    refine E_getR' (ci := 0) (j := 1) (p := 7) dX10_undo_72 fkX10_166 rfl (by decide) rfl (by decide) (rfl) ?_
    refine E_aload_n dX10_undo_75 rfl ?_
    refine E_getR' (ci := 10) (j := 2) (p := 5) dX10_undo_76 fkX10_26 rfl (by decide) rfl (by decide) (rfl) ?_
    refine E_getI' (ci := 0) (j := 3) dX10_undo_79 fkX10_100 rfl (by decide) rfl (by decide) (h53) ?_
    refine E_ialdN dX10_undo_82 rfl (by omega) (by decide) (hl7) ?_
    refine E_if_neN (t := 103) dX10_undo_83 (by decide) (by omega) (fun c83 => ?_) (fun c83 => ?_)
    · skip
      exact K103 c83
    · skip
      exact K86 c83
  refine Call_of (ls0 := [some (.ref 0), none, none]) rfl rfl (Nat.le_of_ble_eq_true rfl) ?_
  refine E_aload_n dX10_undo_0 rfl ?_
  refine E_getI' (ci := 10) (j := 11) dX10_undo_1 fkX10_96 rfl (by decide) rfl (by decide) (htol) ?_
  refine E_if_neB (t := 10) dX10_undo_4 (by decide) (fun c4 => ?_) (fun c4 => ?_)
  · skip
    refine E_aload_n dX10_undo_10 rfl ?_
    refine E_getR' (ci := 10) (j := 2) (p := 5) dX10_undo_11 fkX10_26 rfl (by decide) rfl (by decide) (rfl) ?_
    refine E_getI' (ci := 0) (j := 3) dX10_undo_14 fkX10_100 rfl (by decide) rfl (by decide) (hAC.1) ?_
    refine E_if_neN (t := 23) dX10_undo_17 (by decide) (by omega) (fun c17 => ?_) (fun c17 => ?_)
    · skip
      exact K23 c4 c17
    · skip
      refine E_ldc dX10_undo_20 ckX10_124 ?_
      refine E_iret dX10_undo_22 rfl ?_
      exact rty (kno c4 c17).1 (kno c4 c17).2 hC F60.rf
  · skip
    refine E_ldc dX10_undo_7 ckX10_114 ?_
    refine E_iret dX10_undo_9 rfl ?_
    exact rty (kun c4).1 (kun c4).2 hC F60.rf
end PU7
