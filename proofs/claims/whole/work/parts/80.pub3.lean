-- the class's public methods: mark, needs, must, loop
section PU3
variable {g : GG} {M : AM} {T : TK} {p q : Nat}
theorem cf_idle {M' : AM} (h : CF T p q M) {S : List Nat} (hS : Sb S M M') (hd : ∀ c ∈ S, c ∈ idle) : CF T p q M' := by
  have hi : ∀ k ∈ idle, 21 ≤ k := by decide
  refine ⟨cx_idle h.1 hS hd, ?_, gr_sb h.2.2 hS (fun c hc => by have := hi c (hd c hc); omega)⟩
  rw [(hS 0 (fun q => by have := hi 0 (hd 0 q); omega)).1]; exact h.2.1
theorem c_isMarkReached (hC : CX T p q M) (ht : tlk T = true) (hT : WT T) (hB : T 61 13 < 64) {m : Nat} (hm : m < 6) : Call g qX10_isMarkReached [.ref 0, .int (nI m)] M (RtC (bI (anyW T m)) T p q M) := by
  have hLq := q_le hT hB
  have L : ∀ M1, CF T p q M1 → F60 M M1 → ∀ (n k : Nat), k ≤ LTn T → LTn T < k + n → anyN (fun i => (Qn T i % 64).testBit m) k = false → Ex g qX10_isMarkReached (tm g qX10_isMarkReached (RtC (bI (anyW T m)) T p q M)) 6 [some (.ref 0), some (.int (nI m)), some (.int (nI k))] [] M1 := by
    intro M1 hF h60 n
    have hG := hF.2.2
    induction n with
    | zero => intro k h1 h2; exact absurd h2 (by omega)
    | succ n ih =>
      intro k hk hn ha
      refine E_iload_n dX10_isMarkReached_6 rfl ?_
      refine E_aload_n dX10_isMarkReached_7 rfl ?_
      refine E_getR' (ci := 10) (j := 3) (p := 9) dX10_isMarkReached_8 fkX10_33 rfl (by decide) rfl (by decide) (rfl) ?_
      refine E_getI' (ci := 2) (j := 11) dX10_isMarkReached_11 fkX10_262 rfl (by decide) rfl (by decide) (gr_st hG) ?_
      refine E_icmp_geN (t := 41) dX10_isMarkReached_14 (by decide) (by omega) (by omega) (fun c14 => ?_) (fun c14 => ?_)
      · skip
        have key : bI false = bI (anyW T m) := by rw [any_W hT hB, ← show k = LTn T by omega, ha]
        refine E_iconst (v := nI 0) dX10_isMarkReached_41 rfl ?_
        refine E_top (show nI 0 = bI false from rfl) ?_
        refine E_zret dX10_isMarkReached_42 rfl (bI_01 _) ?_
        exact rtc key hF.1 h60
      · skip
        refine E_aload_n dX10_isMarkReached_17 rfl ?_
        refine E_getR' (ci := 10) (j := 3) (p := 9) dX10_isMarkReached_18 fkX10_33 rfl (by decide) rfl (by decide) (rfl) ?_
        refine E_iload_n dX10_isMarkReached_21 rfl ?_
        refine E_callV (r := qX2_marksAt) (ci := 2) dX10_isMarkReached_22 mkX10_362 voX2_marksAt rfl rfl rfl ⟨Nat.le_of_ble_eq_true rfl, Nat.le_of_ble_eq_true rfl, Nat.le_of_ble_eq_true rfl, Nat.le_of_ble_eq_true rfl⟩ (c_marks hT hB hG c14) rfl (Nat.le_of_ble_eq_true rfl) ?_
        rintro _ _ ⟨rfl, rfl⟩
        refine E_iload_n dX10_isMarkReached_25 rfl ?_
        refine E_callS (r := qX10_bit) dX10_isMarkReached_26 mkX10_135 toX10_bit rfl ⟨Nat.le_of_ble_eq_true rfl, Nat.le_of_ble_eq_true rfl, Nat.le_of_ble_eq_true rfl, Nat.le_of_ble_eq_true rfl⟩ (c_bit (by omega)) rfl (Nat.le_of_ble_eq_true rfl) ?_
        rintro _ _ ⟨rfl, rfl⟩
        refine E_iconst (v := nI 1) dX10_isMarkReached_29 rfl ?_
        refine E_icmp_neB (t := 35) dX10_isMarkReached_30 (by decide) (fun c30 => ?_) (fun c30 => ?_)
        · skip
          refine E_iincN (b := 1) dX10_isMarkReached_35 rfl rfl (by decide) rfl ?_
          refine E_goto (t := 6) dX10_isMarkReached_38 (by decide) ?_
          exact ih (k + 1) (by omega) (by omega) (by rw [anyN, ha, c30]; rfl)
        · skip
          have key : bI true = bI (anyW T m) := by rw [any_W hT hB, show anyN (fun i => (Qn T i % 64).testBit m) (LTn T) = true from anyN_iff.mpr ⟨k, c14, c30⟩]
          refine E_iconst (v := nI 1) dX10_isMarkReached_33 rfl ?_
          refine E_top (show nI 1 = bI true from rfl) ?_
          refine E_zret dX10_isMarkReached_34 rfl (bI_01 _) ?_
          exact rtc key hF.1 h60
  refine Call_of (ls0 := [some (.ref 0), some (.int (nI m)), none]) rfl rfl (Nat.le_of_ble_eq_true rfl) ?_
  refine E_aload_n dX10_isMarkReached_0 rfl ?_
  refine E_callV (r := qX10_refreshGraph) (ci := 10) dX10_isMarkReached_1 mkX10_212 voX10_refreshGraph rfl rfl rfl ⟨Nat.le_of_ble_eq_true rfl, Nat.le_of_ble_eq_true rfl, Nat.le_of_ble_eq_true rfl, Nat.le_of_ble_eq_true rfl⟩ (c_refreshGraph hC ht hT hB) rfl (Nat.le_of_ble_eq_true rfl) ?_
  rintro _ M1 ⟨rfl, g1, g2⟩
  refine E_iconst (v := nI 0) dX10_isMarkReached_4 rfl ?_
  refine E_ist_n (i := 2) dX10_isMarkReached_5 rfl (by decide) rfl ?_
  exact L M1 g1 g2 (LTn T + 1) 0 (Nat.zero_le _) (by omega) rfl
theorem c_leadsOut (h : CF T p q M) (ht : tlk T = true) (hT : WT T) (hB : T 61 13 < 64) {m k : Nat} (hm : m < 6) (hk : k < LTn T) : Call g qX10_leadsOutWithout [.ref 0, .int (nI m), .int (nI (Qn T k / 64)), .int (nI (Qn T k % 64))] M (Rt (bI (loB T m (Qn T k))) M) := by
  have hCB := h.1.1
  have hs := spq_p (cb_pq hCB)
  have hscr := cb_scr hCB
  have hG := h.2.2
  obtain ⟨hSC, hSL, -⟩ := cb_tld hCB ht
  have hend : M.1 p 12 = nI (T 61 2) := sc_6 hSC (j := 2) (by decide)
  obtain ⟨C, hC14, hcut⟩ := hSC.2.2.2
  have hq := Qn_lt hT hB hk
  have hLq := q_le hT hB
  have hl16 : Qn T k / 64 < 16 := by omega
  have hsk : 64 * (Qn T k / 64) + Qn T k % 64 = Qn T k := by omega
  have h32 := hT.1
  have hLl : (blN T (Qn T k / 64 + 1)).length = (blN T (Qn T k / 64)).length + (Lk T k).length := by rw [blN, List.length_append]; rfl
  have hb32 : (blN T (Qn T k / 64 + 1)).length ≤ T 61 0 := by rw [blN]; exact bl_len (Nat.le_refl _)
  have hup : M.1 (p + 10) (Qn T k / 64 + 1) = nI ((blN T (Qn T k / 64)).length + (Lk T k).length) := by rw [← hLl]; exact hSL.1 _ (by omega)
  have hlo : M.1 (p + 10) (Qn T k / 64) = nI (blN T (Qn T k / 64)).length := hSL.1 _ (by omega)
  have ho : ∀ a, opn T a (Qn T k) (2 ^ m) = ((T 62 a == Qn T k / 64) && (!(T 70 a == 1) && (!((T 61 2).testBit (Qn T k / 64)) && hold T a (Qn T k % 64) (2 ^ m)))) := fun a => by
    have := opn_eq (T := T) (a := a) (l := Qn T k / 64) (m := Qn T k % 64) (o := 2 ^ m) (by omega)
    rw [hsk] at this
    exact this
  have hsh : 1 * 2 ^ m < 2 ^ 32 := by have := p2_64 hm; omega
  have L : (T 61 2).testBit (Qn T k / 64) = false → ∀ (n j : Nat) (y5 : Option Value), j ≤ (Lk T k).length → (Lk T k).length < j + n → (∀ a, a ∈ (Lk T k).take j → (opn T a (Qn T k) (2 ^ m) && (DT T (nxt T a (Qn T k))).isNone) = false) → Ex g qX10_leadsOutWithout (tm g qX10_leadsOutWithout (Rt (bI (loB T m (Qn T k))) M)) 28 [some (.ref 0), some (.int (nI m)), some (.int (nI (Qn T k / 64))), some (.int (nI (Qn T k % 64))), some (.int (nI ((blN T (Qn T k / 64)).length + j))), y5] [] M := by
    intro hne n
    induction n with
    | zero => intro j y5 h1 h2; exact absurd h2 (by omega)
    | succ n ih =>
      intro j y5 hj hn hpre
      by_cases hjl : j < (Lk T k).length
      · obtain ⟨a, ha⟩ : ∃ a, (Lk T k)[j]? = some a := ⟨_, List.getElem?_eq_getElem hjl⟩
        have hby : M.1 (p + 9) ((blN T (Qn T k / 64)).length + j) = nI a := by
          have h1 := bl_at (T := T) (l := Qn T k / 64) ha 16 hl16
          rw [hSL.2 _ (List.getElem?_eq_some_iff.mp h1).1, List.getD_eq_getElem?_getD, h1]; rfl
        obtain ⟨ham, hfr⟩ := blL_m.mp (List.mem_of_getElem? ha)
        have ht2 := nxt_lt hT ham (s := Qn T k)
        have hcb : C.testBit a = (T 70 a == 1) := by rw [hcut.2 a, decide_eq_true ham, Bool.true_and]
        have cN : Call g qX8_stateBehind [.ref p, .int (nI a), .int (nI (Qn T k % 64))] M (Rt (nI (nxt T a (Qn T k))) M) := by
          have := c_stateBehind (g := g) hSC (l := Qn T k / 64) ham (m := Qn T k % 64) (by omega)
          rw [hsk] at this; exact this
        have cG : Call g qX8_guardHolds [.ref p, .int (nI a), .int (nI (Qn T k % 64)), .int (nI (1 * 2 ^ m))] M (Rt (bI (hold T a (Qn T k % 64) (2 ^ m))) M) := by
          rw [Nat.one_mul]; exact c_guard hSC ham
        have hpl := hG.1.1.2.2.1 _ ht2
        have hob : ∀ e, fdN (fun i => Qn T i == nxt T a (Qn T k)) (LTn T) = some e → e < 2 ^ 31 := fun e he => by have := fdN_le he; omega
        have hDn : fdN (fun i => Qn T i == nxt T a (Qn T k)) (LTn T) = none ↔ DT T (nxt T a (Qn T k)) = none := by
          have h1 := any_D hT hB (s := nxt T a (Qn T k))
          constructor
          · intro e
            have h2 : anyN (fun i => Qn T i == nxt T a (Qn T k)) (LTn T) = false := Bool.eq_false_iff.mpr (fun z => by
              obtain ⟨i, hi, h3⟩ := anyN_iff.mp z
              rw [fdN_none.mp e i hi] at h3; cases h3)
            rw [h2] at h1
            cases hd : DT T (nxt T a (Qn T k)) with
            | none => rfl
            | some d => rw [hd] at h1; cases h1
          · intro e
            rw [e] at h1
            exact fdN_none.mpr (fun i hi => Bool.eq_false_iff.mpr (fun z => by rw [anyN_iff.mpr ⟨i, hi, z⟩] at h1; cases h1))
        have KN : (opn T a (Qn T k) (2 ^ m) && (DT T (nxt T a (Qn T k))).isNone) = false → Ex g qX10_leadsOutWithout (tm g qX10_leadsOutWithout (Rt (bI (loB T m (Qn T k))) M)) 28 [some (.ref 0), some (.int (nI m)), some (.int (nI (Qn T k / 64))), some (.int (nI (Qn T k % 64))), some (.int (nI ((blN T (Qn T k / 64)).length + j + 1))), some (.int (nI a))] [] M := fun e => ih (j + 1) _ (by omega) (by omega) (fun b hb => by
          rw [List.take_succ, ha] at hb
          rcases List.mem_append.mp hb with q | q
          · exact hpre b q
          · rw [List.mem_singleton.mp (show b ∈ [a] from q)]; exact e)
        have e1 : (T 70 a == 1) = true → opn T a (Qn T k) (2 ^ m) = false := fun e => by rw [ho, e, Bool.not_true, Bool.false_and, Bool.and_false]
        have e2 : hold T a (Qn T k % 64) (2 ^ m) = false → opn T a (Qn T k) (2 ^ m) = false := fun e => by rw [ho, e, Bool.and_false, Bool.and_false, Bool.and_false]
        have e3 : C.testBit a = false → hold T a (Qn T k % 64) (2 ^ m) = true → opn T a (Qn T k) (2 ^ m) = true := fun e e' => by rw [ho, ← hcb, e, e', hne, hfr, beq_self_eq_true]; rfl
        have KT : C.testBit a = false → hold T a (Qn T k % 64) (2 ^ m) = true → fdN (fun i => Qn T i == nxt T a (Qn T k)) (LTn T) = none → true = loB T m (Qn T k) := fun q1 q2 q3 => by
          symm
          exact anyN_iff.mpr ⟨a, ham, by rw [e3 q1 q2, hDn.mp q3]; rfl⟩
        have K1 : C.testBit a = true → Ex g qX10_leadsOutWithout (tm g qX10_leadsOutWithout (Rt (bI (loB T m (Qn T k))) M)) 28 [some (.ref 0), some (.int (nI m)), some (.int (nI (Qn T k / 64))), some (.int (nI (Qn T k % 64))), some (.int (nI ((blN T (Qn T k / 64)).length + j + 1))), some (.int (nI a))] [] M := fun e => KN (by rw [e1 (hcb.symm.trans e), Bool.false_and])
        have K2 : hold T a (Qn T k % 64) (2 ^ m) = false → Ex g qX10_leadsOutWithout (tm g qX10_leadsOutWithout (Rt (bI (loB T m (Qn T k))) M)) 28 [some (.ref 0), some (.int (nI m)), some (.int (nI (Qn T k / 64))), some (.int (nI (Qn T k % 64))), some (.int (nI ((blN T (Qn T k / 64)).length + j + 1))), some (.int (nI a))] [] M := fun e => KN (by rw [e2 e, Bool.false_and])
        have K3 : ¬ fdN (fun i => Qn T i == nxt T a (Qn T k)) (LTn T) = none → Ex g qX10_leadsOutWithout (tm g qX10_leadsOutWithout (Rt (bI (loB T m (Qn T k))) M)) 28 [some (.ref 0), some (.int (nI m)), some (.int (nI (Qn T k / 64))), some (.int (nI (Qn T k % 64))), some (.int (nI ((blN T (Qn T k / 64)).length + j + 1))), some (.int (nI a))] [] M := fun e => KN (by
          cases hd : DT T (nxt T a (Qn T k)) with
          | none => exact absurd (hDn.mpr hd) e
          | some d => exact Bool.and_false _)
        refine E_iload dX10_leadsOutWithout_28 rfl ?_
        refine E_aload_n dX10_leadsOutWithout_30 rfl ?_
        refine E_getM' (ci := 10) (j := 9) (p := p) dX10_leadsOutWithout_31 fkX10_75 rfl (by decide) rfl (by decide) (hscr) ?_
        refine E_getR' (ci := 8) (j := 9) (p := p+10) dX10_leadsOutWithout_34 fkX10_368 rfl (by decide) (kS hs) (by decide) ((srS hs) 9 (by decide)) ?_
        refine E_iload_n dX10_leadsOutWithout_37 rfl ?_
        refine E_iconst (v := nI 1) dX10_leadsOutWithout_38 rfl ?_
        refine E_iaddN dX10_leadsOutWithout_39 ?_
        refine E_ialdN dX10_leadsOutWithout_40 (kp10 hs) (by omega) (by decide) (hup) ?_
        refine E_icmp_geN (t := 117) dX10_leadsOutWithout_41 (by decide) (by omega) (by omega) (fun c41 => ?_) (fun c41 => ?_)
        · skip
          exact absurd c41 (by omega)
        · skip
          refine E_aload_n dX10_leadsOutWithout_44 rfl ?_
          refine E_getM' (ci := 10) (j := 9) (p := p) dX10_leadsOutWithout_45 fkX10_75 rfl (by decide) rfl (by decide) (hscr) ?_
          refine E_getR' (ci := 8) (j := 8) (p := p+9) dX10_leadsOutWithout_48 fkX10_371 rfl (by decide) (kS hs) (by decide) ((srS hs) 8 (by decide)) ?_
          refine E_iload dX10_leadsOutWithout_51 rfl ?_
          refine E_ialdN dX10_leadsOutWithout_53 (kp9 hs) (by omega) (by decide) (hby) ?_
          refine E_istore dX10_leadsOutWithout_54 (by decide) rfl ?_
          refine E_aload_n dX10_leadsOutWithout_56 rfl ?_
          refine E_getM' (ci := 10) (j := 9) (p := p) dX10_leadsOutWithout_57 fkX10_75 rfl (by decide) rfl (by decide) (hscr) ?_
          refine E_getI' (ci := 8) (j := 14) dX10_leadsOutWithout_60 fkX10_132 rfl (by decide) (kS hs) (by decide) (hC14) ?_
          refine E_iload dX10_leadsOutWithout_63 rfl ?_
          refine E_callS (r := qX10_bit) dX10_leadsOutWithout_65 mkX10_135 toX10_bit rfl ⟨Nat.le_of_ble_eq_true rfl, Nat.le_of_ble_eq_true rfl, Nat.le_of_ble_eq_true rfl, Nat.le_of_ble_eq_true rfl⟩ (c_bit (by omega)) rfl (Nat.le_of_ble_eq_true rfl) ?_
          rintro _ _ ⟨rfl, rfl⟩
          refine E_if_neB (t := 111) dX10_leadsOutWithout_68 (by decide) (fun c68 => ?_) (fun c68 => ?_)
          · skip
            have key := K1 c68
            refine E_iincN (b := 1) dX10_leadsOutWithout_111 rfl rfl (by decide) rfl ?_
            refine E_goto (t := 28) dX10_leadsOutWithout_114 (by decide) ?_
            exact key
          · skip
            refine E_aload_n dX10_leadsOutWithout_71 rfl ?_
            refine E_getM' (ci := 10) (j := 9) (p := p) dX10_leadsOutWithout_72 fkX10_75 rfl (by decide) rfl (by decide) (hscr) ?_
            refine E_iload dX10_leadsOutWithout_75 rfl ?_
            refine E_iload_n dX10_leadsOutWithout_77 rfl ?_
            refine E_iconst (v := nI 1) dX10_leadsOutWithout_78 rfl ?_
            refine E_iload_n dX10_leadsOutWithout_79 rfl ?_
            refine E_ishlN dX10_leadsOutWithout_80 (by omega) hsh ?_
            refine E_callV (r := qX8_guardHolds) (ci := 8) dX10_leadsOutWithout_81 mkX10_374 voX8_guardHolds rfl (kS hs) rfl ⟨Nat.le_of_ble_eq_true rfl, Nat.le_of_ble_eq_true rfl, Nat.le_of_ble_eq_true rfl, Nat.le_of_ble_eq_true rfl⟩ (cG) rfl (Nat.le_of_ble_eq_true rfl) ?_
            rintro _ _ ⟨rfl, rfl⟩
            refine E_if_eqB (t := 111) dX10_leadsOutWithout_84 (by decide) (fun c84 => ?_) (fun c84 => ?_)
            · skip
              have key := K2 c84
              refine E_iincN (b := 1) dX10_leadsOutWithout_111 rfl rfl (by decide) rfl ?_
              refine E_goto (t := 28) dX10_leadsOutWithout_114 (by decide) ?_
              exact key
            · skip
              refine E_aload_n dX10_leadsOutWithout_87 rfl ?_
              refine E_getR' (ci := 10) (j := 3) (p := 9) dX10_leadsOutWithout_88 fkX10_33 rfl (by decide) rfl (by decide) (rfl) ?_
              refine E_getR' (ci := 2) (j := 1) (p := 11) dX10_leadsOutWithout_91 fkX10_377 rfl (by decide) rfl (by decide) (rfl) ?_
              refine E_aload_n dX10_leadsOutWithout_94 rfl ?_
              refine E_getM' (ci := 10) (j := 9) (p := p) dX10_leadsOutWithout_95 fkX10_75 rfl (by decide) rfl (by decide) (hscr) ?_
              refine E_iload dX10_leadsOutWithout_98 rfl ?_
              refine E_iload_n dX10_leadsOutWithout_100 rfl ?_
              refine E_callV (r := qX8_stateBehind) (ci := 8) dX10_leadsOutWithout_101 mkX10_380 voX8_stateBehind rfl (kS hs) rfl ⟨Nat.le_of_ble_eq_true rfl, Nat.le_of_ble_eq_true rfl, Nat.le_of_ble_eq_true rfl, Nat.le_of_ble_eq_true rfl⟩ (cN) rfl (Nat.le_of_ble_eq_true rfl) ?_
              rintro _ _ ⟨rfl, rfl⟩
              refine E_ialdN dX10_leadsOutWithout_104 rfl ht2 (by decide) (hpl) ?_
              refine E_iconst (v := -1) dX10_leadsOutWithout_105 rfl ?_
              refine E_icmp_neO (t := 111) dX10_leadsOutWithout_106 (by decide) hob (fun c106 => ?_) (fun c106 => ?_)
              · skip
                have key := K3 c106
                refine E_iincN (b := 1) dX10_leadsOutWithout_111 rfl rfl (by decide) rfl ?_
                refine E_goto (t := 28) dX10_leadsOutWithout_114 (by decide) ?_
                exact key
              · skip
                refine E_iconst (v := nI 1) dX10_leadsOutWithout_109 rfl ?_
                refine E_top (show nI 1 = bI true from rfl) ?_
                refine E_zret dX10_leadsOutWithout_110 rfl (bI_01 _) ?_
                exact Rt_b (KT c68 c84 c106)
      · have key : false = loB T m (Qn T k) := by
          symm
          rw [Bool.eq_false_iff]
          intro e
          obtain ⟨a, ha, h1⟩ := anyN_iff.mp e
          rw [Bool.and_eq_true] at h1
          have h2 : T 62 a = Qn T k / 64 := by
            have h3 := h1.1
            rw [ho, Bool.and_eq_true, beq_iff_eq] at h3
            exact h3.1
          have h4 : a ∈ (Lk T k).take j := by
            rw [show j = (Lk T k).length by omega, List.take_length]
            exact blL_m.mpr ⟨ha, h2⟩
          have := hpre a h4
          rw [h1.1, h1.2] at this
          cases this
        refine E_iload dX10_leadsOutWithout_28 rfl ?_
        refine E_aload_n dX10_leadsOutWithout_30 rfl ?_
        refine E_getM' (ci := 10) (j := 9) (p := p) dX10_leadsOutWithout_31 fkX10_75 rfl (by decide) rfl (by decide) (hscr) ?_
        refine E_getR' (ci := 8) (j := 9) (p := p+10) dX10_leadsOutWithout_34 fkX10_368 rfl (by decide) (kS hs) (by decide) ((srS hs) 9 (by decide)) ?_
        refine E_iload_n dX10_leadsOutWithout_37 rfl ?_
        refine E_iconst (v := nI 1) dX10_leadsOutWithout_38 rfl ?_
        refine E_iaddN dX10_leadsOutWithout_39 ?_
        refine E_ialdN dX10_leadsOutWithout_40 (kp10 hs) (by omega) (by decide) (hup) ?_
        refine E_icmp_geN (t := 117) dX10_leadsOutWithout_41 (by decide) (by omega) (by omega) (fun c41 => ?_) (fun c41 => ?_)
        · skip
          refine E_iconst (v := nI 0) dX10_leadsOutWithout_117 rfl ?_
          refine E_top (show nI 0 = bI false from rfl) ?_
          refine E_zret dX10_leadsOutWithout_118 rfl (bI_01 _) ?_
          exact Rt_b key
        · skip
          exact absurd c41 (by omega)
  have kE : (T 61 2).testBit (Qn T k / 64) = true → false = loB T m (Qn T k) := fun e => by
    symm
    rw [Bool.eq_false_iff]
    intro e2
    obtain ⟨a, ha, h1⟩ := anyN_iff.mp e2
    rw [ho, e] at h1
    simp at h1
  refine Call_of (ls0 := [some (.ref 0), some (.int (nI m)), some (.int (nI (Qn T k / 64))), some (.int (nI (Qn T k % 64))), none, none]) rfl rfl (Nat.le_of_ble_eq_true rfl) ?_
  refine E_aload_n dX10_leadsOutWithout_0 rfl ?_
  refine E_getM' (ci := 10) (j := 9) (p := p) dX10_leadsOutWithout_1 fkX10_75 rfl (by decide) rfl (by decide) (hscr) ?_
  refine E_getI' (ci := 8) (j := 12) dX10_leadsOutWithout_4 fkX10_203 rfl (by decide) (kS hs) (by decide) (hend) ?_
  refine E_iload_n dX10_leadsOutWithout_7 rfl ?_
  refine E_callS (r := qX10_bit) dX10_leadsOutWithout_8 mkX10_135 toX10_bit rfl ⟨Nat.le_of_ble_eq_true rfl, Nat.le_of_ble_eq_true rfl, Nat.le_of_ble_eq_true rfl, Nat.le_of_ble_eq_true rfl⟩ (c_bit (by omega)) rfl (Nat.le_of_ble_eq_true rfl) ?_
  rintro _ _ ⟨rfl, rfl⟩
  refine E_iconst (v := nI 1) dX10_leadsOutWithout_11 rfl ?_
  refine E_icmp_neB (t := 17) dX10_leadsOutWithout_12 (by decide) (fun c12 => ?_) (fun c12 => ?_)
  · skip
    refine E_aload_n dX10_leadsOutWithout_17 rfl ?_
    refine E_getM' (ci := 10) (j := 9) (p := p) dX10_leadsOutWithout_18 fkX10_75 rfl (by decide) rfl (by decide) (hscr) ?_
    refine E_getR' (ci := 8) (j := 9) (p := p+10) dX10_leadsOutWithout_21 fkX10_368 rfl (by decide) (kS hs) (by decide) ((srS hs) 9 (by decide)) ?_
    refine E_iload_n dX10_leadsOutWithout_24 rfl ?_
    refine E_ialdN dX10_leadsOutWithout_25 (kp10 hs) (by omega) (by decide) (hlo) ?_
    refine E_istore dX10_leadsOutWithout_26 (by decide) rfl ?_
    exact L c12 ((Lk T k).length + 1) 0 none (Nat.zero_le _) (by omega) (fun a ha => absurd ha List.not_mem_nil)
  · skip
    refine E_iconst (v := nI 0) dX10_leadsOutWithout_15 rfl ?_
    refine E_top (show nI 0 = bI false from rfl) ?_
    refine E_zret dX10_leadsOutWithout_16 rfl (bI_01 _) ?_
    exact Rt_b (kE c12)
theorem c_inVain (hC : CX T p q M) (ht : tlk T = true) (hT : WT T) (hB : T 61 13 < 64) {m : Nat} (hm : m < 6) : Call g qX10_isAskedForInVain [.ref 0, .int (nI m)] M (RtC (bI (decide (0 < cntN (askB T m) (T 61 0)) && idlB T m)) T p q M) := by
  have hs := spq_p (cb_pq hC.1)
  have hscr := cb_scr hC.1
  have hSC := (cb_tld hC.1 ht).1
  have hLq := q_le hT hB
  have h32 := hT.1
  have hcl := cntN_le (askB T m) (T 61 0)
  have k0 : cntN (askB T m) (T 61 0) = 0 → bI false = bI (decide (0 < cntN (askB T m) (T 61 0)) && idlB T m) := fun e => by rw [e]; rfl
  have L : 0 < cntN (askB T m) (T 61 0) → ∀ M1, CF T p q M1 → F60 M M1 → ∀ (n k : Nat), k ≤ LTn T → LTn T < k + n → allN (fun i => !loB T m (Qn T i)) k = true → Ex g qX10_isAskedForInVain (tm g qX10_isAskedForInVain (RtC (bI (decide (0 < cntN (askB T m) (T 61 0)) && idlB T m)) T p q M)) 19 [some (.ref 0), some (.int (nI m)), some (.int (nI k))] [] M1 := by
    intro hpos M1 hF h60 n
    have hG := hF.2.2
    induction n with
    | zero => intro k h1 h2; exact absurd h2 (by omega)
    | succ n ih =>
      intro k hk hn ha
      refine E_iload_n dX10_isAskedForInVain_19 rfl ?_
      refine E_aload_n dX10_isAskedForInVain_20 rfl ?_
      refine E_getR' (ci := 10) (j := 3) (p := 9) dX10_isAskedForInVain_21 fkX10_33 rfl (by decide) rfl (by decide) (rfl) ?_
      refine E_getI' (ci := 2) (j := 11) dX10_isAskedForInVain_24 fkX10_262 rfl (by decide) rfl (by decide) (gr_st hG) ?_
      refine E_icmp_geN (t := 62) dX10_isAskedForInVain_27 (by decide) (by omega) (by omega) (fun c27 => ?_) (fun c27 => ?_)
      · skip
        have key : bI true = bI (decide (0 < cntN (askB T m) (T 61 0)) && idlB T m) := by rw [decide_eq_true hpos, Bool.true_and, idl_eq hT hB, ← show k = LTn T by omega, ha]
        refine E_iconst (v := nI 1) dX10_isAskedForInVain_62 rfl ?_
        refine E_top (show nI 1 = bI true from rfl) ?_
        refine E_zret dX10_isAskedForInVain_63 rfl (bI_01 _) ?_
        exact rtc key hF.1 h60
      · skip
        refine E_aload_n dX10_isAskedForInVain_30 rfl ?_
        refine E_iload_n dX10_isAskedForInVain_31 rfl ?_
        refine E_aload_n dX10_isAskedForInVain_32 rfl ?_
        refine E_getR' (ci := 10) (j := 3) (p := 9) dX10_isAskedForInVain_33 fkX10_33 rfl (by decide) rfl (by decide) (rfl) ?_
        refine E_iload_n dX10_isAskedForInVain_36 rfl ?_
        refine E_callV (r := qX2_lineAt) (ci := 2) dX10_isAskedForInVain_37 mkX10_265 voX2_lineAt rfl rfl rfl ⟨Nat.le_of_ble_eq_true rfl, Nat.le_of_ble_eq_true rfl, Nat.le_of_ble_eq_true rfl, Nat.le_of_ble_eq_true rfl⟩ (c_line hT hB hG c27) rfl (Nat.le_of_ble_eq_true rfl) ?_
        rintro _ _ ⟨rfl, rfl⟩
        refine E_aload_n dX10_isAskedForInVain_40 rfl ?_
        refine E_getR' (ci := 10) (j := 3) (p := 9) dX10_isAskedForInVain_41 fkX10_33 rfl (by decide) rfl (by decide) (rfl) ?_
        refine E_iload_n dX10_isAskedForInVain_44 rfl ?_
        refine E_callV (r := qX2_marksAt) (ci := 2) dX10_isAskedForInVain_45 mkX10_362 voX2_marksAt rfl rfl rfl ⟨Nat.le_of_ble_eq_true rfl, Nat.le_of_ble_eq_true rfl, Nat.le_of_ble_eq_true rfl, Nat.le_of_ble_eq_true rfl⟩ (c_marks hT hB hG c27) rfl (Nat.le_of_ble_eq_true rfl) ?_
        rintro _ _ ⟨rfl, rfl⟩
        refine E_callV (r := qX10_leadsOutWithout) (ci := 10) dX10_isAskedForInVain_48 mkX10_365 voX10_leadsOutWithout rfl rfl rfl ⟨Nat.le_of_ble_eq_true rfl, Nat.le_of_ble_eq_true rfl, Nat.le_of_ble_eq_true rfl, Nat.le_of_ble_eq_true rfl⟩ (c_leadsOut hF ht hT hB hm c27) rfl (Nat.le_of_ble_eq_true rfl) ?_
        rintro _ _ ⟨rfl, rfl⟩
        refine E_if_eqB (t := 56) dX10_isAskedForInVain_51 (by decide) (fun c51 => ?_) (fun c51 => ?_)
        · skip
          refine E_iincN (b := 1) dX10_isAskedForInVain_56 rfl rfl (by decide) rfl ?_
          refine E_goto (t := 19) dX10_isAskedForInVain_59 (by decide) ?_
          exact ih (k + 1) (by omega) (by omega) (by rw [allN, ha, c51]; rfl)
        · skip
          have key : bI false = bI (decide (0 < cntN (askB T m) (T 61 0)) && idlB T m) := by rw [decide_eq_true hpos, Bool.true_and, idl_eq hT hB, show allN (fun i => !loB T m (Qn T i)) (LTn T) = false from Bool.eq_false_iff.mpr (fun e => by have := allN_iff.mp e k c27; rw [c51] at this; cases this)]
          refine E_iconst (v := nI 0) dX10_isAskedForInVain_54 rfl ?_
          refine E_top (show nI 0 = bI false from rfl) ?_
          refine E_zret dX10_isAskedForInVain_55 rfl (bI_01 _) ?_
          exact rtc key hF.1 h60
  refine Call_of (ls0 := [some (.ref 0), some (.int (nI m)), none]) rfl rfl (Nat.le_of_ble_eq_true rfl) ?_
  refine E_aload_n dX10_isAskedForInVain_0 rfl ?_
  refine E_getM' (ci := 10) (j := 9) (p := p) dX10_isAskedForInVain_1 fkX10_75 rfl (by decide) rfl (by decide) (hscr) ?_
  refine E_iload_n dX10_isAskedForInVain_4 rfl ?_
  refine E_callV (r := qX8_guardsThatName) (ci := 8) dX10_isAskedForInVain_5 mkX10_279 voX8_guardsThatName rfl (kS hs) rfl ⟨Nat.le_of_ble_eq_true rfl, Nat.le_of_ble_eq_true rfl, Nat.le_of_ble_eq_true rfl, Nat.le_of_ble_eq_true rfl⟩ (c_guardsThat hSC hm) rfl (Nat.le_of_ble_eq_true rfl) ?_
  rintro _ _ ⟨rfl, rfl⟩
  refine E_if_neN (t := 13) dX10_isAskedForInVain_8 (by decide) (by omega) (fun c8 => ?_) (fun c8 => ?_)
  · skip
    refine E_aload_n dX10_isAskedForInVain_13 rfl ?_
    refine E_callV (r := qX10_refreshGraph) (ci := 10) dX10_isAskedForInVain_14 mkX10_212 voX10_refreshGraph rfl rfl rfl ⟨Nat.le_of_ble_eq_true rfl, Nat.le_of_ble_eq_true rfl, Nat.le_of_ble_eq_true rfl, Nat.le_of_ble_eq_true rfl⟩ (c_refreshGraph hC ht hT hB) rfl (Nat.le_of_ble_eq_true rfl) ?_
    rintro _ M1 ⟨rfl, g1, g2⟩
    refine E_iconst (v := nI 0) dX10_isAskedForInVain_17 rfl ?_
    refine E_ist_n (i := 2) dX10_isAskedForInVain_18 rfl (by decide) rfl ?_
    exact L c8 M1 g1 g2 (LTn T + 1) 0 (Nat.zero_le _) (by omega) rfl
  · skip
    refine E_iconst (v := nI 0) dX10_isAskedForInVain_11 rfl ?_
    refine E_top (show nI 0 = bI false from rfl) ?_
    refine E_zret dX10_isAskedForInVain_12 rfl (bI_01 _) ?_
    exact rtc (k0 c8) hC F60.rf
theorem c_mark (hM : MS T M) (hC : CX T p q M) {x w : Int32} : Call g qX10_mark [.ref 0, .int x, .int w] M (RtC (mrMark T x w) T p q M) := by
  have hT := rm_wt hM.1
  have hB := ms_B hM
  have htol := cb_tol hC.1
  have hs := spq_p (cb_pq hC.1)
  have hscr := cb_scr hC.1
  have tk : tlk T = !(T 61 1 == 0) := rfl
  have k1 : tlk T = false → -1000001 = mrMark T x w := fun e => by unfold mrMark; rw [if_pos]; rw [tk, Bool.not_eq_false'] at e; rw [e, Bool.true_or]
  have k2 : inI x 0 5 = false → -1000001 = mrMark T x w := fun e => by unfold mrMark; rw [if_pos]; rw [e, Bool.not_false, Bool.or_true]
  have q1 : x < 0 → inI x 0 5 = false := fun e => by rw [inI_f]; rw [i_lt0] at e; omega
  have q2 : ¬ x < nI 6 → inI x 0 5 = false := fun e => by rw [inI_f]; rw [i_ltN (by decide)] at e; omega
  have K20 : tlk T = true → ¬ x < 0 → x < nI 6 → Ex g qX10_mark (tm g qX10_mark (RtC (mrMark T x w) T p q M)) 20 [some (.ref 0), some (.int x), some (.int w)] [] M := fun ht x1 x2 => by
    have hSC := (cb_tld hC.1 ht).1
    have hx : inI x 0 5 = true := by rw [inI_t]; rw [i_lt0] at x1; rw [i_ltN (by decide)] at x2; omega
    obtain ⟨m, m1, m2, rfl, m3⟩ := inI_nat hx (by decide)
    have hm : m < 6 := by omega
    have hn : ¬ (T 61 1 == 0 || !(inI (nI m) 0 5)) = true := by rw [hx]; rw [tk, Bool.not_eq_true'] at ht; rw [ht]; decide
    have v0 : nI (cntN (askB T m) (T 61 0)) = mrMark T (nI m) (nI 0) := by unfold mrMark; rw [if_neg hn, nI_tn m3, if_pos rfl]
    have v1 : nI (cntN (layB T m) (T 61 0)) = mrMark T (nI m) (nI 1) := by unfold mrMark; rw [if_neg hn, nI_tn m3, if_neg (nq 1 0 (by decide)), if_pos rfl]
    have v2 : bI (anyW T m) = mrMark T (nI m) (nI 2) := by unfold mrMark; rw [if_neg hn, nI_tn m3, if_neg (nq 2 0 (by decide)), if_neg (nq 2 1 (by decide)), if_pos rfl]
    have v3 : bI (decide (0 < cntN (askB T m) (T 61 0)) && idlB T m) = mrMark T (nI m) (nI 3) := by unfold mrMark; rw [if_neg hn, nI_tn m3, if_neg (nq 3 0 (by decide)), if_neg (nq 3 1 (by decide)), if_neg (nq 3 2 (by decide)), if_pos rfl]
    have kout : (w.toInt < 0 ∨ 3 < w.toInt) → -1000002 = mrMark T (nI m) w := fun e => by
      unfold mrMark
      rw [if_neg hn, if_neg (sw_no e 0 (by decide) (by decide)), if_neg (sw_no e 1 (by decide) (by decide)), if_neg (sw_no e 2 (by decide) (by decide)), if_neg (sw_no e 3 (by decide) (by decide))]
    refine E_iload_n dX10_mark_20 rfl ?_
    have hsw : w = nI 0 ∨ w = nI 1 ∨ w = nI 2 ∨ w = nI 3 ∨ (w.toInt < 0 ∨ 3 < w.toInt) := by
      rcases sw_ex w 3 (by decide) with ⟨j, hj, rfl⟩ | h7
      · rcases (show j = 0 ∨ j = 1 ∨ j = 2 ∨ j = 3 by omega) with rfl | rfl | rfl | rfl <;> simp
      · exact Or.inr (Or.inr (Or.inr (Or.inr (h7))))
    rcases hsw with rfl | rfl | rfl | rfl | hsw3
    · skip
      refine E_swIn (t := 52) (off := 31) dX10_mark_21 (by decide) (by decide) (by decide) (by decide) ?_
      refine E_aload_n dX10_mark_52 rfl ?_
      refine E_getM' (ci := 10) (j := 9) (p := p) dX10_mark_53 fkX10_75 rfl (by decide) rfl (by decide) (hscr) ?_
      refine E_iload_n dX10_mark_56 rfl ?_
      refine E_callV (r := qX8_guardsThatName) (ci := 8) dX10_mark_57 mkX10_279 voX8_guardsThatName rfl (kS hs) rfl ⟨Nat.le_of_ble_eq_true rfl, Nat.le_of_ble_eq_true rfl, Nat.le_of_ble_eq_true rfl, Nat.le_of_ble_eq_true rfl⟩ (c_guardsThat hSC hm) rfl (Nat.le_of_ble_eq_true rfl) ?_
      rintro _ _ ⟨rfl, rfl⟩
      refine E_iret dX10_mark_60 rfl ?_
      exact rtc v0 hC F60.rf
    · skip
      refine E_swIn (t := 61) (off := 40) dX10_mark_21 (by decide) (by decide) (by decide) (by decide) ?_
      refine E_aload_n dX10_mark_61 rfl ?_
      refine E_getM' (ci := 10) (j := 9) (p := p) dX10_mark_62 fkX10_75 rfl (by decide) rfl (by decide) (hscr) ?_
      refine E_iload_n dX10_mark_65 rfl ?_
      refine E_callV (r := qX8_effectsThatName) (ci := 8) dX10_mark_66 mkX10_282 voX8_effectsThatName rfl (kS hs) rfl ⟨Nat.le_of_ble_eq_true rfl, Nat.le_of_ble_eq_true rfl, Nat.le_of_ble_eq_true rfl, Nat.le_of_ble_eq_true rfl⟩ (c_effectsThat hSC hm) rfl (Nat.le_of_ble_eq_true rfl) ?_
      rintro _ _ ⟨rfl, rfl⟩
      refine E_iret dX10_mark_69 rfl ?_
      exact rtc v1 hC F60.rf
    · skip
      refine E_swIn (t := 70) (off := 49) dX10_mark_21 (by decide) (by decide) (by decide) (by decide) ?_
      refine E_aload_n dX10_mark_70 rfl ?_
      refine E_iload_n dX10_mark_71 rfl ?_
      refine E_callV (r := qX10_isMarkReached) (ci := 10) dX10_mark_72 mkX10_285 voX10_isMarkReached rfl rfl rfl ⟨Nat.le_of_ble_eq_true rfl, Nat.le_of_ble_eq_true rfl, Nat.le_of_ble_eq_true rfl, Nat.le_of_ble_eq_true rfl⟩ (c_isMarkReached hC ht hT hB hm) rfl (Nat.le_of_ble_eq_true rfl) ?_
      rintro _ M2 ⟨rfl, g1, g2⟩
      refine E_if_eqB (t := 82) dX10_mark_75 (by decide) (fun c75 => ?_) (fun c75 => ?_)
      · skip
        have v2' : nI 0 = mrMark T (nI m) (nI 2) := by rw [← v2, c75]; rfl
        refine E_iconst (v := nI 0) dX10_mark_82 rfl ?_
        refine E_iret dX10_mark_83 rfl ?_
        exact rtc v2' g1 g2
      · skip
        have v2' : nI 1 = mrMark T (nI m) (nI 2) := by rw [← v2, c75]; rfl
        refine E_iconst (v := nI 1) dX10_mark_78 rfl ?_
        refine E_goto (t := 83) dX10_mark_79 (by decide) ?_
        refine E_iret dX10_mark_83 rfl ?_
        exact rtc v2' g1 g2
    · skip
      refine E_swIn (t := 84) (off := 63) dX10_mark_21 (by decide) (by decide) (by decide) (by decide) ?_
      refine E_aload_n dX10_mark_84 rfl ?_
      refine E_iload_n dX10_mark_85 rfl ?_
      refine E_callV (r := qX10_isAskedForInVain) (ci := 10) dX10_mark_86 mkX10_288 voX10_isAskedForInVain rfl rfl rfl ⟨Nat.le_of_ble_eq_true rfl, Nat.le_of_ble_eq_true rfl, Nat.le_of_ble_eq_true rfl, Nat.le_of_ble_eq_true rfl⟩ (c_inVain hC ht hT hB hm) rfl (Nat.le_of_ble_eq_true rfl) ?_
      rintro _ M2 ⟨rfl, g1, g2⟩
      refine E_if_eqB (t := 96) dX10_mark_89 (by decide) (fun c89 => ?_) (fun c89 => ?_)
      · skip
        have v3' : nI 0 = mrMark T (nI m) (nI 3) := by rw [← v3, c89]; rfl
        refine E_iconst (v := nI 0) dX10_mark_96 rfl ?_
        refine E_iret dX10_mark_97 rfl ?_
        exact rtc v3' g1 g2
      · skip
        have v3' : nI 1 = mrMark T (nI m) (nI 3) := by rw [← v3, c89]; rfl
        refine E_iconst (v := nI 1) dX10_mark_92 rfl ?_
        refine E_goto (t := 97) dX10_mark_93 (by decide) ?_
        refine E_iret dX10_mark_97 rfl ?_
        exact rtc v3' g1 g2
    · skip
      refine E_swOut (t := 98) dX10_mark_21 (hsw3) (by decide) ?_
      refine E_ldc dX10_mark_98 ckX10_82 ?_
      refine E_iret dX10_mark_100 rfl ?_
      exact rtc (kout hsw3) hC F60.rf
  refine Call_of (ls0 := [some (.ref 0), some (.int x), some (.int w)]) rfl rfl (Nat.le_of_ble_eq_true rfl) ?_
  refine E_aload_n dX10_mark_0 rfl ?_
  refine E_getI' (ci := 10) (j := 11) dX10_mark_1 fkX10_96 rfl (by decide) rfl (by decide) (htol) ?_
  refine E_if_eqB (t := 17) dX10_mark_4 (by decide) (fun c4 => ?_) (fun c4 => ?_)
  · skip
    have key := k1 c4
    refine E_ldc dX10_mark_17 ckX10_114 ?_
    refine E_iret dX10_mark_19 rfl ?_
    exact rtc key hC F60.rf
  · skip
    refine E_iload_n dX10_mark_7 rfl ?_
    refine E_if_lt (t := 17) dX10_mark_8 (by decide) (fun c8 => ?_) (fun c8 => ?_)
    · skip
      have key := k2 (q1 c8)
      refine E_ldc dX10_mark_17 ckX10_114 ?_
      refine E_iret dX10_mark_19 rfl ?_
      exact rtc key hC F60.rf
    · skip
      refine E_iload_n dX10_mark_11 rfl ?_
      refine E_bipush (v := nI 6) dX10_mark_12 rfl ?_
      refine E_icmp_lt (t := 20) dX10_mark_14 (by decide) (fun c14 => ?_) (fun c14 => ?_)
      · skip
        exact K20 c4 c8 c14
      · skip
        have key := k2 (q2 c14)
        refine E_ldc dX10_mark_17 ckX10_114 ?_
        refine E_iret dX10_mark_19 rfl ?_
        exact rtc key hC F60.rf
end PU3
