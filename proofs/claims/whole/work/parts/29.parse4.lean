-- the model: readsGuard, readsEffect
theorem and_p2 {z m : Nat} : z.testBit m = false ↔ z &&& 2 ^ m = 0 := by
  constructor
  · intro h
    apply Nat.eq_of_testBit_eq
    intro i
    rw [Nat.testBit_and, Nat.zero_testBit, Nat.testBit_two_pow]
    by_cases e : m = i
    · rw [← e, h, Bool.false_and]
    · rw [decide_eq_false e, Bool.and_false]
  · intro h
    have h1 : (z &&& 2 ^ m).testBit m = false := by rw [h, Nat.zero_testBit]
    rw [Nat.testBit_and, Nat.testBit_two_pow, decide_eq_true rfl, Bool.and_true] at h1
    exact h1
section M21
variable {g : GG} {M : AM} {T P : TK} {p a lc : Nat}
set_option maxRecDepth 8000 in
theorem m_readsGuard (hX : RT T M) (hP : RPm P M) (ha : P 61 0 = a + 1) (h0 : P 65 a = 0) (hp : p < T 61 21) (hc : T 75 p = 63) : Call g qX11_readsGuard [.ref 61, .int (nI a)] (AB M p 0) (PO T (rn T p (5, lc, P)) 10 lc (fun P' q => P' 61 0 = a + 1 ∧ p ≤ q ∧ (q < T 61 21 → T 75 q ≠ 32) ∧ P' 61 1 = P 61 1) M) := by
  have hsz := hX.1.1
  have h32 : a + 1 ≤ 32 := by rw [← ha]; exact hP.2.1.1
  have hst : pStp (T 75 p) (5, lc, P) = (0, 6, lc, opA P) := by
    show pFive (T 75 p) lc P = _
    unfold pFive pAlt
    rw [hc, if_pos rfl, ha, Nat.add_sub_cancel, if_neg (by omega)]
  have hres : (rn T p (5, lc, P)) = rn T (p + 1) (6, lc, opA P) := rn_ok hp (by rw [hc]; decide) hst
  have Jb : ∀ (M1 : AM) (q b : Nat), PF M M1 → FL T (rn T p (5, lc, P)) q b → Ex g qX11_readsGuard (tm g qX11_readsGuard (PO T (rn T p (5, lc, P)) 10 lc (fun P' q => P' 61 0 = a + 1 ∧ p ≤ q ∧ (q < T 61 21 → T 75 q ≠ 32) ∧ P' 61 1 = P 61 1) M)) 11 [some (.ref 61), some (.int (nI a))] [] (AB M1 q b) := by
    intro M1 q b hF hL
    have hb4 := hL.2.1
    refine E_aload_n dX11_readsGuard_11 rfl ?_
    refine E_getI' (ci := 11) (j := 24) dX11_readsGuard_12 fkX11_139 rfl (by decide) rfl (by decide) (ab_24) ?_
    refine E_if_neN (t := 68) dX11_readsGuard_15 (by decide) (by omega) (fun c15 => ?_) (fun c15 => ?_)
    · skip
      refine E_vret dX11_readsGuard_68 rfl ?_
      exact ⟨rfl, _, q, b, rfl, hF, Or.inr hL⟩
    · skip
      exact absurd c15 hL.1
  have L : ∀ (n : Nat) (M1 : AM) (P1 : TK) (q : Nat), T 61 21 < q + n → p ≤ q → q ≤ T 61 21 → PF M M1 → RPm P1 M1 → rn T q (7, lc, P1) = (rn T p (5, lc, P)) → P1 61 0 = a + 1 → mkA T q = false → (q < T 61 21 → T 75 q ≠ 32) → P1 61 1 = P 61 1 → Ex g qX11_readsGuard (tm g qX11_readsGuard (PO T (rn T p (5, lc, P)) 10 lc (fun P' q => P' 61 0 = a + 1 ∧ p ≤ q ∧ (q < T 61 21 → T 75 q ≠ 32) ∧ P' 61 1 = P 61 1) M)) 11 [some (.ref 61), some (.int (nI a))] [] (AB M1 q 0) := by
    intro n
    induction n with
    | zero => intro M1 P1 q h1 h2 h3; exact absurd h1 (by omega)
    | succ n ih =>
      intro M1 P1 q hn hpq hq hF hP1 hrn hm1 hmk hbl h611
      have hX1 := rt_pf hX hF
      have h65 : M1.1 76 (6 * a + 3) = nI (P1 65 a) := (hP1.1 65 a (Or.inr (Or.inl ⟨by omega, by omega⟩))).2.2
      have hle3 : P1 65 a ≤ 3 := (wt_a hP1.2.1 (show a < P1 61 0 by omega)).2.2.2.1
      have hal : q < T 61 21 → T 75 q = 124 → pStp (T 75 q) (7, lc, P1) = pAlt lc P1 := fun hqs hqc => by
        show (if isMk (T 75 q) = true then _ else if T 75 q = 124 then pAlt lc P1 else _) = _
        rw [mkA_f hmk hqs, if_neg (by decide), if_pos hqc]
      have hB2 : q < T 61 21 → T 75 q = 124 → P1 65 a = 3 → FL T (rn T p (5, lc, P)) q 2 := fun hqs hqc h3 => by
        rw [← hrn]
        refine fl_f (by decide) (by decide) hqs (hbl hqs) ?_
        rw [hal hqs hqc]
        unfold pAlt
        rw [hm1, Nat.add_sub_cancel, if_pos (by omega)]
      have K1 : q < T 61 21 → T 75 q = 124 → P1 65 a < 3 → ∀ (M2 : AM) (q3 b3 : Nat), PF M1 M2 → ((b3 = 0 ∧ q3 ≤ T 61 21 ∧ ∃ P, RPm P M2 ∧ rn T q3 (7, lc, P) = rn T (q + 1) (6, lc, opA P1) ∧ P 61 0 = a + 1 ∧ q + 1 ≤ q3 ∧ mkA T q3 = false ∧ (q3 < T 61 21 → T 75 q3 ≠ 32) ∧ P 61 1 = P1 61 1) ∨ FL T (rn T (q + 1) (6, lc, opA P1)) q3 b3) → Ex g qX11_readsGuard (tm g qX11_readsGuard (PO T (rn T p (5, lc, P)) 10 lc (fun P' q => P' 61 0 = a + 1 ∧ p ≤ q ∧ (q < T 61 21 → T 75 q ≠ 32) ∧ P' 61 1 = P 61 1) M)) 11 [some (.ref 61), some (.int (nI a))] [] (AB M2 q3 b3) := by
        intro hqs hqc h3 M2 q3 b3 hF2 hr2
        have hse : rn T (q + 1) (6, lc, opA P1) = (rn T p (5, lc, P)) := by
          rw [← hrn]
          refine (rn_ok hqs (hbl hqs) ?_).symm
          rw [hal hqs hqc]
          unfold pAlt
          rw [hm1, Nat.add_sub_cancel, if_neg (by omega)]
        rw [hse] at hr2
        rcases hr2 with ⟨rfl, h1, P2, h2, h3, h4, h5, h6, h7, h8⟩ | hL
        · exact ih M2 P2 q3 (by omega) (by omega) h1 (hF.tr hF2) h2 h3 h4 h6 h7 (h8.trans h611)
        · exact Jb M2 q3 b3 (hF.tr hF2) hL
      have J2 : q < T 61 21 → T 75 q = 124 → P1 65 a = 3 → Ex g qX11_readsGuard (tm g qX11_readsGuard (PO T (rn T p (5, lc, P)) 10 lc (fun P' q => P' 61 0 = a + 1 ∧ p ≤ q ∧ (q < T 61 21 → T 75 q ≠ 32) ∧ P' 61 1 = P 61 1) M)) 53 [some (.ref 61), some (.int (nI a))] [] (AB M1 q 2) := by
        intro hqs hqc h3
        refine E_aload_n dX11_readsGuard_53 rfl ?_
        refine E_getI' (ci := 11) (j := 24) dX11_readsGuard_54 fkX11_139 rfl (by decide) rfl (by decide) (ab_24) ?_
        refine E_if_neN (t := 11) dX11_readsGuard_57 (by decide) (by decide) (fun c57 => ?_) (fun c57 => ?_)
        · skip
          exact Jb M1 q 2 hF (hB2 hqs hqc h3)
        · skip
          exact absurd c57 (by decide)
      have J3 : q < T 61 21 → T 75 q = 124 → P1 65 a < 3 → Ex g qX11_readsGuard (tm g qX11_readsGuard (PO T (rn T p (5, lc, P)) 10 lc (fun P' q => P' 61 0 = a + 1 ∧ p ≤ q ∧ (q < T 61 21 → T 75 q ≠ 32) ∧ P' 61 1 = P 61 1) M)) 53 [some (.ref 61), some (.int (nI a))] [] (AB M1 (q + 1) 0) := by
        intro hqs hqc h3
        refine E_aload_n dX11_readsGuard_53 rfl ?_
        refine E_getI' (ci := 11) (j := 24) dX11_readsGuard_54 fkX11_139 rfl (by decide) rfl (by decide) (ab_24) ?_
        refine E_if_neN (t := 11) dX11_readsGuard_57 (by decide) (by decide) (fun c57 => ?_) (fun c57 => ?_)
        · skip
          exact absurd c57 (by decide)
        · skip
          refine E_aload_n dX11_readsGuard_60 rfl ?_
          refine E_iload_n dX11_readsGuard_61 rfl ?_
          refine E_callV (r := qX11_readsAlternative) (ci := 11) dX11_readsGuard_62 mkX11_174 voX11_readsAlternative rfl rfl rfl ⟨Nat.le_of_ble_eq_true rfl, Nat.le_of_ble_eq_true rfl, Nat.le_of_ble_eq_true rfl, Nat.le_of_ble_eq_true rfl⟩ (m_readsAlt (lc := lc) hX1 hP1 hm1 (by omega) (by omega)) rfl (Nat.le_of_ble_eq_true rfl) ?_
          rintro _ _ ⟨rfl, M2, q3, b3, rfl, hF2, hr2⟩
          refine E_goto (t := 11) dX11_readsGuard_65 (by decide) ?_
          exact K1 hqs hqc h3 M2 q3 b3 hF2 hr2
      refine E_aload_n dX11_readsGuard_11 rfl ?_
      refine E_getI' (ci := 11) (j := 24) dX11_readsGuard_12 fkX11_139 rfl (by decide) rfl (by decide) (ab_24) ?_
      refine E_if_neN (t := 68) dX11_readsGuard_15 (by decide) (by decide) (fun c15 => ?_) (fun c15 => ?_)
      · skip
        exact absurd c15 (by decide)
      · skip
        refine E_aload_n dX11_readsGuard_18 rfl ?_
        refine E_callV (r := qX11_look) (ci := 11) dX11_readsGuard_19 mkX11_142 voX11_look rfl rfl rfl ⟨Nat.le_of_ble_eq_true rfl, Nat.le_of_ble_eq_true rfl, Nat.le_of_ble_eq_true rfl, Nat.le_of_ble_eq_true rfl⟩ (m_look hX1 hq) rfl (Nat.le_of_ble_eq_true rfl) ?_
        rintro _ _ ⟨q', rfl, rfl, hq'⟩
        obtain rfl : q' = q := hq'.2.2.2.2 hbl
        refine E_bipush (v := nI 124) dX11_readsGuard_22 rfl ?_
        refine E_icmp_ne (t := 68) dX11_readsGuard_24 (by decide) (fun c24 => ?_) (fun c24 => ?_)
        · skip
          refine E_vret dX11_readsGuard_68 rfl ?_
          have hno : ¬ (q' < T 61 21 ∧ T 75 q' = 124) := fun e => c24 ((ch_eq hX.1 (by decide)).mpr e)
          refine ⟨rfl, _, q', 0, rfl, hF, Or.inl ⟨rfl, hq, P1, hP1, ?_, hm1, hpq, hbl, h611⟩⟩
          rw [← hrn]
          refine rn_sw (show (10 : Nat) ≠ 0 by decide) (show (7 : Nat) ≠ 0 by decide) rfl hq hbl (fun h => ?_)
          show pTen (T 75 q') lc P1 = (if isMk (T 75 q') = true then _ else if T 75 q' = 124 then _ else pTen (T 75 q') lc P1)
          rw [mkA_f hmk h, if_neg (by decide), if_neg (fun e => hno ⟨h, e⟩)]
        · skip
          obtain ⟨hqs, hqc⟩ := (ch_eq hX.1 (by decide)).mp c24
          refine E_aload_n dX11_readsGuard_27 rfl ?_
          refine E_getR' (ci := 11) (j := 25) (p := 76) dX11_readsGuard_28 fkX11_53 rfl (by decide) rfl (by decide) (rfl) ?_
          refine E_bipush (v := nI 6) dX11_readsGuard_31 rfl ?_
          refine E_iload_n dX11_readsGuard_33 rfl ?_
          refine E_imulN dX11_readsGuard_34 ?_
          refine E_iconst (v := nI 3) dX11_readsGuard_35 rfl ?_
          refine E_iaddN dX11_readsGuard_36 ?_
          refine E_ialdN dX11_readsGuard_37 rfl (by omega) (by decide) ((ab_o (by omega) (by omega)).trans h65) ?_
          refine E_iconst (v := nI 3) dX11_readsGuard_38 rfl ?_
          refine E_icmp_neN (t := 47) dX11_readsGuard_39 (by decide) (by omega) (by omega) (fun c39 => ?_) (fun c39 => ?_)
          · skip
            have hps : AB M1 (if psB T q' 0 124 = 0 then q' + 1 else q') (psB T q' 0 124) = AB M1 (q' + 1) 0 := by (have : psB T q' 0 124 = 0 := (by unfold psB; rw [if_pos rfl, if_pos ⟨hqs, hqc⟩])); rw [this]; rfl
            refine E_aload_n dX11_readsGuard_47 rfl ?_
            refine E_bipush (v := nI 124) dX11_readsGuard_48 rfl ?_
            refine E_callV (r := qX11_passes) (ci := 11) dX11_readsGuard_50 mkX11_171 voX11_passes rfl rfl rfl ⟨Nat.le_of_ble_eq_true rfl, Nat.le_of_ble_eq_true rfl, Nat.le_of_ble_eq_true rfl, Nat.le_of_ble_eq_true rfl⟩ (m_passes hX1 hq (c := 124) (by decide) (by decide)) rfl (Nat.le_of_ble_eq_true rfl) ?_
            rintro _ _ ⟨q2, rfl, rfl, hk2⟩
            obtain rfl : q2 = q' := hk2.2.2.2.2 hbl
            refine E_mem hps ?_
            first | exact J2 hqs hqc c39 | exact J3 hqs hqc (by omega)
          · skip
            have hps : AB M1 (if psB T q' 2 124 = 0 then q' + 1 else q') (psB T q' 2 124) = AB M1 q' 2 := rfl
            refine E_aload_n dX11_readsGuard_42 rfl ?_
            refine E_iconst (v := nI 2) dX11_readsGuard_43 rfl ?_
            refine E_callV (r := qX11_wrong) (ci := 11) dX11_readsGuard_44 mkX11_145 voX11_wrong rfl rfl rfl ⟨Nat.le_of_ble_eq_true rfl, Nat.le_of_ble_eq_true rfl, Nat.le_of_ble_eq_true rfl, Nat.le_of_ble_eq_true rfl⟩ (m_wrong (k := 2) (by decide)) rfl (Nat.le_of_ble_eq_true rfl) ?_
            rintro _ _ ⟨rfl, rfl⟩
            rw [if_pos rfl]
            refine E_aload_n dX11_readsGuard_47 rfl ?_
            refine E_bipush (v := nI 124) dX11_readsGuard_48 rfl ?_
            refine E_callV (r := qX11_passes) (ci := 11) dX11_readsGuard_50 mkX11_171 voX11_passes rfl rfl rfl ⟨Nat.le_of_ble_eq_true rfl, Nat.le_of_ble_eq_true rfl, Nat.le_of_ble_eq_true rfl, Nat.le_of_ble_eq_true rfl⟩ (m_passes hX1 hq (c := 124) (by decide) (by decide)) rfl (Nat.le_of_ble_eq_true rfl) ?_
            rintro _ _ ⟨q2, rfl, rfl, hk2⟩
            obtain rfl : q2 = q' := hk2.2.2.2.2 hbl
            refine E_mem hps ?_
            first | exact J2 hqs hqc c39 | exact J3 hqs hqc (by omega)
  have hps : AB M (if psB T p 0 63 = 0 then p + 1 else p) (psB T p 0 63) = AB M (p + 1) 0 := by
    have : psB T p 0 63 = 0 := by unfold psB; rw [if_pos rfl, if_pos ⟨hp, hc⟩]
    rw [this]; rfl
  refine Call_of (ls0 := [some (.ref 61), some (.int (nI a))]) rfl rfl (Nat.le_of_ble_eq_true rfl) ?_
  refine E_aload_n dX11_readsGuard_0 rfl ?_
  refine E_bipush (v := nI 63) dX11_readsGuard_1 rfl ?_
  refine E_callV (r := qX11_passes) (ci := 11) dX11_readsGuard_3 mkX11_171 voX11_passes rfl rfl rfl ⟨Nat.le_of_ble_eq_true rfl, Nat.le_of_ble_eq_true rfl, Nat.le_of_ble_eq_true rfl, Nat.le_of_ble_eq_true rfl⟩ (m_passes hX (Nat.le_of_lt hp) (c := 63) (by decide) (by decide)) rfl (Nat.le_of_ble_eq_true rfl) ?_
  rintro _ _ ⟨q2, rfl, rfl, hk2⟩
  obtain rfl : p = q2 := (hk2.2.2.2.2 (fun _ => by rw [hc]; decide)).symm
  refine E_mem hps ?_
  refine E_aload_n dX11_readsGuard_6 rfl ?_
  refine E_iload_n dX11_readsGuard_7 rfl ?_
  refine E_callV (r := qX11_readsAlternative) (ci := 11) dX11_readsGuard_8 mkX11_174 voX11_readsAlternative rfl rfl rfl ⟨Nat.le_of_ble_eq_true rfl, Nat.le_of_ble_eq_true rfl, Nat.le_of_ble_eq_true rfl, Nat.le_of_ble_eq_true rfl⟩ (m_readsAlt (lc := lc) hX hP ha (by omega) (by omega)) rfl (Nat.le_of_ble_eq_true rfl) ?_
  rintro _ _ ⟨rfl, M2, q3, b3, rfl, hF2, hr2⟩
  rw [← hres] at hr2
  rcases hr2 with ⟨rfl, h1, P2, h2, h3, h4, h5, h6, h7, h8⟩ | hL
  · exact L (T 61 21 + 1) M2 P2 q3 (by omega) (by omega) h1 hF2 h2 h3 h4 h6 h7 h8
  · exact Jb M2 q3 b3 hF2 hL
end M21
section M22
variable {g : GG} {M : AM} {T P : TK} {p a lc : Nat}
set_option maxRecDepth 8000 in
theorem m_readsEffect (hX : RT T M) (hP : RPm P M) (ha : P 61 0 = a + 1) (hp : p < T 61 21) (hc : T 75 p = 33) : Call g qX11_readsEffect [.ref 61, .int (nI a)] (AB M p 0) (PO T (rn T p (10, lc, P)) 2 lc (fun P' q => p ≤ q ∧ (q < T 61 21 → T 75 q ≠ 32) ∧ P' 61 1 = P 61 1) M) := by
  have hsz := hX.1.1
  have h32 : a + 1 ≤ 32 := by rw [← ha]; exact hP.2.1.1
  have hst : pStp (T 75 p) (10, lc, P) = (0, 8, lc, P) := by
    show pTen (T 75 p) lc P = _
    unfold pTen
    rw [hc, if_pos rfl]
  have hres : (rn T p (10, lc, P)) = rn T (p + 1) (8, lc, P) := rn_ok hp (by rw [hc]; decide) hst
  have Jb : ∀ (M1 : AM) (q b : Nat) (y2 y3 : Option Value), PF M M1 → FL T (rn T p (10, lc, P)) q b → Ex g qX11_readsEffect (tm g qX11_readsEffect (PO T (rn T p (10, lc, P)) 2 lc (fun P' q => p ≤ q ∧ (q < T 61 21 → T 75 q ≠ 32) ∧ P' 61 1 = P 61 1) M)) 18 [some (.ref 61), some (.int (nI a)), y2, y3] [] (AB M1 q b) := by
    intro M1 q b y2 y3 hF hL
    have hb4 := hL.2.1
    refine E_aload_n dX11_readsEffect_18 rfl ?_
    refine E_getI' (ci := 11) (j := 24) dX11_readsEffect_19 fkX11_139 rfl (by decide) rfl (by decide) (ab_24) ?_
    refine E_if_neN (t := 133) dX11_readsEffect_22 (by decide) (by omega) (fun c22 => ?_) (fun c22 => ?_)
    · skip
      refine E_vret dX11_readsEffect_133 rfl ?_
      exact ⟨rfl, _, q, b, rfl, hF, Or.inr hL⟩
    · skip
      exact absurd c22 hL.1
  have L : ∀ (n : Nat) (M1 : AM) (P1 : TK) (q w : Nat) (y2 y3 : Option Value), T 61 21 < q + n → p ≤ q → q ≤ T 61 21 → (w = 9 ∨ (w = 8 ∧ (q < T 61 21 → T 75 q ≠ 32) ∧ mkA T q = true)) → PF M M1 → RPm P1 M1 → rn T q (w, lc, P1) = (rn T p (10, lc, P)) → P1 61 0 = a + 1 → P1 61 1 = P 61 1 → Ex g qX11_readsEffect (tm g qX11_readsEffect (PO T (rn T p (10, lc, P)) 2 lc (fun P' q => p ≤ q ∧ (q < T 61 21 → T 75 q ≠ 32) ∧ P' 61 1 = P 61 1) M)) 18 [some (.ref 61), some (.int (nI a)), y2, y3] [] (AB M1 q 0) := by
    intro n
    induction n with
    | zero => intro M1 P1 q w y2 y3 h1 h2 h3; exact absurd h1 (by omega)
    | succ n ih =>
      intro M1 P1 q0 w y2 y3 hn hpq hq hw hF hP1 hrn hm1 h611
      have hX1 := rt_pf hX hF
      have h68 : M1.1 76 (6 * a + 4) = nI (P1 68 a) := (hP1.1 68 a (Or.inr (Or.inl ⟨by omega, by omega⟩))).2.2
      have h69 : M1.1 76 (6 * a + 5) = nI (P1 69 a) := (hP1.1 69 a (Or.inr (Or.inl ⟨by omega, by omega⟩))).2.2
      have hld : ∀ q i, i = 4 ∨ i = 5 → (AB M1 q 0).1 76 (6 * a + i) = nI (P1 (64 + i) a) := fun q i hi => by
        rw [ab_o (by omega) (by omega)]
        rcases hi with e | e <;> subst e
        · exact h68
        · exact h69
      have hps : ∀ q, SK T q0 q → mkA T q = true → (w = 8 ∨ w = 9) := fun q _ _ => by omega
      have hok : ∀ q, SK T q0 q → mkA T q = true → ((P1 68 a ||| P1 69 a) &&& (sMk (T 75 q) ||| gMk (T 75 q)) = 0) → rn T (q + 1) (9, lc, chM P1 (T 75 q)) = (rn T p (10, lc, P)) ∧ WT (chM P1 (T 75 q)) := fun q hk hm hz => by
        obtain ⟨hqs, hmk⟩ := mkA_t hm
        have hmc := mk_c hmk
        have hch : pChg (T 75 q) lc P1 = (0, 9, lc, chM P1 (T 75 q)) := by unfold pChg; rw [if_pos hmk, hm1, Nat.add_sub_cancel, if_pos hz]
        have hst : pStp (T 75 q) (w, lc, P1) = (0, 9, lc, chM P1 (T 75 q)) := by
          rcases hw with e | ⟨e, -⟩ <;> subst e
          · show (if T 75 q = 59 then _ else _) = _
            rw [if_neg (by omega)]; exact hch
          · exact hch
        exact ⟨by rw [← rn_ok hqs (hk.2.2.1 hqs) hst, hk.2.2.2.1]; exact hrn, wt_chM hP1.2.1 hm1 hz⟩
      have hbd : ∀ q, SK T q0 q → mkA T q = true → ((P1 68 a ||| P1 69 a) &&& (sMk (T 75 q) ||| gMk (T 75 q)) ≠ 0) → FL T (rn T p (10, lc, P)) q 4 := fun q hk hm hz => by
        obtain ⟨hqs, hmk⟩ := mkA_t hm
        have hmc := mk_c hmk
        have hch : pChg (T 75 q) lc P1 = pB 4 P1 := by unfold pChg; rw [if_pos hmk, hm1, Nat.add_sub_cancel, if_neg hz]
        rw [← hrn, ← hk.2.2.2.1]
        refine fl_f (by decide) (by decide) hqs (hk.2.2.1 hqs) ?_
        rcases hw with e | ⟨e, -⟩ <;> subst e
        · show (if T 75 q = 59 then _ else _) = _
          rw [if_neg (by omega)]; exact hch
        · exact hch
      have G4 : ∀ (q : Nat) (z2 z3 : Option Value), SK T q0 q → mkA T q = true → 113 ≤ T 75 q → (P1 68 a ||| P1 69 a).testBit (T 75 q - 113) = false → Ex g qX11_readsEffect (tm g qX11_readsEffect (PO T (rn T p (10, lc, P)) 2 lc (fun P' q => p ≤ q ∧ (q < T 61 21 → T 75 q ≠ 32) ∧ P' 61 1 = P 61 1) M)) 18 [some (.ref 61), some (.int (nI a)), z2, z3] [] (AB (sI M1 76 (6 * a + 4) (nI (P1 68 a ||| 1 * 2 ^ (T 75 q - 113)))) (q + 1) 0) := by
        intro q z2 z3 hk hm h113 hbit
        obtain ⟨hqs, hmk⟩ := mkA_t hm
        have hs := mk_s hmk h113
        have hg := mk_g0 h113
        obtain ⟨k1, k2⟩ := hok q hk hm (by rw [← hs, ← hg, Nat.or_zero, Nat.one_mul]; exact and_p2.mp hbit)
        have hch : chM P1 (T 75 q) = upT P1 68 a (P1 68 a ||| sMk (T 75 q)) := by
          unfold chM orT
          rw [hm1, Nat.add_sub_cancel, ← hg, Nat.or_zero, upT_id]
        rw [hs]
        rw [hch] at k1 k2
        exact ih _ _ (q + 1) 9 _ _ (by have := hk.1; omega) (by have := hk.1; omega) (by omega) (Or.inl rfl) (hF.i (by omega)) ⟨rp_set aM_inj hP1.1 (by decide) (by decide) (by omega) (by decide), k2, fun b => by rw [upT_ne (by omega)]; exact hP1.2.2 b⟩ k1 (by rw [upT_ne (by omega)]; exact hm1) (by rw [upT_ne (by omega)]; exact h611)
      have G5 : ∀ (q : Nat) (z2 z3 : Option Value), SK T q0 q → mkA T q = true → T 75 q < 113 → (P1 68 a ||| P1 69 a).testBit (T 75 q - 81) = false → Ex g qX11_readsEffect (tm g qX11_readsEffect (PO T (rn T p (10, lc, P)) 2 lc (fun P' q => p ≤ q ∧ (q < T 61 21 → T 75 q ≠ 32) ∧ P' 61 1 = P 61 1) M)) 18 [some (.ref 61), some (.int (nI a)), z2, z3] [] (AB (sI M1 76 (6 * a + 5) (nI (P1 69 a ||| 1 * 2 ^ (T 75 q - 81)))) (q + 1) 0) := by
        intro q z2 z3 hk hm h113 hbit
        obtain ⟨hqs, hmk⟩ := mkA_t hm
        have hs := mk_s0 h113
        have hg := mk_g hmk h113
        obtain ⟨k1, k2⟩ := hok q hk hm (by rw [← hs, ← hg, Nat.zero_or, Nat.one_mul]; exact and_p2.mp hbit)
        have hch : chM P1 (T 75 q) = upT P1 69 a (P1 69 a ||| gMk (T 75 q)) := by
          unfold chM orT
          rw [hm1, Nat.add_sub_cancel, ← hs, Nat.or_zero, upT_id]
        rw [hg]
        rw [hch] at k1 k2
        exact ih _ _ (q + 1) 9 _ _ (by have := hk.1; omega) (by have := hk.1; omega) (by omega) (Or.inl rfl) (hF.i (by omega)) ⟨rp_set aM_inj hP1.1 (by decide) (by decide) (by omega) (by decide), k2, fun b => by rw [upT_ne (by omega)]; exact hP1.2.2 b⟩ k1 (by rw [upT_ne (by omega)]; exact hm1) (by rw [upT_ne (by omega)]; exact h611)
      refine E_aload_n dX11_readsEffect_18 rfl ?_
      refine E_getI' (ci := 11) (j := 24) dX11_readsEffect_19 fkX11_139 rfl (by decide) rfl (by decide) (ab_24) ?_
      refine E_if_neN (t := 133) dX11_readsEffect_22 (by decide) (by decide) (fun c22 => ?_) (fun c22 => ?_)
      · skip
        exact absurd c22 (by decide)
      · skip
        refine E_aload_n dX11_readsEffect_25 rfl ?_
        refine E_callV (r := qX11_isMark) (ci := 11) dX11_readsEffect_26 mkX11_167 voX11_isMark rfl rfl rfl ⟨Nat.le_of_ble_eq_true rfl, Nat.le_of_ble_eq_true rfl, Nat.le_of_ble_eq_true rfl, Nat.le_of_ble_eq_true rfl⟩ (m_isMark hX1 hq) rfl (Nat.le_of_ble_eq_true rfl) ?_
        rintro _ _ ⟨q, rfl, rfl, hk⟩
        refine E_if_eqB (t := 133) dX11_readsEffect_29 (by decide) (fun c29 => ?_) (fun c29 => ?_)
        · skip
          refine E_vret dX11_readsEffect_133 rfl ?_
          have hw9 : w = 9 := by (rcases hw with e | ⟨e, e1, e2⟩; exact e; exact absurd e2 (by rw [← hk.2.2.2.2 e1, c29]; decide))
          subst hw9
          refine ⟨rfl, _, q, 0, rfl, hF, Or.inl ⟨rfl, hk.2.1, P1, hP1, ?_, Nat.le_trans hpq hk.1, hk.2.2.1, h611⟩⟩
          rw [← hrn, ← hk.2.2.2.1]
          refine rn_sw (show (2 : Nat) ≠ 0 by decide) (show (9 : Nat) ≠ 0 by decide) rfl hk.2.1 hk.2.2.1 (fun h => ?_)
          show pEnd (T 75 q) lc P1 = (if T 75 q = 59 then _ else pChg (T 75 q) lc P1)
          unfold pEnd pChg
          rw [mkA_f c29 h]
          rfl
        · skip
          obtain ⟨hqs, hmk⟩ := mkA_t c29
          have hmc := mk_c hmk
          refine E_aload_n dX11_readsEffect_32 rfl ?_
          refine E_callV (r := qX11_look) (ci := 11) dX11_readsEffect_33 mkX11_142 voX11_look rfl rfl rfl ⟨Nat.le_of_ble_eq_true rfl, Nat.le_of_ble_eq_true rfl, Nat.le_of_ble_eq_true rfl, Nat.le_of_ble_eq_true rfl⟩ (m_look hX1 hk.2.1) rfl (Nat.le_of_ble_eq_true rfl) ?_
          rintro _ _ ⟨q', rfl, rfl, hq'⟩
          obtain rfl : q' = q := hq'.2.2.2.2 hk.2.2.1
          rw [ch_p hqs]
          refine E_ist_n (i := 2) dX11_readsEffect_36 rfl (by decide) rfl ?_
          refine E_iload_n dX11_readsEffect_37 rfl ?_
          refine E_bipush (v := nI 113) dX11_readsEffect_38 rfl ?_
          refine E_icmp_ltN (t := 50) dX11_readsEffect_40 (by decide) (by omega) (by omega) (fun c40 => ?_) (fun c40 => ?_)
          · skip
            have hp2 := p2_64 (l := T 75 q' - 81) (by omega)
            refine E_iload_n dX11_readsEffect_50 rfl ?_
            refine E_bipush (v := nI 81) dX11_readsEffect_51 rfl ?_
            refine E_isubN dX11_readsEffect_53 (by omega) ?_
            refine E_ist_n (i := 3) dX11_readsEffect_54 rfl (by decide) rfl ?_
            refine E_aload_n dX11_readsEffect_55 rfl ?_
            refine E_getR' (ci := 11) (j := 25) (p := 76) dX11_readsEffect_56 fkX11_53 rfl (by decide) rfl (by decide) (rfl) ?_
            refine E_bipush (v := nI 6) dX11_readsEffect_59 rfl ?_
            refine E_iload_n dX11_readsEffect_61 rfl ?_
            refine E_imulN dX11_readsEffect_62 ?_
            refine E_iconst (v := nI 4) dX11_readsEffect_63 rfl ?_
            refine E_iaddN dX11_readsEffect_64 ?_
            refine E_ialdN dX11_readsEffect_65 rfl (by omega) (by decide) ((ab_o (by omega) (by omega)).trans h68) ?_
            refine E_aload_n dX11_readsEffect_66 rfl ?_
            refine E_getR' (ci := 11) (j := 25) (p := 76) dX11_readsEffect_67 fkX11_53 rfl (by decide) rfl (by decide) (rfl) ?_
            refine E_bipush (v := nI 6) dX11_readsEffect_70 rfl ?_
            refine E_iload_n dX11_readsEffect_72 rfl ?_
            refine E_imulN dX11_readsEffect_73 ?_
            refine E_iconst (v := nI 5) dX11_readsEffect_74 rfl ?_
            refine E_iaddN dX11_readsEffect_75 ?_
            refine E_ialdN dX11_readsEffect_76 rfl (by omega) (by decide) ((ab_o (by omega) (by omega)).trans h69) ?_
            refine E_iorN dX11_readsEffect_77 ?_
            refine E_iload_n dX11_readsEffect_78 rfl ?_
            refine E_callS (r := qX11_has) dX11_readsEffect_79 mkX11_94 toX11_has rfl ⟨Nat.le_of_ble_eq_true rfl, Nat.le_of_ble_eq_true rfl, Nat.le_of_ble_eq_true rfl, Nat.le_of_ble_eq_true rfl⟩ (m_has (by omega)) rfl (Nat.le_of_ble_eq_true rfl) ?_
            rintro _ _ ⟨rfl, rfl⟩
            refine E_if_eqB (t := 93) dX11_readsEffect_82 (by decide) (fun c82 => ?_) (fun c82 => ?_)
            · skip
              refine E_aload_n dX11_readsEffect_93 rfl ?_
              refine E_getR' (ci := 11) (j := 25) (p := 76) dX11_readsEffect_94 fkX11_53 rfl (by decide) rfl (by decide) (rfl) ?_
              refine E_bipush (v := nI 6) dX11_readsEffect_97 rfl ?_
              refine E_iload_n dX11_readsEffect_99 rfl ?_
              refine E_imulN dX11_readsEffect_100 ?_
              refine E_iload_n dX11_readsEffect_101 rfl ?_
              refine E_bipush (v := nI 113) dX11_readsEffect_102 rfl ?_
              refine E_icmp_ltN (t := 111) dX11_readsEffect_104 (by decide) (by omega) (by omega) (fun c104 => ?_) (fun c104 => ?_)
              · skip
                refine E_iconst (v := nI 5) dX11_readsEffect_111 rfl ?_
                refine E_iaddN dX11_readsEffect_112 ?_
                refine E_dup2 dX11_readsEffect_113 rfl rfl ?_
                refine E_ialdN dX11_readsEffect_114 rfl (by omega) (by decide) (hld _ _ (by decide)) ?_
                refine E_iconst (v := nI 1) dX11_readsEffect_115 rfl ?_
                refine E_iload_n dX11_readsEffect_116 rfl ?_
                refine E_ishlN dX11_readsEffect_117 (by omega) (by omega) ?_
                refine E_iorN dX11_readsEffect_118 ?_
                refine E_iastN dX11_readsEffect_119 rfl (by omega) (by decide) ?_
                refine E_mem (ab_s (by omega) (by omega)) ?_
                refine E_aload_n dX11_readsEffect_120 rfl ?_
                refine E_dup dX11_readsEffect_121 rfl ?_
                refine E_getI' (ci := 11) (j := 23) dX11_readsEffect_122 fkX11_136 rfl (by decide) rfl (by decide) (ab_23) ?_
                refine E_iconst (v := nI 1) dX11_readsEffect_125 rfl ?_
                refine E_iaddN dX11_readsEffect_126 ?_
                refine E_putI (ci := 11) (j := 23) dX11_readsEffect_127 fkX11_136 rfl (by decide) rfl (by decide) ?_
                refine E_mem ab_s23 ?_
                refine E_goto (t := 18) dX11_readsEffect_130 (by decide) ?_
                first | (exfalso; omega) | exact G4 q' _ _ hk c29 c40 c82 | exact G5 q' _ _ hk c29 c40 c82 | exact Jb _ q' 4 _ _ hF (hbd q' hk c29 (fun e => by rw [← mk_s hmk c40, ← mk_g0 c40, Nat.or_zero, Nat.one_mul, ← and_p2, c82] at e; exact absurd e (by decide))) | exact Jb _ q' 4 _ _ hF (hbd q' hk c29 (fun e => by rw [← mk_s0 c40, ← mk_g hmk c40, Nat.zero_or, Nat.one_mul, ← and_p2, c82] at e; exact absurd e (by decide)))
              · skip
                refine E_iconst (v := nI 4) dX11_readsEffect_107 rfl ?_
                refine E_goto (t := 112) dX11_readsEffect_108 (by decide) ?_
                refine E_iaddN dX11_readsEffect_112 ?_
                refine E_dup2 dX11_readsEffect_113 rfl rfl ?_
                refine E_ialdN dX11_readsEffect_114 rfl (by omega) (by decide) (hld _ _ (by decide)) ?_
                refine E_iconst (v := nI 1) dX11_readsEffect_115 rfl ?_
                refine E_iload_n dX11_readsEffect_116 rfl ?_
                refine E_ishlN dX11_readsEffect_117 (by omega) (by omega) ?_
                refine E_iorN dX11_readsEffect_118 ?_
                refine E_iastN dX11_readsEffect_119 rfl (by omega) (by decide) ?_
                refine E_mem (ab_s (by omega) (by omega)) ?_
                refine E_aload_n dX11_readsEffect_120 rfl ?_
                refine E_dup dX11_readsEffect_121 rfl ?_
                refine E_getI' (ci := 11) (j := 23) dX11_readsEffect_122 fkX11_136 rfl (by decide) rfl (by decide) (ab_23) ?_
                refine E_iconst (v := nI 1) dX11_readsEffect_125 rfl ?_
                refine E_iaddN dX11_readsEffect_126 ?_
                refine E_putI (ci := 11) (j := 23) dX11_readsEffect_127 fkX11_136 rfl (by decide) rfl (by decide) ?_
                refine E_mem ab_s23 ?_
                refine E_goto (t := 18) dX11_readsEffect_130 (by decide) ?_
                first | (exfalso; omega) | exact G4 q' _ _ hk c29 c40 c82 | exact G5 q' _ _ hk c29 c40 c82 | exact Jb _ q' 4 _ _ hF (hbd q' hk c29 (fun e => by rw [← mk_s hmk c40, ← mk_g0 c40, Nat.or_zero, Nat.one_mul, ← and_p2, c82] at e; exact absurd e (by decide))) | exact Jb _ q' 4 _ _ hF (hbd q' hk c29 (fun e => by rw [← mk_s0 c40, ← mk_g hmk c40, Nat.zero_or, Nat.one_mul, ← and_p2, c82] at e; exact absurd e (by decide)))
            · skip
              refine E_aload_n dX11_readsEffect_85 rfl ?_
              refine E_iconst (v := nI 4) dX11_readsEffect_86 rfl ?_
              refine E_callV (r := qX11_wrong) (ci := 11) dX11_readsEffect_87 mkX11_145 voX11_wrong rfl rfl rfl ⟨Nat.le_of_ble_eq_true rfl, Nat.le_of_ble_eq_true rfl, Nat.le_of_ble_eq_true rfl, Nat.le_of_ble_eq_true rfl⟩ (m_wrong (k := 4) (by decide)) rfl (Nat.le_of_ble_eq_true rfl) ?_
              rintro _ _ ⟨rfl, rfl⟩
              rw [if_pos rfl]
              refine E_goto (t := 130) dX11_readsEffect_90 (by decide) ?_
              refine E_goto (t := 18) dX11_readsEffect_130 (by decide) ?_
              first | (exfalso; omega) | exact G4 q' _ _ hk c29 c40 c82 | exact G5 q' _ _ hk c29 c40 c82 | exact Jb _ q' 4 _ _ hF (hbd q' hk c29 (fun e => by rw [← mk_s hmk c40, ← mk_g0 c40, Nat.or_zero, Nat.one_mul, ← and_p2, c82] at e; exact absurd e (by decide))) | exact Jb _ q' 4 _ _ hF (hbd q' hk c29 (fun e => by rw [← mk_s0 c40, ← mk_g hmk c40, Nat.zero_or, Nat.one_mul, ← and_p2, c82] at e; exact absurd e (by decide)))
          · skip
            have hp2 := p2_64 (l := T 75 q' - 113) (by omega)
            refine E_iload_n dX11_readsEffect_43 rfl ?_
            refine E_bipush (v := nI 113) dX11_readsEffect_44 rfl ?_
            refine E_isubN dX11_readsEffect_46 (by omega) ?_
            refine E_goto (t := 54) dX11_readsEffect_47 (by decide) ?_
            refine E_ist_n (i := 3) dX11_readsEffect_54 rfl (by decide) rfl ?_
            refine E_aload_n dX11_readsEffect_55 rfl ?_
            refine E_getR' (ci := 11) (j := 25) (p := 76) dX11_readsEffect_56 fkX11_53 rfl (by decide) rfl (by decide) (rfl) ?_
            refine E_bipush (v := nI 6) dX11_readsEffect_59 rfl ?_
            refine E_iload_n dX11_readsEffect_61 rfl ?_
            refine E_imulN dX11_readsEffect_62 ?_
            refine E_iconst (v := nI 4) dX11_readsEffect_63 rfl ?_
            refine E_iaddN dX11_readsEffect_64 ?_
            refine E_ialdN dX11_readsEffect_65 rfl (by omega) (by decide) ((ab_o (by omega) (by omega)).trans h68) ?_
            refine E_aload_n dX11_readsEffect_66 rfl ?_
            refine E_getR' (ci := 11) (j := 25) (p := 76) dX11_readsEffect_67 fkX11_53 rfl (by decide) rfl (by decide) (rfl) ?_
            refine E_bipush (v := nI 6) dX11_readsEffect_70 rfl ?_
            refine E_iload_n dX11_readsEffect_72 rfl ?_
            refine E_imulN dX11_readsEffect_73 ?_
            refine E_iconst (v := nI 5) dX11_readsEffect_74 rfl ?_
            refine E_iaddN dX11_readsEffect_75 ?_
            refine E_ialdN dX11_readsEffect_76 rfl (by omega) (by decide) ((ab_o (by omega) (by omega)).trans h69) ?_
            refine E_iorN dX11_readsEffect_77 ?_
            refine E_iload_n dX11_readsEffect_78 rfl ?_
            refine E_callS (r := qX11_has) dX11_readsEffect_79 mkX11_94 toX11_has rfl ⟨Nat.le_of_ble_eq_true rfl, Nat.le_of_ble_eq_true rfl, Nat.le_of_ble_eq_true rfl, Nat.le_of_ble_eq_true rfl⟩ (m_has (by omega)) rfl (Nat.le_of_ble_eq_true rfl) ?_
            rintro _ _ ⟨rfl, rfl⟩
            refine E_if_eqB (t := 93) dX11_readsEffect_82 (by decide) (fun c82 => ?_) (fun c82 => ?_)
            · skip
              refine E_aload_n dX11_readsEffect_93 rfl ?_
              refine E_getR' (ci := 11) (j := 25) (p := 76) dX11_readsEffect_94 fkX11_53 rfl (by decide) rfl (by decide) (rfl) ?_
              refine E_bipush (v := nI 6) dX11_readsEffect_97 rfl ?_
              refine E_iload_n dX11_readsEffect_99 rfl ?_
              refine E_imulN dX11_readsEffect_100 ?_
              refine E_iload_n dX11_readsEffect_101 rfl ?_
              refine E_bipush (v := nI 113) dX11_readsEffect_102 rfl ?_
              refine E_icmp_ltN (t := 111) dX11_readsEffect_104 (by decide) (by omega) (by omega) (fun c104 => ?_) (fun c104 => ?_)
              · skip
                refine E_iconst (v := nI 5) dX11_readsEffect_111 rfl ?_
                refine E_iaddN dX11_readsEffect_112 ?_
                refine E_dup2 dX11_readsEffect_113 rfl rfl ?_
                refine E_ialdN dX11_readsEffect_114 rfl (by omega) (by decide) (hld _ _ (by decide)) ?_
                refine E_iconst (v := nI 1) dX11_readsEffect_115 rfl ?_
                refine E_iload_n dX11_readsEffect_116 rfl ?_
                refine E_ishlN dX11_readsEffect_117 (by omega) (by omega) ?_
                refine E_iorN dX11_readsEffect_118 ?_
                refine E_iastN dX11_readsEffect_119 rfl (by omega) (by decide) ?_
                refine E_mem (ab_s (by omega) (by omega)) ?_
                refine E_aload_n dX11_readsEffect_120 rfl ?_
                refine E_dup dX11_readsEffect_121 rfl ?_
                refine E_getI' (ci := 11) (j := 23) dX11_readsEffect_122 fkX11_136 rfl (by decide) rfl (by decide) (ab_23) ?_
                refine E_iconst (v := nI 1) dX11_readsEffect_125 rfl ?_
                refine E_iaddN dX11_readsEffect_126 ?_
                refine E_putI (ci := 11) (j := 23) dX11_readsEffect_127 fkX11_136 rfl (by decide) rfl (by decide) ?_
                refine E_mem ab_s23 ?_
                refine E_goto (t := 18) dX11_readsEffect_130 (by decide) ?_
                first | (exfalso; omega) | exact G4 q' _ _ hk c29 c40 c82 | exact G5 q' _ _ hk c29 c40 c82 | exact Jb _ q' 4 _ _ hF (hbd q' hk c29 (fun e => by rw [← mk_s hmk c40, ← mk_g0 c40, Nat.or_zero, Nat.one_mul, ← and_p2, c82] at e; exact absurd e (by decide))) | exact Jb _ q' 4 _ _ hF (hbd q' hk c29 (fun e => by rw [← mk_s0 c40, ← mk_g hmk c40, Nat.zero_or, Nat.one_mul, ← and_p2, c82] at e; exact absurd e (by decide)))
              · skip
                refine E_iconst (v := nI 4) dX11_readsEffect_107 rfl ?_
                refine E_goto (t := 112) dX11_readsEffect_108 (by decide) ?_
                refine E_iaddN dX11_readsEffect_112 ?_
                refine E_dup2 dX11_readsEffect_113 rfl rfl ?_
                refine E_ialdN dX11_readsEffect_114 rfl (by omega) (by decide) (hld _ _ (by decide)) ?_
                refine E_iconst (v := nI 1) dX11_readsEffect_115 rfl ?_
                refine E_iload_n dX11_readsEffect_116 rfl ?_
                refine E_ishlN dX11_readsEffect_117 (by omega) (by omega) ?_
                refine E_iorN dX11_readsEffect_118 ?_
                refine E_iastN dX11_readsEffect_119 rfl (by omega) (by decide) ?_
                refine E_mem (ab_s (by omega) (by omega)) ?_
                refine E_aload_n dX11_readsEffect_120 rfl ?_
                refine E_dup dX11_readsEffect_121 rfl ?_
                refine E_getI' (ci := 11) (j := 23) dX11_readsEffect_122 fkX11_136 rfl (by decide) rfl (by decide) (ab_23) ?_
                refine E_iconst (v := nI 1) dX11_readsEffect_125 rfl ?_
                refine E_iaddN dX11_readsEffect_126 ?_
                refine E_putI (ci := 11) (j := 23) dX11_readsEffect_127 fkX11_136 rfl (by decide) rfl (by decide) ?_
                refine E_mem ab_s23 ?_
                refine E_goto (t := 18) dX11_readsEffect_130 (by decide) ?_
                first | (exfalso; omega) | exact G4 q' _ _ hk c29 c40 c82 | exact G5 q' _ _ hk c29 c40 c82 | exact Jb _ q' 4 _ _ hF (hbd q' hk c29 (fun e => by rw [← mk_s hmk c40, ← mk_g0 c40, Nat.or_zero, Nat.one_mul, ← and_p2, c82] at e; exact absurd e (by decide))) | exact Jb _ q' 4 _ _ hF (hbd q' hk c29 (fun e => by rw [← mk_s0 c40, ← mk_g hmk c40, Nat.zero_or, Nat.one_mul, ← and_p2, c82] at e; exact absurd e (by decide)))
            · skip
              refine E_aload_n dX11_readsEffect_85 rfl ?_
              refine E_iconst (v := nI 4) dX11_readsEffect_86 rfl ?_
              refine E_callV (r := qX11_wrong) (ci := 11) dX11_readsEffect_87 mkX11_145 voX11_wrong rfl rfl rfl ⟨Nat.le_of_ble_eq_true rfl, Nat.le_of_ble_eq_true rfl, Nat.le_of_ble_eq_true rfl, Nat.le_of_ble_eq_true rfl⟩ (m_wrong (k := 4) (by decide)) rfl (Nat.le_of_ble_eq_true rfl) ?_
              rintro _ _ ⟨rfl, rfl⟩
              rw [if_pos rfl]
              refine E_goto (t := 130) dX11_readsEffect_90 (by decide) ?_
              refine E_goto (t := 18) dX11_readsEffect_130 (by decide) ?_
              first | (exfalso; omega) | exact G4 q' _ _ hk c29 c40 c82 | exact G5 q' _ _ hk c29 c40 c82 | exact Jb _ q' 4 _ _ hF (hbd q' hk c29 (fun e => by rw [← mk_s hmk c40, ← mk_g0 c40, Nat.or_zero, Nat.one_mul, ← and_p2, c82] at e; exact absurd e (by decide))) | exact Jb _ q' 4 _ _ hF (hbd q' hk c29 (fun e => by rw [← mk_s0 c40, ← mk_g hmk c40, Nat.zero_or, Nat.one_mul, ← and_p2, c82] at e; exact absurd e (by decide)))
  have hps : AB M (if psB T p 0 33 = 0 then p + 1 else p) (psB T p 0 33) = AB M (p + 1) 0 := by
    have : psB T p 0 33 = 0 := by unfold psB; rw [if_pos rfl, if_pos ⟨hp, hc⟩]
    rw [this]; rfl
  refine Call_of (ls0 := [some (.ref 61), some (.int (nI a)), none, none]) rfl rfl (Nat.le_of_ble_eq_true rfl) ?_
  refine E_aload_n dX11_readsEffect_0 rfl ?_
  refine E_bipush (v := nI 33) dX11_readsEffect_1 rfl ?_
  refine E_callV (r := qX11_passes) (ci := 11) dX11_readsEffect_3 mkX11_171 voX11_passes rfl rfl rfl ⟨Nat.le_of_ble_eq_true rfl, Nat.le_of_ble_eq_true rfl, Nat.le_of_ble_eq_true rfl, Nat.le_of_ble_eq_true rfl⟩ (m_passes hX (Nat.le_of_lt hp) (c := 33) (by decide) (by decide)) rfl (Nat.le_of_ble_eq_true rfl) ?_
  rintro _ _ ⟨q2, rfl, rfl, hk2⟩
  obtain rfl : p = q2 := (hk2.2.2.2.2 (fun _ => by rw [hc]; decide)).symm
  refine E_mem hps ?_
  refine E_aload_n dX11_readsEffect_6 rfl ?_
  refine E_callV (r := qX11_isMark) (ci := 11) dX11_readsEffect_7 mkX11_167 voX11_isMark rfl rfl rfl ⟨Nat.le_of_ble_eq_true rfl, Nat.le_of_ble_eq_true rfl, Nat.le_of_ble_eq_true rfl, Nat.le_of_ble_eq_true rfl⟩ (m_isMark hX (by omega)) rfl (Nat.le_of_ble_eq_true rfl) ?_
  rintro _ _ ⟨q, rfl, rfl, hk⟩
  refine E_if_neB (t := 18) dX11_readsEffect_10 (by decide) (fun c10 => ?_) (fun c10 => ?_)
  · skip
    first | exact Jb _ q 1 _ _ PF.rf hL | exact L (T 61 21 + 1) M P q 8 _ _ (by omega) (by have := hk.1; omega) hk.2.1 (Or.inr ⟨rfl, hk.2.2.1, c10⟩) PF.rf hP (by rw [hk.2.2.2.1, hres]) ha rfl
  · skip
    have hL : FL T (rn T p (10, lc, P)) q 1 := by (rw [hres, ← hk.2.2.2.1]; exact fl_1 hk.2.1 hk.2.2.1 (Or.inl (show (8 : Nat) ≠ 0 by decide)) (fun h => by (show pChg (T 75 q) lc P = _); unfold pChg; rw [mkA_f c10 h]; rfl))
    refine E_aload_n dX11_readsEffect_13 rfl ?_
    refine E_iconst (v := nI 1) dX11_readsEffect_14 rfl ?_
    refine E_callV (r := qX11_wrong) (ci := 11) dX11_readsEffect_15 mkX11_145 voX11_wrong rfl rfl rfl ⟨Nat.le_of_ble_eq_true rfl, Nat.le_of_ble_eq_true rfl, Nat.le_of_ble_eq_true rfl, Nat.le_of_ble_eq_true rfl⟩ (m_wrong (k := 1) (by decide)) rfl (Nat.le_of_ble_eq_true rfl) ?_
    rintro _ _ ⟨rfl, rfl⟩
    rw [if_pos rfl]
    first | exact Jb _ q 1 _ _ PF.rf hL | exact L (T 61 21 + 1) M P q 8 _ _ (by omega) (by have := hk.1; omega) hk.2.1 (Or.inr ⟨rfl, hk.2.2.1, c10⟩) PF.rf hP (by rw [hk.2.2.2.1, hres]) ha rfl
end M22
