-- the model: marks, the whole talk
theorem sw_ex (w : Int32) (N : Nat) (hN : N < 2 ^ 31) : (∃ j, j ≤ N ∧ w = nI j) ∨ (w.toInt < 0 ∨ (N : Int) < w.toInt) := by
  by_cases h1 : w.toInt < 0 ∨ (N : Int) < w.toInt
  · exact Or.inr h1
  · left
    obtain ⟨j, hj, rfl⟩ := nI_of (x := w) (fun hx => by
      have := Int32.lt_iff_toInt_lt.mp hx
      rw [Int32.toInt_zero] at this
      omega)
    rw [nI_toInt hj] at h1
    exact ⟨j, by omega, rfl⟩
theorem sw_ne {w : Int32} {N j : Nat} (h1 : w.toInt < 0 ∨ (N : Int) < w.toInt) (hj : j ≤ N) (hN : N < 2 ^ 31) : ¬ w = nI j := by
  intro e
  rw [e, nI_toInt (by omega)] at h1
  omega
def grN (T : TK) (a : Nat) : Nat → Nat
  | 0 => 0
  | k + 1 => grN T a k ||| (T 66 (3 * a + k) ||| T 67 (3 * a + k))
def askB (T : TK) (m a : Nat) : Bool := (grN T a (T 65 a)).testBit m
def layB (T : TK) (m a : Nat) : Bool := (T 68 a ||| T 69 a).testBit m
noncomputable def DW (T : TK) (m : Nat) : Nat → Option Nat := (bfs (sux T none none (some m)) (fst0 T) 1024).2
theorem DL_DW {T : TK} {m : Nat} : DL (DW T m) := by
  unfold DL DW
  exact dle_N
def allN (f : Nat → Bool) : Nat → Bool
  | 0 => true
  | n + 1 => allN f n && f n
noncomputable def anyW (T : TK) (m : Nat) : Bool := anyN (fun k => (DT T k).isSome && (k % 64).testBit m) 1024
noncomputable def idlB (T : TK) (m : Nat) : Bool := allN (fun k => (DT T k).isSome == (DW T m k).isSome) 1024
noncomputable def mrMark (T : TK) (x w : Int32) : Int32 := if (T 61 1 == 0 || !(inI x 0 5)) = true then -1000001 else
  if w = nI 0 then nI (cntN (askB T x.toInt.toNat) (T 61 0)) else if w = nI 1 then nI (cntN (layB T x.toInt.toNat) (T 61 0)) else if w = nI 2 then bI (anyW T x.toInt.toNat) else
  if w = nI 3 then bI (decide (0 < cntN (askB T x.toInt.toNat) (T 61 0)) && idlB T x.toInt.toNat) else -1000002
section M10
variable {g : GG} {M : AM} {T : TK}
theorem m_isAskedFor (hR : RM T M) {a m : Nat} (ha : a < T 61 0) (hm : m < 6) : Call g qX11_isAskedFor [.ref 61, .int (nI a), .int (nI m)] M (Rt (bI (askB T m a)) M) := by
  have h32 := rm_32 hR
  have hal := (wt_a (rm_wt hR) ha).2.2.2.1
  have L : ∀ (n k : Nat), k ≤ T 65 a → T 65 a < k + n → Ex g qX11_isAskedFor (tm g qX11_isAskedFor (Rt (bI (askB T m a)) M)) 5 [some (.ref 61), some (.int (nI a)), some (.int (nI m)), some (.int (nI (grN T a k))), some (.int (nI k))] [] M := by
    intro n
    induction n with
    | zero => intro k h1 h2; exact absurd h2 (by omega)
    | succ n ih =>
      intro k hk hn
      refine E_iload dX11_isAskedFor_5 rfl ?_
      refine E_aload_n dX11_isAskedFor_7 rfl ?_
      refine E_getR' (ci := 11) (j := 7) (p := 65) dX11_isAskedFor_8 fkX11_19 rfl (by decide) rfl (by decide) (rfl) ?_
      refine E_iload_n dX11_isAskedFor_11 rfl ?_
      refine E_ialdN dX11_isAskedFor_12 rfl (by omega) (by decide) (rm_alts hR ha) ?_
      refine E_icmp_geN (t := 48) dX11_isAskedFor_13 (by decide) (by omega) (by omega) (fun c13 => ?_) (fun c13 => ?_)
      · skip
        refine E_iload_n dX11_isAskedFor_48 rfl ?_
        refine E_iload_n dX11_isAskedFor_49 rfl ?_
        refine E_callS (r := qX11_has) dX11_isAskedFor_50 mkX11_94 toX11_has rfl ⟨Nat.le_of_ble_eq_true rfl, Nat.le_of_ble_eq_true rfl, Nat.le_of_ble_eq_true rfl, Nat.le_of_ble_eq_true rfl⟩ (m_has (by omega)) rfl (Nat.le_of_ble_eq_true rfl) ?_
        rintro _ _ ⟨rfl, rfl⟩
        refine E_zret dX11_isAskedFor_53 rfl (bI_01 _) ?_
        exact Rt_b (by unfold askB; rw [show k = T 65 a by omega])
      · skip
        refine E_iload_n dX11_isAskedFor_16 rfl ?_
        refine E_aload_n dX11_isAskedFor_17 rfl ?_
        refine E_getR' (ci := 11) (j := 8) (p := 66) dX11_isAskedFor_18 fkX11_22 rfl (by decide) rfl (by decide) (rfl) ?_
        refine E_iconst (v := nI 3) dX11_isAskedFor_21 rfl ?_
        refine E_iload_n dX11_isAskedFor_22 rfl ?_
        refine E_imulN dX11_isAskedFor_23 ?_
        refine E_iload dX11_isAskedFor_24 rfl ?_
        refine E_iaddN dX11_isAskedFor_26 ?_
        refine E_ialdN dX11_isAskedFor_27 rfl (by omega) (by decide) (rm_wants hR ha c13) ?_
        refine E_aload_n dX11_isAskedFor_28 rfl ?_
        refine E_getR' (ci := 11) (j := 9) (p := 67) dX11_isAskedFor_29 fkX11_25 rfl (by decide) rfl (by decide) (rfl) ?_
        refine E_iconst (v := nI 3) dX11_isAskedFor_32 rfl ?_
        refine E_iload_n dX11_isAskedFor_33 rfl ?_
        refine E_imulN dX11_isAskedFor_34 ?_
        refine E_iload dX11_isAskedFor_35 rfl ?_
        refine E_iaddN dX11_isAskedFor_37 ?_
        refine E_ialdN dX11_isAskedFor_38 rfl (by omega) (by decide) (rm_bars hR ha c13) ?_
        refine E_iorN dX11_isAskedFor_39 ?_
        refine E_iorN dX11_isAskedFor_40 ?_
        refine E_ist_n (i := 3) dX11_isAskedFor_41 rfl (by decide) rfl ?_
        refine E_iincN (b := 1) dX11_isAskedFor_42 rfl rfl (by decide) rfl ?_
        refine E_goto (t := 5) dX11_isAskedFor_45 (by decide) ?_
        exact ih (k + 1) (by omega) (by omega)
  refine Call_of (ls0 := [some (.ref 61), some (.int (nI a)), some (.int (nI m)), none, none]) rfl rfl (Nat.le_of_ble_eq_true rfl) ?_
  refine E_iconst (v := nI 0) dX11_isAskedFor_0 rfl ?_
  refine E_ist_n (i := 3) dX11_isAskedFor_1 rfl (by decide) rfl ?_
  refine E_iconst (v := nI 0) dX11_isAskedFor_2 rfl ?_
  refine E_istore dX11_isAskedFor_3 (by decide) rfl ?_
  exact L (T 65 a + 1) 0 (by omega) (by omega)
theorem m_asked (hR : RM T M) {m : Nat} (hm : m < 6) : Call g qX11_asked [.ref 61, .int (nI m)] M (Rt (nI (cntN (askB T m) (T 61 0))) M) := by
  have h32 := rm_32 hR
  have L : ∀ (n k : Nat), k ≤ T 61 0 → T 61 0 < k + n → Ex g qX11_asked (tm g qX11_asked (Rt (nI (cntN (askB T m) (T 61 0))) M)) 4 [some (.ref 61), some (.int (nI m)), some (.int (nI (cntN (askB T m) k))), some (.int (nI k))] [] M := by
    intro n
    induction n with
    | zero => intro k h1 h2; exact absurd h2 (by omega)
    | succ n ih =>
      intro k hk hn
      refine E_iload_n dX11_asked_4 rfl ?_
      refine E_aload_n dX11_asked_5 rfl ?_
      refine E_getI' (ci := 11) (j := 0) dX11_asked_6 fkX11_85 rfl (by decide) rfl (by decide) (rm_many hR) ?_
      refine E_icmp_geN (t := 35) dX11_asked_9 (by decide) (by omega) (by omega) (fun c9 => ?_) (fun c9 => ?_)
      · skip
        refine E_iload_n dX11_asked_35 rfl ?_
        refine E_iret dX11_asked_36 rfl ?_
        exact Rt_n (by rw [show k = T 61 0 by omega])
      · skip
        refine E_iload_n dX11_asked_12 rfl ?_
        refine E_aload_n dX11_asked_13 rfl ?_
        refine E_iload_n dX11_asked_14 rfl ?_
        refine E_iload_n dX11_asked_15 rfl ?_
        refine E_callV (r := qX11_isAskedFor) (ci := 11) dX11_asked_16 mkX11_290 voX11_isAskedFor rfl rfl rfl ⟨Nat.le_of_ble_eq_true rfl, Nat.le_of_ble_eq_true rfl, Nat.le_of_ble_eq_true rfl, Nat.le_of_ble_eq_true rfl⟩ (m_isAskedFor hR c9 hm) rfl (Nat.le_of_ble_eq_true rfl) ?_
        rintro _ _ ⟨rfl, rfl⟩
        refine E_if_eqB (t := 26) dX11_asked_19 (by decide) (fun c19 => ?_) (fun c19 => ?_)
        · skip
          have hs1 : cntN (askB T m) (k + 1) = cntN (askB T m) k + 0 := by rw [cntN, c19]; rfl
          refine E_iconst (v := nI 0) dX11_asked_26 rfl ?_
          refine E_iaddN dX11_asked_27 ?_
          refine E_ist_n (i := 2) dX11_asked_28 rfl (by decide) rfl ?_
          refine E_iincN (b := 1) dX11_asked_29 rfl rfl (by decide) rfl ?_
          refine E_goto (t := 4) dX11_asked_32 (by decide) ?_
          have hnx := ih (k + 1) (by omega) (by omega)
          rw [hs1] at hnx
          exact hnx
        · skip
          have hs1 : cntN (askB T m) (k + 1) = cntN (askB T m) k + 1 := by rw [cntN, c19]; rfl
          refine E_iconst (v := nI 1) dX11_asked_22 rfl ?_
          refine E_goto (t := 27) dX11_asked_23 (by decide) ?_
          refine E_iaddN dX11_asked_27 ?_
          refine E_ist_n (i := 2) dX11_asked_28 rfl (by decide) rfl ?_
          refine E_iincN (b := 1) dX11_asked_29 rfl rfl (by decide) rfl ?_
          refine E_goto (t := 4) dX11_asked_32 (by decide) ?_
          have hnx := ih (k + 1) (by omega) (by omega)
          rw [hs1] at hnx
          exact hnx
  refine Call_of (ls0 := [some (.ref 61), some (.int (nI m)), none, none]) rfl rfl (Nat.le_of_ble_eq_true rfl) ?_
  refine E_iconst (v := nI 0) dX11_asked_0 rfl ?_
  refine E_ist_n (i := 2) dX11_asked_1 rfl (by decide) rfl ?_
  refine E_iconst (v := nI 0) dX11_asked_2 rfl ?_
  refine E_ist_n (i := 3) dX11_asked_3 rfl (by decide) rfl ?_
  exact L (T 61 0 + 1) 0 (by omega) (by omega)
theorem m_laid (hR : RM T M) {m : Nat} (hm : m < 6) : Call g qX11_laid [.ref 61, .int (nI m)] M (Rt (nI (cntN (layB T m) (T 61 0))) M) := by
  have h32 := rm_32 hR
  have L : ∀ (n k : Nat), k ≤ T 61 0 → T 61 0 < k + n → Ex g qX11_laid (tm g qX11_laid (Rt (nI (cntN (layB T m) (T 61 0))) M)) 4 [some (.ref 61), some (.int (nI m)), some (.int (nI (cntN (layB T m) k))), some (.int (nI k))] [] M := by
    intro n
    induction n with
    | zero => intro k h1 h2; exact absurd h2 (by omega)
    | succ n ih =>
      intro k hk hn
      refine E_iload_n dX11_laid_4 rfl ?_
      refine E_aload_n dX11_laid_5 rfl ?_
      refine E_getI' (ci := 11) (j := 0) dX11_laid_6 fkX11_85 rfl (by decide) rfl (by decide) (rm_many hR) ?_
      refine E_icmp_geN (t := 46) dX11_laid_9 (by decide) (by omega) (by omega) (fun c9 => ?_) (fun c9 => ?_)
      · skip
        refine E_iload_n dX11_laid_46 rfl ?_
        refine E_iret dX11_laid_47 rfl ?_
        exact Rt_n (by rw [show k = T 61 0 by omega])
      · skip
        refine E_iload_n dX11_laid_12 rfl ?_
        refine E_aload_n dX11_laid_13 rfl ?_
        refine E_getR' (ci := 11) (j := 10) (p := 68) dX11_laid_14 fkX11_28 rfl (by decide) rfl (by decide) (rfl) ?_
        refine E_iload_n dX11_laid_17 rfl ?_
        refine E_ialdN dX11_laid_18 rfl (by omega) (by decide) (rm_lays hR c9) ?_
        refine E_aload_n dX11_laid_19 rfl ?_
        refine E_getR' (ci := 11) (j := 11) (p := 69) dX11_laid_20 fkX11_31 rfl (by decide) rfl (by decide) (rfl) ?_
        refine E_iload_n dX11_laid_23 rfl ?_
        refine E_ialdN dX11_laid_24 rfl (by omega) (by decide) (rm_takes hR c9) ?_
        refine E_iorN dX11_laid_25 ?_
        refine E_iload_n dX11_laid_26 rfl ?_
        refine E_callS (r := qX11_has) dX11_laid_27 mkX11_94 toX11_has rfl ⟨Nat.le_of_ble_eq_true rfl, Nat.le_of_ble_eq_true rfl, Nat.le_of_ble_eq_true rfl, Nat.le_of_ble_eq_true rfl⟩ (m_has (by omega)) rfl (Nat.le_of_ble_eq_true rfl) ?_
        rintro _ _ ⟨rfl, rfl⟩
        refine E_if_eqB (t := 37) dX11_laid_30 (by decide) (fun c30 => ?_) (fun c30 => ?_)
        · skip
          have hs1 : cntN (layB T m) (k + 1) = cntN (layB T m) k + 0 := by rw [cntN, show layB T m k = false from c30]; rfl
          refine E_iconst (v := nI 0) dX11_laid_37 rfl ?_
          refine E_iaddN dX11_laid_38 ?_
          refine E_ist_n (i := 2) dX11_laid_39 rfl (by decide) rfl ?_
          refine E_iincN (b := 1) dX11_laid_40 rfl rfl (by decide) rfl ?_
          refine E_goto (t := 4) dX11_laid_43 (by decide) ?_
          have hnx := ih (k + 1) (by omega) (by omega)
          rw [hs1] at hnx
          exact hnx
        · skip
          have hs1 : cntN (layB T m) (k + 1) = cntN (layB T m) k + 1 := by rw [cntN, show layB T m k = true from c30]; rfl
          refine E_iconst (v := nI 1) dX11_laid_33 rfl ?_
          refine E_goto (t := 38) dX11_laid_34 (by decide) ?_
          refine E_iaddN dX11_laid_38 ?_
          refine E_ist_n (i := 2) dX11_laid_39 rfl (by decide) rfl ?_
          refine E_iincN (b := 1) dX11_laid_40 rfl rfl (by decide) rfl ?_
          refine E_goto (t := 4) dX11_laid_43 (by decide) ?_
          have hnx := ih (k + 1) (by omega) (by omega)
          rw [hs1] at hnx
          exact hnx
  refine Call_of (ls0 := [some (.ref 61), some (.int (nI m)), none, none]) rfl rfl (Nat.le_of_ble_eq_true rfl) ?_
  refine E_iconst (v := nI 0) dX11_laid_0 rfl ?_
  refine E_ist_n (i := 2) dX11_laid_1 rfl (by decide) rfl ?_
  refine E_iconst (v := nI 0) dX11_laid_2 rfl ?_
  refine E_ist_n (i := 3) dX11_laid_3 rfl (by decide) rfl ?_
  exact L (T 61 0 + 1) 0 (by omega) (by omega)
theorem m_isAnywhere (hR : RM T M) (hB : RB T M) {m : Nat} (hm : m < 6) : Call g qX11_isAnywhere [.ref 61, .int (nI m)] M (RtS (bI (anyW T m)) M) := by
  have L : ∀ (n k : Nat) (b : Bool) (M1 : AM), k ≤ 1024 → 1024 < k + n → b = anyN (fun k => (DT T k).isSome && (k % 64).testBit m) k → RF (DT T) M1 → Sb scrM M M1 → Ex g qX11_isAnywhere (tm g qX11_isAnywhere (RtS (bI (anyW T m)) M)) 9 [some (.ref 61), some (.int (nI m)), some (.int (bI b)), some (.int (nI k))] [] M1 := by
    intro n
    induction n with
    | zero => intro k b M1 h1 h2; exact absurd h2 (by omega)
    | succ n ih =>
      intro k b M1 hk hn hb hF hS
      refine E_iload_n dX11_isAnywhere_9 rfl ?_
      refine E_sipush (v := nI 1024) dX11_isAnywhere_10 rfl ?_
      refine E_icmp_geN (t := 52) dX11_isAnywhere_13 (by decide) (by omega) (by omega) (fun c13 => ?_) (fun c13 => ?_)
      · skip
        refine E_iload_n dX11_isAnywhere_52 rfl ?_
        refine E_zret dX11_isAnywhere_53 rfl (bI_01 _) ?_
        exact ⟨by unfold anyW; rw [hb, show k = 1024 by omega], hS⟩
      · skip
        refine E_iload_n dX11_isAnywhere_16 rfl ?_
        refine E_if_neB (t := 40) dX11_isAnywhere_17 (by decide) (fun c17 => ?_) (fun c17 => ?_)
        · skip
          have hv : true = anyN (fun k => (DT T k).isSome && (k % 64).testBit m) (k + 1) := by rw [anyN, ← hb, c17]; rfl
          refine E_iconst (v := nI 1) dX11_isAnywhere_40 rfl ?_
          refine E_goto (t := 45) dX11_isAnywhere_41 (by decide) ?_
          refine E_top (show nI 1 = bI true from rfl) ?_
          refine E_ist_n (i := 2) dX11_isAnywhere_45 rfl (by decide) rfl ?_
          refine E_iincN (b := 1) dX11_isAnywhere_46 rfl rfl (by decide) rfl ?_
          refine E_goto (t := 9) dX11_isAnywhere_49 (by decide) ?_
          exact ih (k + 1) _ M1 (by omega) (by omega) hv hF hS
        · skip
          refine E_aload_n dX11_isAnywhere_20 rfl ?_
          refine E_getR' (ci := 11) (j := 18) (p := 73) dX11_isAnywhere_21 fkX11_44 rfl (by decide) rfl (by decide) (rfl) ?_
          refine E_iload_n dX11_isAnywhere_24 rfl ?_
          refine E_ialdN dX11_isAnywhere_25 rfl (by omega) (by decide) (hF k (by omega)) ?_
          refine E_if_ltO (t := 44) dX11_isAnywhere_26 (by decide) (fun d hd => by have := DL_DT k d hd; omega) (fun c26 => ?_) (fun c26 => ?_)
          · skip
            have hv : false = anyN (fun k => (DT T k).isSome && (k % 64).testBit m) (k + 1) := by rw [anyN, ← hb, c17, c26]; rfl
            refine E_iconst (v := nI 0) dX11_isAnywhere_44 rfl ?_
            refine E_top (show nI 0 = bI false from rfl) ?_
            refine E_ist_n (i := 2) dX11_isAnywhere_45 rfl (by decide) rfl ?_
            refine E_iincN (b := 1) dX11_isAnywhere_46 rfl rfl (by decide) rfl ?_
            refine E_goto (t := 9) dX11_isAnywhere_49 (by decide) ?_
            exact ih (k + 1) _ M1 (by omega) (by omega) hv hF hS
          · skip
            obtain ⟨d, hd⟩ := Option.ne_none_iff_exists'.mp c26
            refine E_iload_n dX11_isAnywhere_29 rfl ?_
            refine E_bipush (v := nI 64) dX11_isAnywhere_30 rfl ?_
            refine E_iremN dX11_isAnywhere_32 (by omega) (by decide) (by decide) ?_
            refine E_iload_n dX11_isAnywhere_33 rfl ?_
            refine E_callS (r := qX11_has) dX11_isAnywhere_34 mkX11_94 toX11_has rfl ⟨Nat.le_of_ble_eq_true rfl, Nat.le_of_ble_eq_true rfl, Nat.le_of_ble_eq_true rfl, Nat.le_of_ble_eq_true rfl⟩ (m_has (by omega)) rfl (Nat.le_of_ble_eq_true rfl) ?_
            rintro _ _ ⟨rfl, rfl⟩
            refine E_if_eqB (t := 44) dX11_isAnywhere_37 (by decide) (fun c37 => ?_) (fun c37 => ?_)
            · skip
              have hv : false = anyN (fun k => (DT T k).isSome && (k % 64).testBit m) (k + 1) := by rw [anyN, ← hb, c17, hd, c37]; rfl
              refine E_iconst (v := nI 0) dX11_isAnywhere_44 rfl ?_
              refine E_top (show nI 0 = bI false from rfl) ?_
              refine E_ist_n (i := 2) dX11_isAnywhere_45 rfl (by decide) rfl ?_
              refine E_iincN (b := 1) dX11_isAnywhere_46 rfl rfl (by decide) rfl ?_
              refine E_goto (t := 9) dX11_isAnywhere_49 (by decide) ?_
              exact ih (k + 1) _ M1 (by omega) (by omega) hv hF hS
            · skip
              have hv : true = anyN (fun k => (DT T k).isSome && (k % 64).testBit m) (k + 1) := by rw [anyN, ← hb, c17, hd, c37]; rfl
              refine E_iconst (v := nI 1) dX11_isAnywhere_40 rfl ?_
              refine E_goto (t := 45) dX11_isAnywhere_41 (by decide) ?_
              refine E_top (show nI 1 = bI true from rfl) ?_
              refine E_ist_n (i := 2) dX11_isAnywhere_45 rfl (by decide) rfl ?_
              refine E_iincN (b := 1) dX11_isAnywhere_46 rfl rfl (by decide) rfl ?_
              refine E_goto (t := 9) dX11_isAnywhere_49 (by decide) ?_
              exact ih (k + 1) _ M1 (by omega) (by omega) hv hF hS
  refine Call_of (ls0 := [some (.ref 61), some (.int (nI m)), none, none]) rfl rfl (Nat.le_of_ble_eq_true rfl) ?_
  refine E_aload_n dX11_isAnywhere_0 rfl ?_
  refine E_callV (r := qX11_reachesAll) (ci := 11) dX11_isAnywhere_1 mkX11_255 voX11_reachesAll rfl rfl rfl ⟨Nat.le_of_ble_eq_true rfl, Nat.le_of_ble_eq_true rfl, Nat.le_of_ble_eq_true rfl, Nat.le_of_ble_eq_true rfl⟩ (m_reachesAll hR hB) rfl (Nat.le_of_ble_eq_true rfl) ?_
  rintro _ M1 ⟨rfl, hS1, hq1⟩
  refine E_pop dX11_isAnywhere_4 rfl ?_
  refine E_iconst (v := nI 0) dX11_isAnywhere_5 rfl ?_
  refine E_top (show nI 0 = bI false from rfl) ?_
  refine E_ist_n (i := 2) dX11_isAnywhere_6 rfl (by decide) rfl ?_
  refine E_iconst (v := nI 0) dX11_isAnywhere_7 rfl ?_
  refine E_ist_n (i := 3) dX11_isAnywhere_8 rfl (by decide) rfl ?_
  exact L 1025 0 false M1 (by omega) (by omega) rfl hq1 (hS1.scr (by decide))
theorem m_isIdle (hR : RM T M) (hB : RB T M) {m : Nat} (hm : m < 6) : Call g qX11_isIdle [.ref 61, .int (nI m)] M (RtS (bI (idlB T m)) M) := by
  have h9 : ∀ (K m : Nat), (none : Option Nat) = some m → m < K := fun _ _ e => by cases e
  have L : ∀ (n k : Nat) (b : Bool) (M1 : AM), k ≤ 1024 → 1024 < k + n → b = allN (fun k => (DT T k).isSome == (DW T m k).isSome) k → RF (DW T m) M1 → RZ 82 (fun t => (DT T t).isSome) M1 → Sb scrM M M1 → Ex g qX11_isIdle (tm g qX11_isIdle (RtS (bI (idlB T m)) M)) 20 [some (.ref 61), some (.int (nI m)), some (.int (bI b)), some (.int (nI k))] [] M1 := by
    intro n
    induction n with
    | zero => intro k b M1 h1 h2; exact absurd h2 (by omega)
    | succ n ih =>
      intro k b M1 hk hn hb hF hZ hS
      refine E_iload_n dX11_isIdle_20 rfl ?_
      refine E_sipush (v := nI 1024) dX11_isIdle_21 rfl ?_
      refine E_icmp_geN (t := 66) dX11_isIdle_24 (by decide) (by omega) (by omega) (fun c24 => ?_) (fun c24 => ?_)
      · skip
        refine E_iload_n dX11_isIdle_66 rfl ?_
        refine E_zret dX11_isIdle_67 rfl (bI_01 _) ?_
        exact ⟨by unfold idlB; rw [hb, show k = 1024 by omega], hS⟩
      · skip
        refine E_iload_n dX11_isIdle_27 rfl ?_
        refine E_if_eqB (t := 58) dX11_isIdle_28 (by decide) (fun c28 => ?_) (fun c28 => ?_)
        · skip
          have hv : false = allN (fun k => (DT T k).isSome == (DW T m k).isSome) (k + 1) := by rw [allN, ← hb, c28]; rfl
          refine E_iconst (v := nI 0) dX11_isIdle_58 rfl ?_
          refine E_top (show nI 0 = bI false from rfl) ?_
          refine E_ist_n (i := 2) dX11_isIdle_59 rfl (by decide) rfl ?_
          refine E_iincN (b := 1) dX11_isIdle_60 rfl rfl (by decide) rfl ?_
          refine E_goto (t := 20) dX11_isIdle_63 (by decide) ?_
          cases hdd : (DT T k).isSome with
          | true => first | exact ih (k + 1) _ M1 (by omega) (by omega) hv hF hZ hS | exact ih (k + 1) _ M1 (by omega) (by omega) (show true = allN (fun k => (DT T k).isSome == (DW T m k).isSome) (k + 1) by rw [allN, ← hb, c28, hd, hdd]; rfl) hF hZ hS | exact ih (k + 1) _ M1 (by omega) (by omega) (show false = allN (fun k => (DT T k).isSome == (DW T m k).isSome) (k + 1) by rw [allN, ← hb, c28, c43, hdd]; rfl) hF hZ hS | (exfalso; simp only [hdd] at c51; revert c51; decide)
          | false => first | exact ih (k + 1) _ M1 (by omega) (by omega) hv hF hZ hS | exact ih (k + 1) _ M1 (by omega) (by omega) (show false = allN (fun k => (DT T k).isSome == (DW T m k).isSome) (k + 1) by rw [allN, ← hb, c28, hd, hdd]; rfl) hF hZ hS | exact ih (k + 1) _ M1 (by omega) (by omega) (show true = allN (fun k => (DT T k).isSome == (DW T m k).isSome) (k + 1) by rw [allN, ← hb, c28, c43, hdd]; rfl) hF hZ hS | (exfalso; simp only [hdd] at c51; revert c51; decide)
        · skip
          refine E_aload_n dX11_isIdle_31 rfl ?_
          refine E_getR' (ci := 11) (j := 35) (p := 82) dX11_isIdle_32 fkX11_71 rfl (by decide) rfl (by decide) (rfl) ?_
          refine E_iload_n dX11_isIdle_35 rfl ?_
          refine E_zaldN dX11_isIdle_36 rfl (by omega) (by decide) (hZ k (by omega)) ?_
          refine E_aload_n dX11_isIdle_37 rfl ?_
          refine E_getR' (ci := 11) (j := 18) (p := 73) dX11_isIdle_38 fkX11_44 rfl (by decide) rfl (by decide) (rfl) ?_
          refine E_iload_n dX11_isIdle_41 rfl ?_
          refine E_ialdN dX11_isIdle_42 rfl (by omega) (by decide) (hF k (by omega)) ?_
          refine E_if_ltO (t := 50) dX11_isIdle_43 (by decide) (fun d hd => by have := DL_DW k d hd; omega) (fun c43 => ?_) (fun c43 => ?_)
          · skip
            refine E_iconst (v := nI 0) dX11_isIdle_50 rfl ?_
            refine E_icmp_ne (t := 58) dX11_isIdle_51 (by decide) (fun c51 => ?_) (fun c51 => ?_)
            · skip
              refine E_iconst (v := nI 0) dX11_isIdle_58 rfl ?_
              refine E_top (show nI 0 = bI false from rfl) ?_
              refine E_ist_n (i := 2) dX11_isIdle_59 rfl (by decide) rfl ?_
              refine E_iincN (b := 1) dX11_isIdle_60 rfl rfl (by decide) rfl ?_
              refine E_goto (t := 20) dX11_isIdle_63 (by decide) ?_
              cases hdd : (DT T k).isSome with
              | true => first | exact ih (k + 1) _ M1 (by omega) (by omega) hv hF hZ hS | exact ih (k + 1) _ M1 (by omega) (by omega) (show true = allN (fun k => (DT T k).isSome == (DW T m k).isSome) (k + 1) by rw [allN, ← hb, c28, hd, hdd]; rfl) hF hZ hS | exact ih (k + 1) _ M1 (by omega) (by omega) (show false = allN (fun k => (DT T k).isSome == (DW T m k).isSome) (k + 1) by rw [allN, ← hb, c28, c43, hdd]; rfl) hF hZ hS | (exfalso; simp only [hdd] at c51; revert c51; decide)
              | false => first | exact ih (k + 1) _ M1 (by omega) (by omega) hv hF hZ hS | exact ih (k + 1) _ M1 (by omega) (by omega) (show false = allN (fun k => (DT T k).isSome == (DW T m k).isSome) (k + 1) by rw [allN, ← hb, c28, hd, hdd]; rfl) hF hZ hS | exact ih (k + 1) _ M1 (by omega) (by omega) (show true = allN (fun k => (DT T k).isSome == (DW T m k).isSome) (k + 1) by rw [allN, ← hb, c28, c43, hdd]; rfl) hF hZ hS | (exfalso; simp only [hdd] at c51; revert c51; decide)
            · skip
              refine E_iconst (v := nI 1) dX11_isIdle_54 rfl ?_
              refine E_goto (t := 59) dX11_isIdle_55 (by decide) ?_
              refine E_top (show nI 1 = bI true from rfl) ?_
              refine E_ist_n (i := 2) dX11_isIdle_59 rfl (by decide) rfl ?_
              refine E_iincN (b := 1) dX11_isIdle_60 rfl rfl (by decide) rfl ?_
              refine E_goto (t := 20) dX11_isIdle_63 (by decide) ?_
              cases hdd : (DT T k).isSome with
              | true => first | exact ih (k + 1) _ M1 (by omega) (by omega) hv hF hZ hS | exact ih (k + 1) _ M1 (by omega) (by omega) (show true = allN (fun k => (DT T k).isSome == (DW T m k).isSome) (k + 1) by rw [allN, ← hb, c28, hd, hdd]; rfl) hF hZ hS | exact ih (k + 1) _ M1 (by omega) (by omega) (show false = allN (fun k => (DT T k).isSome == (DW T m k).isSome) (k + 1) by rw [allN, ← hb, c28, c43, hdd]; rfl) hF hZ hS | (exfalso; simp only [hdd] at c51; revert c51; decide)
              | false => first | exact ih (k + 1) _ M1 (by omega) (by omega) hv hF hZ hS | exact ih (k + 1) _ M1 (by omega) (by omega) (show false = allN (fun k => (DT T k).isSome == (DW T m k).isSome) (k + 1) by rw [allN, ← hb, c28, hd, hdd]; rfl) hF hZ hS | exact ih (k + 1) _ M1 (by omega) (by omega) (show true = allN (fun k => (DT T k).isSome == (DW T m k).isSome) (k + 1) by rw [allN, ← hb, c28, c43, hdd]; rfl) hF hZ hS | (exfalso; simp only [hdd] at c51; revert c51; decide)
          · skip
            obtain ⟨d, hd⟩ := Option.ne_none_iff_exists'.mp c43
            refine E_iconst (v := nI 1) dX11_isIdle_46 rfl ?_
            refine E_goto (t := 51) dX11_isIdle_47 (by decide) ?_
            refine E_icmp_ne (t := 58) dX11_isIdle_51 (by decide) (fun c51 => ?_) (fun c51 => ?_)
            · skip
              refine E_iconst (v := nI 0) dX11_isIdle_58 rfl ?_
              refine E_top (show nI 0 = bI false from rfl) ?_
              refine E_ist_n (i := 2) dX11_isIdle_59 rfl (by decide) rfl ?_
              refine E_iincN (b := 1) dX11_isIdle_60 rfl rfl (by decide) rfl ?_
              refine E_goto (t := 20) dX11_isIdle_63 (by decide) ?_
              cases hdd : (DT T k).isSome with
              | true => first | exact ih (k + 1) _ M1 (by omega) (by omega) hv hF hZ hS | exact ih (k + 1) _ M1 (by omega) (by omega) (show true = allN (fun k => (DT T k).isSome == (DW T m k).isSome) (k + 1) by rw [allN, ← hb, c28, hd, hdd]; rfl) hF hZ hS | exact ih (k + 1) _ M1 (by omega) (by omega) (show false = allN (fun k => (DT T k).isSome == (DW T m k).isSome) (k + 1) by rw [allN, ← hb, c28, c43, hdd]; rfl) hF hZ hS | (exfalso; simp only [hdd] at c51; revert c51; decide)
              | false => first | exact ih (k + 1) _ M1 (by omega) (by omega) hv hF hZ hS | exact ih (k + 1) _ M1 (by omega) (by omega) (show false = allN (fun k => (DT T k).isSome == (DW T m k).isSome) (k + 1) by rw [allN, ← hb, c28, hd, hdd]; rfl) hF hZ hS | exact ih (k + 1) _ M1 (by omega) (by omega) (show true = allN (fun k => (DT T k).isSome == (DW T m k).isSome) (k + 1) by rw [allN, ← hb, c28, c43, hdd]; rfl) hF hZ hS | (exfalso; simp only [hdd] at c51; revert c51; decide)
            · skip
              refine E_iconst (v := nI 1) dX11_isIdle_54 rfl ?_
              refine E_goto (t := 59) dX11_isIdle_55 (by decide) ?_
              refine E_top (show nI 1 = bI true from rfl) ?_
              refine E_ist_n (i := 2) dX11_isIdle_59 rfl (by decide) rfl ?_
              refine E_iincN (b := 1) dX11_isIdle_60 rfl rfl (by decide) rfl ?_
              refine E_goto (t := 20) dX11_isIdle_63 (by decide) ?_
              cases hdd : (DT T k).isSome with
              | true => first | exact ih (k + 1) _ M1 (by omega) (by omega) hv hF hZ hS | exact ih (k + 1) _ M1 (by omega) (by omega) (show true = allN (fun k => (DT T k).isSome == (DW T m k).isSome) (k + 1) by rw [allN, ← hb, c28, hd, hdd]; rfl) hF hZ hS | exact ih (k + 1) _ M1 (by omega) (by omega) (show false = allN (fun k => (DT T k).isSome == (DW T m k).isSome) (k + 1) by rw [allN, ← hb, c28, c43, hdd]; rfl) hF hZ hS | (exfalso; simp only [hdd] at c51; revert c51; decide)
              | false => first | exact ih (k + 1) _ M1 (by omega) (by omega) hv hF hZ hS | exact ih (k + 1) _ M1 (by omega) (by omega) (show false = allN (fun k => (DT T k).isSome == (DW T m k).isSome) (k + 1) by rw [allN, ← hb, c28, hd, hdd]; rfl) hF hZ hS | exact ih (k + 1) _ M1 (by omega) (by omega) (show true = allN (fun k => (DT T k).isSome == (DW T m k).isSome) (k + 1) by rw [allN, ← hb, c28, c43, hdd]; rfl) hF hZ hS | (exfalso; simp only [hdd] at c51; revert c51; decide)
  refine Call_of (ls0 := [some (.ref 61), some (.int (nI m)), none, none]) rfl rfl (Nat.le_of_ble_eq_true rfl) ?_
  refine E_aload_n dX11_isIdle_0 rfl ?_
  refine E_callV (r := qX11_laysReached) (ci := 11) dX11_isIdle_1 mkX11_284 voX11_laysReached rfl rfl rfl ⟨Nat.le_of_ble_eq_true rfl, Nat.le_of_ble_eq_true rfl, Nat.le_of_ble_eq_true rfl, Nat.le_of_ble_eq_true rfl⟩ (m_laysReached hR hB) rfl (Nat.le_of_ble_eq_true rfl) ?_
  rintro _ M1 ⟨rfl, hS1, hz1⟩
  have hR1 := rm_sb hR hS1 (by decide)
  have hB1 : RB T M1 := ⟨by rw [(hS1 61 (by decide)).1]; exact hB.1, hB.2⟩
  refine E_aload_n dX11_isIdle_4 rfl ?_
  refine E_aload_n dX11_isIdle_5 rfl ?_
  refine E_callV (r := qX11_first) (ci := 11) dX11_isIdle_6 mkX11_118 voX11_first rfl rfl rfl ⟨Nat.le_of_ble_eq_true rfl, Nat.le_of_ble_eq_true rfl, Nat.le_of_ble_eq_true rfl, Nat.le_of_ble_eq_true rfl⟩ (m_first hR1 hB1) rfl (Nat.le_of_ble_eq_true rfl) ?_
  rintro _ _ ⟨rfl, rfl⟩
  refine E_iconst (v := -1) dX11_isIdle_9 rfl ?_
  refine E_iconst (v := -1) dX11_isIdle_10 rfl ?_
  refine E_iload_n dX11_isIdle_11 rfl ?_
  refine E_callV (r := qX11_reaches) (ci := 11) dX11_isIdle_12 mkX11_122 voX11_reaches rfl rfl rfl ⟨Nat.le_of_ble_eq_true rfl, Nat.le_of_ble_eq_true rfl, Nat.le_of_ble_eq_true rfl, Nat.le_of_ble_eq_true rfl⟩ (m_reaches (but := none) (un := none) (w := some m) hR1 (fst0_lt (rm_wt hR) hB.2) (h9 _) (h9 _) (fun i e => by cases e; omega)) rfl (Nat.le_of_ble_eq_true rfl) ?_
  rintro _ M2 ⟨rfl, hS2, hq2⟩
  have hq2 : RF (DW T m) M2 := by unfold RF DW; exact hq2
  refine E_pop dX11_isIdle_15 rfl ?_
  refine E_iconst (v := nI 1) dX11_isIdle_16 rfl ?_
  refine E_top (show nI 1 = bI true from rfl) ?_
  refine E_ist_n (i := 2) dX11_isIdle_17 rfl (by decide) rfl ?_
  refine E_iconst (v := nI 0) dX11_isIdle_18 rfl ?_
  refine E_ist_n (i := 3) dX11_isIdle_19 rfl (by decide) rfl ?_
  exact L 1025 0 true M2 (by omega) (by omega) rfl hq2 (rz_sb hz1 hS2 (by decide)) ((hS1.scr (by decide)).tr (hS2.scr (by decide)))
end M10
