-- the model: mark, lines that.., the whole talk
def bsN (f : Nat → Bool) : Nat → Nat
  | 0 => 0
  | n + 1 => bsN f n ||| (if f n = true then 2 ^ n else 0)
def ltB (T : TK) (D : Nat → Option Nat) (E : Nat → Bool) (w l : Nat) : Bool := (T 61 1).testBit l && (if w = 0 then cntN (fun k => st3 T D E 0 (64 * l + k)) 64 == 0 else decide (0 < cntN (fun k => st3 T D E w (64 * l + k)) 64))
noncomputable def lwB (T : TK) (l : Nat) : Bool := (T 61 1).testBit l && (lnL T l).isSome
def mxN (D : Nat → Option Nat) (f : Nat → Nat) : Nat → Nat
  | 0 => 0
  | n + 1 => if (D n).isSome = true then (if f n > mxN D f n then f n else mxN D f n) else mxN D f n
def ofF (T : TK) (D : Nat → Option Nat) (w k : Nat) : Nat := if w = 0 then cntN (fun a => opn T a k 0) (T 61 0) else (D k).getD 0
theorem mxN_le {D : Nat → Option Nat} {f : Nat → Nat} {c : Nat} (hc : ∀ k, f k ≤ c) : ∀ n, mxN D f n ≤ c
  | 0 => Nat.zero_le c
  | n + 1 => by
    have ih := mxN_le (D := D) hc n
    have h1 := hc n
    rw [mxN]
    split
    · split
      · exact h1
      · exact ih
    · exact ih
section M11
variable {g : GG} {M : AM} {T : TK} {D : Nat → Option Nat} {E : Nat → Bool}
theorem m_mark (hR : RM T M) (hB : RB T M) {x w : Int32} : Call g qX11_mark [.ref 61, .int x, .int w] M (RtS (mrMark T x w) M) := by
  have h32 := rm_32 hR
  refine Call_of (ls0 := [some (.ref 61), some (.int x), some (.int w)]) rfl rfl (Nat.le_of_ble_eq_true rfl) ?_
  refine E_aload_n dX11_mark_0 rfl ?_
  refine E_callV (r := qX11_isTalk) (ci := 11) dX11_mark_1 mkX11_211 voX11_isTalk rfl rfl rfl ⟨Nat.le_of_ble_eq_true rfl, Nat.le_of_ble_eq_true rfl, Nat.le_of_ble_eq_true rfl, Nat.le_of_ble_eq_true rfl⟩ (m_isTalk hR) rfl (Nat.le_of_ble_eq_true rfl) ?_
  rintro _ _ ⟨rfl, rfl⟩
  refine E_if_eqB (t := 19) dX11_mark_4 (by decide) (fun c4 => ?_) (fun c4 => ?_)
  · skip
    have hu : (T 61 1 == 0 || !(inI x 0 5)) = true := by simp at c4; simp [c4]
    refine E_ldc dX11_mark_19 ckX11_214 ?_
    refine E_iret dX11_mark_21 rfl ?_
    exact ⟨by unfold mrMark; rw [if_pos hu], Sb.rf⟩
  · skip
    refine E_iload_n dX11_mark_7 rfl ?_
    refine E_i2l dX11_mark_8 ?_
    refine E_lconst (v := 0) dX11_mark_9 rfl ?_
    refine E_ldc2 dX11_mark_10 clX11_253 ?_
    refine E_callS (r := qX11_in) dX11_mark_13 mkX11_88 toX11_in rfl ⟨Nat.le_of_ble_eq_true rfl, Nat.le_of_ble_eq_true rfl, Nat.le_of_ble_eq_true rfl, Nat.le_of_ble_eq_true rfl⟩ (m_inI) rfl (Nat.le_of_ble_eq_true rfl) ?_
    rintro _ _ ⟨rfl, rfl⟩
    refine E_top (show _ = bI (inI x 0 5) from rfl) ?_
    refine E_if_neB (t := 22) dX11_mark_16 (by decide) (fun c16 => ?_) (fun c16 => ?_)
    · skip
      have hu : ¬ (T 61 1 == 0 || !(inI x 0 5)) = true := by rw [c16]; simp at c4; simp [c4]
      obtain ⟨m, hm1, hm2, rfl, hm3⟩ := inI_nat c16 (by decide)
      have hm6 : m < 6 := by omega
      have hcn := cntN_le (askB T m) (T 61 0)
      refine E_iload_n dX11_mark_22 rfl ?_
      have hsw : w = nI 0 ∨ w = nI 1 ∨ w = nI 2 ∨ w = nI 3 ∨ (w.toInt < 0 ∨ 3 < w.toInt) := by
        rcases sw_ex w 3 (by decide) with ⟨j, hj, rfl⟩ | h7
        · rcases (show j = 0 ∨ j = 1 ∨ j = 2 ∨ j = 3 by omega) with rfl | rfl | rfl | rfl <;> simp
        · exact Or.inr (Or.inr (Or.inr (Or.inr (h7))))
      rcases hsw with rfl | rfl | rfl | rfl | hw
      · skip
        refine E_swIn (t := 52) (off := 29) dX11_mark_23 (by decide) (by decide) (by decide) (by decide) ?_
        refine E_aload_n dX11_mark_52 rfl ?_
        refine E_iload_n dX11_mark_53 rfl ?_
        refine E_callV (r := qX11_asked) (ci := 11) dX11_mark_54 mkX11_293 voX11_asked rfl rfl rfl ⟨Nat.le_of_ble_eq_true rfl, Nat.le_of_ble_eq_true rfl, Nat.le_of_ble_eq_true rfl, Nat.le_of_ble_eq_true rfl⟩ (m_asked hR hm6) rfl (Nat.le_of_ble_eq_true rfl) ?_
        rintro _ _ ⟨rfl, rfl⟩
        refine E_iret dX11_mark_57 rfl ?_
        exact ⟨by unfold mrMark; rw [if_neg hu, if_pos rfl, nI_tn hm3], Sb.rf⟩
      · skip
        refine E_swIn (t := 58) (off := 35) dX11_mark_23 (by decide) (by decide) (by decide) (by decide) ?_
        refine E_aload_n dX11_mark_58 rfl ?_
        refine E_iload_n dX11_mark_59 rfl ?_
        refine E_callV (r := qX11_laid) (ci := 11) dX11_mark_60 mkX11_296 voX11_laid rfl rfl rfl ⟨Nat.le_of_ble_eq_true rfl, Nat.le_of_ble_eq_true rfl, Nat.le_of_ble_eq_true rfl, Nat.le_of_ble_eq_true rfl⟩ (m_laid hR hm6) rfl (Nat.le_of_ble_eq_true rfl) ?_
        rintro _ _ ⟨rfl, rfl⟩
        refine E_iret dX11_mark_63 rfl ?_
        exact ⟨by unfold mrMark; rw [if_neg hu, if_neg (by decide), if_pos rfl, nI_tn hm3], Sb.rf⟩
      · skip
        refine E_swIn (t := 64) (off := 41) dX11_mark_23 (by decide) (by decide) (by decide) (by decide) ?_
        refine E_aload_n dX11_mark_64 rfl ?_
        refine E_iload_n dX11_mark_65 rfl ?_
        refine E_callV (r := qX11_isAnywhere) (ci := 11) dX11_mark_66 mkX11_299 voX11_isAnywhere rfl rfl rfl ⟨Nat.le_of_ble_eq_true rfl, Nat.le_of_ble_eq_true rfl, Nat.le_of_ble_eq_true rfl, Nat.le_of_ble_eq_true rfl⟩ (m_isAnywhere hR hB hm6) rfl (Nat.le_of_ble_eq_true rfl) ?_
        rintro _ M1 ⟨rfl, hS1⟩
        refine E_if_eqB (t := 76) dX11_mark_69 (by decide) (fun c69 => ?_) (fun c69 => ?_)
        · skip
          refine E_iconst (v := nI 0) dX11_mark_76 rfl ?_
          refine E_iret dX11_mark_77 rfl ?_
          exact ⟨by unfold mrMark; rw [if_neg hu, if_neg (by decide), if_neg (by decide), if_pos rfl, nI_tn hm3, c69]; rfl, hS1⟩
        · skip
          refine E_iconst (v := nI 1) dX11_mark_72 rfl ?_
          refine E_goto (t := 77) dX11_mark_73 (by decide) ?_
          refine E_iret dX11_mark_77 rfl ?_
          exact ⟨by unfold mrMark; rw [if_neg hu, if_neg (by decide), if_neg (by decide), if_pos rfl, nI_tn hm3, c69]; rfl, hS1⟩
      · skip
        refine E_swIn (t := 78) (off := 55) dX11_mark_23 (by decide) (by decide) (by decide) (by decide) ?_
        refine E_aload_n dX11_mark_78 rfl ?_
        refine E_iload_n dX11_mark_79 rfl ?_
        refine E_callV (r := qX11_asked) (ci := 11) dX11_mark_80 mkX11_293 voX11_asked rfl rfl rfl ⟨Nat.le_of_ble_eq_true rfl, Nat.le_of_ble_eq_true rfl, Nat.le_of_ble_eq_true rfl, Nat.le_of_ble_eq_true rfl⟩ (m_asked hR hm6) rfl (Nat.le_of_ble_eq_true rfl) ?_
        rintro _ _ ⟨rfl, rfl⟩
        refine E_if_leN (t := 98) dX11_mark_83 (by decide) (by omega) (fun c83 => ?_) (fun c83 => ?_)
        · skip
          have hz : bI (decide (0 < cntN (askB T m) (T 61 0)) && idlB T m) = nI 0 := by rw [c83]; rfl
          refine E_iconst (v := nI 0) dX11_mark_98 rfl ?_
          refine E_iret dX11_mark_99 rfl ?_
          first | exact ⟨by unfold mrMark; rw [if_neg hu, if_neg (by decide), if_neg (by decide), if_neg (by decide), if_pos rfl, nI_tn hm3, hz], Sb.rf⟩ | exact ⟨by unfold mrMark; rw [if_neg hu, if_neg (by decide), if_neg (by decide), if_neg (by decide), if_pos rfl, nI_tn hm3, hz1, c91]; rfl, hS1⟩
        · skip
          have hz1 : decide (0 < cntN (askB T m) (T 61 0)) = true := decide_eq_true c83
          refine E_aload_n dX11_mark_86 rfl ?_
          refine E_iload_n dX11_mark_87 rfl ?_
          refine E_callV (r := qX11_isIdle) (ci := 11) dX11_mark_88 mkX11_302 voX11_isIdle rfl rfl rfl ⟨Nat.le_of_ble_eq_true rfl, Nat.le_of_ble_eq_true rfl, Nat.le_of_ble_eq_true rfl, Nat.le_of_ble_eq_true rfl⟩ (m_isIdle hR hB hm6) rfl (Nat.le_of_ble_eq_true rfl) ?_
          rintro _ M1 ⟨rfl, hS1⟩
          refine E_if_eqB (t := 98) dX11_mark_91 (by decide) (fun c91 => ?_) (fun c91 => ?_)
          · skip
            refine E_iconst (v := nI 0) dX11_mark_98 rfl ?_
            refine E_iret dX11_mark_99 rfl ?_
            first | exact ⟨by unfold mrMark; rw [if_neg hu, if_neg (by decide), if_neg (by decide), if_neg (by decide), if_pos rfl, nI_tn hm3, hz], Sb.rf⟩ | exact ⟨by unfold mrMark; rw [if_neg hu, if_neg (by decide), if_neg (by decide), if_neg (by decide), if_pos rfl, nI_tn hm3, hz1, c91]; rfl, hS1⟩
          · skip
            refine E_iconst (v := nI 1) dX11_mark_94 rfl ?_
            refine E_goto (t := 99) dX11_mark_95 (by decide) ?_
            refine E_iret dX11_mark_99 rfl ?_
            first | exact ⟨by unfold mrMark; rw [if_neg hu, if_neg (by decide), if_neg (by decide), if_neg (by decide), if_pos rfl, nI_tn hm3, hz], Sb.rf⟩ | exact ⟨by unfold mrMark; rw [if_neg hu, if_neg (by decide), if_neg (by decide), if_neg (by decide), if_pos rfl, nI_tn hm3, hz1, c91]; rfl, hS1⟩
      · skip
        refine E_swOut (t := 100) dX11_mark_23 (hw) (by decide) ?_
        refine E_ldc dX11_mark_100 ckX11_131 ?_
        refine E_iret dX11_mark_102 rfl ?_
        exact ⟨by unfold mrMark; rw [if_neg hu, if_neg (sw_ne hw (by decide) (by decide)), if_neg (sw_ne hw (by decide) (by decide)), if_neg (sw_ne hw (by decide) (by decide)), if_neg (sw_ne hw (by decide) (by decide))], Sb.rf⟩
    · skip
      have hu : (T 61 1 == 0 || !(inI x 0 5)) = true := by rw [c16]; simp
      refine E_ldc dX11_mark_19 ckX11_214 ?_
      refine E_iret dX11_mark_21 rfl ?_
      exact ⟨by unfold mrMark; rw [if_pos hu], Sb.rf⟩
theorem m_linesThat (hR : RM T M) (hF : RF D M) (hD : DL D) {w : Nat} (hE : w = 2 → RZ 79 E M) (hw : w < 3) : Call g qX11_linesThat [.ref 61, .int (nI w)] M (Rt (nI (bsN (ltB T D E w) 16)) M) := by
  have L : ∀ (n k : Nat) (y : Option Value), k ≤ 16 → 16 < k + n → Ex g qX11_linesThat (tm g qX11_linesThat (Rt (nI (bsN (ltB T D E w) 16)) M)) 4 [some (.ref 61), some (.int (nI w)), some (.int (nI (bsN (ltB T D E w) k))), some (.int (nI k)), y] [] M := by
    intro n
    induction n with
    | zero => intro k y h1 h2; exact absurd h2 (by omega)
    | succ n ih =>
      intro k y hk hn
      have hc0 := cntN_le (fun j => st3 T D E 0 (64 * k + j)) 64
      have hcw := cntN_le (fun j => st3 T D E w (64 * k + j)) 64
      have J : ∀ (b : Bool), k < 16 → ltB T D E w k = ((T 61 1).testBit k && b) → Ex g qX11_linesThat (tm g qX11_linesThat (Rt (nI (bsN (ltB T D E w) 16)) M)) 45 [some (.ref 61), some (.int (nI w)), some (.int (nI (bsN (ltB T D E w) k))), some (.int (nI k)), y] [.int (bI b)] M := by
        intro b hk2 hb
        refine E_istore dX11_linesThat_45 (by decide) rfl ?_
        refine E_iload_n dX11_linesThat_47 rfl ?_
        refine E_aload_n dX11_linesThat_48 rfl ?_
        refine E_getI' (ci := 11) (j := 1) dX11_linesThat_49 fkX11_81 rfl (by decide) rfl (by decide) (rm_there hR) ?_
        refine E_iload_n dX11_linesThat_52 rfl ?_
        refine E_callS (r := qX11_has) dX11_linesThat_53 mkX11_94 toX11_has rfl ⟨Nat.le_of_ble_eq_true rfl, Nat.le_of_ble_eq_true rfl, Nat.le_of_ble_eq_true rfl, Nat.le_of_ble_eq_true rfl⟩ (m_has (by omega)) rfl (Nat.le_of_ble_eq_true rfl) ?_
        rintro _ _ ⟨rfl, rfl⟩
        refine E_if_eqB (t := 70) dX11_linesThat_56 (by decide) (fun c56 => ?_) (fun c56 => ?_)
        · skip
          have hs1 : bsN (ltB T D E w) (k + 1) = bsN (ltB T D E w) k ||| 0 := by rw [bsN, hb, c56]; rfl
          refine E_iconst (v := nI 0) dX11_linesThat_70 rfl ?_
          refine E_iorN dX11_linesThat_71 ?_
          refine E_ist_n (i := 2) dX11_linesThat_72 rfl (by decide) rfl ?_
          refine E_iincN (b := 1) dX11_linesThat_73 rfl rfl (by decide) rfl ?_
          refine E_goto (t := 4) dX11_linesThat_76 (by decide) ?_
          have hnx := ih (k + 1) (some (.int (bI b))) (by omega) (by omega)
          rw [hs1] at hnx
          exact hnx
        · skip
          refine E_iload dX11_linesThat_59 rfl ?_
          refine E_if_eqB (t := 70) dX11_linesThat_61 (by decide) (fun c61 => ?_) (fun c61 => ?_)
          · skip
            have hs1 : bsN (ltB T D E w) (k + 1) = bsN (ltB T D E w) k ||| 0 := by rw [bsN, hb, c56, c61]; rfl
            refine E_iconst (v := nI 0) dX11_linesThat_70 rfl ?_
            refine E_iorN dX11_linesThat_71 ?_
            refine E_ist_n (i := 2) dX11_linesThat_72 rfl (by decide) rfl ?_
            refine E_iincN (b := 1) dX11_linesThat_73 rfl rfl (by decide) rfl ?_
            refine E_goto (t := 4) dX11_linesThat_76 (by decide) ?_
            have hnx := ih (k + 1) (some (.int (bI b))) (by omega) (by omega)
            rw [hs1] at hnx
            exact hnx
          · skip
            have hs1 : bsN (ltB T D E w) (k + 1) = bsN (ltB T D E w) k ||| 1 * 2 ^ k := by rw [bsN, hb, c56, c61, Nat.one_mul]; rfl
            refine E_iconst (v := nI 1) dX11_linesThat_64 rfl ?_
            refine E_iload_n dX11_linesThat_65 rfl ?_
            refine E_ishlN dX11_linesThat_66 (by omega) (by have h8 : 2 ^ k ≤ 2 ^ 15 := Nat.pow_le_pow_right (by decide) (by omega); omega) ?_
            refine E_goto (t := 71) dX11_linesThat_67 (by decide) ?_
            refine E_iorN dX11_linesThat_71 ?_
            refine E_ist_n (i := 2) dX11_linesThat_72 rfl (by decide) rfl ?_
            refine E_iincN (b := 1) dX11_linesThat_73 rfl rfl (by decide) rfl ?_
            refine E_goto (t := 4) dX11_linesThat_76 (by decide) ?_
            have hnx := ih (k + 1) (some (.int (bI b))) (by omega) (by omega)
            rw [hs1] at hnx
            exact hnx
      refine E_iload_n dX11_linesThat_4 rfl ?_
      refine E_bipush (v := nI 16) dX11_linesThat_5 rfl ?_
      refine E_icmp_geN (t := 79) dX11_linesThat_7 (by decide) (by omega) (by omega) (fun c7 => ?_) (fun c7 => ?_)
      · skip
        refine E_iload_n dX11_linesThat_79 rfl ?_
        refine E_iret dX11_linesThat_80 rfl ?_
        exact Rt_n (by rw [show k = 16 by omega])
      · skip
        refine E_iload_n dX11_linesThat_10 rfl ?_
        refine E_if_neN (t := 31) dX11_linesThat_11 (by decide) (by omega) (fun c11 => ?_) (fun c11 => ?_)
        · skip
          refine E_aload_n dX11_linesThat_31 rfl ?_
          refine E_iload_n dX11_linesThat_32 rfl ?_
          refine E_iload_n dX11_linesThat_33 rfl ?_
          refine E_callV (r := qX11_statesOf) (ci := 11) dX11_linesThat_34 mkX11_261 voX11_statesOf rfl rfl rfl ⟨Nat.le_of_ble_eq_true rfl, Nat.le_of_ble_eq_true rfl, Nat.le_of_ble_eq_true rfl, Nat.le_of_ble_eq_true rfl⟩ (m_statesOf (w := w) (E := E) hR hF hD hE (by omega) hw) rfl (Nat.le_of_ble_eq_true rfl) ?_
          rintro _ _ ⟨rfl, rfl⟩
          refine E_if_leN (t := 44) dX11_linesThat_37 (by decide) (by omega) (fun c37 => ?_) (fun c37 => ?_)
          · skip
            have hv : ltB T D E w k = ((T 61 1).testBit k && false) := by unfold ltB; rw [if_neg (by omega), c37]; rfl
            refine E_iconst (v := nI 0) dX11_linesThat_44 rfl ?_
            first | exact J true (by omega) hv | exact J false (by omega) hv
          · skip
            have hv : ltB T D E w k = ((T 61 1).testBit k && true) := by unfold ltB; rw [if_neg (by omega), decide_eq_true c37]
            refine E_iconst (v := nI 1) dX11_linesThat_40 rfl ?_
            refine E_goto (t := 45) dX11_linesThat_41 (by decide) ?_
            first | exact J true (by omega) hv | exact J false (by omega) hv
        · skip
          subst c11
          refine E_aload_n dX11_linesThat_14 rfl ?_
          refine E_iload_n dX11_linesThat_15 rfl ?_
          refine E_iconst (v := nI 0) dX11_linesThat_16 rfl ?_
          refine E_callV (r := qX11_statesOf) (ci := 11) dX11_linesThat_17 mkX11_261 voX11_statesOf rfl rfl rfl ⟨Nat.le_of_ble_eq_true rfl, Nat.le_of_ble_eq_true rfl, Nat.le_of_ble_eq_true rfl, Nat.le_of_ble_eq_true rfl⟩ (m_statesOf (w := 0) (E := E) hR hF hD (fun e => by cases e) (by omega) (by decide)) rfl (Nat.le_of_ble_eq_true rfl) ?_
          rintro _ _ ⟨rfl, rfl⟩
          refine E_if_neN (t := 27) dX11_linesThat_20 (by decide) (by omega) (fun c20 => ?_) (fun c20 => ?_)
          · skip
            have hv : ltB T D E 0 k = ((T 61 1).testBit k && false) := by unfold ltB; rw [if_pos rfl, show (cntN (fun j => st3 T D E 0 (64 * k + j)) 64 == 0) = false by simp; omega]
            refine E_iconst (v := nI 0) dX11_linesThat_27 rfl ?_
            refine E_goto (t := 45) dX11_linesThat_28 (by decide) ?_
            first | exact J true (by omega) hv | exact J false (by omega) hv
          · skip
            have hv : ltB T D E 0 k = ((T 61 1).testBit k && true) := by unfold ltB; rw [if_pos rfl, c20]; rfl
            refine E_iconst (v := nI 1) dX11_linesThat_23 rfl ?_
            refine E_goto (t := 45) dX11_linesThat_24 (by decide) ?_
            first | exact J true (by omega) hv | exact J false (by omega) hv
  refine Call_of (ls0 := [some (.ref 61), some (.int (nI w)), none, none, none]) rfl rfl (Nat.le_of_ble_eq_true rfl) ?_
  refine E_iconst (v := nI 0) dX11_linesThat_0 rfl ?_
  refine E_ist_n (i := 2) dX11_linesThat_1 rfl (by decide) rfl ?_
  refine E_iconst (v := nI 0) dX11_linesThat_2 rfl ?_
  refine E_ist_n (i := 3) dX11_linesThat_3 rfl (by decide) rfl ?_
  exact L 17 0 none (by omega) (by omega)
theorem m_linesWithLoops (hR : RM T M) (hB : RB T M) : Call g qX11_linesWithLoops [.ref 61] M (RtS (nI (bsN (lwB T) 16)) M) := by
  have hll : ∀ l m, lnL T l = some m → m ≤ 1025 := fun l m hm => omN_le (fun i x _ hx => by split at hx; exact lpS_le hx; cases hx) hm
  have L : ∀ (n k : Nat) (M1 : AM), k ≤ 16 → 16 < k + n → RZ 82 (fun t => (DT T t).isSome) M1 → Sb scrM M M1 → Ex g qX11_linesWithLoops (tm g qX11_linesWithLoops (RtS (nI (bsN (lwB T) 16)) M)) 8 [some (.ref 61), some (.int (nI (bsN (lwB T) k))), some (.int (nI k))] [] M1 := by
    intro n
    induction n with
    | zero => intro k M1 h1 h2; exact absurd h2 (by omega)
    | succ n ih =>
      intro k M1 hk hn hZ hS
      have hR1 := rm_sb hR hS (by decide)
      refine E_iload_n dX11_linesWithLoops_8 rfl ?_
      refine E_bipush (v := nI 16) dX11_linesWithLoops_9 rfl ?_
      refine E_icmp_geN (t := 49) dX11_linesWithLoops_11 (by decide) (by omega) (by omega) (fun c11 => ?_) (fun c11 => ?_)
      · skip
        refine E_iload_n dX11_linesWithLoops_49 rfl ?_
        refine E_iret dX11_linesWithLoops_50 rfl ?_
        exact ⟨by rw [show k = 16 by omega], hS⟩
      · skip
        refine E_iload_n dX11_linesWithLoops_14 rfl ?_
        refine E_aload_n dX11_linesWithLoops_15 rfl ?_
        refine E_getI' (ci := 11) (j := 1) dX11_linesWithLoops_16 fkX11_81 rfl (by decide) rfl (by decide) (rm_there hR1) ?_
        refine E_iload_n dX11_linesWithLoops_19 rfl ?_
        refine E_callS (r := qX11_has) dX11_linesWithLoops_20 mkX11_94 toX11_has rfl ⟨Nat.le_of_ble_eq_true rfl, Nat.le_of_ble_eq_true rfl, Nat.le_of_ble_eq_true rfl, Nat.le_of_ble_eq_true rfl⟩ (m_has (by omega)) rfl (Nat.le_of_ble_eq_true rfl) ?_
        rintro _ _ ⟨rfl, rfl⟩
        refine E_if_eqB (t := 40) dX11_linesWithLoops_23 (by decide) (fun c23 => ?_) (fun c23 => ?_)
        · skip
          have hs1 : bsN (lwB T) (k + 1) = bsN (lwB T) k ||| 0 := by rw [bsN]; unfold lwB; rw [c23]; rfl
          refine E_iconst (v := nI 0) dX11_linesWithLoops_40 rfl ?_
          refine E_iorN dX11_linesWithLoops_41 ?_
          refine E_ist_n (i := 1) dX11_linesWithLoops_42 rfl (by decide) rfl ?_
          refine E_iincN (b := 1) dX11_linesWithLoops_43 rfl rfl (by decide) rfl ?_
          refine E_goto (t := 8) dX11_linesWithLoops_46 (by decide) ?_
          first | (have hnx := ih (k + 1) M2 (by omega) (by omega) (rz_sb hZ hS2 (by decide)) (hS.tr (hS2.scr (by decide))); rw [hs1] at hnx; exact hnx) | (have hnx := ih (k + 1) M1 (by omega) (by omega) hZ hS; rw [hs1] at hnx; exact hnx)
        · skip
          refine E_aload_n dX11_linesWithLoops_26 rfl ?_
          refine E_iload_n dX11_linesWithLoops_27 rfl ?_
          refine E_callV (r := qX11_loopOfLine) (ci := 11) dX11_linesWithLoops_28 mkX11_287 voX11_loopOfLine rfl rfl rfl ⟨Nat.le_of_ble_eq_true rfl, Nat.le_of_ble_eq_true rfl, Nat.le_of_ble_eq_true rfl, Nat.le_of_ble_eq_true rfl⟩ (m_loopOfLine hR1 hZ (by omega)) rfl (Nat.le_of_ble_eq_true rfl) ?_
          rintro _ M2 ⟨rfl, hS2⟩
          refine E_if_ltO (t := 40) dX11_linesWithLoops_31 (by decide) (fun d hd => by have := hll _ d hd; omega) (fun c31 => ?_) (fun c31 => ?_)
          · skip
            have hs1 : bsN (lwB T) (k + 1) = bsN (lwB T) k ||| 0 := by rw [bsN, show lwB T k = false by unfold lwB; rw [c31]; simp]; rfl
            refine E_iconst (v := nI 0) dX11_linesWithLoops_40 rfl ?_
            refine E_iorN dX11_linesWithLoops_41 ?_
            refine E_ist_n (i := 1) dX11_linesWithLoops_42 rfl (by decide) rfl ?_
            refine E_iincN (b := 1) dX11_linesWithLoops_43 rfl rfl (by decide) rfl ?_
            refine E_goto (t := 8) dX11_linesWithLoops_46 (by decide) ?_
            first | (have hnx := ih (k + 1) M2 (by omega) (by omega) (rz_sb hZ hS2 (by decide)) (hS.tr (hS2.scr (by decide))); rw [hs1] at hnx; exact hnx) | (have hnx := ih (k + 1) M1 (by omega) (by omega) hZ hS; rw [hs1] at hnx; exact hnx)
          · skip
            obtain ⟨d, hd⟩ := Option.ne_none_iff_exists'.mp c31
            have hs1 : bsN (lwB T) (k + 1) = bsN (lwB T) k ||| 1 * 2 ^ k := by rw [bsN, show lwB T k = true by unfold lwB; rw [hd, c23]; rfl, Nat.one_mul]; rfl
            refine E_iconst (v := nI 1) dX11_linesWithLoops_34 rfl ?_
            refine E_iload_n dX11_linesWithLoops_35 rfl ?_
            refine E_ishlN dX11_linesWithLoops_36 (by omega) (by have h8 : 2 ^ k ≤ 2 ^ 15 := Nat.pow_le_pow_right (by decide) (by omega); omega) ?_
            refine E_goto (t := 41) dX11_linesWithLoops_37 (by decide) ?_
            refine E_iorN dX11_linesWithLoops_41 ?_
            refine E_ist_n (i := 1) dX11_linesWithLoops_42 rfl (by decide) rfl ?_
            refine E_iincN (b := 1) dX11_linesWithLoops_43 rfl rfl (by decide) rfl ?_
            refine E_goto (t := 8) dX11_linesWithLoops_46 (by decide) ?_
            first | (have hnx := ih (k + 1) M2 (by omega) (by omega) (rz_sb hZ hS2 (by decide)) (hS.tr (hS2.scr (by decide))); rw [hs1] at hnx; exact hnx) | (have hnx := ih (k + 1) M1 (by omega) (by omega) hZ hS; rw [hs1] at hnx; exact hnx)
  refine Call_of (ls0 := [some (.ref 61), none, none]) rfl rfl (Nat.le_of_ble_eq_true rfl) ?_
  refine E_aload_n dX11_linesWithLoops_0 rfl ?_
  refine E_callV (r := qX11_laysReached) (ci := 11) dX11_linesWithLoops_1 mkX11_284 voX11_laysReached rfl rfl rfl ⟨Nat.le_of_ble_eq_true rfl, Nat.le_of_ble_eq_true rfl, Nat.le_of_ble_eq_true rfl, Nat.le_of_ble_eq_true rfl⟩ (m_laysReached hR hB) rfl (Nat.le_of_ble_eq_true rfl) ?_
  rintro _ M1 ⟨rfl, hS1, hz1⟩
  refine E_iconst (v := nI 0) dX11_linesWithLoops_4 rfl ?_
  refine E_ist_n (i := 1) dX11_linesWithLoops_5 rfl (by decide) rfl ?_
  refine E_iconst (v := nI 0) dX11_linesWithLoops_6 rfl ?_
  refine E_ist_n (i := 2) dX11_linesWithLoops_7 rfl (by decide) rfl ?_
  exact L 17 0 M1 (by omega) (by omega) hz1 (hS1.scr (by decide))
theorem m_ofStates (hR : RM T M) (hF : RF D M) (hD : DL D) {w : Nat} (hw : w < 3) : Call g qX11_ofStates [.ref 61, .int (nI w)] M (Rt (nI (if w = 1 then cntN (fun k => (D k).isSome && (T 61 2).testBit (k / 64)) 1024 else mxN D (ofF T D w) 1024)) M) := by
  have h32 := rm_32 hR
  have hof : ∀ k, ofF T D w k ≤ 1024 := by
    intro k
    unfold ofF
    split
    · have := cntN_le (fun a => opn T a k 0) (T 61 0)
      omega
    · cases hd : D k with
      | none => exact Nat.zero_le _
      | some d => exact hD k d hd
  have L : ∀ (n k : Nat) (y : Option Value), k ≤ 1024 → 1024 < k + n → Ex g qX11_ofStates (tm g qX11_ofStates (Rt (nI (if w = 1 then cntN (fun k => (D k).isSome && (T 61 2).testBit (k / 64)) 1024 else mxN D (ofF T D w) 1024)) M)) 7 [some (.ref 61), some (.int (nI w)), some (.int (nI (mxN D (ofF T D w) k))), some (.int (nI (cntN (fun k => (D k).isSome && (T 61 2).testBit (k / 64)) k))), some (.int (nI k)), y] [] M := by
    intro n
    induction n with
    | zero => intro k y h1 h2; exact absurd h2 (by omega)
    | succ n ih =>
      intro k y hk hn
      have hmx := mxN_le (D := D) hof k
      have hok := hof k
      have hcl := cntN_le (fun k => (D k).isSome && (T 61 2).testBit (k / 64)) k
      have J2 : ∀ (d : Nat) (y : Option Value), k < 1024 → D k = some d → Ex g qX11_ofStates (tm g qX11_ofStates (Rt (nI (if w = 1 then cntN (fun k => (D k).isSome && (T 61 2).testBit (k / 64)) 1024 else mxN D (ofF T D w) 1024)) M)) 59 [some (.ref 61), some (.int (nI w)), some (.int (nI (mxN D (ofF T D w) k))), some (.int (nI (cntN (fun k => (D k).isSome && (T 61 2).testBit (k / 64)) k))), some (.int (nI k)), y] [.int (nI (mxN D (ofF T D w) (k + 1)))] M := by
        intro d y hk2 hd
        refine E_ist_n (i := 2) dX11_ofStates_59 rfl (by decide) rfl ?_
        refine E_iload_n dX11_ofStates_60 rfl ?_
        refine E_aload_n dX11_ofStates_61 rfl ?_
        refine E_getI' (ci := 11) (j := 2) dX11_ofStates_62 fkX11_98 rfl (by decide) rfl (by decide) (rm_endings hR) ?_
        refine E_iload dX11_ofStates_65 rfl ?_
        refine E_bipush (v := nI 64) dX11_ofStates_67 rfl ?_
        refine E_idivN dX11_ofStates_69 (by omega) (by decide) (by decide) ?_
        refine E_callS (r := qX11_has) dX11_ofStates_70 mkX11_94 toX11_has rfl ⟨Nat.le_of_ble_eq_true rfl, Nat.le_of_ble_eq_true rfl, Nat.le_of_ble_eq_true rfl, Nat.le_of_ble_eq_true rfl⟩ (m_has (by omega)) rfl (Nat.le_of_ble_eq_true rfl) ?_
        rintro _ _ ⟨rfl, rfl⟩
        refine E_if_eqB (t := 80) dX11_ofStates_73 (by decide) (fun c73 => ?_) (fun c73 => ?_)
        · skip
          have hs1 : cntN (fun k => (D k).isSome && (T 61 2).testBit (k / 64)) (k + 1) = cntN (fun k => (D k).isSome && (T 61 2).testBit (k / 64)) k + 0 := by rw [cntN, hd, c73]; rfl
          refine E_iconst (v := nI 0) dX11_ofStates_80 rfl ?_
          refine E_iaddN dX11_ofStates_81 ?_
          refine E_ist_n (i := 3) dX11_ofStates_82 rfl (by decide) rfl ?_
          refine E_iincN (b := 1) dX11_ofStates_83 rfl rfl (by decide) rfl ?_
          refine E_goto (t := 7) dX11_ofStates_86 (by decide) ?_
          have hnx := ih (k + 1) y (by omega) (by omega)
          rw [hs1] at hnx
          exact hnx
        · skip
          have hs1 : cntN (fun k => (D k).isSome && (T 61 2).testBit (k / 64)) (k + 1) = cntN (fun k => (D k).isSome && (T 61 2).testBit (k / 64)) k + 1 := by rw [cntN, hd, c73]; rfl
          refine E_iconst (v := nI 1) dX11_ofStates_76 rfl ?_
          refine E_goto (t := 81) dX11_ofStates_77 (by decide) ?_
          refine E_iaddN dX11_ofStates_81 ?_
          refine E_ist_n (i := 3) dX11_ofStates_82 rfl (by decide) rfl ?_
          refine E_iincN (b := 1) dX11_ofStates_83 rfl rfl (by decide) rfl ?_
          refine E_goto (t := 7) dX11_ofStates_86 (by decide) ?_
          have hnx := ih (k + 1) y (by omega) (by omega)
          rw [hs1] at hnx
          exact hnx
      have J : ∀ (d : Nat), k < 1024 → D k = some d → Ex g qX11_ofStates (tm g qX11_ofStates (Rt (nI (if w = 1 then cntN (fun k => (D k).isSome && (T 61 2).testBit (k / 64)) 1024 else mxN D (ofF T D w) 1024)) M)) 45 [some (.ref 61), some (.int (nI w)), some (.int (nI (mxN D (ofF T D w) k))), some (.int (nI (cntN (fun k => (D k).isSome && (T 61 2).testBit (k / 64)) k))), some (.int (nI k)), y] [.int (nI (ofF T D w k))] M := by
        intro d hk2 hd
        refine E_istore dX11_ofStates_45 (by decide) rfl ?_
        refine E_iload dX11_ofStates_47 rfl ?_
        refine E_iload_n dX11_ofStates_49 rfl ?_
        refine E_icmp_leN (t := 58) dX11_ofStates_50 (by decide) (by omega) (by omega) (fun c50 => ?_) (fun c50 => ?_)
        · skip
          have hs1 : mxN D (ofF T D w) (k + 1) = mxN D (ofF T D w) k := by rw [mxN, hd, if_pos (show (some d).isSome = true from rfl), if_neg (by omega)]
          refine E_iload_n dX11_ofStates_58 rfl ?_
          have hj2 := J2 d (some (.int (nI (ofF T D w k)))) hk2 hd
          rw [hs1] at hj2
          exact hj2
        · skip
          have hs1 : mxN D (ofF T D w) (k + 1) = ofF T D w k := by rw [mxN, hd, if_pos (show (some d).isSome = true from rfl), if_pos c50]
          refine E_iload dX11_ofStates_53 rfl ?_
          refine E_goto (t := 59) dX11_ofStates_55 (by decide) ?_
          have hj2 := J2 d (some (.int (nI (ofF T D w k)))) hk2 hd
          rw [hs1] at hj2
          exact hj2
      refine E_iload dX11_ofStates_7 rfl ?_
      refine E_sipush (v := nI 1024) dX11_ofStates_9 rfl ?_
      refine E_icmp_geN (t := 89) dX11_ofStates_12 (by decide) (by omega) (by omega) (fun c12 => ?_) (fun c12 => ?_)
      · skip
        have hk9 : k = 1024 := by omega
        subst hk9
        refine E_iload_n dX11_ofStates_89 rfl ?_
        refine E_iconst (v := nI 1) dX11_ofStates_90 rfl ?_
        refine E_icmp_neN (t := 98) dX11_ofStates_91 (by decide) (by omega) (by omega) (fun c91 => ?_) (fun c91 => ?_)
        · skip
          refine E_iload_n dX11_ofStates_98 rfl ?_
          refine E_iret dX11_ofStates_99 rfl ?_
          first | exact Rt_n (by rw [if_pos c91]) | exact Rt_n (by rw [if_neg c91])
        · skip
          refine E_iload_n dX11_ofStates_94 rfl ?_
          refine E_goto (t := 99) dX11_ofStates_95 (by decide) ?_
          refine E_iret dX11_ofStates_99 rfl ?_
          first | exact Rt_n (by rw [if_pos c91]) | exact Rt_n (by rw [if_neg c91])
      · skip
        refine E_aload_n dX11_ofStates_15 rfl ?_
        refine E_getR' (ci := 11) (j := 18) (p := 73) dX11_ofStates_16 fkX11_44 rfl (by decide) rfl (by decide) (rfl) ?_
        refine E_iload dX11_ofStates_19 rfl ?_
        refine E_ialdN dX11_ofStates_21 rfl (by omega) (by decide) (hF k (by omega)) ?_
        refine E_if_ltO (t := 83) dX11_ofStates_22 (by decide) (fun d hd => by have := hD k d hd; omega) (fun c22 => ?_) (fun c22 => ?_)
        · skip
          have hs1 : cntN (fun k => (D k).isSome && (T 61 2).testBit (k / 64)) (k + 1) = cntN (fun k => (D k).isSome && (T 61 2).testBit (k / 64)) k := by rw [cntN, c22]; rfl
          have hs2 : mxN D (ofF T D w) (k + 1) = mxN D (ofF T D w) k := by rw [mxN, c22]; rfl
          refine E_iincN (b := 1) dX11_ofStates_83 rfl rfl (by decide) rfl ?_
          refine E_goto (t := 7) dX11_ofStates_86 (by decide) ?_
          have hnx := ih (k + 1) y (by omega) (by omega)
          rw [hs1, hs2] at hnx
          exact hnx
        · skip
          obtain ⟨d, hd⟩ := Option.ne_none_iff_exists'.mp c22
          refine E_iload_n dX11_ofStates_25 rfl ?_
          refine E_if_neN (t := 38) dX11_ofStates_26 (by decide) (by omega) (fun c26 => ?_) (fun c26 => ?_)
          · skip
            have hof0 : ofF T D w k = d := by unfold ofF; rw [if_neg (by omega), hd]; rfl
            refine E_aload_n dX11_ofStates_38 rfl ?_
            refine E_getR' (ci := 11) (j := 18) (p := 73) dX11_ofStates_39 fkX11_44 rfl (by decide) rfl (by decide) (rfl) ?_
            refine E_iload dX11_ofStates_42 rfl ?_
            refine E_ialdN dX11_ofStates_44 rfl (by omega) (by decide) ((by rw [hF k (by omega), hd, oI_s])) ?_
            have hj := J d (by omega) hd
            rw [hof0] at hj
            exact hj
          · skip
            have hof0 : ofF T D w k = cntN (fun a => opn T a k 0) (T 61 0) := by unfold ofF; rw [if_pos c26]
            refine E_aload_n dX11_ofStates_29 rfl ?_
            refine E_iload dX11_ofStates_30 rfl ?_
            refine E_callV (r := qX11_openIn) (ci := 11) dX11_ofStates_32 mkX11_237 voX11_openIn rfl rfl rfl ⟨Nat.le_of_ble_eq_true rfl, Nat.le_of_ble_eq_true rfl, Nat.le_of_ble_eq_true rfl, Nat.le_of_ble_eq_true rfl⟩ (m_openIn hR (by omega)) rfl (Nat.le_of_ble_eq_true rfl) ?_
            rintro _ _ ⟨rfl, rfl⟩
            refine E_goto (t := 45) dX11_ofStates_35 (by decide) ?_
            have hj := J d (by omega) hd
            rw [hof0] at hj
            exact hj
  refine Call_of (ls0 := [some (.ref 61), some (.int (nI w)), none, none, none, none]) rfl rfl (Nat.le_of_ble_eq_true rfl) ?_
  refine E_iconst (v := nI 0) dX11_ofStates_0 rfl ?_
  refine E_ist_n (i := 2) dX11_ofStates_1 rfl (by decide) rfl ?_
  refine E_iconst (v := nI 0) dX11_ofStates_2 rfl ?_
  refine E_ist_n (i := 3) dX11_ofStates_3 rfl (by decide) rfl ?_
  refine E_iconst (v := nI 0) dX11_ofStates_4 rfl ?_
  refine E_istore dX11_ofStates_5 (by decide) rfl ?_
  exact L 1025 0 none (by omega) (by omega)
theorem st3_eq (hp : endPost T D E) {w s : Nat} (hs : s < 1024) : st3 T D E w s = st3 T D (canB T) w s := by
  unfold st3
  by_cases h0 : w = 0
  · rw [if_pos h0, if_pos h0]
  · rw [if_neg h0, if_neg h0]
    by_cases h1 : w = 1
    · rw [if_pos h1, if_pos h1]
    · rw [if_neg h1, if_neg h1]
      exact lost_eq hp hs
theorem ltB_eq (hp : endPost T D E) {w l : Nat} (hl : l < 16) : ltB T D E w l = ltB T D (canB T) w l := by
  unfold ltB
  rw [cntN_cong (fun k hk => st3_eq hp (w := 0) (s := 64 * l + k) (by omega)), cntN_cong (fun k hk => st3_eq hp (w := w) (s := 64 * l + k) (by omega))]
theorem bsN_cong {f h : Nat → Bool} : ∀ {n : Nat}, (∀ t, t < n → f t = h t) → bsN f n = bsN h n
  | 0, _ => rfl
  | n + 1, e => by rw [bsN, bsN, bsN_cong (fun t ht => e t (by omega)), e n (by omega)]
noncomputable def mrWhole (T : TK) (x : Int32) : Int32 := if (T 61 1 == 0) = true then -1000001 else
  if x = nI 0 then nI (LTn T) else if x = nI 1 then nI (bsN (ltB T (DT T) (canB T) 0) 16) else if x = nI 2 then nI (bsN (ltB T (DT T) (canB T) 1) 16) else if x = nI 3 then nI (bsN (ltB T (DT T) (canB T) 2) 16) else
  if x = nI 4 then nI (bsN (lwB T) 16) else if x = nI 5 then nI (mxN (DT T) (ofF T (DT T) 0) 1024) else if x = nI 6 then nI (cntN (fun k => (DT T k).isSome && (T 61 2).testBit (k / 64)) 1024) else if x = nI 7 then nI (mxN (DT T) (ofF T (DT T) 2) 1024) else -1000002
theorem m_whole (hR : RM T M) (hB : RB T M) {x : Int32} : Call g qX11_whole [.ref 61, .int x] M (RtS (mrWhole T x) M) := by
  have hT := rm_wt hR
  have n0 : ∀ {a b : Nat}, a ≤ 7 → b ≤ 7 → ¬ a = b → ¬ nI a = nI b := fun h1 h2 h3 e => h3 ((nI_eq (by omega) (by omega)).mp e)
  refine Call_of (ls0 := [some (.ref 61), some (.int x), none]) rfl rfl (Nat.le_of_ble_eq_true rfl) ?_
  refine E_aload_n dX11_whole_0 rfl ?_
  refine E_callV (r := qX11_isTalk) (ci := 11) dX11_whole_1 mkX11_211 voX11_isTalk rfl rfl rfl ⟨Nat.le_of_ble_eq_true rfl, Nat.le_of_ble_eq_true rfl, Nat.le_of_ble_eq_true rfl, Nat.le_of_ble_eq_true rfl⟩ (m_isTalk hR) rfl (Nat.le_of_ble_eq_true rfl) ?_
  rintro _ _ ⟨rfl, rfl⟩
  refine E_if_neB (t := 10) dX11_whole_4 (by decide) (fun c4 => ?_) (fun c4 => ?_)
  · skip
    have hu : ¬ (T 61 1 == 0) = true := by simpa using c4
    refine E_aload_n dX11_whole_10 rfl ?_
    refine E_callV (r := qX11_reachesAll) (ci := 11) dX11_whole_11 mkX11_255 voX11_reachesAll rfl rfl rfl ⟨Nat.le_of_ble_eq_true rfl, Nat.le_of_ble_eq_true rfl, Nat.le_of_ble_eq_true rfl, Nat.le_of_ble_eq_true rfl⟩ (m_reachesAll hR hB) rfl (Nat.le_of_ble_eq_true rfl) ?_
    rintro _ M1 ⟨rfl, hS1, hq1⟩
    have hR1 := rm_sb hR hS1 (by decide)
    refine E_ist_n (i := 2) dX11_whole_14 rfl (by decide) rfl ?_
    refine E_aload_n dX11_whole_15 rfl ?_
    refine E_callV (r := qX11_laysEnds) (ci := 11) dX11_whole_16 mkX11_258 voX11_laysEnds rfl rfl rfl ⟨Nat.le_of_ble_eq_true rfl, Nat.le_of_ble_eq_true rfl, Nat.le_of_ble_eq_true rfl, Nat.le_of_ble_eq_true rfl⟩ (m_laysEnds (D := DT T) hR1 hq1 DL_DT (fun k t _ hk ht => isD_cl (DT_isD hT hB.2) hk ht)) rfl (Nat.le_of_ble_eq_true rfl) ?_
    rintro _ M2 ⟨rfl, hS2, E, hz, hp⟩
    have hR2 := rm_sb hR1 hS2 (by decide)
    have hq2 := rf_sb hq1 hS2 (by decide)
    have hSS : Sb scrM M M2 := (hS1.scr (by decide)).tr (hS2.scr (by decide))
    have hB2 : RB T M2 := ⟨by rw [(hSS 61 (by decide)).1]; exact hB.1, hB.2⟩
    refine E_iload_n dX11_whole_19 rfl ?_
    have hsw : x = nI 0 ∨ x = nI 1 ∨ x = nI 2 ∨ x = nI 3 ∨ x = nI 4 ∨ x = nI 5 ∨ x = nI 6 ∨ x = nI 7 ∨ (x.toInt < 0 ∨ 7 < x.toInt) := by
      rcases sw_ex x 7 (by decide) with ⟨j, hj, rfl⟩ | h7
      · rcases (show j = 0 ∨ j = 1 ∨ j = 2 ∨ j = 3 ∨ j = 4 ∨ j = 5 ∨ j = 6 ∨ j = 7 by omega) with rfl | rfl | rfl | rfl | rfl | rfl | rfl | rfl <;> simp
      · exact Or.inr (Or.inr (Or.inr (Or.inr (Or.inr (Or.inr (Or.inr (Or.inr (h7))))))))
    rcases hsw with rfl | rfl | rfl | rfl | rfl | rfl | rfl | rfl | hx
    · skip
      refine E_swIn (t := 68) (off := 48) dX11_whole_20 (by decide) (by decide) (by decide) (by decide) ?_
      refine E_iload_n dX11_whole_68 rfl ?_
      refine E_iret dX11_whole_69 rfl ?_
      exact ⟨by unfold mrWhole; rw [if_neg hu, if_pos rfl], hSS⟩
    · skip
      refine E_swIn (t := 70) (off := 50) dX11_whole_20 (by decide) (by decide) (by decide) (by decide) ?_
      refine E_aload_n dX11_whole_70 rfl ?_
      refine E_iconst (v := nI 0) dX11_whole_71 rfl ?_
      refine E_callV (r := qX11_linesThat) (ci := 11) dX11_whole_72 mkX11_305 voX11_linesThat rfl rfl rfl ⟨Nat.le_of_ble_eq_true rfl, Nat.le_of_ble_eq_true rfl, Nat.le_of_ble_eq_true rfl, Nat.le_of_ble_eq_true rfl⟩ (m_linesThat (w := 0) (E := E) hR2 hq2 DL_DT (fun e => by cases e) (by decide)) rfl (Nat.le_of_ble_eq_true rfl) ?_
      rintro _ _ ⟨rfl, rfl⟩
      refine E_iret dX11_whole_75 rfl ?_
      exact ⟨by unfold mrWhole; rw [if_neg hu, if_neg (n0 (by decide) (by decide) (by decide)), if_pos rfl, bsN_cong (fun l hl => ltB_eq hp hl)], hSS⟩
    · skip
      refine E_swIn (t := 76) (off := 56) dX11_whole_20 (by decide) (by decide) (by decide) (by decide) ?_
      refine E_aload_n dX11_whole_76 rfl ?_
      refine E_iconst (v := nI 1) dX11_whole_77 rfl ?_
      refine E_callV (r := qX11_linesThat) (ci := 11) dX11_whole_78 mkX11_305 voX11_linesThat rfl rfl rfl ⟨Nat.le_of_ble_eq_true rfl, Nat.le_of_ble_eq_true rfl, Nat.le_of_ble_eq_true rfl, Nat.le_of_ble_eq_true rfl⟩ (m_linesThat (w := 1) (E := E) hR2 hq2 DL_DT (fun e => by cases e) (by decide)) rfl (Nat.le_of_ble_eq_true rfl) ?_
      rintro _ _ ⟨rfl, rfl⟩
      refine E_iret dX11_whole_81 rfl ?_
      exact ⟨by unfold mrWhole; rw [if_neg hu, if_neg (n0 (by decide) (by decide) (by decide)), if_neg (n0 (by decide) (by decide) (by decide)), if_pos rfl, bsN_cong (fun l hl => ltB_eq hp hl)], hSS⟩
    · skip
      refine E_swIn (t := 82) (off := 62) dX11_whole_20 (by decide) (by decide) (by decide) (by decide) ?_
      refine E_aload_n dX11_whole_82 rfl ?_
      refine E_iconst (v := nI 2) dX11_whole_83 rfl ?_
      refine E_callV (r := qX11_linesThat) (ci := 11) dX11_whole_84 mkX11_305 voX11_linesThat rfl rfl rfl ⟨Nat.le_of_ble_eq_true rfl, Nat.le_of_ble_eq_true rfl, Nat.le_of_ble_eq_true rfl, Nat.le_of_ble_eq_true rfl⟩ (m_linesThat (w := 2) (E := E) hR2 hq2 DL_DT (fun _ => hz) (by decide)) rfl (Nat.le_of_ble_eq_true rfl) ?_
      rintro _ _ ⟨rfl, rfl⟩
      refine E_iret dX11_whole_87 rfl ?_
      exact ⟨by unfold mrWhole; rw [if_neg hu, if_neg (n0 (by decide) (by decide) (by decide)), if_neg (n0 (by decide) (by decide) (by decide)), if_neg (n0 (by decide) (by decide) (by decide)), if_pos rfl, bsN_cong (fun l hl => ltB_eq hp hl)], hSS⟩
    · skip
      refine E_swIn (t := 88) (off := 68) dX11_whole_20 (by decide) (by decide) (by decide) (by decide) ?_
      refine E_aload_n dX11_whole_88 rfl ?_
      refine E_callV (r := qX11_linesWithLoops) (ci := 11) dX11_whole_89 mkX11_308 voX11_linesWithLoops rfl rfl rfl ⟨Nat.le_of_ble_eq_true rfl, Nat.le_of_ble_eq_true rfl, Nat.le_of_ble_eq_true rfl, Nat.le_of_ble_eq_true rfl⟩ (m_linesWithLoops hR2 hB2) rfl (Nat.le_of_ble_eq_true rfl) ?_
      rintro _ M3 ⟨rfl, hS3⟩
      refine E_iret dX11_whole_92 rfl ?_
      exact ⟨by unfold mrWhole; rw [if_neg hu, if_neg (n0 (by decide) (by decide) (by decide)), if_neg (n0 (by decide) (by decide) (by decide)), if_neg (n0 (by decide) (by decide) (by decide)), if_neg (n0 (by decide) (by decide) (by decide)), if_pos rfl], hSS.tr hS3⟩
    · skip
      refine E_swIn (t := 93) (off := 73) dX11_whole_20 (by decide) (by decide) (by decide) (by decide) ?_
      refine E_aload_n dX11_whole_93 rfl ?_
      refine E_iconst (v := nI 0) dX11_whole_94 rfl ?_
      refine E_callV (r := qX11_ofStates) (ci := 11) dX11_whole_95 mkX11_311 voX11_ofStates rfl rfl rfl ⟨Nat.le_of_ble_eq_true rfl, Nat.le_of_ble_eq_true rfl, Nat.le_of_ble_eq_true rfl, Nat.le_of_ble_eq_true rfl⟩ (m_ofStates (w := 0) hR2 hq2 DL_DT (by decide)) rfl (Nat.le_of_ble_eq_true rfl) ?_
      rintro _ _ ⟨rfl, rfl⟩
      refine E_iret dX11_whole_98 rfl ?_
      exact ⟨by unfold mrWhole; rw [if_neg hu, if_neg (n0 (by decide) (by decide) (by decide)), if_neg (n0 (by decide) (by decide) (by decide)), if_neg (n0 (by decide) (by decide) (by decide)), if_neg (n0 (by decide) (by decide) (by decide)), if_neg (n0 (by decide) (by decide) (by decide)), if_pos rfl, if_neg (by decide)], hSS⟩
    · skip
      refine E_swIn (t := 99) (off := 79) dX11_whole_20 (by decide) (by decide) (by decide) (by decide) ?_
      refine E_aload_n dX11_whole_99 rfl ?_
      refine E_iconst (v := nI 1) dX11_whole_100 rfl ?_
      refine E_callV (r := qX11_ofStates) (ci := 11) dX11_whole_101 mkX11_311 voX11_ofStates rfl rfl rfl ⟨Nat.le_of_ble_eq_true rfl, Nat.le_of_ble_eq_true rfl, Nat.le_of_ble_eq_true rfl, Nat.le_of_ble_eq_true rfl⟩ (m_ofStates (w := 1) hR2 hq2 DL_DT (by decide)) rfl (Nat.le_of_ble_eq_true rfl) ?_
      rintro _ _ ⟨rfl, rfl⟩
      refine E_iret dX11_whole_104 rfl ?_
      exact ⟨by unfold mrWhole; rw [if_neg hu, if_neg (n0 (by decide) (by decide) (by decide)), if_neg (n0 (by decide) (by decide) (by decide)), if_neg (n0 (by decide) (by decide) (by decide)), if_neg (n0 (by decide) (by decide) (by decide)), if_neg (n0 (by decide) (by decide) (by decide)), if_neg (n0 (by decide) (by decide) (by decide)), if_pos rfl, if_pos rfl], hSS⟩
    · skip
      refine E_swIn (t := 105) (off := 85) dX11_whole_20 (by decide) (by decide) (by decide) (by decide) ?_
      refine E_aload_n dX11_whole_105 rfl ?_
      refine E_iconst (v := nI 2) dX11_whole_106 rfl ?_
      refine E_callV (r := qX11_ofStates) (ci := 11) dX11_whole_107 mkX11_311 voX11_ofStates rfl rfl rfl ⟨Nat.le_of_ble_eq_true rfl, Nat.le_of_ble_eq_true rfl, Nat.le_of_ble_eq_true rfl, Nat.le_of_ble_eq_true rfl⟩ (m_ofStates (w := 2) hR2 hq2 DL_DT (by decide)) rfl (Nat.le_of_ble_eq_true rfl) ?_
      rintro _ _ ⟨rfl, rfl⟩
      refine E_iret dX11_whole_110 rfl ?_
      exact ⟨by unfold mrWhole; rw [if_neg hu, if_neg (n0 (by decide) (by decide) (by decide)), if_neg (n0 (by decide) (by decide) (by decide)), if_neg (n0 (by decide) (by decide) (by decide)), if_neg (n0 (by decide) (by decide) (by decide)), if_neg (n0 (by decide) (by decide) (by decide)), if_neg (n0 (by decide) (by decide) (by decide)), if_neg (n0 (by decide) (by decide) (by decide)), if_pos rfl, if_neg (by decide)], hSS⟩
    · skip
      refine E_swOut (t := 111) dX11_whole_20 (hx) (by decide) ?_
      refine E_ldc dX11_whole_111 ckX11_131 ?_
      refine E_iret dX11_whole_113 rfl ?_
      have ne : ∀ j, j ≤ 7 → ¬ x = nI j := fun j hj => sw_ne hx hj (by decide)
      exact ⟨by unfold mrWhole; rw [if_neg hu, if_neg (ne 0 (by decide)), if_neg (ne 1 (by decide)), if_neg (ne 2 (by decide)), if_neg (ne 3 (by decide)), if_neg (ne 4 (by decide)), if_neg (ne 5 (by decide)), if_neg (ne 6 (by decide)), if_neg (ne 7 (by decide))], hSS⟩
  · skip
    have hu : (T 61 1 == 0) = true := by simpa using c4
    refine E_ldc dX11_whole_7 ckX11_214 ?_
    refine E_iret dX11_whole_9 rfl ?_
    exact ⟨by unfold mrWhole; rw [if_pos hu], Sb.rf⟩
end M11
