-- the model: use, needs, must
noncomputable def usN (T : TK) (a : Nat) : Nat := cntN (fun k => (DT T (64 * T 62 a + k)).isSome && opn T a (64 * T 62 a + k) 0) 64
noncomputable def usA (T : TK) (a : Nat) : Nat := cntN (fun k => (DT T (64 * T 62 a + k)).isSome) 64
noncomputable def mrUse (T : TK) (x : Int32) : Int32 := if inI x 0 ((T 61 0 : Int) - 1) = false then -1000001 else if usN T x.toInt.toNat = 0 then nI 0 else if usN T x.toInt.toNat < usA T x.toInt.toNat then nI 1 else nI 2
noncomputable def DU (T : TK) (m : Nat) : Nat → Option Nat := (bfs (sux T none (some m) none) (fst0 T) 1024).2
noncomputable def DB (T : TK) (a : Nat) : Nat → Option Nat := (bfs (sux T (some a) none none) (fst0 T) 1024).2
theorem DL_DU {T : TK} {m : Nat} : DL (DU T m) := by
  unfold DL DU
  exact dle_N
theorem DL_DB {T : TK} {m : Nat} : DL (DB T m) := by
  unfold DL DB
  exact dle_N
noncomputable def ndB (T : TK) (l m : Nat) : Bool := !((T 61 13).testBit m) && (fewN (DU T m) (64 * l) 64).isNone
noncomputable def nsN (T : TK) (l : Nat) : Nat → Nat
  | 0 => 0
  | m + 1 => nsN T l m ||| (if ndB T l m = true then 2 ^ m else 0)
theorem nsN_lt {T : TK} {l : Nat} : ∀ m, m ≤ 6 → nsN T l m < 64
  | 0, _ => by rw [nsN]; decide
  | m + 1, h1 => by
    rw [nsN]
    refine or_64 (nsN_lt m (by omega)) ?_
    split
    · have : 2 ^ m ≤ 2 ^ 5 := Nat.pow_le_pow_right (by decide) (by omega)
      omega
    · decide
def isLn (T : TK) (x : Int32) : Bool := inI x 0 15 && (T 61 1).testBit x.toInt.toNat
noncomputable def mrNeeds (T : TK) (x : Int32) : Int32 := if isLn T x = false then -1000001 else if fewN (DT T) (64 * x.toInt.toNat) 64 = none then -1 else nI (nsN T x.toInt.toNat 6)
def kthN (q : Nat → Bool) (j : Nat) : Nat → Option Nat
  | 0 => none
  | n + 1 => match kthN q j n with
    | some a => some a
    | none => if (q n && cntN q n == j) = true then some n else none
noncomputable def mstB (T : TK) (l a : Nat) : Bool := (fewN (DB T a) (64 * l) 64).isNone
noncomputable def mrMust (T : TK) (x i : Int32) : Int32 := if isLn T x = false then -1000001 else if i < 0 then -1000002 else if fewN (DT T) (64 * x.toInt.toNat) 64 = none then -1 else oI (kthN (mstB T x.toInt.toNat) i.toInt.toNat (T 61 0))
theorem fewN_le {D : Nat → Option Nat} (hD : DL D) {b n m : Nat} (hm : fewN D b n = some m) : m ≤ 1024 := by
  rw [fewN_om] at hm
  exact omN_le (fun k x _ hx => hD _ _ hx) hm
section M8
variable {g : GG} {M : AM} {T : TK} {D : Nat → Option Nat}
theorem m_use (hR : RM T M) (hB : RB T M) {x : Int32} : Call g qX11_use [.ref 61, .int x] M (RtS (mrUse T x) M) := by
  have h32 := rm_32 hR
  have hT := rm_wt hR
  have L : ∀ (a : Nat), a < T 61 0 → inI (nI a) 0 ((T 61 0 : Int) - 1) = true → ∀ (n k : Nat) (M1 : AM), k ≤ 64 → 64 < k + n → Sb scrM M M1 → RF (DT T) M1 → Ex g qX11_use (tm g qX11_use (RtS (mrUse T (nI a)) M)) 41 [some (.ref 61), some (.int (nI a)), some (.int (nI (usA T a))), some (.int (nI (cntN (fun k => (DT T (64 * T 62 a + k)).isSome && opn T a (64 * T 62 a + k) 0) k))), some (.int (nI (64 * T 62 a + k)))] [] M1 := by
    intro a ha hin n
    have hf16 := (wt_a hT ha).1
    induction n with
    | zero => intro k M1 h1 h2; exact absurd h2 (by omega)
    | succ n ih =>
      intro k M1 hk hn hS hF
      have hR1 := rm_sb hR hS (by decide)
      have hcl := cntN_le (fun k => (DT T (64 * T 62 a + k)).isSome && opn T a (64 * T 62 a + k) 0) k
      have hca := cntN_le (fun k => (DT T (64 * T 62 a + k)).isSome) 64
      have hus : usA T a ≤ 64 := hca
      refine E_iload dX11_use_41 rfl ?_
      refine E_bipush (v := nI 64) dX11_use_43 rfl ?_
      refine E_aload_n dX11_use_45 rfl ?_
      refine E_getR' (ci := 11) (j := 4) (p := 62) dX11_use_46 fkX11_7 rfl (by decide) rfl (by decide) (rfl) ?_
      refine E_iload_n dX11_use_49 rfl ?_
      refine E_ialdN dX11_use_50 rfl (by omega) (by decide) (rm_from hR1 ha) ?_
      refine E_imulN dX11_use_51 ?_
      refine E_bipush (v := nI 64) dX11_use_52 rfl ?_
      refine E_iaddN dX11_use_54 ?_
      refine E_icmp_geN (t := 93) dX11_use_55 (by decide) (by omega) (by omega) (fun c55 => ?_) (fun c55 => ?_)
      · skip
        have hk6 : k = 64 := by omega
        subst hk6
        have hun : usN T a = cntN (fun k => (DT T (64 * T 62 a + k)).isSome && opn T a (64 * T 62 a + k) 0) 64 := rfl
        refine E_iload_n dX11_use_93 rfl ?_
        refine E_if_neN (t := 101) dX11_use_94 (by decide) (by omega) (fun c94 => ?_) (fun c94 => ?_)
        · skip
          refine E_iload_n dX11_use_101 rfl ?_
          refine E_iload_n dX11_use_102 rfl ?_
          refine E_icmp_geN (t := 110) dX11_use_103 (by decide) (by omega) (by omega) (fun c103 => ?_) (fun c103 => ?_)
          · skip
            refine E_iconst (v := nI 2) dX11_use_110 rfl ?_
            refine E_iret dX11_use_111 rfl ?_
            exact ⟨by unfold mrUse; rw [if_neg (by rw [hin]; decide), nI_tn (by omega), hun]; first | (rw [if_pos c94]; done) | (rw [if_neg (by omega), if_pos c103]; done) | (rw [if_neg (by omega), if_neg (by omega)]; done), hS⟩
          · skip
            refine E_iconst (v := nI 1) dX11_use_106 rfl ?_
            refine E_goto (t := 111) dX11_use_107 (by decide) ?_
            refine E_iret dX11_use_111 rfl ?_
            exact ⟨by unfold mrUse; rw [if_neg (by rw [hin]; decide), nI_tn (by omega), hun]; first | (rw [if_pos c94]; done) | (rw [if_neg (by omega), if_pos c103]; done) | (rw [if_neg (by omega), if_neg (by omega)]; done), hS⟩
        · skip
          refine E_iconst (v := nI 0) dX11_use_97 rfl ?_
          refine E_goto (t := 111) dX11_use_98 (by decide) ?_
          refine E_iret dX11_use_111 rfl ?_
          exact ⟨by unfold mrUse; rw [if_neg (by rw [hin]; decide), nI_tn (by omega), hun]; first | (rw [if_pos c94]; done) | (rw [if_neg (by omega), if_pos c103]; done) | (rw [if_neg (by omega), if_neg (by omega)]; done), hS⟩
      · skip
        refine E_iload_n dX11_use_58 rfl ?_
        refine E_aload_n dX11_use_59 rfl ?_
        refine E_getR' (ci := 11) (j := 18) (p := 73) dX11_use_60 fkX11_44 rfl (by decide) rfl (by decide) (rfl) ?_
        refine E_iload dX11_use_63 rfl ?_
        refine E_ialdN dX11_use_65 rfl (by omega) (by decide) (hF _ (by omega)) ?_
        refine E_if_ltO (t := 84) dX11_use_66 (by decide) (fun d hd => by have := DL_DT _ d hd; omega) (fun c66 => ?_) (fun c66 => ?_)
        · skip
          have hs1 : cntN (fun k => (DT T (64 * T 62 a + k)).isSome && opn T a (64 * T 62 a + k) 0) (k + 1) = cntN (fun k => (DT T (64 * T 62 a + k)).isSome && opn T a (64 * T 62 a + k) 0) k + 0 := by rw [cntN, c66]; rfl
          refine E_iconst (v := nI 0) dX11_use_84 rfl ?_
          refine E_iaddN dX11_use_85 ?_
          refine E_ist_n (i := 3) dX11_use_86 rfl (by decide) rfl ?_
          refine E_iincN (b := 1) dX11_use_87 rfl rfl (by decide) rfl ?_
          refine E_goto (t := 41) dX11_use_90 (by decide) ?_
          have hnx := ih (k + 1) M1 (by omega) (by omega) hS hF
          rw [hs1] at hnx
          exact hnx
        · skip
          obtain ⟨d, hd⟩ := Option.ne_none_iff_exists'.mp c66
          refine E_aload_n dX11_use_69 rfl ?_
          refine E_iload_n dX11_use_70 rfl ?_
          refine E_iload dX11_use_71 rfl ?_
          refine E_iconst (v := -1) dX11_use_73 rfl ?_
          refine E_callV (r := qX11_isOpen) (ci := 11) dX11_use_74 mkX11_105 voX11_isOpen rfl rfl rfl ⟨Nat.le_of_ble_eq_true rfl, Nat.le_of_ble_eq_true rfl, Nat.le_of_ble_eq_true rfl, Nat.le_of_ble_eq_true rfl⟩ (m_isOpen0 hR1 ha (by omega)) rfl (Nat.le_of_ble_eq_true rfl) ?_
          rintro _ _ ⟨rfl, rfl⟩
          refine E_if_eqB (t := 84) dX11_use_77 (by decide) (fun c77 => ?_) (fun c77 => ?_)
          · skip
            have hs1 : cntN (fun k => (DT T (64 * T 62 a + k)).isSome && opn T a (64 * T 62 a + k) 0) (k + 1) = cntN (fun k => (DT T (64 * T 62 a + k)).isSome && opn T a (64 * T 62 a + k) 0) k + 0 := by rw [cntN, hd, c77]; rfl
            refine E_iconst (v := nI 0) dX11_use_84 rfl ?_
            refine E_iaddN dX11_use_85 ?_
            refine E_ist_n (i := 3) dX11_use_86 rfl (by decide) rfl ?_
            refine E_iincN (b := 1) dX11_use_87 rfl rfl (by decide) rfl ?_
            refine E_goto (t := 41) dX11_use_90 (by decide) ?_
            have hnx := ih (k + 1) M1 (by omega) (by omega) hS hF
            rw [hs1] at hnx
            exact hnx
          · skip
            have hs1 : cntN (fun k => (DT T (64 * T 62 a + k)).isSome && opn T a (64 * T 62 a + k) 0) (k + 1) = cntN (fun k => (DT T (64 * T 62 a + k)).isSome && opn T a (64 * T 62 a + k) 0) k + 1 := by rw [cntN, hd, c77]; rfl
            refine E_iconst (v := nI 1) dX11_use_80 rfl ?_
            refine E_goto (t := 85) dX11_use_81 (by decide) ?_
            refine E_iaddN dX11_use_85 ?_
            refine E_ist_n (i := 3) dX11_use_86 rfl (by decide) rfl ?_
            refine E_iincN (b := 1) dX11_use_87 rfl rfl (by decide) rfl ?_
            refine E_goto (t := 41) dX11_use_90 (by decide) ?_
            have hnx := ih (k + 1) M1 (by omega) (by omega) hS hF
            rw [hs1] at hnx
            exact hnx
  refine Call_of (ls0 := [some (.ref 61), some (.int x), none, none, none]) rfl rfl (Nat.le_of_ble_eq_true rfl) ?_
  refine E_aload_n dX11_use_0 rfl ?_
  refine E_iload_n dX11_use_1 rfl ?_
  refine E_callV (r := qX11_isAnswer) (ci := 11) dX11_use_2 mkX11_217 voX11_isAnswer rfl rfl rfl ⟨Nat.le_of_ble_eq_true rfl, Nat.le_of_ble_eq_true rfl, Nat.le_of_ble_eq_true rfl, Nat.le_of_ble_eq_true rfl⟩ (m_isAnswer hR) rfl (Nat.le_of_ble_eq_true rfl) ?_
  rintro _ _ ⟨rfl, rfl⟩
  refine E_if_neB (t := 11) dX11_use_5 (by decide) (fun c5 => ?_) (fun c5 => ?_)
  · skip
    obtain ⟨a, ha1, ha2, rfl, ha3⟩ := inI_nat c5 (by decide)
    have ha : a < T 61 0 := by omega
    have hf16 := (wt_a hT ha).1
    refine E_aload_n dX11_use_11 rfl ?_
    refine E_callV (r := qX11_reachesAll) (ci := 11) dX11_use_12 mkX11_255 voX11_reachesAll rfl rfl rfl ⟨Nat.le_of_ble_eq_true rfl, Nat.le_of_ble_eq_true rfl, Nat.le_of_ble_eq_true rfl, Nat.le_of_ble_eq_true rfl⟩ (m_reachesAll hR hB) rfl (Nat.le_of_ble_eq_true rfl) ?_
    rintro _ M1 ⟨rfl, hS1, hq1⟩
    have hR1 := rm_sb hR hS1 (by decide)
    refine E_pop dX11_use_15 rfl ?_
    refine E_aload_n dX11_use_16 rfl ?_
    refine E_aload_n dX11_use_17 rfl ?_
    refine E_getR' (ci := 11) (j := 4) (p := 62) dX11_use_18 fkX11_7 rfl (by decide) rfl (by decide) (rfl) ?_
    refine E_iload_n dX11_use_21 rfl ?_
    refine E_ialdN dX11_use_22 rfl (by omega) (by decide) (rm_from hR1 ha) ?_
    refine E_iconst (v := nI 0) dX11_use_23 rfl ?_
    refine E_callV (r := qX11_statesOf) (ci := 11) dX11_use_24 mkX11_261 voX11_statesOf rfl rfl rfl ⟨Nat.le_of_ble_eq_true rfl, Nat.le_of_ble_eq_true rfl, Nat.le_of_ble_eq_true rfl, Nat.le_of_ble_eq_true rfl⟩ (m_statesOf (w := 0) (E := fun _ => false) hR1 hq1 DL_DT (fun e => by cases e) hf16 (by decide)) rfl (Nat.le_of_ble_eq_true rfl) ?_
    rintro _ _ ⟨rfl, rfl⟩
    refine E_top (show _ = nI (usA T a) from congrArg nI (cntN_cong (fun k _ => by simp [st3]))) ?_
    refine E_ist_n (i := 2) dX11_use_27 rfl (by decide) rfl ?_
    refine E_iconst (v := nI 0) dX11_use_28 rfl ?_
    refine E_ist_n (i := 3) dX11_use_29 rfl (by decide) rfl ?_
    refine E_bipush (v := nI 64) dX11_use_30 rfl ?_
    refine E_aload_n dX11_use_32 rfl ?_
    refine E_getR' (ci := 11) (j := 4) (p := 62) dX11_use_33 fkX11_7 rfl (by decide) rfl (by decide) (rfl) ?_
    refine E_iload_n dX11_use_36 rfl ?_
    refine E_ialdN dX11_use_37 rfl (by omega) (by decide) (rm_from hR1 ha) ?_
    refine E_imulN dX11_use_38 ?_
    refine E_istore dX11_use_39 (by decide) rfl ?_
    exact L a ha c5 65 0 M1 (by omega) (by omega) (hS1.scr (by decide)) hq1
  · skip
    refine E_ldc dX11_use_8 ckX11_214 ?_
    refine E_iret dX11_use_10 rfl ?_
    exact ⟨by unfold mrUse; rw [if_pos c5], Sb.rf⟩
theorem m_needs (hR : RM T M) (hB : RB T M) {x : Int32} : Call g qX11_needs [.ref 61, .int x] M (RtS (mrNeeds T x) M) := by
  have hT := rm_wt hR
  have h9 : ∀ (K m : Nat), (none : Option Nat) = some m → m < K := fun _ _ e => by cases e
  have L : ∀ (l : Nat), l < 16 → isLn T (nI l) = true → ¬ fewN (DT T) (64 * l) 64 = none → ∀ (n m : Nat) (M1 : AM), m ≤ 6 → 6 < m + n → Sb scrM M M1 → Ex g qX11_needs (tm g qX11_needs (RtS (mrNeeds T (nI l)) M)) 30 [some (.ref 61), some (.int (nI l)), some (.int (nI (nsN T l m))), some (.int (nI m))] [] M1 := by
    intro l hl hil hfe n
    induction n with
    | zero => intro m M1 h1 h2; exact absurd h2 (by omega)
    | succ n ih =>
      intro m M1 hm hn hS
      have hR1 := rm_sb hR hS (by decide)
      have hB1 : RB T M1 := ⟨by rw [(hS 61 (by decide)).1]; exact hB.1, hB.2⟩
      refine E_iload_n dX11_needs_30 rfl ?_
      refine E_bipush (v := nI 6) dX11_needs_31 rfl ?_
      refine E_icmp_geN (t := 83) dX11_needs_33 (by decide) (by omega) (by omega) (fun c33 => ?_) (fun c33 => ?_)
      · skip
        refine E_iload_n dX11_needs_83 rfl ?_
        refine E_iret dX11_needs_84 rfl ?_
        exact ⟨by unfold mrNeeds; rw [if_neg (by rw [hil]; decide), nI_tn (by omega), if_neg hfe, show m = 6 by omega], hS⟩
      · skip
        refine E_aload_n dX11_needs_36 rfl ?_
        refine E_aload_n dX11_needs_37 rfl ?_
        refine E_callV (r := qX11_first) (ci := 11) dX11_needs_38 mkX11_118 voX11_first rfl rfl rfl ⟨Nat.le_of_ble_eq_true rfl, Nat.le_of_ble_eq_true rfl, Nat.le_of_ble_eq_true rfl, Nat.le_of_ble_eq_true rfl⟩ (m_first hR1 hB1) rfl (Nat.le_of_ble_eq_true rfl) ?_
        rintro _ _ ⟨rfl, rfl⟩
        refine E_iconst (v := -1) dX11_needs_41 rfl ?_
        refine E_iload_n dX11_needs_42 rfl ?_
        refine E_iconst (v := -1) dX11_needs_43 rfl ?_
        refine E_callV (r := qX11_reaches) (ci := 11) dX11_needs_44 mkX11_122 voX11_reaches rfl rfl rfl ⟨Nat.le_of_ble_eq_true rfl, Nat.le_of_ble_eq_true rfl, Nat.le_of_ble_eq_true rfl, Nat.le_of_ble_eq_true rfl⟩ (m_reaches (but := none) (un := some m) (w := none) hR1 (fst0_lt hT hB.2) (h9 _) (fun i e => by cases e; omega) (h9 _)) rfl (Nat.le_of_ble_eq_true rfl) ?_
        rintro _ M2 ⟨rfl, hS2, hq2⟩
        have hq2 : RF (DU T m) M2 := by unfold RF DU; exact hq2
        have hS3 : Sb scrM M M2 := hS.tr (hS2.scr (by decide))
        refine E_pop dX11_needs_47 rfl ?_
        refine E_iload_n dX11_needs_48 rfl ?_
        refine E_aload_n dX11_needs_49 rfl ?_
        refine E_getI' (ci := 11) (j := 13) dX11_needs_50 fkX11_115 rfl (by decide) rfl (by decide) ((congrFun (hS3 61 (by decide)).1 13).trans hB.1) ?_
        refine E_iload_n dX11_needs_53 rfl ?_
        refine E_callS (r := qX11_has) dX11_needs_54 mkX11_94 toX11_has rfl ⟨Nat.le_of_ble_eq_true rfl, Nat.le_of_ble_eq_true rfl, Nat.le_of_ble_eq_true rfl, Nat.le_of_ble_eq_true rfl⟩ (m_has (by omega)) rfl (Nat.le_of_ble_eq_true rfl) ?_
        rintro _ _ ⟨rfl, rfl⟩
        refine E_if_neB (t := 74) dX11_needs_57 (by decide) (fun c57 => ?_) (fun c57 => ?_)
        · skip
          have hv : ndB T l m = false := by unfold ndB; rw [c57]; rfl
          refine E_iconst (v := nI 0) dX11_needs_74 rfl ?_
          refine E_iorN dX11_needs_75 ?_
          refine E_ist_n (i := 2) dX11_needs_76 rfl (by decide) rfl ?_
          refine E_iincN (b := 1) dX11_needs_77 rfl rfl (by decide) rfl ?_
          refine E_goto (t := 30) dX11_needs_80 (by decide) ?_
          have hnx := ih (m + 1) M2 (by omega) (by omega) hS3
          rw [nsN, hv] at hnx
          first | (rw [if_pos rfl, ← Nat.one_mul (2 ^ m)] at hnx; exact hnx) | (rw [if_neg (by decide)] at hnx; exact hnx)
        · skip
          refine E_aload_n dX11_needs_60 rfl ?_
          refine E_iload_n dX11_needs_61 rfl ?_
          refine E_callV (r := qX11_fewest) (ci := 11) dX11_needs_62 mkX11_271 voX11_fewest rfl rfl rfl ⟨Nat.le_of_ble_eq_true rfl, Nat.le_of_ble_eq_true rfl, Nat.le_of_ble_eq_true rfl, Nat.le_of_ble_eq_true rfl⟩ (m_fewest hq2 DL_DU hl) rfl (Nat.le_of_ble_eq_true rfl) ?_
          rintro _ _ ⟨rfl, rfl⟩
          refine E_if_geO (t := 74) dX11_needs_65 (by decide) (fun d hd => by have := fewN_le DL_DU hd; omega) (fun c65 => ?_) (fun c65 => ?_)
          · skip
            have hv : ndB T l m = false := by unfold ndB; cases hh : fewN (DU T m) (64 * l) 64 with | none => exact absurd hh c65 | some d => simp
            refine E_iconst (v := nI 0) dX11_needs_74 rfl ?_
            refine E_iorN dX11_needs_75 ?_
            refine E_ist_n (i := 2) dX11_needs_76 rfl (by decide) rfl ?_
            refine E_iincN (b := 1) dX11_needs_77 rfl rfl (by decide) rfl ?_
            refine E_goto (t := 30) dX11_needs_80 (by decide) ?_
            have hnx := ih (m + 1) M2 (by omega) (by omega) hS3
            rw [nsN, hv] at hnx
            first | (rw [if_pos rfl, ← Nat.one_mul (2 ^ m)] at hnx; exact hnx) | (rw [if_neg (by decide)] at hnx; exact hnx)
          · skip
            have hv : ndB T l m = true := by unfold ndB; rw [c57, c65]; rfl
            refine E_iconst (v := nI 1) dX11_needs_68 rfl ?_
            refine E_iload_n dX11_needs_69 rfl ?_
            refine E_ishlN dX11_needs_70 (by omega) (by have h8 : 2 ^ m ≤ 2 ^ 5 := Nat.pow_le_pow_right (by decide) (by omega); omega) ?_
            refine E_goto (t := 75) dX11_needs_71 (by decide) ?_
            refine E_iorN dX11_needs_75 ?_
            refine E_ist_n (i := 2) dX11_needs_76 rfl (by decide) rfl ?_
            refine E_iincN (b := 1) dX11_needs_77 rfl rfl (by decide) rfl ?_
            refine E_goto (t := 30) dX11_needs_80 (by decide) ?_
            have hnx := ih (m + 1) M2 (by omega) (by omega) hS3
            rw [nsN, hv] at hnx
            first | (rw [if_pos rfl, ← Nat.one_mul (2 ^ m)] at hnx; exact hnx) | (rw [if_neg (by decide)] at hnx; exact hnx)
  refine Call_of (ls0 := [some (.ref 61), some (.int x), none, none]) rfl rfl (Nat.le_of_ble_eq_true rfl) ?_
  refine E_aload_n dX11_needs_0 rfl ?_
  refine E_iload_n dX11_needs_1 rfl ?_
  refine E_callV (r := qX11_isLine) (ci := 11) dX11_needs_2 mkX11_250 voX11_isLine rfl rfl rfl ⟨Nat.le_of_ble_eq_true rfl, Nat.le_of_ble_eq_true rfl, Nat.le_of_ble_eq_true rfl, Nat.le_of_ble_eq_true rfl⟩ (m_isLine hR) rfl (Nat.le_of_ble_eq_true rfl) ?_
  rintro _ _ ⟨rfl, rfl⟩
  refine E_if_neB (t := 11) dX11_needs_5 (by decide) (fun c5 => ?_) (fun c5 => ?_)
  · skip
    have h5 := c5
    rw [Bool.and_eq_true] at h5
    obtain ⟨l, hl1, hl2, rfl, hl3⟩ := inI_nat h5.1 (by decide)
    refine E_aload_n dX11_needs_11 rfl ?_
    refine E_callV (r := qX11_reachesAll) (ci := 11) dX11_needs_12 mkX11_255 voX11_reachesAll rfl rfl rfl ⟨Nat.le_of_ble_eq_true rfl, Nat.le_of_ble_eq_true rfl, Nat.le_of_ble_eq_true rfl, Nat.le_of_ble_eq_true rfl⟩ (m_reachesAll hR hB) rfl (Nat.le_of_ble_eq_true rfl) ?_
    rintro _ M1 ⟨rfl, hS1, hq1⟩
    refine E_pop dX11_needs_15 rfl ?_
    refine E_aload_n dX11_needs_16 rfl ?_
    refine E_iload_n dX11_needs_17 rfl ?_
    refine E_callV (r := qX11_fewest) (ci := 11) dX11_needs_18 mkX11_271 voX11_fewest rfl rfl rfl ⟨Nat.le_of_ble_eq_true rfl, Nat.le_of_ble_eq_true rfl, Nat.le_of_ble_eq_true rfl, Nat.le_of_ble_eq_true rfl⟩ (m_fewest hq1 DL_DT (l := l) (by omega)) rfl (Nat.le_of_ble_eq_true rfl) ?_
    rintro _ _ ⟨rfl, rfl⟩
    refine E_if_geO (t := 26) dX11_needs_21 (by decide) (fun d hd => by have := fewN_le DL_DT hd; omega) (fun c21 => ?_) (fun c21 => ?_)
    · skip
      refine E_iconst (v := nI 0) dX11_needs_26 rfl ?_
      refine E_ist_n (i := 2) dX11_needs_27 rfl (by decide) rfl ?_
      refine E_iconst (v := nI 0) dX11_needs_28 rfl ?_
      refine E_ist_n (i := 3) dX11_needs_29 rfl (by decide) rfl ?_
      exact L l (by omega) c5 c21 7 0 M1 (by omega) (by omega) (hS1.scr (by decide))
    · skip
      refine E_iconst (v := -1) dX11_needs_24 rfl ?_
      refine E_iret dX11_needs_25 rfl ?_
      exact ⟨by unfold mrNeeds; rw [if_neg (show ¬ isLn T (nI l) = false by unfold isLn; rw [c5]; decide), nI_tn hl3, if_pos c21], hS1.scr (by decide)⟩
  · skip
    refine E_ldc dX11_needs_8 ckX11_214 ?_
    refine E_iret dX11_needs_10 rfl ?_
    exact ⟨by unfold mrNeeds; rw [if_pos (show isLn T x = false from c5)], Sb.rf⟩
theorem m_must (hR : RM T M) (hB : RB T M) {x i : Int32} : Call g qX11_must [.ref 61, .int x, .int i] M (RtS (mrMust T x i) M) := by
  have hT := rm_wt hR
  have h32 := rm_32 hR
  have h9 : ∀ (K m : Nat), (none : Option Nat) = some m → m < K := fun _ _ e => by cases e
  have L : ∀ (l j : Nat), l < 16 → j < 2 ^ 31 → isLn T (nI l) = true → ¬ fewN (DT T) (64 * l) 64 = none → ∀ (n a : Nat) (M1 : AM), a ≤ T 61 0 → T 61 0 < a + n → cntN (mstB T l) a ≤ j → kthN (mstB T l) j a = none → Sb scrM M M1 → Ex g qX11_must (tm g qX11_must (RtS (mrMust T (nI l) (nI j)) M)) 38 [some (.ref 61), some (.int (nI l)), some (.int (nI j)), some (.int (nI (j - cntN (mstB T l) a))), some (.int (nI a))] [] M1 := by
    intro l j hl hj hil hfe n
    have hval : mrMust T (nI l) (nI j) = oI (kthN (mstB T l) j (T 61 0)) := by
      unfold mrMust
      rw [if_neg (by rw [hil]; decide), if_neg (nI_pos hj), nI_tn (by omega), if_neg hfe, nI_tn hj]
    induction n with
    | zero => intro a M1 h1 h2; exact absurd h2 (by omega)
    | succ n ih =>
      intro a M1 ha hn hcj hk0 hS
      have hR1 := rm_sb hR hS (by decide)
      have hB1 : RB T M1 := ⟨by rw [(hS 61 (by decide)).1]; exact hB.1, hB.2⟩
      refine E_iload dX11_must_38 rfl ?_
      refine E_aload_n dX11_must_40 rfl ?_
      refine E_getI' (ci := 11) (j := 0) dX11_must_41 fkX11_85 rfl (by decide) rfl (by decide) (rm_many hR1) ?_
      refine E_icmp_geN (t := 84) dX11_must_44 (by decide) (by omega) (by omega) (fun c44 => ?_) (fun c44 => ?_)
      · skip
        refine E_iconst (v := -1) dX11_must_84 rfl ?_
        refine E_iret dX11_must_85 rfl ?_
        exact ⟨by rw [hval, show T 61 0 = a by omega, hk0]; rfl, hS⟩
      · skip
        refine E_aload_n dX11_must_47 rfl ?_
        refine E_aload_n dX11_must_48 rfl ?_
        refine E_callV (r := qX11_first) (ci := 11) dX11_must_49 mkX11_118 voX11_first rfl rfl rfl ⟨Nat.le_of_ble_eq_true rfl, Nat.le_of_ble_eq_true rfl, Nat.le_of_ble_eq_true rfl, Nat.le_of_ble_eq_true rfl⟩ (m_first hR1 hB1) rfl (Nat.le_of_ble_eq_true rfl) ?_
        rintro _ _ ⟨rfl, rfl⟩
        refine E_iload dX11_must_52 rfl ?_
        refine E_iconst (v := -1) dX11_must_54 rfl ?_
        refine E_iconst (v := -1) dX11_must_55 rfl ?_
        refine E_callV (r := qX11_reaches) (ci := 11) dX11_must_56 mkX11_122 voX11_reaches rfl rfl rfl ⟨Nat.le_of_ble_eq_true rfl, Nat.le_of_ble_eq_true rfl, Nat.le_of_ble_eq_true rfl, Nat.le_of_ble_eq_true rfl⟩ (m_reaches (but := some a) (un := none) (w := none) hR1 (fst0_lt hT hB.2) (fun i e => by cases e; omega) (h9 _) (h9 _)) rfl (Nat.le_of_ble_eq_true rfl) ?_
        rintro _ M2 ⟨rfl, hS2, hq2⟩
        have hq2 : RF (DB T a) M2 := by unfold RF DB; exact hq2
        have hS3 : Sb scrM M M2 := hS.tr (hS2.scr (by decide))
        refine E_pop dX11_must_59 rfl ?_
        refine E_aload_n dX11_must_60 rfl ?_
        refine E_iload_n dX11_must_61 rfl ?_
        refine E_callV (r := qX11_fewest) (ci := 11) dX11_must_62 mkX11_271 voX11_fewest rfl rfl rfl ⟨Nat.le_of_ble_eq_true rfl, Nat.le_of_ble_eq_true rfl, Nat.le_of_ble_eq_true rfl, Nat.le_of_ble_eq_true rfl⟩ (m_fewest hq2 DL_DB hl) rfl (Nat.le_of_ble_eq_true rfl) ?_
        rintro _ _ ⟨rfl, rfl⟩
        refine E_if_geO (t := 78) dX11_must_65 (by decide) (fun d hd => by have := fewN_le DL_DB hd; omega) (fun c65 => ?_) (fun c65 => ?_)
        · skip
          have hv : mstB T l a = false := by unfold mstB; cases hh : fewN (DB T a) (64 * l) 64 with | none => exact absurd hh c65 | some d => rfl
          have hc1 : cntN (mstB T l) (a + 1) = cntN (mstB T l) a := by rw [cntN, hv]; rfl
          have hk1 : kthN (mstB T l) j (a + 1) = none := by rw [kthN, hk0]; show (if (mstB T l a && cntN (mstB T l) a == j) = true then some a else none) = _; rw [if_neg (by rw [hv]; simp)]
          refine E_iincN (b := 1) dX11_must_78 rfl rfl (by decide) rfl ?_
          refine E_goto (t := 38) dX11_must_81 (by decide) ?_
          have hnx := ih (a + 1) M2 (by omega) (by omega) (by omega) hk1 hS3
          rw [hc1] at hnx
          exact hnx
        · skip
          have hv : mstB T l a = true := by unfold mstB; rw [c65]; rfl
          refine E_iload_n dX11_must_68 rfl ?_
          refine E_if_neN (t := 75) dX11_must_69 (by decide) (by omega) (fun c69 => ?_) (fun c69 => ?_)
          · skip
            have hc1 : cntN (mstB T l) (a + 1) = cntN (mstB T l) a + 1 := by rw [cntN, hv]; rfl
            have hk1 : kthN (mstB T l) j (a + 1) = none := by rw [kthN, hk0]; show (if (mstB T l a && cntN (mstB T l) a == j) = true then some a else none) = _; rw [if_neg (by rw [hv]; simp; omega)]
            refine E_idecN dX11_must_75 rfl rfl (by omega) (by decide) rfl ?_
            refine E_iincN (b := 1) dX11_must_78 rfl rfl (by decide) rfl ?_
            refine E_goto (t := 38) dX11_must_81 (by decide) ?_
            have hnx := ih (a + 1) M2 (by omega) (by omega) (by omega) hk1 hS3
            rw [hc1] at hnx
            exact hnx
          · skip
            have hkk : kthN (mstB T l) j (a + 1) = some a := by rw [kthN, hk0]; show (if (mstB T l a && cntN (mstB T l) a == j) = true then some a else none) = _; rw [if_pos (by rw [hv]; simp; omega)]
            have hst : ∀ d, kthN (mstB T l) j (a + 1 + d) = some a := fun d => by induction d with | zero => exact hkk | succ d ihd => rw [show a + 1 + (d + 1) = (a + 1 + d) + 1 by omega, kthN, ihd]
            refine E_iload dX11_must_72 rfl ?_
            refine E_iret dX11_must_74 rfl ?_
            exact ⟨by rw [hval, show T 61 0 = a + 1 + (T 61 0 - (a + 1)) by omega, hst]; rfl, hS3⟩
  refine Call_of (ls0 := [some (.ref 61), some (.int x), some (.int i), none, none]) rfl rfl (Nat.le_of_ble_eq_true rfl) ?_
  refine E_aload_n dX11_must_0 rfl ?_
  refine E_iload_n dX11_must_1 rfl ?_
  refine E_callV (r := qX11_isLine) (ci := 11) dX11_must_2 mkX11_250 voX11_isLine rfl rfl rfl ⟨Nat.le_of_ble_eq_true rfl, Nat.le_of_ble_eq_true rfl, Nat.le_of_ble_eq_true rfl, Nat.le_of_ble_eq_true rfl⟩ (m_isLine hR) rfl (Nat.le_of_ble_eq_true rfl) ?_
  rintro _ _ ⟨rfl, rfl⟩
  refine E_if_neB (t := 11) dX11_must_5 (by decide) (fun c5 => ?_) (fun c5 => ?_)
  · skip
    have h5 := c5
    rw [Bool.and_eq_true] at h5
    obtain ⟨l, hl1, hl2, rfl, hl3⟩ := inI_nat h5.1 (by decide)
    refine E_iload_n dX11_must_11 rfl ?_
    refine E_if_ge (t := 18) dX11_must_12 (by decide) (fun c12 => ?_) (fun c12 => ?_)
    · skip
      obtain ⟨j, hj, rfl⟩ := nI_of (x := i) (fun e => absurd c12 (Int32.not_le.mpr e))
      refine E_aload_n dX11_must_18 rfl ?_
      refine E_callV (r := qX11_reachesAll) (ci := 11) dX11_must_19 mkX11_255 voX11_reachesAll rfl rfl rfl ⟨Nat.le_of_ble_eq_true rfl, Nat.le_of_ble_eq_true rfl, Nat.le_of_ble_eq_true rfl, Nat.le_of_ble_eq_true rfl⟩ (m_reachesAll hR hB) rfl (Nat.le_of_ble_eq_true rfl) ?_
      rintro _ M1 ⟨rfl, hS1, hq1⟩
      refine E_pop dX11_must_22 rfl ?_
      refine E_aload_n dX11_must_23 rfl ?_
      refine E_iload_n dX11_must_24 rfl ?_
      refine E_callV (r := qX11_fewest) (ci := 11) dX11_must_25 mkX11_271 voX11_fewest rfl rfl rfl ⟨Nat.le_of_ble_eq_true rfl, Nat.le_of_ble_eq_true rfl, Nat.le_of_ble_eq_true rfl, Nat.le_of_ble_eq_true rfl⟩ (m_fewest hq1 DL_DT (l := l) (by omega)) rfl (Nat.le_of_ble_eq_true rfl) ?_
      rintro _ _ ⟨rfl, rfl⟩
      refine E_if_geO (t := 33) dX11_must_28 (by decide) (fun d hd => by have := fewN_le DL_DT hd; omega) (fun c28 => ?_) (fun c28 => ?_)
      · skip
        refine E_iload_n dX11_must_33 rfl ?_
        refine E_ist_n (i := 3) dX11_must_34 rfl (by decide) rfl ?_
        refine E_iconst (v := nI 0) dX11_must_35 rfl ?_
        refine E_istore dX11_must_36 (by decide) rfl ?_
        exact L l j (by omega) hj c5 c28 (T 61 0 + 1) 0 M1 (by omega) (by omega) (Nat.zero_le _) rfl (hS1.scr (by decide))
      · skip
        refine E_iconst (v := -1) dX11_must_31 rfl ?_
        refine E_iret dX11_must_32 rfl ?_
        exact ⟨by unfold mrMust; rw [if_neg (show ¬ isLn T (nI l) = false by unfold isLn; rw [c5]; decide), if_neg (nI_pos hj), nI_tn hl3, if_pos c28], hS1.scr (by decide)⟩
    · skip
      refine E_ldc dX11_must_15 ckX11_131 ?_
      refine E_iret dX11_must_17 rfl ?_
      exact ⟨by unfold mrMust; rw [if_neg (show ¬ isLn T (nI l) = false by unfold isLn; rw [c5]; decide), if_pos (Int32.not_le.mp c12)], Sb.rf⟩
  · skip
    refine E_ldc dX11_must_8 ckX11_214 ?_
    refine E_iret dX11_must_10 rfl ?_
    exact ⟨by unfold mrMust; rw [if_pos (show isLn T x = false from c5)], Sb.rf⟩
end M8
