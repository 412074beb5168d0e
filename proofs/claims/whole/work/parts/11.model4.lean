-- the model: small methods over a talk and a search
def RB (T : TK) (M : AM) : Prop := M.1 61 13 = nI (T 61 13) ∧ T 61 13 < 64
def RS (T : TK) (M : AM) : Prop := M.1 61 15 = nI (T 61 15) ∧ T 61 15 ≤ 60 ∧ ∀ k, k < T 61 15 → M.1 71 k = nI (T 71 k) ∧ T 71 k < T 61 0
def RF (D : Nat → Option Nat) (M : AM) : Prop := ∀ t, t < 1024 → M.1 73 t = oI (D t)
def DL (D : Nat → Option Nat) : Prop := ∀ t d, D t = some d → d ≤ 1024
def RZ (k : Nat) (E : Nat → Bool) (M : AM) : Prop := ∀ t, t < 1024 → M.1 k t = bI (E t)
def fst0 (T : TK) : Nat := 64 * T 61 3 + T 61 13
abbrev sx0 (T : TK) : Nat → List Nat := sux T none none none
noncomputable def DT (T : TK) : Nat → Option Nat := (bfs (sx0 T) (fst0 T) 1024).2
noncomputable def LTn (T : TK) : Nat := (bfs (sx0 T) (fst0 T) 1024).1.length
def cntN (f : Nat → Bool) : Nat → Nat
  | 0 => 0
  | n + 1 => cntN f n + (f n).toNat
theorem cntN_le (f : Nat → Bool) : ∀ n, cntN f n ≤ n
  | 0 => Nat.le_refl 0
  | n + 1 => by
    have := cntN_le f n
    have h2 : (f n).toNat ≤ 1 := Bool.toNat_le _
    rw [cntN]; omega
def omin (x y : Option Nat) : Option Nat := match y with
  | none => x
  | some d => match x with
    | none => some d
    | some e => if d < e then some d else some e
def fewN (D : Nat → Option Nat) (b : Nat) : Nat → Option Nat
  | 0 => none
  | n + 1 => omin (fewN D b n) (D (b + n))
def herN (T : TK) : Nat → Nat
  | 0 => fst0 T
  | n + 1 => nxt T (T 71 n) (herN T n)
def inI (x : Int32) (lo hi : Int) : Bool := decide (lo ≤ x.toInt ∧ x.toInt ≤ hi)
theorem inI_nat {x : Int32} {lo hi : Int} (h1 : inI x lo hi = true) (h0 : 0 ≤ lo) : ∃ j : Nat, lo ≤ (j : Int) ∧ (j : Int) ≤ hi ∧ x = nI j ∧ j < 2 ^ 31 := by
  have h2 := of_decide_eq_true h1
  obtain ⟨j, hj, rfl⟩ := nI_of (x := x) (fun hx => by
    have := Int32.lt_iff_toInt_lt.mp hx
    rw [Int32.toInt_zero] at this
    omega)
  rw [nI_toInt hj] at h2
  exact ⟨j, h2.1, h2.2, rfl, hj⟩
theorem inI_of {j : Nat} (hj : j < 2 ^ 31) (lo hi : Int) : inI (nI j) lo hi = decide (lo ≤ (j : Int) ∧ (j : Int) ≤ hi) := by unfold inI; rw [nI_toInt hj]
theorem fst0_lt {T : TK} (hT : WT T) (hB : T 61 13 < 64) : fst0 T < 1024 := by
  have := hT.2.2.2.1
  unfold fst0
  omega
theorem herN_lt {T : TK} {M : AM} (hR : RM T M) (hB : RB T M) (hS : RS T M) : ∀ n, n ≤ T 61 15 → herN T n < 1024
  | 0, _ => fst0_lt (rm_wt hR) hB.2
  | n + 1, h1 => nxt_lt (rm_wt hR) (hS.2.2 n (by omega)).2
section M4
variable {g : GG} {M : AM} {T : TK} {D : Nat → Option Nat} {E : Nat → Bool}
theorem m_inI {x : Int32} {l h : Int64} : Call g qX11_in [.long x.toInt64, .long l, .long h] M (Rt (bI (inI x l.toInt h.toInt)) M) := by
  have e1 : decide (l ≤ x.toInt64 ∧ x.toInt64 ≤ h) = inI x l.toInt h.toInt := by
    unfold inI
    apply decide_eq_decide.mpr
    rw [Int64.le_iff_toInt_le, Int64.le_iff_toInt_le, Int32.toInt_toInt64]
  rw [← e1]
  exact m_in
theorem m_isOpen0 (hR : RM T M) {a s : Nat} (ha : a < T 61 0) (hs : s < 1024) : Call g qX11_isOpen [.ref 61, .int (nI a), .int (nI s), .int (-1)] M (Rt (bI (opn T a s 0)) M) := m_isOpen hR (w := none) ha hs (fun _ e => by cases e)
theorem m_first (hR : RM T M) (hB : RB T M) : Call g qX11_first [.ref 61] M (Rt (nI (fst0 T)) M) := by
  refine Call_of (ls0 := [some (.ref 61)]) rfl rfl (Nat.le_of_ble_eq_true rfl) ?_
  refine E_bipush (v := nI 64) dX11_first_0 rfl ?_
  refine E_aload_n dX11_first_2 rfl ?_
  refine E_getI' (ci := 11) (j := 3) dX11_first_3 fkX11_112 rfl (by decide) rfl (by decide) (rm_start hR) ?_
  refine E_imulN dX11_first_6 ?_
  refine E_aload_n dX11_first_7 rfl ?_
  refine E_getI' (ci := 11) (j := 13) dX11_first_8 fkX11_115 rfl (by decide) rfl (by decide) (hB.1) ?_
  refine E_iaddN dX11_first_11 ?_
  refine E_iret dX11_first_12 rfl ?_
  exact Rt_n rfl
theorem m_reachesAll (hR : RM T M) (hB : RB T M) : Call g qX11_reachesAll [.ref 61] M (fun v M' => v = some (.int (nI (LTn T))) ∧ Sb [73, 74] M M' ∧ RF (DT T) M') := by
  have h9 : ∀ (K m : Nat), (none : Option Nat) = some m → m < K := fun _ _ e => by cases e
  refine Call_of (ls0 := [some (.ref 61)]) rfl rfl (Nat.le_of_ble_eq_true rfl) ?_
  refine E_aload_n dX11_reachesAll_0 rfl ?_
  refine E_aload_n dX11_reachesAll_1 rfl ?_
  refine E_callV (r := qX11_first) (ci := 11) dX11_reachesAll_2 mkX11_118 voX11_first rfl rfl rfl ⟨Nat.le_of_ble_eq_true rfl, Nat.le_of_ble_eq_true rfl, Nat.le_of_ble_eq_true rfl, Nat.le_of_ble_eq_true rfl⟩ (m_first hR hB) rfl (Nat.le_of_ble_eq_true rfl) ?_
  rintro _ _ ⟨rfl, rfl⟩
  refine E_iconst (v := -1) dX11_reachesAll_5 rfl ?_
  refine E_iconst (v := -1) dX11_reachesAll_6 rfl ?_
  refine E_iconst (v := -1) dX11_reachesAll_7 rfl ?_
  refine E_callV (r := qX11_reaches) (ci := 11) dX11_reachesAll_8 mkX11_122 voX11_reaches rfl rfl rfl ⟨Nat.le_of_ble_eq_true rfl, Nat.le_of_ble_eq_true rfl, Nat.le_of_ble_eq_true rfl, Nat.le_of_ble_eq_true rfl⟩ (m_reaches (but := none) (un := none) (w := none) hR (fst0_lt (rm_wt hR) hB.2) (h9 _) (h9 _) (h9 _)) rfl (Nat.le_of_ble_eq_true rfl) ?_
  rintro _ M1 ⟨rfl, hS, hq⟩
  refine E_iret dX11_reachesAll_11 rfl ?_
  exact ⟨by unfold LTn; rfl, hS, by unfold RF DT; exact hq⟩
theorem m_fewest (hF : RF D M) (hD : DL D) {l : Nat} (hl : l < 16) : Call g qX11_fewest [.ref 61, .int (nI l)] M (Rt (oI (fewN D (64 * l) 64)) M) := by
  have hfd : ∀ n d, fewN D (64 * l) n = some d → d ≤ 1024 := by
    intro n
    induction n with
    | zero => intro d e; cases e
    | succ n ih =>
      intro d e
      rw [fewN] at e
      unfold omin at e
      split at e
      · exact ih d e
      · rename_i d1 hd1
        split at e
        · cases e; exact hD _ _ hd1
        · rename_i e1 he1
          split at e
          · cases e; exact hD _ _ hd1
          · cases e; exact ih _ he1
  have L : ∀ (n k : Nat), k ≤ 64 → 64 < k + n → Ex g qX11_fewest (tm g qX11_fewest (Rt (oI (fewN D (64 * l) 64)) M)) 7 [some (.ref 61), some (.int (nI l)), some (.int (oI (fewN D (64 * l) k))), some (.int (nI (64 * l + k)))] [] M := by
    intro n
    induction n with
    | zero => intro k h1 h2; exact absurd h2 (by omega)
    | succ n ih =>
      intro k hk hn
      have hfk := hfd k
      have hdk := hD (64 * l + k)
      refine E_iload_n dX11_fewest_7 rfl ?_
      refine E_bipush (v := nI 64) dX11_fewest_8 rfl ?_
      refine E_iload_n dX11_fewest_10 rfl ?_
      refine E_imulN dX11_fewest_11 ?_
      refine E_bipush (v := nI 64) dX11_fewest_12 rfl ?_
      refine E_iaddN dX11_fewest_14 ?_
      refine E_icmp_geN (t := 58) dX11_fewest_15 (by decide) (by omega) (by omega) (fun c15 => ?_) (fun c15 => ?_)
      · skip
        refine E_iload_n dX11_fewest_58 rfl ?_
        refine E_iret dX11_fewest_59 rfl ?_
        exact Rt_o (by rw [show k = 64 by omega])
      · skip
        refine E_aload_n dX11_fewest_18 rfl ?_
        refine E_getR' (ci := 11) (j := 18) (p := 73) dX11_fewest_19 fkX11_44 rfl (by decide) rfl (by decide) (rfl) ?_
        refine E_iload_n dX11_fewest_22 rfl ?_
        refine E_ialdN dX11_fewest_23 rfl (by omega) (by decide) (hF _ (by omega)) ?_
        refine E_if_ltO (t := 50) dX11_fewest_24 (by decide) (fun d hd => by have := hdk d hd; omega) (fun c24 => ?_) (fun c24 => ?_)
        · skip
          have hs1 : fewN D (64 * l) (k + 1) = fewN D (64 * l) k := by rw [fewN, c24]; rfl
          refine E_iload_n dX11_fewest_50 rfl ?_
          refine E_ist_n (i := 2) dX11_fewest_51 rfl (by decide) rfl ?_
          refine E_iincN (b := 1) dX11_fewest_52 rfl rfl (by decide) rfl ?_
          refine E_goto (t := 7) dX11_fewest_55 (by decide) ?_
          have := ih (k + 1) (by omega) (by omega)
          rw [hs1] at this
          exact this
        · skip
          obtain ⟨d, hd⟩ := Option.ne_none_iff_exists'.mp c24
          refine E_iload_n dX11_fewest_27 rfl ?_
          refine E_if_ltO (t := 41) dX11_fewest_28 (by decide) (fun d hd => by have := hfk d hd; omega) (fun c28 => ?_) (fun c28 => ?_)
          · skip
            have hs1 : fewN D (64 * l) (k + 1) = some d := by rw [fewN, hd, c28]; rfl
            refine E_aload_n dX11_fewest_41 rfl ?_
            refine E_getR' (ci := 11) (j := 18) (p := 73) dX11_fewest_42 fkX11_44 rfl (by decide) rfl (by decide) (rfl) ?_
            refine E_iload_n dX11_fewest_45 rfl ?_
            refine E_ialdN dX11_fewest_46 rfl (by omega) (by decide) ((by rw [hF _ (by omega), hd, oI_s])) ?_
            refine E_goto (t := 51) dX11_fewest_47 (by decide) ?_
            refine E_ist_n (i := 2) dX11_fewest_51 rfl (by decide) rfl ?_
            refine E_iincN (b := 1) dX11_fewest_52 rfl rfl (by decide) rfl ?_
            refine E_goto (t := 7) dX11_fewest_55 (by decide) ?_
            have := ih (k + 1) (by omega) (by omega)
            rw [hs1] at this
            exact this
          · skip
            obtain ⟨e, he⟩ := Option.ne_none_iff_exists'.mp c28
            refine E_aload_n dX11_fewest_31 rfl ?_
            refine E_getR' (ci := 11) (j := 18) (p := 73) dX11_fewest_32 fkX11_44 rfl (by decide) rfl (by decide) (rfl) ?_
            refine E_iload_n dX11_fewest_35 rfl ?_
            refine E_ialdN dX11_fewest_36 rfl (by omega) (by decide) ((by rw [hF _ (by omega), hd, oI_s])) ?_
            rw [he]
            refine E_iload_n dX11_fewest_37 rfl ?_
            refine E_icmp_geN (t := 50) dX11_fewest_38 (by decide) (by have := hdk d hd; omega) (by have := hfk e he; omega) (fun c38 => ?_) (fun c38 => ?_)
            · skip
              have hs1 : fewN D (64 * l) (k + 1) = some e := by rw [fewN, hd, he]; show (if d < e then some d else some e) = _; rw [if_neg (by omega)]
              refine E_iload_n dX11_fewest_50 rfl ?_
              refine E_ist_n (i := 2) dX11_fewest_51 rfl (by decide) rfl ?_
              refine E_iincN (b := 1) dX11_fewest_52 rfl rfl (by decide) rfl ?_
              refine E_goto (t := 7) dX11_fewest_55 (by decide) ?_
              have := ih (k + 1) (by omega) (by omega)
              rw [hs1] at this
              exact this
            · skip
              have hs1 : fewN D (64 * l) (k + 1) = some d := by rw [fewN, hd, he]; show (if d < e then some d else some e) = _; rw [if_pos c38]
              refine E_aload_n dX11_fewest_41 rfl ?_
              refine E_getR' (ci := 11) (j := 18) (p := 73) dX11_fewest_42 fkX11_44 rfl (by decide) rfl (by decide) (rfl) ?_
              refine E_iload_n dX11_fewest_45 rfl ?_
              refine E_ialdN dX11_fewest_46 rfl (by omega) (by decide) ((by rw [hF _ (by omega), hd, oI_s])) ?_
              refine E_goto (t := 51) dX11_fewest_47 (by decide) ?_
              refine E_ist_n (i := 2) dX11_fewest_51 rfl (by decide) rfl ?_
              refine E_iincN (b := 1) dX11_fewest_52 rfl rfl (by decide) rfl ?_
              refine E_goto (t := 7) dX11_fewest_55 (by decide) ?_
              have := ih (k + 1) (by omega) (by omega)
              rw [hs1] at this
              exact this
  refine Call_of (ls0 := [some (.ref 61), some (.int (nI l)), none, none]) rfl rfl (Nat.le_of_ble_eq_true rfl) ?_
  refine E_iconst (v := -1) dX11_fewest_0 rfl ?_
  refine E_ist_n (i := 2) dX11_fewest_1 rfl (by decide) rfl ?_
  refine E_bipush (v := nI 64) dX11_fewest_2 rfl ?_
  refine E_iload_n dX11_fewest_4 rfl ?_
  refine E_imulN dX11_fewest_5 ?_
  refine E_ist_n (i := 3) dX11_fewest_6 rfl (by decide) rfl ?_
  exact L 65 0 (by omega) (by omega)
theorem m_here (hR : RM T M) (hB : RB T M) (hS : RS T M) : Call g qX11_here [.ref 61] M (Rt (nI (herN T (T 61 15))) M) := by
  have h60 := hS.2.1
  have L : ∀ (n k : Nat), k ≤ T 61 15 → T 61 15 < k + n → Ex g qX11_here (tm g qX11_here (Rt (nI (herN T (T 61 15))) M)) 7 [some (.ref 61), some (.int (nI (herN T k))), some (.int (nI k))] [] M := by
    intro n
    induction n with
    | zero => intro k h1 h2; exact absurd h2 (by omega)
    | succ n ih =>
      intro k hk hn
      have hh := herN_lt hR hB hS k hk
      refine E_iload_n dX11_here_7 rfl ?_
      refine E_aload_n dX11_here_8 rfl ?_
      refine E_getI' (ci := 11) (j := 15) dX11_here_9 fkX11_126 rfl (by decide) rfl (by decide) (hS.1) ?_
      refine E_icmp_geN (t := 33) dX11_here_12 (by decide) (by omega) (by omega) (fun c12 => ?_) (fun c12 => ?_)
      · skip
        refine E_iload_n dX11_here_33 rfl ?_
        refine E_iret dX11_here_34 rfl ?_
        exact Rt_n (by rw [show k = T 61 15 by omega])
      · skip
        refine E_aload_n dX11_here_15 rfl ?_
        refine E_aload_n dX11_here_16 rfl ?_
        refine E_getR' (ci := 11) (j := 14) (p := 71) dX11_here_17 fkX11_38 rfl (by decide) rfl (by decide) (rfl) ?_
        refine E_iload_n dX11_here_20 rfl ?_
        refine E_ialdN dX11_here_21 rfl (by omega) (by decide) ((hS.2.2 k c12).1) ?_
        refine E_iload_n dX11_here_22 rfl ?_
        refine E_callV (r := qX11_next) (ci := 11) dX11_here_23 mkX11_108 voX11_next rfl rfl rfl ⟨Nat.le_of_ble_eq_true rfl, Nat.le_of_ble_eq_true rfl, Nat.le_of_ble_eq_true rfl, Nat.le_of_ble_eq_true rfl⟩ (m_next hR (hS.2.2 k c12).2 hh) rfl (Nat.le_of_ble_eq_true rfl) ?_
        rintro _ _ ⟨rfl, rfl⟩
        refine E_ist_n (i := 1) dX11_here_26 rfl (by decide) rfl ?_
        refine E_iincN (b := 1) dX11_here_27 rfl rfl (by decide) rfl ?_
        refine E_goto (t := 7) dX11_here_30 (by decide) ?_
        exact ih (k + 1) (by omega) (by omega)
  refine Call_of (ls0 := [some (.ref 61), none, none]) rfl rfl (Nat.le_of_ble_eq_true rfl) ?_
  refine E_aload_n dX11_here_0 rfl ?_
  refine E_callV (r := qX11_first) (ci := 11) dX11_here_1 mkX11_118 voX11_first rfl rfl rfl ⟨Nat.le_of_ble_eq_true rfl, Nat.le_of_ble_eq_true rfl, Nat.le_of_ble_eq_true rfl, Nat.le_of_ble_eq_true rfl⟩ (m_first hR hB) rfl (Nat.le_of_ble_eq_true rfl) ?_
  rintro _ _ ⟨rfl, rfl⟩
  refine E_ist_n (i := 1) dX11_here_4 rfl (by decide) rfl ?_
  refine E_iconst (v := nI 0) dX11_here_5 rfl ?_
  refine E_ist_n (i := 2) dX11_here_6 rfl (by decide) rfl ?_
  exact L (T 61 15 + 1) 0 (by omega) (by omega)
theorem m_isTalk (hR : RM T M) : Call g qX11_isTalk [.ref 61] M (Rt (bI (!(T 61 1 == 0))) M) := by
  have h1 := (rm_wt hR).2.1
  refine Call_of (ls0 := [some (.ref 61)]) rfl rfl (Nat.le_of_ble_eq_true rfl) ?_
  refine E_aload_n dX11_isTalk_0 rfl ?_
  refine E_getI' (ci := 11) (j := 1) dX11_isTalk_1 fkX11_81 rfl (by decide) rfl (by decide) (rm_there hR) ?_
  refine E_if_eqN (t := 11) dX11_isTalk_4 (by decide) (by omega) (fun c4 => ?_) (fun c4 => ?_)
  · skip
    refine E_iconst (v := nI 0) dX11_isTalk_11 rfl ?_
    refine E_top (show nI 0 = bI false from rfl) ?_
    refine E_zret dX11_isTalk_12 rfl (bI_01 _) ?_
    exact Rt_b (by first | (simp [c4]; done) | (simp; omega))
  · skip
    refine E_iconst (v := nI 1) dX11_isTalk_7 rfl ?_
    refine E_goto (t := 12) dX11_isTalk_8 (by decide) ?_
    refine E_top (show nI 1 = bI true from rfl) ?_
    refine E_zret dX11_isTalk_12 rfl (bI_01 _) ?_
    exact Rt_b (by first | (simp [c4]; done) | (simp; omega))
theorem m_isAnswer (hR : RM T M) {x : Int32} : Call g qX11_isAnswer [.ref 61, .int x] M (Rt (bI (inI x 0 ((T 61 0 : Int) - 1))) M) := by
  have h32 := rm_32 hR
  refine Call_of (ls0 := [some (.ref 61), some (.int x)]) rfl rfl (Nat.le_of_ble_eq_true rfl) ?_
  refine E_iload_n dX11_isAnswer_0 rfl ?_
  refine E_i2l dX11_isAnswer_1 ?_
  refine E_lconst (v := 0) dX11_isAnswer_2 rfl ?_
  refine E_aload_n dX11_isAnswer_3 rfl ?_
  refine E_getI' (ci := 11) (j := 0) dX11_isAnswer_4 fkX11_85 rfl (by decide) rfl (by decide) (rm_many hR) ?_
  refine E_iconst (v := nI 1) dX11_isAnswer_7 rfl ?_
  refine E_isub dX11_isAnswer_8 ?_
  refine E_i2l dX11_isAnswer_9 ?_
  refine E_callS (r := qX11_in) dX11_isAnswer_10 mkX11_88 toX11_in rfl ⟨Nat.le_of_ble_eq_true rfl, Nat.le_of_ble_eq_true rfl, Nat.le_of_ble_eq_true rfl, Nat.le_of_ble_eq_true rfl⟩ (m_inI) rfl (Nat.le_of_ble_eq_true rfl) ?_
  rintro _ _ ⟨rfl, rfl⟩
  refine E_zret dX11_isAnswer_13 rfl (bI_01 _) ?_
  exact Rt_b (by rw [Int32.toInt_toInt64, pk_sub_toInt (by omega) (by decide)]; rfl)
theorem m_isLine (hR : RM T M) {x : Int32} : Call g qX11_isLine [.ref 61, .int x] M (Rt (bI (inI x 0 15 && (T 61 1).testBit x.toInt.toNat)) M) := by
  refine Call_of (ls0 := [some (.ref 61), some (.int x)]) rfl rfl (Nat.le_of_ble_eq_true rfl) ?_
  refine E_iload_n dX11_isLine_0 rfl ?_
  refine E_i2l dX11_isLine_1 ?_
  refine E_lconst (v := 0) dX11_isLine_2 rfl ?_
  refine E_ldc2 dX11_isLine_3 clX11_92 ?_
  refine E_callS (r := qX11_in) dX11_isLine_6 mkX11_88 toX11_in rfl ⟨Nat.le_of_ble_eq_true rfl, Nat.le_of_ble_eq_true rfl, Nat.le_of_ble_eq_true rfl, Nat.le_of_ble_eq_true rfl⟩ (m_inI) rfl (Nat.le_of_ble_eq_true rfl) ?_
  rintro _ _ ⟨rfl, rfl⟩
  refine E_top (show _ = bI (inI x 0 15) from rfl) ?_
  refine E_if_eqB (t := 27) dX11_isLine_9 (by decide) (fun c9 => ?_) (fun c9 => ?_)
  · skip
    refine E_iconst (v := nI 0) dX11_isLine_27 rfl ?_
    refine E_top (show nI 0 = bI false from rfl) ?_
    refine E_zret dX11_isLine_28 rfl (bI_01 _) ?_
    exact Rt_b (by first | (simp [c9]; done) | (simp [c9, h4, c20]; done))
  · skip
    obtain ⟨j, h1, h2, rfl, h3⟩ := inI_nat c9 (by decide)
    have h4 : (nI j).toInt.toNat = j := by rw [nI_toInt h3]; rfl
    refine E_aload_n dX11_isLine_12 rfl ?_
    refine E_getI' (ci := 11) (j := 1) dX11_isLine_13 fkX11_81 rfl (by decide) rfl (by decide) (rm_there hR) ?_
    refine E_iload_n dX11_isLine_16 rfl ?_
    refine E_callS (r := qX11_has) dX11_isLine_17 mkX11_94 toX11_has rfl ⟨Nat.le_of_ble_eq_true rfl, Nat.le_of_ble_eq_true rfl, Nat.le_of_ble_eq_true rfl, Nat.le_of_ble_eq_true rfl⟩ (m_has (j := j) (by omega)) rfl (Nat.le_of_ble_eq_true rfl) ?_
    rintro _ _ ⟨rfl, rfl⟩
    refine E_if_eqB (t := 27) dX11_isLine_20 (by decide) (fun c20 => ?_) (fun c20 => ?_)
    · skip
      refine E_iconst (v := nI 0) dX11_isLine_27 rfl ?_
      refine E_top (show nI 0 = bI false from rfl) ?_
      refine E_zret dX11_isLine_28 rfl (bI_01 _) ?_
      exact Rt_b (by first | (simp [c9]; done) | (simp [c9, h4, c20]; done))
    · skip
      refine E_iconst (v := nI 1) dX11_isLine_23 rfl ?_
      refine E_goto (t := 28) dX11_isLine_24 (by decide) ?_
      refine E_top (show nI 1 = bI true from rfl) ?_
      refine E_zret dX11_isLine_28 rfl (bI_01 _) ?_
      exact Rt_b (by first | (simp [c9]; done) | (simp [c9, h4, c20]; done))
theorem m_openIn (hR : RM T M) {s : Nat} (hs : s < 1024) : Call g qX11_openIn [.ref 61, .int (nI s)] M (Rt (nI (cntN (fun a => opn T a s 0) (T 61 0))) M) := by
  have h32 := rm_32 hR
  have L : ∀ (n k : Nat), k ≤ T 61 0 → T 61 0 < k + n → Ex g qX11_openIn (tm g qX11_openIn (Rt (nI (cntN (fun a => opn T a s 0) (T 61 0))) M)) 4 [some (.ref 61), some (.int (nI s)), some (.int (nI (cntN (fun a => opn T a s 0) k))), some (.int (nI k))] [] M := by
    intro n
    induction n with
    | zero => intro k h1 h2; exact absurd h2 (by omega)
    | succ n ih =>
      intro k hk hn
      refine E_iload_n dX11_openIn_4 rfl ?_
      refine E_aload_n dX11_openIn_5 rfl ?_
      refine E_getI' (ci := 11) (j := 0) dX11_openIn_6 fkX11_85 rfl (by decide) rfl (by decide) (rm_many hR) ?_
      refine E_icmp_geN (t := 36) dX11_openIn_9 (by decide) (by omega) (by omega) (fun c9 => ?_) (fun c9 => ?_)
      · skip
        refine E_iload_n dX11_openIn_36 rfl ?_
        refine E_iret dX11_openIn_37 rfl ?_
        exact Rt_n (by rw [show k = T 61 0 by omega])
      · skip
        refine E_iload_n dX11_openIn_12 rfl ?_
        refine E_aload_n dX11_openIn_13 rfl ?_
        refine E_iload_n dX11_openIn_14 rfl ?_
        refine E_iload_n dX11_openIn_15 rfl ?_
        refine E_iconst (v := -1) dX11_openIn_16 rfl ?_
        refine E_callV (r := qX11_isOpen) (ci := 11) dX11_openIn_17 mkX11_105 voX11_isOpen rfl rfl rfl ⟨Nat.le_of_ble_eq_true rfl, Nat.le_of_ble_eq_true rfl, Nat.le_of_ble_eq_true rfl, Nat.le_of_ble_eq_true rfl⟩ (m_isOpen0 hR c9 hs) rfl (Nat.le_of_ble_eq_true rfl) ?_
        rintro _ _ ⟨rfl, rfl⟩
        refine E_if_eqB (t := 27) dX11_openIn_20 (by decide) (fun c20 => ?_) (fun c20 => ?_)
        · skip
          have hs1 : cntN (fun a => opn T a s 0) (k + 1) = cntN (fun a => opn T a s 0) k + 0 := by rw [cntN, c20]; rfl
          refine E_iconst (v := nI 0) dX11_openIn_27 rfl ?_
          refine E_iaddN dX11_openIn_28 ?_
          refine E_ist_n (i := 2) dX11_openIn_29 rfl (by decide) rfl ?_
          refine E_iincN (b := 1) dX11_openIn_30 rfl rfl (by decide) rfl ?_
          refine E_goto (t := 4) dX11_openIn_33 (by decide) ?_
          have := ih (k + 1) (by omega) (by omega)
          rw [hs1] at this
          exact this
        · skip
          have hs1 : cntN (fun a => opn T a s 0) (k + 1) = cntN (fun a => opn T a s 0) k + 1 := by rw [cntN, c20]; rfl
          refine E_iconst (v := nI 1) dX11_openIn_23 rfl ?_
          refine E_goto (t := 28) dX11_openIn_24 (by decide) ?_
          refine E_iaddN dX11_openIn_28 ?_
          refine E_ist_n (i := 2) dX11_openIn_29 rfl (by decide) rfl ?_
          refine E_iincN (b := 1) dX11_openIn_30 rfl rfl (by decide) rfl ?_
          refine E_goto (t := 4) dX11_openIn_33 (by decide) ?_
          have := ih (k + 1) (by omega) (by omega)
          rw [hs1] at this
          exact this
  refine Call_of (ls0 := [some (.ref 61), some (.int (nI s)), none, none]) rfl rfl (Nat.le_of_ble_eq_true rfl) ?_
  refine E_iconst (v := nI 0) dX11_openIn_0 rfl ?_
  refine E_ist_n (i := 2) dX11_openIn_1 rfl (by decide) rfl ?_
  refine E_iconst (v := nI 0) dX11_openIn_2 rfl ?_
  refine E_ist_n (i := 3) dX11_openIn_3 rfl (by decide) rfl ?_
  exact L (T 61 0 + 1) 0 (by omega) (by omega)
def stuF (T : TK) (D : Nat → Option Nat) (s : Nat) : Bool := (D s).isSome && !((T 61 2).testBit (s / 64)) && cntN (fun a => opn T a s 0) (T 61 0) == 0
theorem m_isStuck (hR : RM T M) (hF : RF D M) (hD : DL D) {s : Nat} (hs : s < 1024) : Call g qX11_isStuck [.ref 61, .int (nI s)] M (Rt (bI (stuF T D s)) M) := by
  have h32 := rm_32 hR
  have hcn := cntN_le (fun a => opn T a s 0) (T 61 0)
  refine Call_of (ls0 := [some (.ref 61), some (.int (nI s))]) rfl rfl (Nat.le_of_ble_eq_true rfl) ?_
  refine E_aload_n dX11_isStuck_0 rfl ?_
  refine E_getR' (ci := 11) (j := 18) (p := 73) dX11_isStuck_1 fkX11_44 rfl (by decide) rfl (by decide) (rfl) ?_
  refine E_iload_n dX11_isStuck_4 rfl ?_
  refine E_ialdN dX11_isStuck_5 rfl (by omega) (by decide) (hF s hs) ?_
  refine E_if_ltO (t := 35) dX11_isStuck_6 (by decide) (fun d hd => by have := hD s d hd; omega) (fun c6 => ?_) (fun c6 => ?_)
  · skip
    refine E_iconst (v := nI 0) dX11_isStuck_35 rfl ?_
    refine E_top (show nI 0 = bI false from rfl) ?_
    refine E_zret dX11_isStuck_36 rfl (bI_01 _) ?_
    exact Rt_b (by first | (simp [stuF, c6]; done) | (simp [stuF, hd, c20]; done) | (simp [stuF, hd, c20, c28]; done) | (simp [stuF, hd, c20]; omega))
  · skip
    obtain ⟨d, hd⟩ := Option.ne_none_iff_exists'.mp c6
    refine E_aload_n dX11_isStuck_9 rfl ?_
    refine E_getI' (ci := 11) (j := 2) dX11_isStuck_10 fkX11_98 rfl (by decide) rfl (by decide) (rm_endings hR) ?_
    refine E_iload_n dX11_isStuck_13 rfl ?_
    refine E_bipush (v := nI 64) dX11_isStuck_14 rfl ?_
    refine E_idivN dX11_isStuck_16 (by omega) (by decide) (by decide) ?_
    refine E_callS (r := qX11_has) dX11_isStuck_17 mkX11_94 toX11_has rfl ⟨Nat.le_of_ble_eq_true rfl, Nat.le_of_ble_eq_true rfl, Nat.le_of_ble_eq_true rfl, Nat.le_of_ble_eq_true rfl⟩ (m_has (by omega)) rfl (Nat.le_of_ble_eq_true rfl) ?_
    rintro _ _ ⟨rfl, rfl⟩
    refine E_if_neB (t := 35) dX11_isStuck_20 (by decide) (fun c20 => ?_) (fun c20 => ?_)
    · skip
      refine E_iconst (v := nI 0) dX11_isStuck_35 rfl ?_
      refine E_top (show nI 0 = bI false from rfl) ?_
      refine E_zret dX11_isStuck_36 rfl (bI_01 _) ?_
      exact Rt_b (by first | (simp [stuF, c6]; done) | (simp [stuF, hd, c20]; done) | (simp [stuF, hd, c20, c28]; done) | (simp [stuF, hd, c20]; omega))
    · skip
      refine E_aload_n dX11_isStuck_23 rfl ?_
      refine E_iload_n dX11_isStuck_24 rfl ?_
      refine E_callV (r := qX11_openIn) (ci := 11) dX11_isStuck_25 mkX11_237 voX11_openIn rfl rfl rfl ⟨Nat.le_of_ble_eq_true rfl, Nat.le_of_ble_eq_true rfl, Nat.le_of_ble_eq_true rfl, Nat.le_of_ble_eq_true rfl⟩ (m_openIn hR hs) rfl (Nat.le_of_ble_eq_true rfl) ?_
      rintro _ _ ⟨rfl, rfl⟩
      refine E_if_neN (t := 35) dX11_isStuck_28 (by decide) (by omega) (fun c28 => ?_) (fun c28 => ?_)
      · skip
        refine E_iconst (v := nI 0) dX11_isStuck_35 rfl ?_
        refine E_top (show nI 0 = bI false from rfl) ?_
        refine E_zret dX11_isStuck_36 rfl (bI_01 _) ?_
        exact Rt_b (by first | (simp [stuF, c6]; done) | (simp [stuF, hd, c20]; done) | (simp [stuF, hd, c20, c28]; done) | (simp [stuF, hd, c20]; omega))
      · skip
        refine E_iconst (v := nI 1) dX11_isStuck_31 rfl ?_
        refine E_goto (t := 36) dX11_isStuck_32 (by decide) ?_
        refine E_top (show nI 1 = bI true from rfl) ?_
        refine E_zret dX11_isStuck_36 rfl (bI_01 _) ?_
        exact Rt_b (by first | (simp [stuF, c6]; done) | (simp [stuF, hd, c20]; done) | (simp [stuF, hd, c20, c28]; done) | (simp [stuF, hd, c20]; omega))
theorem m_isLost (hF : RF D M) (hD : DL D) (hE : RZ 79 E M) {s : Nat} (hs : s < 1024) : Call g qX11_isLost [.ref 61, .int (nI s)] M (Rt (bI ((D s).isSome && !E s)) M) := by
  refine Call_of (ls0 := [some (.ref 61), some (.int (nI s))]) rfl rfl (Nat.le_of_ble_eq_true rfl) ?_
  refine E_aload_n dX11_isLost_0 rfl ?_
  refine E_getR' (ci := 11) (j := 18) (p := 73) dX11_isLost_1 fkX11_44 rfl (by decide) rfl (by decide) (rfl) ?_
  refine E_iload_n dX11_isLost_4 rfl ?_
  refine E_ialdN dX11_isLost_5 rfl (by omega) (by decide) (hF s hs) ?_
  refine E_if_ltO (t := 22) dX11_isLost_6 (by decide) (fun d hd => by have := hD s d hd; omega) (fun c6 => ?_) (fun c6 => ?_)
  · skip
    refine E_iconst (v := nI 0) dX11_isLost_22 rfl ?_
    refine E_top (show nI 0 = bI false from rfl) ?_
    refine E_zret dX11_isLost_23 rfl (bI_01 _) ?_
    exact Rt_b (by first | (simp [c6]; done) | (simp [hd, c15]; done))
  · skip
    obtain ⟨d, hd⟩ := Option.ne_none_iff_exists'.mp c6
    refine E_aload_n dX11_isLost_9 rfl ?_
    refine E_getR' (ci := 11) (j := 32) (p := 79) dX11_isLost_10 fkX11_62 rfl (by decide) rfl (by decide) (rfl) ?_
    refine E_iload_n dX11_isLost_13 rfl ?_
    refine E_zaldN dX11_isLost_14 rfl (by omega) (by decide) (hE s hs) ?_
    refine E_if_neB (t := 22) dX11_isLost_15 (by decide) (fun c15 => ?_) (fun c15 => ?_)
    · skip
      refine E_iconst (v := nI 0) dX11_isLost_22 rfl ?_
      refine E_top (show nI 0 = bI false from rfl) ?_
      refine E_zret dX11_isLost_23 rfl (bI_01 _) ?_
      exact Rt_b (by first | (simp [c6]; done) | (simp [hd, c15]; done))
    · skip
      refine E_iconst (v := nI 1) dX11_isLost_18 rfl ?_
      refine E_goto (t := 23) dX11_isLost_19 (by decide) ?_
      refine E_top (show nI 1 = bI true from rfl) ?_
      refine E_zret dX11_isLost_23 rfl (bI_01 _) ?_
      exact Rt_b (by first | (simp [c6]; done) | (simp [hd, c15]; done))
end M4
