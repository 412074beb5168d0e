-- the model: guards, open answers, the next state; what a method leaves as it was
theorem or_step {A x y b c : Bool} (hb : b = (A || x)) (hc : c = (b || y)) : c = (A || (x || y)) := by rw [hc, hb, Bool.or_assoc]
theorem nI1_b {b : Bool} (h : b = true) : nI 1 = bI b := by rw [h]; rfl
theorem nI0_b {b : Bool} (h : b = false) : nI 0 = bI b := by rw [h]; rfl
/-- all cells but these stay -/
def Sb (S : List Nat) (M M' : AM) : Prop := ∀ k, k ∉ S → M'.1 k = M.1 k ∧ M'.2.1 k = M.2.1 k ∧ M'.2.2 k = M.2.2 k
theorem Sb.rf {S : List Nat} {M : AM} : Sb S M M := fun _ _ => ⟨rfl, rfl, rfl⟩
theorem Sb.tr {S : List Nat} {M M' M'' : AM} (h1 : Sb S M M') (h2 : Sb S M' M'') : Sb S M M'' := fun k hk => ⟨(h2 k hk).1.trans (h1 k hk).1, (h2 k hk).2.1.trans (h1 k hk).2.1, (h2 k hk).2.2.trans (h1 k hk).2.2⟩
theorem Sb.sub {S S' : List Nat} {M M' : AM} (h1 : Sb S M M') (hs : ∀ k, k ∈ S → k ∈ S') : Sb S' M M' := fun k hk => h1 k (fun h => hk (hs k h))
theorem Sb.i {S : List Nat} {M : AM} {k j : Nat} {x : Int32} (hk : k ∈ S) : Sb S M (sI M k j x) := fun i hi => ⟨sI_ne (fun e => hi (e ▸ hk)), rfl, rfl⟩
theorem Sb.l {S : List Nat} {M : AM} {k j : Nat} {x : Int64} (hk : k ∈ S) : Sb S M (sL M k j x) := fun i hi => ⟨rfl, sL_ne (fun e => hi (e ▸ hk)), rfl⟩
theorem Sb.r {S : List Nat} {M : AM} {k j : Nat} {x : Nat} (hk : k ∈ S) : Sb S M (sR M k j x) := fun i hi => ⟨rfl, rfl, sR_ne (fun e => hi (e ▸ hk))⟩
theorem rm_cong {T : TK} {M M' : AM} (hR : RM T M) (h1 : ∀ j, j < 4 → M'.1 61 j = M.1 61 j) (h2 : ∀ i, i < 9 → M'.1 (62 + i) = M.1 (62 + i)) : RM T M' :=
  ⟨fun j hj => (h1 j hj).trans (hR.1 j hj), fun a ha i hi n4 n5 => by rw [h2 i hi]; exact hR.2.1 a ha i hi n4 n5, fun a ha k hk => by
    have e4 : M'.1 66 = M.1 66 := h2 4 (by decide)
    have e5 : M'.1 67 = M.1 67 := h2 5 (by decide)
    rw [e4, e5]
    exact hR.2.2.1 a ha k hk, hR.2.2.2⟩
theorem rm_sb {T : TK} {S : List Nat} {M M' : AM} (hR : RM T M) (h : Sb S M M') (hd : ∀ k, k < 10 → 61 + k ∉ S) : RM T M' :=
  rm_cong hR (fun j _ => by rw [(h 61 (hd 0 (by decide))).1]) (fun i hi => by
    have := hd (i + 1) (by omega)
    rw [show 61 + (i + 1) = 62 + i by omega] at this
    exact (h _ this).1)
theorem sI_get {M : AM} {k j a b : Nat} {x : Int32} : (sI M k j x).1 a b = if a = k ∧ b = j then x else M.1 a b := rfl
theorem E_icmp_eqNO {g : GG} {q : MI} {τ : TT} {pc : Nat} {ls : List (Option Value)} {st : List Value} {M : AM} {a : Nat} {o : Option Nat} {off : Int} {t : Nat} (d : decode (fC q) pc = .ok (.if_icmp .eq off, 3)) (ht : (pc : Int) + off = (t : Int)) (ha : a < 2 ^ 31) (ho : ∀ d, o = some d → d < 2 ^ 31) (kt : o = some a → Ex g q τ t ls st M) (kf : ¬ o = some a → Ex g q τ (pc + 3) ls st M) : Ex g q τ pc ls (.int (oI o) :: .int (nI a) :: st) M :=
  E_icmp_eq d ht (fun h => kt (by
    cases o with
    | none => exact absurd (show nI a < 0 by rw [h]; decide) (nI_pos ha)
    | some b => rw [(nI_eq ha (ho b rfl)).mp h])) (fun h => kf (fun e => h (by rw [e]; rfl)))
section M2
variable {g : GG} {M : AM} {T : TK}
theorem m_holds (hR : RM T M) {a marks : Nat} {w : Option Nat} (ha : a < T 61 0) (hm : marks < 64) (hw : ∀ m, w = some m → m < 6) : Call g qX11_holds [.ref 61, .int (nI a), .int (nI marks), .int (oI w)] M (Rt (bI (hold T a marks (ou w))) M) := by
  have h32 := rm_32 hR
  have hal := (wt_a (rm_wt hR) ha).2.2.2.1
  have L : ∀ (n k : Nat) (b : Bool) (y z : Option Value), b = (T 65 a == 0 || anyN (fun k => altOK T (3 * a + k) marks (ou w)) k) → k ≤ T 65 a → T 65 a < k + n → Ex g qX11_holds (tm g qX11_holds (Rt (bI (hold T a marks (ou w))) M)) 32 [some (.ref 61), some (.int (nI a)), some (.int (nI marks)), some (.int (oI w)), some (.int (nI (ou w))), some (.int (bI b)), some (.int (nI k)), y, z] [] M := by
    intro n
    induction n with
    | zero => intro k b y z hb h1 h2; exact absurd h2 (by omega)
    | succ n ih =>
      intro k b y z hb hk hn
      refine E_iload dX11_holds_32 rfl ?_
      refine E_aload_n dX11_holds_34 rfl ?_
      refine E_getR' (ci := 11) (j := 7) (p := 65) dX11_holds_35 fkX11_19 rfl (by decide) rfl (by decide) (rfl) ?_
      refine E_iload_n dX11_holds_38 rfl ?_
      refine E_ialdN dX11_holds_39 rfl (by omega) (by decide) (rm_alts hR ha) ?_
      refine E_icmp_geN (t := 113) dX11_holds_40 (by decide) (by omega) (by omega) (fun c40 => ?_) (fun c40 => ?_)
      · skip
        refine E_iload dX11_holds_113 rfl ?_
        refine E_zret dX11_holds_115 rfl (bI_01 _) ?_
        exact Rt_b (by rw [hb, show k = T 65 a by omega]; rfl)
      · skip
        refine E_aload_n dX11_holds_43 rfl ?_
        refine E_getR' (ci := 11) (j := 8) (p := 66) dX11_holds_44 fkX11_22 rfl (by decide) rfl (by decide) (rfl) ?_
        refine E_iconst (v := nI 3) dX11_holds_47 rfl ?_
        refine E_iload_n dX11_holds_48 rfl ?_
        refine E_imulN dX11_holds_49 ?_
        refine E_iload dX11_holds_50 rfl ?_
        refine E_iaddN dX11_holds_52 ?_
        refine E_ialdN dX11_holds_53 rfl (by omega) (by decide) (rm_wants hR ha c40) ?_
        refine E_iload dX11_holds_54 rfl ?_
        refine E_iconst (v := -1) dX11_holds_56 rfl ?_
        refine E_ixor dX11_holds_57 ?_
        refine E_iandNC dX11_holds_58 ?_
        refine E_istore dX11_holds_59 (by decide) rfl ?_
        refine E_aload_n dX11_holds_61 rfl ?_
        refine E_getR' (ci := 11) (j := 9) (p := 67) dX11_holds_62 fkX11_25 rfl (by decide) rfl (by decide) (rfl) ?_
        refine E_iconst (v := nI 3) dX11_holds_65 rfl ?_
        refine E_iload_n dX11_holds_66 rfl ?_
        refine E_imulN dX11_holds_67 ?_
        refine E_iload dX11_holds_68 rfl ?_
        refine E_iaddN dX11_holds_70 ?_
        refine E_ialdN dX11_holds_71 rfl (by omega) (by decide) (rm_bars hR ha c40) ?_
        refine E_iload dX11_holds_72 rfl ?_
        refine E_iconst (v := -1) dX11_holds_74 rfl ?_
        refine E_ixor dX11_holds_75 ?_
        refine E_iandNC dX11_holds_76 ?_
        refine E_istore dX11_holds_77 (by decide) rfl ?_
        refine E_iload dX11_holds_79 rfl ?_
        refine E_if_neB (t := 100) dX11_holds_81 (by decide) (fun c81 => ?_) (fun c81 => ?_)
        · skip
          refine E_iconst (v := nI 1) dX11_holds_100 rfl ?_
          refine E_goto (t := 105) dX11_holds_101 (by decide) ?_
          refine E_top (show nI 1 = bI true from rfl) ?_
          refine E_istore dX11_holds_105 (by decide) rfl ?_
          refine E_iincN (b := 1) dX11_holds_107 rfl rfl (by decide) rfl ?_
          refine E_goto (t := 32) dX11_holds_110 (by decide) ?_
          exact ih (k + 1) _ _ _ (or_step hb (by first | (simp [c81]; done) | (simp [c81, altOK, c90, c97]; done) | (simp [c81, altOK, c90]; done) | (simp [c81, altOK, c90]; omega))) (by omega) (by omega)
        · skip
          refine E_iload_n dX11_holds_84 rfl ?_
          refine E_iload dX11_holds_85 rfl ?_
          refine E_iandN dX11_holds_87 ?_
          refine E_iload dX11_holds_88 rfl ?_
          refine E_icmp_neN (t := 104) dX11_holds_90 (by decide) (Nat.lt_of_le_of_lt Nat.and_le_left (by omega)) (Nat.lt_of_le_of_lt (ndf_le _ _) (by have := ((rm_wt hR).2.2.2.2 a ha).2 k c40; omega)) (fun c90 => ?_) (fun c90 => ?_)
          · skip
            refine E_iconst (v := nI 0) dX11_holds_104 rfl ?_
            refine E_top (show nI 0 = bI false from rfl) ?_
            refine E_istore dX11_holds_105 (by decide) rfl ?_
            refine E_iincN (b := 1) dX11_holds_107 rfl rfl (by decide) rfl ?_
            refine E_goto (t := 32) dX11_holds_110 (by decide) ?_
            exact ih (k + 1) _ _ _ (or_step hb (by first | (simp [c81]; done) | (simp [c81, altOK, c90, c97]; done) | (simp [c81, altOK, c90]; done) | (simp [c81, altOK, c90]; omega))) (by omega) (by omega)
          · skip
            refine E_iload_n dX11_holds_93 rfl ?_
            refine E_iload dX11_holds_94 rfl ?_
            refine E_iandN dX11_holds_96 ?_
            refine E_if_neN (t := 104) dX11_holds_97 (by decide) (Nat.lt_of_le_of_lt Nat.and_le_left (by omega)) (fun c97 => ?_) (fun c97 => ?_)
            · skip
              refine E_iconst (v := nI 0) dX11_holds_104 rfl ?_
              refine E_top (show nI 0 = bI false from rfl) ?_
              refine E_istore dX11_holds_105 (by decide) rfl ?_
              refine E_iincN (b := 1) dX11_holds_107 rfl rfl (by decide) rfl ?_
              refine E_goto (t := 32) dX11_holds_110 (by decide) ?_
              exact ih (k + 1) _ _ _ (or_step hb (by first | (simp [c81]; done) | (simp [c81, altOK, c90, c97]; done) | (simp [c81, altOK, c90]; done) | (simp [c81, altOK, c90]; omega))) (by omega) (by omega)
            · skip
              refine E_iconst (v := nI 1) dX11_holds_100 rfl ?_
              refine E_goto (t := 105) dX11_holds_101 (by decide) ?_
              refine E_top (show nI 1 = bI true from rfl) ?_
              refine E_istore dX11_holds_105 (by decide) rfl ?_
              refine E_iincN (b := 1) dX11_holds_107 rfl rfl (by decide) rfl ?_
              refine E_goto (t := 32) dX11_holds_110 (by decide) ?_
              exact ih (k + 1) _ _ _ (or_step hb (by first | (simp [c81]; done) | (simp [c81, altOK, c90, c97]; done) | (simp [c81, altOK, c90]; done) | (simp [c81, altOK, c90]; omega))) (by omega) (by omega)
  have J : Ex g qX11_holds (tm g qX11_holds (Rt (bI (hold T a marks (ou w))) M)) 11 [some (.ref 61), some (.int (nI a)), some (.int (nI marks)), some (.int (oI w)), none, none, none, none, none] [.int (nI (ou w))] M := by
    refine E_istore dX11_holds_11 (by decide) rfl ?_
    refine E_aload_n dX11_holds_13 rfl ?_
    refine E_getR' (ci := 11) (j := 7) (p := 65) dX11_holds_14 fkX11_19 rfl (by decide) rfl (by decide) (rfl) ?_
    refine E_iload_n dX11_holds_17 rfl ?_
    refine E_ialdN dX11_holds_18 rfl (by omega) (by decide) (rm_alts hR ha) ?_
    refine E_if_neN (t := 26) dX11_holds_19 (by decide) (by omega) (fun c19 => ?_) (fun c19 => ?_)
    · skip
      refine E_iconst (v := nI 0) dX11_holds_26 rfl ?_
      refine E_top (show nI 0 = bI false from rfl) ?_
      refine E_istore dX11_holds_27 (by decide) rfl ?_
      refine E_iconst (v := nI 0) dX11_holds_29 rfl ?_
      refine E_istore dX11_holds_30 (by decide) rfl ?_
      exact L (T 65 a + 1) 0 _ _ _ (by first | (simp [c19, anyN]; done) | (simp [anyN]; omega)) (by omega) (by omega)
    · skip
      refine E_iconst (v := nI 1) dX11_holds_22 rfl ?_
      refine E_goto (t := 27) dX11_holds_23 (by decide) ?_
      refine E_top (show nI 1 = bI true from rfl) ?_
      refine E_istore dX11_holds_27 (by decide) rfl ?_
      refine E_iconst (v := nI 0) dX11_holds_29 rfl ?_
      refine E_istore dX11_holds_30 (by decide) rfl ?_
      exact L (T 65 a + 1) 0 _ _ _ (by first | (simp [c19, anyN]; done) | (simp [anyN]; omega)) (by omega) (by omega)
  refine Call_of (ls0 := [some (.ref 61), some (.int (nI a)), some (.int (nI marks)), some (.int (oI w)), none, none, none, none, none]) rfl rfl (Nat.le_of_ble_eq_true rfl) ?_
  refine E_iload_n dX11_holds_0 rfl ?_
  refine E_if_geO (t := 8) dX11_holds_1 (by decide) (fun d hd => by have := hw d hd; omega) (fun c1 => ?_) (fun c1 => ?_)
  · skip
    obtain ⟨m, rfl⟩ := Option.ne_none_iff_exists'.mp c1
    have hm6 := hw m rfl
    refine E_iconst (v := nI 1) dX11_holds_8 rfl ?_
    refine E_iload_n dX11_holds_9 rfl ?_
    refine E_ishlN dX11_holds_10 (by omega) (by have h9 : 2 ^ m ≤ 2 ^ 5 := Nat.pow_le_pow_right (by decide) (by omega); omega) ?_
    first | exact J | exact E_top (by rw [Nat.one_mul]; rfl) J
  · skip
    subst c1
    refine E_iconst (v := nI 0) dX11_holds_4 rfl ?_
    refine E_goto (t := 11) dX11_holds_5 (by decide) ?_
    first | exact J | exact E_top (by rw [Nat.one_mul]; rfl) J
theorem m_isOpen (hR : RM T M) {a s : Nat} {w : Option Nat} (ha : a < T 61 0) (hs : s < 1024) (hw : ∀ m, w = some m → m < 6) : Call g qX11_isOpen [.ref 61, .int (nI a), .int (nI s), .int (oI w)] M (Rt (bI (opn T a s (ou w))) M) := by
  have h32 := rm_32 hR
  have hfr := (wt_a (rm_wt hR) ha).1
  refine Call_of (ls0 := [some (.ref 61), some (.int (nI a)), some (.int (nI s)), some (.int (oI w)), none]) rfl rfl (Nat.le_of_ble_eq_true rfl) ?_
  refine E_iload_n dX11_isOpen_0 rfl ?_
  refine E_bipush (v := nI 64) dX11_isOpen_1 rfl ?_
  refine E_idivN dX11_isOpen_3 (by omega) (by decide) (by decide) ?_
  refine E_istore dX11_isOpen_4 (by decide) rfl ?_
  refine E_aload_n dX11_isOpen_6 rfl ?_
  refine E_getR' (ci := 11) (j := 12) (p := 70) dX11_isOpen_7 fkX11_34 rfl (by decide) rfl (by decide) (rfl) ?_
  refine E_iload_n dX11_isOpen_10 rfl ?_
  refine E_zaldN dX11_isOpen_11 rfl (by omega) (by decide) (rm_cut hR ha) ?_
  refine E_if_neB (t := 55) dX11_isOpen_12 (by decide) (fun c12 => ?_) (fun c12 => ?_)
  · skip
    refine E_iconst (v := nI 0) dX11_isOpen_55 rfl ?_
    refine E_top (show nI 0 = bI false from rfl) ?_
    refine E_zret dX11_isOpen_56 rfl (bI_01 _) ?_
    exact Rt_b (by first | (simp [opn, c12, c23, c35, c48]; done) | (simp [opn, c12, c23, c35]; done) | (simp [opn, c12, c23]; done) | (simp [opn, c12]; done))
  · skip
    refine E_aload_n dX11_isOpen_15 rfl ?_
    refine E_getR' (ci := 11) (j := 4) (p := 62) dX11_isOpen_16 fkX11_7 rfl (by decide) rfl (by decide) (rfl) ?_
    refine E_iload_n dX11_isOpen_19 rfl ?_
    refine E_ialdN dX11_isOpen_20 rfl (by omega) (by decide) (rm_from hR ha) ?_
    refine E_iload dX11_isOpen_21 rfl ?_
    refine E_icmp_neN (t := 55) dX11_isOpen_23 (by decide) (by omega) (by omega) (fun c23 => ?_) (fun c23 => ?_)
    · skip
      refine E_iconst (v := nI 0) dX11_isOpen_55 rfl ?_
      refine E_top (show nI 0 = bI false from rfl) ?_
      refine E_zret dX11_isOpen_56 rfl (bI_01 _) ?_
      exact Rt_b (by first | (simp [opn, c12, c23, c35, c48]; done) | (simp [opn, c12, c23, c35]; done) | (simp [opn, c12, c23]; done) | (simp [opn, c12]; done))
    · skip
      refine E_aload_n dX11_isOpen_26 rfl ?_
      refine E_getI' (ci := 11) (j := 2) dX11_isOpen_27 fkX11_98 rfl (by decide) rfl (by decide) (rm_endings hR) ?_
      refine E_iload dX11_isOpen_30 rfl ?_
      refine E_callS (r := qX11_has) dX11_isOpen_32 mkX11_94 toX11_has rfl ⟨Nat.le_of_ble_eq_true rfl, Nat.le_of_ble_eq_true rfl, Nat.le_of_ble_eq_true rfl, Nat.le_of_ble_eq_true rfl⟩ (m_has (by omega)) rfl (Nat.le_of_ble_eq_true rfl) ?_
      rintro _ _ ⟨rfl, rfl⟩
      refine E_if_neB (t := 55) dX11_isOpen_35 (by decide) (fun c35 => ?_) (fun c35 => ?_)
      · skip
        refine E_iconst (v := nI 0) dX11_isOpen_55 rfl ?_
        refine E_top (show nI 0 = bI false from rfl) ?_
        refine E_zret dX11_isOpen_56 rfl (bI_01 _) ?_
        exact Rt_b (by first | (simp [opn, c12, c23, c35, c48]; done) | (simp [opn, c12, c23, c35]; done) | (simp [opn, c12, c23]; done) | (simp [opn, c12]; done))
      · skip
        refine E_aload_n dX11_isOpen_38 rfl ?_
        refine E_iload_n dX11_isOpen_39 rfl ?_
        refine E_iload_n dX11_isOpen_40 rfl ?_
        refine E_bipush (v := nI 64) dX11_isOpen_41 rfl ?_
        refine E_iremN dX11_isOpen_43 (by omega) (by decide) (by decide) ?_
        refine E_iload_n dX11_isOpen_44 rfl ?_
        refine E_callV (r := qX11_holds) (ci := 11) dX11_isOpen_45 mkX11_101 voX11_holds rfl rfl rfl ⟨Nat.le_of_ble_eq_true rfl, Nat.le_of_ble_eq_true rfl, Nat.le_of_ble_eq_true rfl, Nat.le_of_ble_eq_true rfl⟩ (m_holds hR ha (Nat.mod_lt _ (by decide)) hw) rfl (Nat.le_of_ble_eq_true rfl) ?_
        rintro _ _ ⟨rfl, rfl⟩
        refine E_if_eqB (t := 55) dX11_isOpen_48 (by decide) (fun c48 => ?_) (fun c48 => ?_)
        · skip
          refine E_iconst (v := nI 0) dX11_isOpen_55 rfl ?_
          refine E_top (show nI 0 = bI false from rfl) ?_
          refine E_zret dX11_isOpen_56 rfl (bI_01 _) ?_
          exact Rt_b (by first | (simp [opn, c12, c23, c35, c48]; done) | (simp [opn, c12, c23, c35]; done) | (simp [opn, c12, c23]; done) | (simp [opn, c12]; done))
        · skip
          refine E_iconst (v := nI 1) dX11_isOpen_51 rfl ?_
          refine E_goto (t := 56) dX11_isOpen_52 (by decide) ?_
          refine E_top (show nI 1 = bI true from rfl) ?_
          refine E_zret dX11_isOpen_56 rfl (bI_01 _) ?_
          exact Rt_b (by first | (simp [opn, c12, c23, c35, c48]; done) | (simp [opn, c12, c23, c35]; done) | (simp [opn, c12, c23]; done) | (simp [opn, c12]; done))
theorem m_next (hR : RM T M) {a s : Nat} (ha : a < T 61 0) (hs : s < 1024) : Call g qX11_next [.ref 61, .int (nI a), .int (nI s)] M (Rt (nI (nxt T a s)) M) := by
  have h32 := rm_32 hR
  refine Call_of (ls0 := [some (.ref 61), some (.int (nI a)), some (.int (nI s))]) rfl rfl (Nat.le_of_ble_eq_true rfl) ?_
  refine E_bipush (v := nI 64) dX11_next_0 rfl ?_
  refine E_aload_n dX11_next_2 rfl ?_
  refine E_getR' (ci := 11) (j := 5) (p := 63) dX11_next_3 fkX11_13 rfl (by decide) rfl (by decide) (rfl) ?_
  refine E_iload_n dX11_next_6 rfl ?_
  refine E_ialdN dX11_next_7 rfl (by omega) (by decide) (rm_to hR ha) ?_
  refine E_imulN dX11_next_8 ?_
  refine E_iload_n dX11_next_9 rfl ?_
  refine E_bipush (v := nI 64) dX11_next_10 rfl ?_
  refine E_iremN dX11_next_12 (by omega) (by decide) (by decide) ?_
  refine E_aload_n dX11_next_13 rfl ?_
  refine E_getR' (ci := 11) (j := 11) (p := 69) dX11_next_14 fkX11_31 rfl (by decide) rfl (by decide) (rfl) ?_
  refine E_iload_n dX11_next_17 rfl ?_
  refine E_ialdN dX11_next_18 rfl (by omega) (by decide) (rm_takes hR ha) ?_
  refine E_iconst (v := -1) dX11_next_19 rfl ?_
  refine E_ixor dX11_next_20 ?_
  refine E_iandNC dX11_next_21 ?_
  refine E_aload_n dX11_next_22 rfl ?_
  refine E_getR' (ci := 11) (j := 10) (p := 68) dX11_next_23 fkX11_28 rfl (by decide) rfl (by decide) (rfl) ?_
  refine E_iload_n dX11_next_26 rfl ?_
  refine E_ialdN dX11_next_27 rfl (by omega) (by decide) (rm_lays hR ha) ?_
  refine E_iorN dX11_next_28 ?_
  refine E_iaddN dX11_next_29 ?_
  refine E_iret dX11_next_30 rfl ?_
  exact Rt_n rfl
end M2
