-- the model: how many rows
def RL64 (p : Nat) (W : Nat → Nat) (M : AM) : Prop := ∀ t, t < 1024 → M.2.1 p t = lN (W t) ∧ W t < 2 ^ 63
def edW (T : TK) (W : Nat → Nat) (t k a : Nat) : Nat := if (opn T a k 0 && nxt T a k == t) = true then W k else 0
def roW (T : TK) (W : Nat → Nat) (t k : Nat) : Nat := smN (edW T W t k) (T 61 0)
/-- one answer more -/
def stW (T : TK) (W : Nat → Nat) (t : Nat) : Nat := smN (roW T W t) 1024
def cW (T : TK) : Nat → Nat → Nat
  | 0, t => if t = fst0 T then 1 else 0
  | n + 1, t => stW T (cW T n) t
theorem smN_mn (f : Nat → Nat) : ∀ {n m : Nat}, n ≤ m → smN f n ≤ smN f m := by
  intro n m h1
  induction m with
  | zero => rw [show n = 0 by omega]; exact Nat.le_refl _
  | succ m ih =>
    by_cases e : n = m + 1
    · rw [e]; exact Nat.le_refl _
    · have := ih (by omega)
      rw [smN]; omega
/-- what is counted so far is no more than all -/
theorem paW_le (T : TK) (W : Nat → Nat) (t : Nat) {k a : Nat} (hk : k < 1024) (ha : a ≤ T 61 0) : smN (roW T W t) k + smN (edW T W t k) a ≤ stW T W t := by
  have h1 : smN (edW T W t k) a ≤ roW T W t k := smN_mn _ ha
  have h2 : smN (roW T W t) (k + 1) ≤ stW T W t := smN_mn _ (by omega)
  rw [smN] at h2
  omega
theorem sL_get {M : AM} {k j a b : Nat} {x : Int64} : (sL M k j x).2.1 a b = if a = k ∧ b = j then x else M.2.1 a b := rfl
theorem maxL : (9223372036854775807 : Int64) = lN (2 ^ 63 - 1) := by decide
section M12
variable {g : GG} {M : AM} {T : TK} {W : Nat → Nat}
theorem m_isTooMuch {x y : Nat} (hx : x < 2 ^ 63) (hy : y < 2 ^ 63) : Call g qX11_isTooMuch [.long (lN x), .long (lN y)] M (Rt (bI (decide (2 ^ 63 ≤ x + y))) M) := by
  have e1 : lN x ≤ 9223372036854775807 - lN y ↔ x ≤ 2 ^ 63 - 1 - y := by rw [maxL, lN_sub (by omega), pk_lLE hx (by omega)]
  refine Call_of (ls0 := [some (.long (lN x)), none, some (.long (lN y)), none]) rfl rfl (Nat.le_of_ble_eq_true rfl) ?_
  refine E_lload_n dX11_isTooMuch_0 rfl ?_
  refine E_ldc2 dX11_isTooMuch_1 clX11_314 ?_
  refine E_lload_n dX11_isTooMuch_4 rfl ?_
  refine E_lsub dX11_isTooMuch_5 ?_
  refine E_lcmp dX11_isTooMuch_6 ?_
  refine E_if_le (t := 14) dX11_isTooMuch_7 (by decide) (fun c7 => ?_) (fun c7 => ?_)
  · skip
    have hv : decide (2 ^ 63 ≤ x + y) = false := by rw [lg_cmp_le, e1] at c7; exact decide_eq_false (by omega)
    refine E_iconst (v := nI 0) dX11_isTooMuch_14 rfl ?_
    refine E_top (show nI 0 = bI false from rfl) ?_
    refine E_zret dX11_isTooMuch_15 rfl (bI_01 _) ?_
    exact Rt_b hv.symm
  · skip
    have hv : decide (2 ^ 63 ≤ x + y) = true := by rw [lg_cmp_le, e1] at c7; exact decide_eq_true (by omega)
    refine E_iconst (v := nI 1) dX11_isTooMuch_10 rfl ?_
    refine E_goto (t := 15) dX11_isTooMuch_11 (by decide) ?_
    refine E_top (show nI 1 = bI true from rfl) ?_
    refine E_zret dX11_isTooMuch_15 rfl (bI_01 _) ?_
    exact Rt_b hv.symm
theorem m_goes (hR : RM T M) (hW : RL64 83 W M) : Call g qX11_goes [.ref 61] M (fun v M' => Sb [83, 84] M M' ∧ ((v = some (.int (bI true)) ∧ RL64 83 (stW T W) M') ∨ (v = some (.int (bI false)) ∧ ∃ t, t < 1024 ∧ 2 ^ 63 ≤ stW T W t))) := by
  have h32 := rm_32 hR
  have hT := rm_wt hR
  have L118 : ∀ (n i : Nat) (M1 : AM) (y2 y3 : Option Value), i ≤ 1024 → 1024 < i + n → Sb [83, 84] M M1 → RL64 84 (stW T W) M1 → (∀ t, t < i → M1.2.1 83 t = lN (stW T W t)) → Ex g qX11_goes (tm g qX11_goes (fun v M' => Sb [83, 84] M M' ∧ ((v = some (.int (bI true)) ∧ RL64 83 (stW T W) M') ∨ (v = some (.int (bI false)) ∧ ∃ t, t < 1024 ∧ 2 ^ 63 ≤ stW T W t)))) 118 [some (.ref 61), some (.int (nI i)), y2, y3] [] M1 := by
    intro n
    induction n with
    | zero => intro i M1 y2 y3 h1 h2; exact absurd h2 (by omega)
    | succ n ih =>
      intro i M1 y2 y3 hi hn hS hL hm
      refine E_iload_n dX11_goes_118 rfl ?_
      refine E_sipush (v := nI 1024) dX11_goes_119 rfl ?_
      refine E_icmp_geN (t := 143) dX11_goes_122 (by decide) (by omega) (by omega) (fun c122 => ?_) (fun c122 => ?_)
      · skip
        refine E_iconst (v := nI 1) dX11_goes_143 rfl ?_
        refine E_top (show nI 1 = bI true from rfl) ?_
        refine E_zret dX11_goes_144 rfl (bI_01 _) ?_
        exact ⟨hS, Or.inl ⟨rfl, fun t ht => ⟨hm t (by omega), (hL t ht).2⟩⟩⟩
      · skip
        refine E_aload_n dX11_goes_125 rfl ?_
        refine E_getR' (ci := 11) (j := 36) (p := 83) dX11_goes_126 fkX11_74 rfl (by decide) rfl (by decide) (rfl) ?_
        refine E_iload_n dX11_goes_129 rfl ?_
        refine E_aload_n dX11_goes_130 rfl ?_
        refine E_getR' (ci := 11) (j := 37) (p := 84) dX11_goes_131 fkX11_78 rfl (by decide) rfl (by decide) (rfl) ?_
        refine E_iload_n dX11_goes_134 rfl ?_
        refine E_laldN dX11_goes_135 rfl (by omega) (by decide) ((hL i (by omega)).1) ?_
        refine E_lastN dX11_goes_136 rfl (by omega) (by decide) ?_
        refine E_iincN (b := 1) dX11_goes_137 rfl rfl (by decide) rfl ?_
        refine E_goto (t := 118) dX11_goes_140 (by decide) ?_
        refine ih (i + 1) _ y2 y3 (by omega) (by omega) (hS.tr (Sb.l (by decide))) (fun t ht => ?_) (fun t ht => ?_)
        · rw [sL_get, if_neg (by omega)]; exact hL t ht
        · rw [sL_get]; by_cases h5 : t = i; rw [if_pos ⟨rfl, h5⟩, h5]; rw [if_neg (fun e => h5 e.2)]; exact hm t (by omega)
  have L24 : ∀ (n k : Nat) (M1 : AM) (y2 y3 : Option Value), k ≤ 1024 → 1024 < k + n → Sb [84] M M1 → RL64 84 (fun t => smN (roW T W t) k) M1 → Ex g qX11_goes (tm g qX11_goes (fun v M' => Sb [83, 84] M M' ∧ ((v = some (.int (bI true)) ∧ RL64 83 (stW T W) M') ∨ (v = some (.int (bI false)) ∧ ∃ t, t < 1024 ∧ 2 ^ 63 ≤ stW T W t)))) 24 [some (.ref 61), some (.int (nI k)), y2, y3] [] M1 := by
    intro n
    induction n with
    | zero => intro k M1 y2 y3 h1 h2; exact absurd h2 (by omega)
    | succ n ihK =>
      intro k M1 y2 y3 hk hn hS hL
      have L33 : k < 1024 → ∀ (j a : Nat) (M2 : AM) (y3 : Option Value), a ≤ T 61 0 → T 61 0 < a + j → Sb [84] M M2 → RL64 84 (fun t => smN (roW T W t) k + smN (edW T W t k) a) M2 → Ex g qX11_goes (tm g qX11_goes (fun v M' => Sb [83, 84] M M' ∧ ((v = some (.int (bI true)) ∧ RL64 83 (stW T W) M') ∨ (v = some (.int (bI false)) ∧ ∃ t, t < 1024 ∧ 2 ^ 63 ≤ stW T W t)))) 33 [some (.ref 61), some (.int (nI k)), some (.int (nI a)), y3] [] M2 := by
        intro hk2 j
        induction j with
        | zero => intro a M2 y3 h1 h2; exact absurd h2 (by omega)
        | succ j ihA =>
          intro a M2 y3 ha hj hS2 hL2
          have hR2 := rm_sb hR hS2 (by decide)
          have hWk : M2.2.1 83 k = lN (W k) := (congrFun (hS2 83 (by decide)).2.1 k).trans (hW k hk2).1
          have hwl := (hW k hk2).2
          refine E_iload_n dX11_goes_33 rfl ?_
          refine E_aload_n dX11_goes_34 rfl ?_
          refine E_getI' (ci := 11) (j := 0) dX11_goes_35 fkX11_85 rfl (by decide) rfl (by decide) (rm_many hR2) ?_
          refine E_icmp_geN (t := 110) dX11_goes_38 (by decide) (by omega) (by omega) (fun c38 => ?_) (fun c38 => ?_)
          · skip
            have hro : ∀ t, smN (edW T W t k) a = roW T W t k := fun t => by unfold roW; rw [show a = T 61 0 by omega]
            refine E_iincN (b := 1) dX11_goes_110 rfl rfl (by decide) rfl ?_
            refine E_goto (t := 24) dX11_goes_113 (by decide) ?_
            refine ihK (k + 1) M2 _ _ (by omega) (by omega) hS2 (fun t ht => ?_)
            have h9 := hL2 t ht
            dsimp only at h9 ⊢
            rw [hro t] at h9
            rw [smN]
            exact h9
          · skip
            refine E_aload_n dX11_goes_41 rfl ?_
            refine E_getR' (ci := 11) (j := 36) (p := 83) dX11_goes_42 fkX11_74 rfl (by decide) rfl (by decide) (rfl) ?_
            refine E_iload_n dX11_goes_45 rfl ?_
            refine E_laldN dX11_goes_46 rfl (by omega) (by decide) (hWk) ?_
            refine E_lconst (v := 0) dX11_goes_47 rfl ?_
            refine E_lcmp dX11_goes_48 ?_
            refine E_if_le (t := 110) dX11_goes_49 (by decide) (fun c49 => ?_) (fun c49 => ?_)
            · skip
              have hw0 : W k = 0 := by rw [lg_cmp_le] at c49; have h7 : lN (W k) ≤ lN 0 := c49; have := (pk_lLE hwl (by decide)).mp h7; omega
              have hro0 : ∀ t n, smN (edW T W t k) n = 0 := fun t n => by induction n with | zero => rfl | succ n ihn => rw [smN, ihn]; unfold edW; rw [hw0]; split <;> rfl
              have hro : ∀ t, smN (edW T W t k) a = roW T W t k := fun t => by unfold roW; rw [hro0, hro0]
              refine E_iincN (b := 1) dX11_goes_110 rfl rfl (by decide) rfl ?_
              refine E_goto (t := 24) dX11_goes_113 (by decide) ?_
              refine ihK (k + 1) M2 _ _ (by omega) (by omega) hS2 (fun t ht => ?_)
              have h9 := hL2 t ht
              dsimp only at h9 ⊢
              rw [hro t] at h9
              rw [smN]
              exact h9
            · skip
              refine E_aload_n dX11_goes_52 rfl ?_
              refine E_iload_n dX11_goes_53 rfl ?_
              refine E_iload_n dX11_goes_54 rfl ?_
              refine E_iconst (v := -1) dX11_goes_55 rfl ?_
              refine E_callV (r := qX11_isOpen) (ci := 11) dX11_goes_56 mkX11_105 voX11_isOpen rfl rfl rfl ⟨Nat.le_of_ble_eq_true rfl, Nat.le_of_ble_eq_true rfl, Nat.le_of_ble_eq_true rfl, Nat.le_of_ble_eq_true rfl⟩ (m_isOpen0 hR2 c38 hk2) rfl (Nat.le_of_ble_eq_true rfl) ?_
              rintro _ _ ⟨rfl, rfl⟩
              refine E_if_eqB (t := 104) dX11_goes_59 (by decide) (fun c59 => ?_) (fun c59 => ?_)
              · skip
                have hed : ∀ t, edW T W t k a = 0 := fun t => by unfold edW; rw [c59]; rfl
                have hOld : RL64 84 (fun t => smN (roW T W t) k + smN (edW T W t k) (a + 1)) M2 := by
                  intro t ht
                  have h9 := hL2 t ht
                  dsimp only at h9 ⊢
                  rw [smN, hed t]
                  exact h9
                refine E_iincN (b := 1) dX11_goes_104 rfl rfl (by decide) rfl ?_
                refine E_goto (t := 33) dX11_goes_107 (by decide) ?_
                first | exact ihA (a + 1) _ _ (by omega) (by omega) hS2 hOld | exact ihA (a + 1) _ _ (by omega) (by omega) (hS2.tr (Sb.l (by decide))) hNew
              · skip
                have hed : ∀ t, edW T W t k a = if t = nxt T a k then W k else 0 := fun t => by unfold edW; rw [c59]; by_cases e : t = nxt T a k; rw [if_pos e, e]; simp; rw [if_neg e]; simp; exact fun e2 => absurd e2.symm e
                refine E_aload_n dX11_goes_62 rfl ?_
                refine E_iload_n dX11_goes_63 rfl ?_
                refine E_iload_n dX11_goes_64 rfl ?_
                refine E_callV (r := qX11_next) (ci := 11) dX11_goes_65 mkX11_108 voX11_next rfl rfl rfl ⟨Nat.le_of_ble_eq_true rfl, Nat.le_of_ble_eq_true rfl, Nat.le_of_ble_eq_true rfl, Nat.le_of_ble_eq_true rfl⟩ (m_next hR2 c38 hk2) rfl (Nat.le_of_ble_eq_true rfl) ?_
                rintro _ _ ⟨rfl, rfl⟩
                refine E_ist_n (i := 3) dX11_goes_68 rfl (by decide) rfl ?_
                refine E_aload_n dX11_goes_69 rfl ?_
                refine E_getR' (ci := 11) (j := 37) (p := 84) dX11_goes_70 fkX11_78 rfl (by decide) rfl (by decide) (rfl) ?_
                refine E_iload_n dX11_goes_73 rfl ?_
                refine E_laldN dX11_goes_74 rfl (nxt_lt hT c38) (by decide) ((hL2 _ (nxt_lt hT c38)).1) ?_
                refine E_aload_n dX11_goes_75 rfl ?_
                refine E_getR' (ci := 11) (j := 36) (p := 83) dX11_goes_76 fkX11_74 rfl (by decide) rfl (by decide) (rfl) ?_
                refine E_iload_n dX11_goes_79 rfl ?_
                refine E_laldN dX11_goes_80 rfl (by omega) (by decide) (hWk) ?_
                refine E_callS (r := qX11_isTooMuch) dX11_goes_81 mkX11_316 toX11_isTooMuch rfl ⟨Nat.le_of_ble_eq_true rfl, Nat.le_of_ble_eq_true rfl, Nat.le_of_ble_eq_true rfl, Nat.le_of_ble_eq_true rfl⟩ (m_isTooMuch (hL2 _ (nxt_lt hT c38)).2 hwl) rfl (Nat.le_of_ble_eq_true rfl) ?_
                rintro _ _ ⟨rfl, rfl⟩
                refine E_if_eqB (t := 89) dX11_goes_84 (by decide) (fun c84 => ?_) (fun c84 => ?_)
                · skip
                  have c84 := of_decide_eq_false c84
                  dsimp only at c84
                  have hNew : RL64 84 (fun t => smN (roW T W t) k + smN (edW T W t k) (a + 1)) (sL M2 84 (nxt T a k) (lN (smN (roW T W (nxt T a k)) k + smN (edW T W (nxt T a k) k) a + W k))) := by
                    intro t ht
                    have h9 := hL2 t ht
                    dsimp only at h9 ⊢
                    rw [smN, hed t, sL_get]
                    by_cases e : t = nxt T a k
                    · rw [if_pos ⟨rfl, e⟩, if_pos e, e, Nat.add_assoc]
                      exact ⟨rfl, by omega⟩
                    · rw [if_neg (fun e2 => e e2.2), if_neg e]
                      exact h9
                  refine E_aload_n dX11_goes_89 rfl ?_
                  refine E_getR' (ci := 11) (j := 37) (p := 84) dX11_goes_90 fkX11_78 rfl (by decide) rfl (by decide) (rfl) ?_
                  refine E_iload_n dX11_goes_93 rfl ?_
                  refine E_dup2 dX11_goes_94 rfl rfl ?_
                  refine E_laldN dX11_goes_95 rfl (nxt_lt hT c38) (by decide) ((hL2 _ (nxt_lt hT c38)).1) ?_
                  refine E_aload_n dX11_goes_96 rfl ?_
                  refine E_getR' (ci := 11) (j := 36) (p := 83) dX11_goes_97 fkX11_74 rfl (by decide) rfl (by decide) (rfl) ?_
                  refine E_iload_n dX11_goes_100 rfl ?_
                  refine E_laldN dX11_goes_101 rfl (by omega) (by decide) (hWk) ?_
                  refine E_ladd dX11_goes_102 ?_
                  refine E_topl (lN_add _ _) ?_
                  refine E_lastN dX11_goes_103 rfl (nxt_lt hT c38) (by decide) ?_
                  refine E_iincN (b := 1) dX11_goes_104 rfl rfl (by decide) rfl ?_
                  refine E_goto (t := 33) dX11_goes_107 (by decide) ?_
                  first | exact ihA (a + 1) _ _ (by omega) (by omega) hS2 hOld | exact ihA (a + 1) _ _ (by omega) (by omega) (hS2.tr (Sb.l (by decide))) hNew
                · skip
                  have c84 := of_decide_eq_true c84
                  dsimp only at c84
                  refine E_iconst (v := nI 0) dX11_goes_87 rfl ?_
                  refine E_top (show nI 0 = bI false from rfl) ?_
                  refine E_zret dX11_goes_88 rfl (bI_01 _) ?_
                  refine ⟨hS2.sub (by decide), Or.inr ⟨rfl, nxt T a k, nxt_lt hT c38, ?_⟩⟩
                  have h8 := paW_le T W (nxt T a k) (k := k) (a := a + 1) hk2 (by omega)
                  rw [smN, hed, if_pos rfl] at h8
                  omega
      refine E_iload_n dX11_goes_24 rfl ?_
      refine E_sipush (v := nI 1024) dX11_goes_25 rfl ?_
      refine E_icmp_geN (t := 116) dX11_goes_28 (by decide) (by omega) (by omega) (fun c28 => ?_) (fun c28 => ?_)
      · skip
        refine E_iconst (v := nI 0) dX11_goes_116 rfl ?_
        refine E_ist_n (i := 1) dX11_goes_117 rfl (by decide) rfl ?_
        refine L118 1025 0 M1 _ _ (by omega) (by omega) (hS.sub (by decide)) ?_ (fun t ht => absurd ht (Nat.not_lt_zero t))
        have hk9 : k = 1024 := by omega
        subst hk9
        exact hL
      · skip
        refine E_iconst (v := nI 0) dX11_goes_31 rfl ?_
        refine E_ist_n (i := 2) dX11_goes_32 rfl (by decide) rfl ?_
        exact L33 (by omega) (T 61 0 + 1) 0 M1 _ (by omega) (by omega) hS hL
  have L2 : ∀ (n i : Nat) (M1 : AM), i ≤ 1024 → 1024 < i + n → Sb [84] M M1 → (∀ t, t < i → M1.2.1 84 t = lN 0) → Ex g qX11_goes (tm g qX11_goes (fun v M' => Sb [83, 84] M M' ∧ ((v = some (.int (bI true)) ∧ RL64 83 (stW T W) M') ∨ (v = some (.int (bI false)) ∧ ∃ t, t < 1024 ∧ 2 ^ 63 ≤ stW T W t)))) 2 [some (.ref 61), some (.int (nI i)), none, none] [] M1 := by
    intro n
    induction n with
    | zero => intro i M1 h1 h2; exact absurd h2 (by omega)
    | succ n ih =>
      intro i M1 hi hn hS hm
      refine E_iload_n dX11_goes_2 rfl ?_
      refine E_sipush (v := nI 1024) dX11_goes_3 rfl ?_
      refine E_icmp_geN (t := 22) dX11_goes_6 (by decide) (by omega) (by omega) (fun c6 => ?_) (fun c6 => ?_)
      · skip
        refine E_iconst (v := nI 0) dX11_goes_22 rfl ?_
        refine E_ist_n (i := 1) dX11_goes_23 rfl (by decide) rfl ?_
        exact L24 1025 0 M1 _ _ (by omega) (by omega) hS (fun t ht => ⟨hm t (by omega), by dsimp only; rw [smN]; decide⟩)
      · skip
        refine E_aload_n dX11_goes_9 rfl ?_
        refine E_getR' (ci := 11) (j := 37) (p := 84) dX11_goes_10 fkX11_78 rfl (by decide) rfl (by decide) (rfl) ?_
        refine E_iload_n dX11_goes_13 rfl ?_
        refine E_lconst (v := 0) dX11_goes_14 rfl ?_
        refine E_lastN dX11_goes_15 rfl (by omega) (by decide) ?_
        refine E_iincN (b := 1) dX11_goes_16 rfl rfl (by decide) rfl ?_
        refine E_goto (t := 2) dX11_goes_19 (by decide) ?_
        refine ih (i + 1) _ (by omega) (by omega) (hS.tr (Sb.l (by decide))) (fun t ht => ?_)
        rw [sL_get]; by_cases h5 : t = i; rw [if_pos ⟨rfl, h5⟩]; rfl; rw [if_neg (fun e => h5 e.2)]; exact hm t (by omega)
  refine Call_of (ls0 := [some (.ref 61), none, none, none]) rfl rfl (Nat.le_of_ble_eq_true rfl) ?_
  refine E_iconst (v := nI 0) dX11_goes_0 rfl ?_
  refine E_ist_n (i := 1) dX11_goes_1 rfl (by decide) rfl ?_
  exact L2 1025 0 M (by omega) (by omega) Sb.rf (fun t ht => absurd ht (Nat.not_lt_zero t))
def ovN (T : TK) (j : Nat) : Bool := anyN (fun k => anyN (fun t => decide (2 ^ 63 ≤ cW T k t)) 1024) (j + 1)
def suW (T : TK) (j l : Nat) : Nat → Nat := smN (fun i => cW T j (64 * l + i))
def mrRows (T : TK) (x n : Int32) : Int64 := if isLn T x = false then -1000001 else if inI n 0 80 = false then -1000002 else if (ovN T n.toInt.toNat || decide (2 ^ 63 ≤ suW T n.toInt.toNat x.toInt.toNat 64)) = true then -1000004 else lN (suW T n.toInt.toNat x.toInt.toNat 64)
abbrev RtL (x : Int64) (M : AM) : Option Value → AM → Prop := fun v M' => v = some (.long x) ∧ Sb scrM M M'
theorem cW_0 {T : TK} : ∀ t, cW T 0 t < 2 ^ 63 := fun t => by rw [cW]; split <;> decide
theorem ovN_of {T : TK} {j k t : Nat} (hk : k ≤ j) (ht : t < 1024) (h1 : 2 ^ 63 ≤ cW T k t) : ovN T j = true := anyN_iff.mpr ⟨k, by omega, anyN_iff.mpr ⟨t, ht, decide_eq_true h1⟩⟩
theorem ovN_not {T : TK} {j : Nat} (h1 : ∀ k, k ≤ j → ∀ t, t < 1024 → cW T k t < 2 ^ 63) : ovN T j = false := by
  cases h2 : ovN T j with
  | false => rfl
  | true =>
    obtain ⟨k, hk, h3⟩ := anyN_iff.mp h2
    obtain ⟨t, ht, h4⟩ := anyN_iff.mp h3
    have h5 := h1 k (by omega) t ht
    have h6 := of_decide_eq_true h4
    omega
theorem m_rows (hR : RM T M) (hB : RB T M) {x n : Int32} : Call g qX11_rows [.ref 61, .int x, .int n] M (RtL (mrRows T x n) M) := by
  have hT := rm_wt hR
  have LL : ∀ (l j : Nat), l < 16 → j ≤ 80 → isLn T (nI l) = true → inI (nI j) 0 80 = true → ∀ (y3 y4 y5 : Option Value) (M0 : AM), Sb scrM M M0 → RL64 83 (cW T 0) M0 → Ex g qX11_rows (tm g qX11_rows (RtL (mrRows T (nI l) (nI j)) M)) 64 [some (.ref 61), some (.int (nI l)), some (.int (nI j)), some (.int (nI 0)), none, none] [] M0 := by
    intro l j hl hj hil hin y3 y4 y5 M0 hS0 hW0
    have hv : mrRows T (nI l) (nI j) = if (ovN T j || decide (2 ^ 63 ≤ suW T j l 64)) = true then -1000004 else lN (suW T j l 64) := by
      unfold mrRows
      rw [if_neg (by rw [hil]; decide), if_neg (by rw [hin]; decide), nI_tn (by omega), nI_tn (by omega)]
    have L94 : ∀ (M1 : AM), Sb scrM M M1 → RL64 83 (cW T j) M1 → (∀ k, k ≤ j → ∀ t, t < 1024 → cW T k t < 2 ^ 63) → ∀ (n i : Nat), i ≤ 64 → 64 < i + n → suW T j l i < 2 ^ 63 → Ex g qX11_rows (tm g qX11_rows (RtL (mrRows T (nI l) (nI j)) M)) 94 [some (.ref 61), some (.int (nI l)), some (.int (nI j)), some (.long (lN (suW T j l i))), none, some (.int (nI (64 * l + i)))] [] M1 := by
      intro M1 hS1 hW1 hno n
      induction n with
      | zero => intro i h1 h2; exact absurd h2 (by omega)
      | succ n ih =>
        intro i hi hn hsu
        refine E_iload dX11_rows_94 rfl ?_
        refine E_bipush (v := nI 64) dX11_rows_96 rfl ?_
        refine E_iload_n dX11_rows_98 rfl ?_
        refine E_imulN dX11_rows_99 ?_
        refine E_bipush (v := nI 64) dX11_rows_100 rfl ?_
        refine E_iaddN dX11_rows_102 ?_
        refine E_icmp_geN (t := 140) dX11_rows_103 (by decide) (by omega) (by omega) (fun c103 => ?_) (fun c103 => ?_)
        · skip
          refine E_lload_n dX11_rows_140 rfl ?_
          refine E_lret dX11_rows_141 rfl ?_
          refine ⟨?_, hS1⟩
          have hi6 : i = 64 := by omega
          subst hi6
          rw [hv, if_neg (by rw [ovN_not hno, decide_eq_false (by omega)]; decide)]
        · skip
          refine E_lload_n dX11_rows_106 rfl ?_
          refine E_aload_n dX11_rows_107 rfl ?_
          refine E_getR' (ci := 11) (j := 36) (p := 83) dX11_rows_108 fkX11_74 rfl (by decide) rfl (by decide) (rfl) ?_
          refine E_iload dX11_rows_111 rfl ?_
          refine E_laldN dX11_rows_113 rfl (by omega) (by decide) ((hW1 _ (by omega)).1) ?_
          refine E_callS (r := qX11_isTooMuch) dX11_rows_114 mkX11_316 toX11_isTooMuch rfl ⟨Nat.le_of_ble_eq_true rfl, Nat.le_of_ble_eq_true rfl, Nat.le_of_ble_eq_true rfl, Nat.le_of_ble_eq_true rfl⟩ (m_isTooMuch hsu (hW1 _ (by omega)).2) rfl (Nat.le_of_ble_eq_true rfl) ?_
          rintro _ _ ⟨rfl, rfl⟩
          refine E_if_eqB (t := 124) dX11_rows_117 (by decide) (fun c117 => ?_) (fun c117 => ?_)
          · skip
            have c117 := of_decide_eq_false c117
            refine E_lload_n dX11_rows_124 rfl ?_
            refine E_aload_n dX11_rows_125 rfl ?_
            refine E_getR' (ci := 11) (j := 36) (p := 83) dX11_rows_126 fkX11_74 rfl (by decide) rfl (by decide) (rfl) ?_
            refine E_iload dX11_rows_129 rfl ?_
            refine E_laldN dX11_rows_131 rfl (by omega) (by decide) ((hW1 _ (by omega)).1) ?_
            refine E_ladd dX11_rows_132 ?_
            refine E_topl (lN_add _ _) ?_
            refine E_lst_n (i := 3) dX11_rows_133 rfl (by decide) rfl ?_
            refine E_iincN (b := 1) dX11_rows_134 rfl rfl (by decide) rfl ?_
            refine E_goto (t := 94) dX11_rows_137 (by decide) ?_
            exact ih (i + 1) (by omega) (by omega) (show suW T j l i + cW T j (64 * l + i) < 2 ^ 63 by omega)
          · skip
            have c117 := of_decide_eq_true c117
            refine E_ldc2 dX11_rows_120 clX11_329 ?_
            refine E_lret dX11_rows_123 rfl ?_
            refine ⟨?_, hS1⟩
            have h8 : suW T j l (i + 1) ≤ suW T j l 64 := smN_mn _ (by omega)
            have h9 : suW T j l (i + 1) = suW T j l i + cW T j (64 * l + i) := rfl
            rw [hv, if_pos (by rw [decide_eq_true (show 2 ^ 63 ≤ suW T j l 64 by omega)]; simp)]
    have L64 : ∀ (n k : Nat) (M1 : AM), k ≤ j → j < k + n → Sb scrM M M1 → RL64 83 (cW T k) M1 → (∀ i, i ≤ k → ∀ t, t < 1024 → cW T i t < 2 ^ 63) → Ex g qX11_rows (tm g qX11_rows (RtL (mrRows T (nI l) (nI j)) M)) 64 [some (.ref 61), some (.int (nI l)), some (.int (nI j)), some (.int (nI k)), none, none] [] M1 := by
      intro n
      induction n with
      | zero => intro k M1 h1 h2; exact absurd h2 (by omega)
      | succ n ih =>
        intro k M1 hk hn hS1 hW1 hno
        have hR1 := rm_sb hR hS1 (by decide)
        refine E_iload_n dX11_rows_64 rfl ?_
        refine E_iload_n dX11_rows_65 rfl ?_
        refine E_icmp_geN (t := 86) dX11_rows_66 (by decide) (by omega) (by omega) (fun c66 => ?_) (fun c66 => ?_)
        · skip
          have hkj : k = j := by omega
          subst hkj
          refine E_lconst (v := 0) dX11_rows_86 rfl ?_
          refine E_lst_n (i := 3) dX11_rows_87 rfl (by decide) rfl ?_
          refine E_bipush (v := nI 64) dX11_rows_88 rfl ?_
          refine E_iload_n dX11_rows_90 rfl ?_
          refine E_imulN dX11_rows_91 ?_
          refine E_istore dX11_rows_92 (by decide) rfl ?_
          exact L94 M1 hS1 hW1 hno 65 0 (by omega) (by omega) (by unfold suW; rw [smN]; decide)
        · skip
          refine E_aload_n dX11_rows_69 rfl ?_
          refine E_callV (r := qX11_goes) (ci := 11) dX11_rows_70 mkX11_326 voX11_goes rfl rfl rfl ⟨Nat.le_of_ble_eq_true rfl, Nat.le_of_ble_eq_true rfl, Nat.le_of_ble_eq_true rfl, Nat.le_of_ble_eq_true rfl⟩ (m_goes hR1 hW1) rfl (Nat.le_of_ble_eq_true rfl) ?_
          rintro v M2 ⟨hS2, hcase⟩
          have hS3 : Sb scrM M M2 := hS1.tr (hS2.scr (by decide))
          obtain ⟨b, hbv, hbt, hbf⟩ : ∃ b : Bool, v = some (.int (bI b)) ∧ (b = true → RL64 83 (cW T (k + 1)) M2) ∧ (b = false → ∃ t, t < 1024 ∧ 2 ^ 63 ≤ cW T (k + 1) t) := by
            rcases hcase with ⟨h1, h2⟩ | ⟨h1, h2⟩
            · exact ⟨true, h1, fun _ => h2, fun e => by cases e⟩
            · exact ⟨false, h1, fun e => (by cases e), fun _ => h2⟩
          subst hbv
          refine E_if_neB (t := 80) dX11_rows_73 (by decide) (fun c73 => ?_) (fun c73 => ?_)
          · skip
            refine E_iincN (b := 1) dX11_rows_80 rfl rfl (by decide) rfl ?_
            refine E_goto (t := 64) dX11_rows_83 (by decide) ?_
            exact ih (k + 1) M2 (by omega) (by omega) hS3 (hbt c73) (fun i hi t ht => by by_cases e : i = k + 1; rw [e]; exact (hbt c73 t ht).2; exact hno i (by omega) t ht)
          · skip
            refine E_ldc2 dX11_rows_76 clX11_329 ?_
            refine E_lret dX11_rows_79 rfl ?_
            obtain ⟨t, ht, h9⟩ := hbf c73
            exact ⟨by rw [hv, if_pos (by rw [ovN_of (k := k + 1) (by omega) ht h9]; rfl)], hS3⟩
    exact L64 (j + 1) 0 M0 (by omega) (by omega) hS0 hW0 (fun i hi t _ => by rw [show i = 0 by omega]; exact cW_0 t)
  have L30 : ∀ (l j : Nat), l < 16 → j ≤ 80 → isLn T (nI l) = true → inI (nI j) 0 80 = true → ∀ (n i : Nat) (M1 : AM), i ≤ 1024 → 1024 < i + n → Sb [83] M M1 → (∀ t, t < i → M1.2.1 83 t = lN (cW T 0 t)) → Ex g qX11_rows (tm g qX11_rows (RtL (mrRows T (nI l) (nI j)) M)) 30 [some (.ref 61), some (.int (nI l)), some (.int (nI j)), some (.int (nI i)), none, none] [] M1 := by
    intro l j hl hj hil hin n
    induction n with
    | zero => intro i M1 h1 h2; exact absurd h2 (by omega)
    | succ n ih =>
      intro i M1 hi hn hS hm
      have hR1 := rm_sb hR hS (by decide)
      have hB1 : RB T M1 := ⟨by rw [(hS 61 (by decide)).1]; exact hB.1, hB.2⟩
      have hf0 := fst0_lt hT hB.2
      refine E_iload_n dX11_rows_30 rfl ?_
      refine E_sipush (v := nI 1024) dX11_rows_31 rfl ?_
      refine E_icmp_geN (t := 62) dX11_rows_34 (by decide) (by omega) (by omega) (fun c34 => ?_) (fun c34 => ?_)
      · skip
        refine E_iconst (v := nI 0) dX11_rows_62 rfl ?_
        refine E_ist_n (i := 3) dX11_rows_63 rfl (by decide) rfl ?_
        exact LL l j hl hj hil hin none none none M1 (hS.scr (by decide)) (fun t ht => ⟨hm t (by omega), cW_0 t⟩)
      · skip
        refine E_aload_n dX11_rows_37 rfl ?_
        refine E_getR' (ci := 11) (j := 36) (p := 83) dX11_rows_38 fkX11_74 rfl (by decide) rfl (by decide) (rfl) ?_
        refine E_iload_n dX11_rows_41 rfl ?_
        refine E_iload_n dX11_rows_42 rfl ?_
        refine E_aload_n dX11_rows_43 rfl ?_
        refine E_callV (r := qX11_first) (ci := 11) dX11_rows_44 mkX11_118 voX11_first rfl rfl rfl ⟨Nat.le_of_ble_eq_true rfl, Nat.le_of_ble_eq_true rfl, Nat.le_of_ble_eq_true rfl, Nat.le_of_ble_eq_true rfl⟩ (m_first hR1 hB1) rfl (Nat.le_of_ble_eq_true rfl) ?_
        rintro _ _ ⟨rfl, rfl⟩
        refine E_icmp_neN (t := 54) dX11_rows_47 (by decide) (by omega) (by omega) (fun c47 => ?_) (fun c47 => ?_)
        · skip
          refine E_lconst (v := 0) dX11_rows_54 rfl ?_
          refine E_lastN dX11_rows_55 rfl (by omega) (by decide) ?_
          refine E_iincN (b := 1) dX11_rows_56 rfl rfl (by decide) rfl ?_
          refine E_goto (t := 30) dX11_rows_59 (by decide) ?_
          refine ih (i + 1) _ (by omega) (by omega) (hS.tr (Sb.l (by decide))) (fun t ht => ?_)
          rw [sL_get]
          by_cases h5 : t = i
          · rw [if_pos ⟨rfl, h5⟩, h5, cW]; first | (rw [if_pos c47]; rfl) | (rw [if_neg c47]; rfl)
          · rw [if_neg (fun e => h5 e.2)]; exact hm t (by omega)
        · skip
          refine E_lconst (v := 1) dX11_rows_50 rfl ?_
          refine E_goto (t := 55) dX11_rows_51 (by decide) ?_
          refine E_lastN dX11_rows_55 rfl (by omega) (by decide) ?_
          refine E_iincN (b := 1) dX11_rows_56 rfl rfl (by decide) rfl ?_
          refine E_goto (t := 30) dX11_rows_59 (by decide) ?_
          refine ih (i + 1) _ (by omega) (by omega) (hS.tr (Sb.l (by decide))) (fun t ht => ?_)
          rw [sL_get]
          by_cases h5 : t = i
          · rw [if_pos ⟨rfl, h5⟩, h5, cW]; first | (rw [if_pos c47]; rfl) | (rw [if_neg c47]; rfl)
          · rw [if_neg (fun e => h5 e.2)]; exact hm t (by omega)
  refine Call_of (ls0 := [some (.ref 61), some (.int x), some (.int n), none, none, none]) rfl rfl (Nat.le_of_ble_eq_true rfl) ?_
  refine E_aload_n dX11_rows_0 rfl ?_
  refine E_iload_n dX11_rows_1 rfl ?_
  refine E_callV (r := qX11_isLine) (ci := 11) dX11_rows_2 mkX11_250 voX11_isLine rfl rfl rfl ⟨Nat.le_of_ble_eq_true rfl, Nat.le_of_ble_eq_true rfl, Nat.le_of_ble_eq_true rfl, Nat.le_of_ble_eq_true rfl⟩ (m_isLine hR) rfl (Nat.le_of_ble_eq_true rfl) ?_
  rintro _ _ ⟨rfl, rfl⟩
  refine E_if_neB (t := 12) dX11_rows_5 (by decide) (fun c5 => ?_) (fun c5 => ?_)
  · skip
    have h5 := c5
    rw [Bool.and_eq_true] at h5
    obtain ⟨l, hl1, hl2, rfl, hl3⟩ := inI_nat h5.1 (by decide)
    have hil : isLn T (nI l) = true := c5
    refine E_iload_n dX11_rows_12 rfl ?_
    refine E_i2l dX11_rows_13 ?_
    refine E_lconst (v := 0) dX11_rows_14 rfl ?_
    refine E_ldc2 dX11_rows_15 clX11_322 ?_
    refine E_callS (r := qX11_in) dX11_rows_18 mkX11_88 toX11_in rfl ⟨Nat.le_of_ble_eq_true rfl, Nat.le_of_ble_eq_true rfl, Nat.le_of_ble_eq_true rfl, Nat.le_of_ble_eq_true rfl⟩ (m_inI) rfl (Nat.le_of_ble_eq_true rfl) ?_
    rintro _ _ ⟨rfl, rfl⟩
    refine E_top (show _ = bI (inI n 0 80) from rfl) ?_
    refine E_if_neB (t := 28) dX11_rows_21 (by decide) (fun c21 => ?_) (fun c21 => ?_)
    · skip
      obtain ⟨j, hj1, hj2, rfl, hj3⟩ := inI_nat c21 (by decide)
      refine E_iconst (v := nI 0) dX11_rows_28 rfl ?_
      refine E_ist_n (i := 3) dX11_rows_29 rfl (by decide) rfl ?_
      exact L30 l j (by omega) (by omega) hil c21 1025 0 M (by omega) (by omega) Sb.rf (fun t ht => absurd ht (Nat.not_lt_zero t))
    · skip
      refine E_ldc2 dX11_rows_24 clX11_324 ?_
      refine E_lret dX11_rows_27 rfl ?_
      exact ⟨by unfold mrRows; rw [if_neg (by rw [hil]; decide), if_pos c21], Sb.rf⟩
  · skip
    refine E_ldc2 dX11_rows_8 clX11_320 ?_
    refine E_lret dX11_rows_11 rfl ?_
    exact ⟨by unfold mrRows; rw [if_pos (show isLn T x = false from c5)], Sb.rf⟩
end M12
