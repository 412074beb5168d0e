-- the model: the first of the shortest rows
theorem oI_eqN {o : Option Nat} {b : Nat} (ho : ∀ d, o = some d → d < 2 ^ 31) (hb : b < 2 ^ 31) : oI o = nI b ↔ o = some b := by
  cases o with
  | none => exact ⟨fun e => absurd (show nI b < 0 by rw [← e]; decide) (nI_pos hb), fun e => by cases e⟩
  | some d => exact ⟨fun e => by rw [(nI_eq (ho d rfl) hb).mp e], fun e => by cases e; rfl⟩
theorem E_icmp_neON {g : GG} {q : MI} {τ : TT} {pc : Nat} {ls : List (Option Value)} {st : List Value} {M : AM} {b : Nat} {o : Option Nat} {off : Int} {t : Nat} (d : decode (fC q) pc = .ok (.if_icmp .ne off, 3)) (ht : (pc : Int) + off = (t : Int)) (ho : ∀ d, o = some d → d < 2 ^ 31) (hb : b < 2 ^ 31) (kt : ¬ o = some b → Ex g q τ t ls st M) (kf : o = some b → Ex g q τ (pc + 3) ls st M) : Ex g q τ pc ls (.int (nI b) :: .int (oI o) :: st) M :=
  E_icmp_ne d ht (fun h1 => kt (fun e => h1 ((oI_eqN ho hb).mpr e))) (fun h1 => kf ((oI_eqN ho hb).mp h1))
def pr (v : Nat) : Option Nat := match v with
  | 0 => none
  | v + 1 => some v
theorem pr_dec (v : Nat) : nI v + -1 = oI (pr v) := by
  cases v with
  | zero => rfl
  | succ v => exact sb_m1 (p := v + 1) (by omega)
theorem pr_sub (v : Nat) : nI v - nI 1 = oI (pr v) := by
  cases v with
  | zero => rfl
  | succ v => exact pk_sub (a := v + 1) (b := 1) (by omega)
/-- least a below n with f; n if none -/
def ftN (f : Nat → Bool) : Nat → Nat
  | 0 => 0
  | n + 1 => if ftN f n < n then ftN f n else if f n = true then n else n + 1
theorem ftN_spec (f : Nat → Bool) : ∀ n, ftN f n ≤ n ∧ (∀ b, b < ftN f n → f b = false) ∧ (ftN f n < n → f (ftN f n) = true)
  | 0 => ⟨Nat.le_refl 0, fun b hb => absurd hb (Nat.not_lt_zero b), fun h1 => absurd h1 (Nat.not_lt_zero _)⟩
  | n + 1 => by
    obtain ⟨h1, h2, h3⟩ := ftN_spec f n
    rw [ftN]
    by_cases h4 : ftN f n < n
    · rw [if_pos h4]; exact ⟨by omega, h2, fun _ => h3 h4⟩
    · rw [if_neg h4]
      have h5 : ftN f n = n := by omega
      rw [h5] at h2
      by_cases h6 : f n = true
      · rw [if_pos h6]; exact ⟨by omega, h2, fun _ => h6⟩
      · rw [if_neg h6]
        refine ⟨Nat.le_refl _, fun b hb => ?_, fun h7 => absurd h7 (Nat.lt_irrefl _)⟩
        by_cases h7 : b = n
        · rw [h7]; simpa using h6
        · exact h2 b (by omega)
theorem ftN_eq {f : Nat → Bool} {n a : Nat} (ha : a < n) (h1 : f a = true) (h2 : ∀ b, b < a → f b = false) : ftN f n = a := by
  obtain ⟨g1, g2, g3⟩ := ftN_spec f n
  rcases Nat.lt_trichotomy (ftN f n) a with h3 | h3 | h3
  · have := g3 (by omega)
    rw [h2 _ h3] at this
    cases this
  · exact h3
  · rw [g2 a h3] at h1; cases h1
/-- a step on a shortest row: open, good, one farther -/
def gOn (T : TK) (D : Nat → Option Nat) (G : Nat → Bool) (d s a : Nat) : Bool := opn T a s 0 && G (nxt T a s) && D (nxt T a s) == some (d + 1)
/-- r answers more lead to the line by a shortest row of al answers -/
def gdN (T : TK) (D : Nat → Option Nat) (l al : Nat) : Nat → Nat → Bool
  | 0, k => D k == some al && k / 64 == l
  | r + 1, k => anyN (gOn T D (gdN T D l al r) (al - (r + 1)) k) (T 61 0)
def goF (T : TK) (D : Nat → Option Nat) (l al v k : Nat) : Bool := match D k with
  | none => false
  | some d => if v ≤ d ∧ d ≤ al then gdN T D l al (al - d) k else false
theorem goF_s {T : TK} {D : Nat → Option Nat} {l al v k d : Nat} (hd : D k = some d) : goF T D l al v k = if v ≤ d ∧ d ≤ al then gdN T D l al (al - d) k else false := by unfold goF; rw [hd]
theorem goF_n {T : TK} {D : Nat → Option Nat} {l al v k : Nat} (hd : D k = none) : goF T D l al v k = false := by unfold goF; rw [hd]
section M13
variable {g : GG} {M : AM} {T : TK} {D : Nat → Option Nat} {G : Nat → Bool}
theorem m_goesOn (hR : RM T M) (hF : RF D M) (hD : DL D) (hG : RZ 81 G M) {a s d : Nat} (ha : a < T 61 0) (hs : s < 1024) (hd : D s = some d) : Call g qX11_goesOn [.ref 61, .int (nI a), .int (nI s)] M (Rt (bI (gOn T D G d s a)) M) := by
  have hnl := nxt_lt (rm_wt hR) (s := s) ha
  have hd24 := hD s d hd
  refine Call_of (ls0 := [some (.ref 61), some (.int (nI a)), some (.int (nI s)), none]) rfl rfl (Nat.le_of_ble_eq_true rfl) ?_
  refine E_aload_n dX11_goesOn_0 rfl ?_
  refine E_iload_n dX11_goesOn_1 rfl ?_
  refine E_iload_n dX11_goesOn_2 rfl ?_
  refine E_callV (r := qX11_next) (ci := 11) dX11_goesOn_3 mkX11_108 voX11_next rfl rfl rfl ⟨Nat.le_of_ble_eq_true rfl, Nat.le_of_ble_eq_true rfl, Nat.le_of_ble_eq_true rfl, Nat.le_of_ble_eq_true rfl⟩ (m_next hR ha hs) rfl (Nat.le_of_ble_eq_true rfl) ?_
  rintro _ _ ⟨rfl, rfl⟩
  refine E_ist_n (i := 3) dX11_goesOn_6 rfl (by decide) rfl ?_
  refine E_aload_n dX11_goesOn_7 rfl ?_
  refine E_iload_n dX11_goesOn_8 rfl ?_
  refine E_iload_n dX11_goesOn_9 rfl ?_
  refine E_iconst (v := -1) dX11_goesOn_10 rfl ?_
  refine E_callV (r := qX11_isOpen) (ci := 11) dX11_goesOn_11 mkX11_105 voX11_isOpen rfl rfl rfl ⟨Nat.le_of_ble_eq_true rfl, Nat.le_of_ble_eq_true rfl, Nat.le_of_ble_eq_true rfl, Nat.le_of_ble_eq_true rfl⟩ (m_isOpen0 hR ha hs) rfl (Nat.le_of_ble_eq_true rfl) ?_
  rintro _ _ ⟨rfl, rfl⟩
  refine E_if_eqB (t := 47) dX11_goesOn_14 (by decide) (fun c14 => ?_) (fun c14 => ?_)
  · skip
    refine E_iconst (v := nI 0) dX11_goesOn_47 rfl ?_
    refine E_top (show nI 0 = bI false from rfl) ?_
    refine E_zret dX11_goesOn_48 rfl (bI_01 _) ?_
    exact Rt_b (by unfold gOn; first | (rw [c14]; rfl) | (rw [c14, c23]; rfl) | (rw [c14, c23]; simp [c40]))
  · skip
    refine E_aload_n dX11_goesOn_17 rfl ?_
    refine E_getR' (ci := 11) (j := 34) (p := 81) dX11_goesOn_18 fkX11_68 rfl (by decide) rfl (by decide) (rfl) ?_
    refine E_iload_n dX11_goesOn_21 rfl ?_
    refine E_zaldN dX11_goesOn_22 rfl (by omega) (by decide) (hG _ hnl) ?_
    refine E_if_eqB (t := 47) dX11_goesOn_23 (by decide) (fun c23 => ?_) (fun c23 => ?_)
    · skip
      refine E_iconst (v := nI 0) dX11_goesOn_47 rfl ?_
      refine E_top (show nI 0 = bI false from rfl) ?_
      refine E_zret dX11_goesOn_48 rfl (bI_01 _) ?_
      exact Rt_b (by unfold gOn; first | (rw [c14]; rfl) | (rw [c14, c23]; rfl) | (rw [c14, c23]; simp [c40]))
    · skip
      refine E_aload_n dX11_goesOn_26 rfl ?_
      refine E_getR' (ci := 11) (j := 18) (p := 73) dX11_goesOn_27 fkX11_44 rfl (by decide) rfl (by decide) (rfl) ?_
      refine E_iload_n dX11_goesOn_30 rfl ?_
      refine E_ialdN dX11_goesOn_31 rfl (by omega) (by decide) (hF _ hnl) ?_
      refine E_aload_n dX11_goesOn_32 rfl ?_
      refine E_getR' (ci := 11) (j := 18) (p := 73) dX11_goesOn_33 fkX11_44 rfl (by decide) rfl (by decide) (rfl) ?_
      refine E_iload_n dX11_goesOn_36 rfl ?_
      refine E_ialdN dX11_goesOn_37 rfl (by omega) (by decide) ((by rw [hF s hs, hd, oI_s])) ?_
      refine E_iconst (v := nI 1) dX11_goesOn_38 rfl ?_
      refine E_iaddN dX11_goesOn_39 ?_
      refine E_icmp_neON (t := 47) dX11_goesOn_40 (by decide) (fun e he => by have := hD _ e he; omega) (by omega) (fun c40 => ?_) (fun c40 => ?_)
      · skip
        refine E_iconst (v := nI 0) dX11_goesOn_47 rfl ?_
        refine E_top (show nI 0 = bI false from rfl) ?_
        refine E_zret dX11_goesOn_48 rfl (bI_01 _) ?_
        exact Rt_b (by unfold gOn; first | (rw [c14]; rfl) | (rw [c14, c23]; rfl) | (rw [c14, c23]; simp [c40]))
      · skip
        refine E_iconst (v := nI 1) dX11_goesOn_43 rfl ?_
        refine E_goto (t := 48) dX11_goesOn_44 (by decide) ?_
        refine E_top (show nI 1 = bI true from rfl) ?_
        refine E_zret dX11_goesOn_48 rfl (bI_01 _) ?_
        exact Rt_b (by unfold gOn; first | (rw [c14]; rfl) | (rw [c14, c23]; rfl) | (rw [c14, c23]; simp [c40]))
theorem m_laysGood (hR : RM T M) (hF : RF D M) (hD : DL D) {l al : Nat} (hl : l < 16) (hal : al ≤ 1024) : Call g qX11_laysGood [.ref 61, .int (nI l), .int (nI al)] M (fun v M' => v = none ∧ Sb [81] M M' ∧ RZ 81 (goF T D l al 0) M') := by
  have h32 := rm_32 hR
  have hT := rm_wt hR
  have L48 : ∀ (v : Nat) (M1 : AM) (y4 y5 : Option Value), v ≤ al → Sb [81] M M1 → RZ 81 (goF T D l al v) M1 → Ex g qX11_laysGood (tm g qX11_laysGood (fun v M' => v = none ∧ Sb [81] M M' ∧ RZ 81 (goF T D l al 0) M')) 48 [some (.ref 61), some (.int (nI l)), some (.int (nI al)), some (.int (oI (pr v))), y4, y5] [] M1 := by
    intro v
    induction v with
    | zero =>
      intro M1 y4 y5 _ hS hZ
      refine E_iload_n dX11_laysGood_48 rfl ?_
      refine E_if_ltO (t := 129) dX11_laysGood_49 (by decide) (fun d hd => by cases hd) (fun c49 => ?_) (fun c49 => ?_)
      · skip
        refine E_vret dX11_laysGood_129 rfl ?_
        exact ⟨rfl, hS, hZ⟩
      · skip
        exact absurd rfl c49
    | succ v ihV =>
      intro M1 y4 y5 hv hS0 hZ0
      have L55 : ∀ (n k : Nat) (M2 : AM) (y5 : Option Value), k ≤ 1024 → 1024 < k + n → Sb [81] M M2 → RZ 81 (fun t => if t < k then goF T D l al v t else goF T D l al (v + 1) t) M2 → Ex g qX11_laysGood (tm g qX11_laysGood (fun v M' => v = none ∧ Sb [81] M M' ∧ RZ 81 (goF T D l al 0) M')) 55 [some (.ref 61), some (.int (nI l)), some (.int (nI al)), some (.int (nI v)), some (.int (nI k)), y5] [] M2 := by
        intro n
        induction n with
        | zero => intro k M2 y5 h1 h2; exact absurd h2 (by omega)
        | succ n ihK =>
          intro k M2 y5 hk hn hS hZ
          have L66 : k < 1024 → ∀ (j a : Nat) (b : Bool) (M3 : AM), a ≤ T 61 0 → T 61 0 < a + j → Sb [81] M M3 → RZ 81 (fun t => if t < k then goF T D l al v t else if t = k then b else goF T D l al (v + 1) t) M3 → (D k = some v → b = anyN (gOn T D (gdN T D l al (al - (v + 1))) v k) a) → (¬ D k = some v → b = goF T D l al v k) → Ex g qX11_laysGood (tm g qX11_laysGood (fun v M' => v = none ∧ Sb [81] M M' ∧ RZ 81 (goF T D l al 0) M')) 66 [some (.ref 61), some (.int (nI l)), some (.int (nI al)), some (.int (nI v)), some (.int (nI k)), some (.int (nI a))] [] M3 := by
            intro hk2 j
            induction j with
            | zero => intro a b M3 h1 h2; exact absurd h2 (by omega)
            | succ j ihA =>
              intro a b M3 ha hj hS3 hZ3 hb1 hb2
              have hR3 := rm_sb hR hS3 (by decide)
              have hF3 := rf_sb hF hS3 (by decide)
              have hnxt : ∀ (c : Bool), (c = goF T D l al v k) → RZ 81 (fun t => if t < k then goF T D l al v t else if t = k then c else goF T D l al (v + 1) t) M3 → RZ 81 (fun t => if t < k + 1 then goF T D l al v t else goF T D l al (v + 1) t) M3 := by
                intro c hc hz t ht
                rw [hz t ht]
                dsimp only
                by_cases e1 : t < k
                · rw [if_pos e1, if_pos (by omega)]
                · rw [if_neg e1]
                  by_cases e2 : t = k
                  · rw [if_pos e2, if_pos (by omega), hc, e2]
                  · rw [if_neg e2, if_neg (by omega)]
              have hgv : D k = some v → goF T D l al v k = anyN (gOn T D (gdN T D l al (al - (v + 1))) v k) (T 61 0) := by
                intro hd
                rw [goF_s hd, if_pos ⟨Nat.le_refl v, by omega⟩]
                have e : al - v = (al - (v + 1)) + 1 := by omega
                rw [e, gdN, show al - (al - (v + 1) + 1) = v by omega]
              have hone : D k = some v → gOn T D (fun t => if t < k then goF T D l al v t else if t = k then b else goF T D l al (v + 1) t) v k a = gOn T D (gdN T D l al (al - (v + 1))) v k a := by
                intro hd
                unfold gOn
                by_cases e1 : D (nxt T a k) = some (v + 1)
                · rw [e1]
                  have e2 : nxt T a k ≠ k := fun e => by rw [e, hd] at e1; cases e1
                  have e3 : ∀ w, w ≤ v + 1 → goF T D l al w (nxt T a k) = gdN T D l al (al - (v + 1)) (nxt T a k) := fun w hw => by rw [goF_s e1, if_pos ⟨hw, by omega⟩]
                  dsimp only
                  by_cases e4 : nxt T a k < k
                  · rw [if_pos e4, e3 v (by omega)]
                  · rw [if_neg e4, if_neg e2, e3 (v + 1) (Nat.le_refl _)]
                · have e2 : (D (nxt T a k) == some (v + 1)) = false := by simpa using e1
                  rw [e2, Bool.and_false, Bool.and_false]
              have hbk : M3.1 81 k = bI b := by
                have h7 := hZ3 k hk2
                dsimp only at h7
                rw [if_neg (Nat.lt_irrefl k), if_pos rfl] at h7
                exact h7
              refine E_iload dX11_laysGood_66 rfl ?_
              refine E_aload_n dX11_laysGood_68 rfl ?_
              refine E_getI' (ci := 11) (j := 0) dX11_laysGood_69 fkX11_85 rfl (by decide) rfl (by decide) (rm_many hR3) ?_
              refine E_icmp_geN (t := 117) dX11_laysGood_72 (by decide) (by omega) (by omega) (fun c72 => ?_) (fun c72 => ?_)
              · skip
                have hfin : b = goF T D l al v k := by by_cases e : D k = some v; rw [hb1 e, hgv e, show a = T 61 0 by omega]; exact hb2 e
                refine E_iincN (b := 1) dX11_laysGood_117 rfl rfl (by decide) rfl ?_
                refine E_goto (t := 55) dX11_laysGood_120 (by decide) ?_
                exact ihK (k + 1) M3 _ (by omega) (by omega) hS3 (hnxt b hfin hZ3)
              · skip
                refine E_aload_n dX11_laysGood_75 rfl ?_
                refine E_getR' (ci := 11) (j := 18) (p := 73) dX11_laysGood_76 fkX11_44 rfl (by decide) rfl (by decide) (rfl) ?_
                refine E_iload dX11_laysGood_79 rfl ?_
                refine E_ialdN dX11_laysGood_81 rfl (by omega) (by decide) (hF3 k hk2) ?_
                refine E_iload_n dX11_laysGood_82 rfl ?_
                refine E_icmp_neON (t := 117) dX11_laysGood_83 (by decide) (fun d hd => by have := hD _ d hd; omega) (by omega) (fun c83 => ?_) (fun c83 => ?_)
                · skip
                  have hfin : b = goF T D l al v k := hb2 c83
                  refine E_iincN (b := 1) dX11_laysGood_117 rfl rfl (by decide) rfl ?_
                  refine E_goto (t := 55) dX11_laysGood_120 (by decide) ?_
                  exact ihK (k + 1) M3 _ (by omega) (by omega) hS3 (hnxt b hfin hZ3)
                · skip
                  refine E_aload_n dX11_laysGood_86 rfl ?_
                  refine E_getR' (ci := 11) (j := 34) (p := 81) dX11_laysGood_87 fkX11_68 rfl (by decide) rfl (by decide) (rfl) ?_
                  refine E_iload dX11_laysGood_90 rfl ?_
                  refine E_zaldN dX11_laysGood_92 rfl (by omega) (by decide) (hbk) ?_
                  refine E_if_neB (t := 117) dX11_laysGood_93 (by decide) (fun c93 => ?_) (fun c93 => ?_)
                  · skip
                    have hfin : b = goF T D l al v k := by rw [c93, hgv c83]; rw [c93] at hb1; obtain ⟨i, hi, h9⟩ := anyN_iff.mp (hb1 c83).symm; exact (anyN_iff.mpr ⟨i, by omega, h9⟩).symm
                    refine E_iincN (b := 1) dX11_laysGood_117 rfl rfl (by decide) rfl ?_
                    refine E_goto (t := 55) dX11_laysGood_120 (by decide) ?_
                    exact ihK (k + 1) M3 _ (by omega) (by omega) hS3 (hnxt b hfin hZ3)
                  · skip
                    refine E_aload_n dX11_laysGood_96 rfl ?_
                    refine E_getR' (ci := 11) (j := 34) (p := 81) dX11_laysGood_97 fkX11_68 rfl (by decide) rfl (by decide) (rfl) ?_
                    refine E_iload dX11_laysGood_100 rfl ?_
                    refine E_aload_n dX11_laysGood_102 rfl ?_
                    refine E_iload dX11_laysGood_103 rfl ?_
                    refine E_iload dX11_laysGood_105 rfl ?_
                    refine E_callV (r := qX11_goesOn) (ci := 11) dX11_laysGood_107 mkX11_274 voX11_goesOn rfl rfl rfl ⟨Nat.le_of_ble_eq_true rfl, Nat.le_of_ble_eq_true rfl, Nat.le_of_ble_eq_true rfl, Nat.le_of_ble_eq_true rfl⟩ (m_goesOn hR3 hF3 hD hZ3 c72 hk2 c83) rfl (Nat.le_of_ble_eq_true rfl) ?_
                    rintro _ _ ⟨rfl, rfl⟩
                    refine E_zastN dX11_laysGood_110 rfl (by omega) (by decide) ?_
                    refine E_iincN (b := 1) dX11_laysGood_111 rfl rfl (by decide) rfl ?_
                    refine E_goto (t := 66) dX11_laysGood_114 (by decide) ?_
                    refine ihA (a + 1) (gOn T D (fun t => if t < k then goF T D l al v t else if t = k then b else goF T D l al (v + 1) t) v k a) _ (by omega) (by omega) (hS3.tr (Sb.i (by decide))) (fun t ht => ?_) (fun _ => ?_) (fun e => absurd c83 e)
                    · rw [sI_get]; dsimp only
                      by_cases e1 : t = k
                      · rw [if_pos ⟨rfl, e1⟩, e1, if_neg (Nat.lt_irrefl k), if_pos rfl]
                      · rw [if_neg (fun e => e1 e.2), hZ3 t ht]; dsimp only; rw [if_neg e1, if_neg e1]
                    · rw [hone c83, anyN, ← hb1 c83, c93, Bool.false_or]
          refine E_iload dX11_laysGood_55 rfl ?_
          refine E_sipush (v := nI 1024) dX11_laysGood_57 rfl ?_
          refine E_icmp_geN (t := 123) dX11_laysGood_60 (by decide) (by omega) (by omega) (fun c60 => ?_) (fun c60 => ?_)
          · skip
            refine E_iinc (v := -1) dX11_laysGood_123 rfl rfl (by decide) rfl ?_
            refine E_goto (t := 48) dX11_laysGood_126 (by decide) ?_
            rw [pr_dec]
            refine ihV M2 _ _ (by omega) hS (fun t ht => ?_)
            rw [hZ t ht]
            dsimp only
            rw [if_pos (by omega)]
          · skip
            refine E_iconst (v := nI 0) dX11_laysGood_63 rfl ?_
            refine E_istore dX11_laysGood_64 (by decide) rfl ?_
            refine L66 (by omega) (T 61 0 + 1) 0 (goF T D l al (v + 1) k) M2 (by omega) (by omega) hS (fun t ht => ?_) (fun e => ?_) (fun e => ?_)
            · rw [hZ t ht]; dsimp only
              by_cases e1 : t < k
              · rw [if_pos e1, if_pos e1]
              · rw [if_neg e1, if_neg e1]; by_cases e2 : t = k; rw [if_pos e2, e2]; rw [if_neg e2]
            · rw [goF_s e, if_neg (by omega)]; rfl
            · cases hd : D k with
              | none => rw [goF_n hd, goF_n hd]
              | some d => have h7 : ¬ d = v := fun h8 => e (by rw [hd, h8]); rw [goF_s hd, goF_s hd]; by_cases h9 : v ≤ d ∧ d ≤ al; rw [if_pos h9, if_pos (by omega)]; rw [if_neg h9, if_neg (by omega)]
      refine E_iload_n dX11_laysGood_48 rfl ?_
      refine E_if_ltO (t := 129) dX11_laysGood_49 (by decide) (fun d hd => by cases hd; omega) (fun c49 => ?_) (fun c49 => ?_)
      · skip
        cases c49
      · skip
        refine E_iconst (v := nI 0) dX11_laysGood_52 rfl ?_
        refine E_istore dX11_laysGood_53 (by decide) rfl ?_
        exact L55 1025 0 M1 _ (by omega) (by omega) hS0 (fun t ht => by rw [hZ0 t ht]; dsimp only; rw [if_neg (Nat.not_lt_zero t)])
  have L2 : ∀ (n i : Nat) (M1 : AM), i ≤ 1024 → 1024 < i + n → Sb [81] M M1 → (∀ t, t < i → M1.1 81 t = bI (goF T D l al al t)) → Ex g qX11_laysGood (tm g qX11_laysGood (fun v M' => v = none ∧ Sb [81] M M' ∧ RZ 81 (goF T D l al 0) M')) 2 [some (.ref 61), some (.int (nI l)), some (.int (nI al)), some (.int (nI i)), none, none] [] M1 := by
    intro n
    induction n with
    | zero => intro i M1 h1 h2; exact absurd h2 (by omega)
    | succ n ih =>
      intro i M1 hi hn hS hm
      have hF1 := rf_sb hF hS (by decide)
      refine E_iload_n dX11_laysGood_2 rfl ?_
      refine E_sipush (v := nI 1024) dX11_laysGood_3 rfl ?_
      refine E_icmp_geN (t := 44) dX11_laysGood_6 (by decide) (by omega) (by omega) (fun c6 => ?_) (fun c6 => ?_)
      · skip
        refine E_iload_n dX11_laysGood_44 rfl ?_
        refine E_iconst (v := nI 1) dX11_laysGood_45 rfl ?_
        refine E_isub dX11_laysGood_46 ?_
        refine E_top (pr_sub al) ?_
        refine E_ist_n (i := 3) dX11_laysGood_47 rfl (by decide) rfl ?_
        exact L48 al M1 _ _ (Nat.le_refl al) hS (fun t ht => hm t (by omega))
      · skip
        refine E_aload_n dX11_laysGood_9 rfl ?_
        refine E_getR' (ci := 11) (j := 34) (p := 81) dX11_laysGood_10 fkX11_68 rfl (by decide) rfl (by decide) (rfl) ?_
        refine E_iload_n dX11_laysGood_13 rfl ?_
        refine E_aload_n dX11_laysGood_14 rfl ?_
        refine E_getR' (ci := 11) (j := 18) (p := 73) dX11_laysGood_15 fkX11_44 rfl (by decide) rfl (by decide) (rfl) ?_
        refine E_iload_n dX11_laysGood_18 rfl ?_
        refine E_ialdN dX11_laysGood_19 rfl (by omega) (by decide) (hF1 i (by omega)) ?_
        refine E_iload_n dX11_laysGood_20 rfl ?_
        refine E_icmp_neON (t := 36) dX11_laysGood_21 (by decide) (fun d hd => by have := hD _ d hd; omega) (by omega) (fun c21 => ?_) (fun c21 => ?_)
        · skip
          have hv : goF T D l al al i = false := by cases hd : D i with | none => exact goF_n hd | some d => rw [goF_s hd]; by_cases e : al ≤ d ∧ d ≤ al; exact absurd (by rw [hd, show d = al by omega]) c21; rw [if_neg e]
          refine E_iconst (v := nI 0) dX11_laysGood_36 rfl ?_
          refine E_top (show nI 0 = bI false from rfl) ?_
          refine E_zastN dX11_laysGood_37 rfl (by omega) (by decide) ?_
          refine E_iincN (b := 1) dX11_laysGood_38 rfl rfl (by decide) rfl ?_
          refine E_goto (t := 2) dX11_laysGood_41 (by decide) ?_
          refine ih (i + 1) _ (by omega) (by omega) (hS.tr (Sb.i (by decide))) (fun t ht => ?_)
          rw [sI_get]
          by_cases h5 : t = i
          · rw [if_pos ⟨rfl, h5⟩, h5, hv]
          · rw [if_neg (fun e => h5 e.2)]; exact hm t (by omega)
        · skip
          refine E_iload_n dX11_laysGood_24 rfl ?_
          refine E_bipush (v := nI 64) dX11_laysGood_25 rfl ?_
          refine E_idivN dX11_laysGood_27 (by omega) (by decide) (by decide) ?_
          refine E_iload_n dX11_laysGood_28 rfl ?_
          refine E_icmp_neN (t := 36) dX11_laysGood_29 (by decide) (by omega) (by omega) (fun c29 => ?_) (fun c29 => ?_)
          · skip
            have hv : goF T D l al al i = false := by rw [goF_s c21, if_pos ⟨Nat.le_refl _, Nat.le_refl _⟩, Nat.sub_self, gdN, c21]; simp [c29]
            refine E_iconst (v := nI 0) dX11_laysGood_36 rfl ?_
            refine E_top (show nI 0 = bI false from rfl) ?_
            refine E_zastN dX11_laysGood_37 rfl (by omega) (by decide) ?_
            refine E_iincN (b := 1) dX11_laysGood_38 rfl rfl (by decide) rfl ?_
            refine E_goto (t := 2) dX11_laysGood_41 (by decide) ?_
            refine ih (i + 1) _ (by omega) (by omega) (hS.tr (Sb.i (by decide))) (fun t ht => ?_)
            rw [sI_get]
            by_cases h5 : t = i
            · rw [if_pos ⟨rfl, h5⟩, h5, hv]
            · rw [if_neg (fun e => h5 e.2)]; exact hm t (by omega)
          · skip
            have hv : goF T D l al al i = true := by rw [goF_s c21, if_pos ⟨Nat.le_refl _, Nat.le_refl _⟩, Nat.sub_self, gdN, c21]; simp [c29]
            refine E_iconst (v := nI 1) dX11_laysGood_32 rfl ?_
            refine E_goto (t := 37) dX11_laysGood_33 (by decide) ?_
            refine E_top (show nI 1 = bI true from rfl) ?_
            refine E_zastN dX11_laysGood_37 rfl (by omega) (by decide) ?_
            refine E_iincN (b := 1) dX11_laysGood_38 rfl rfl (by decide) rfl ?_
            refine E_goto (t := 2) dX11_laysGood_41 (by decide) ?_
            refine ih (i + 1) _ (by omega) (by omega) (hS.tr (Sb.i (by decide))) (fun t ht => ?_)
            rw [sI_get]
            by_cases h5 : t = i
            · rw [if_pos ⟨rfl, h5⟩, h5, hv]
            · rw [if_neg (fun e => h5 e.2)]; exact hm t (by omega)
  refine Call_of (ls0 := [some (.ref 61), some (.int (nI l)), some (.int (nI al)), none, none, none]) rfl rfl (Nat.le_of_ble_eq_true rfl) ?_
  refine E_iconst (v := nI 0) dX11_laysGood_0 rfl ?_
  refine E_ist_n (i := 3) dX11_laysGood_1 rfl (by decide) rfl ?_
  exact L2 1025 0 M (by omega) (by omega) Sb.rf (fun t ht => absurd ht (Nat.not_lt_zero t))
/-- the row: its states, its answers -/
def rwS (T : TK) (D : Nat → Option Nat) (l al : Nat) : Nat → Nat
  | 0 => fst0 T
  | k + 1 => nxt T (ftN (gOn T D (gdN T D l al (al - (k + 1))) k (rwS T D l al k)) (T 61 0)) (rwS T D l al k)
def rwA (T : TK) (D : Nat → Option Nat) (l al k : Nat) : Nat := ftN (gOn T D (gdN T D l al (al - (k + 1))) k (rwS T D l al k)) (T 61 0)
theorem gdN_any {T : TK} {D : Nat → Option Nat} {l al r k : Nat} (h1 : gdN T D l al (r + 1) k = true) : ∃ a, a < T 61 0 ∧ gOn T D (gdN T D l al r) (al - (r + 1)) k a = true := anyN_iff.mp h1
theorem gOn_good {T : TK} {D : Nat → Option Nat} {l al k s a : Nat} (hk : k < al) : gOn T D (goF T D l al 0) k s a = gOn T D (gdN T D l al (al - (k + 1))) k s a := by
  unfold gOn
  by_cases e : D (nxt T a s) = some (k + 1)
  · rw [goF_s e, if_pos ⟨Nat.zero_le _, by omega⟩]
  · have e2 : (D (nxt T a s) == some (k + 1)) = false := by simpa using e
    rw [e2, Bool.and_false, Bool.and_false]
/-- what holds of the row's states -/
theorem rwS_ok {T : TK} {l al : Nat} (h0 : gdN T (DT T) l al al (fst0 T) = true) (hd0 : DT T (fst0 T) = some 0) : ∀ k, k ≤ al → DT T (rwS T (DT T) l al k) = some k ∧ gdN T (DT T) l al (al - k) (rwS T (DT T) l al k) = true ∧ (k < al → rwA T (DT T) l al k < T 61 0 ∧ gOn T (DT T) (gdN T (DT T) l al (al - (k + 1))) k (rwS T (DT T) l al k) (rwA T (DT T) l al k) = true ∧ ∀ b, b < rwA T (DT T) l al k → gOn T (DT T) (gdN T (DT T) l al (al - (k + 1))) k (rwS T (DT T) l al k) b = false) := by
  have key : ∀ k, k < al → gdN T (DT T) l al (al - k) (rwS T (DT T) l al k) = true → rwA T (DT T) l al k < T 61 0 ∧ gOn T (DT T) (gdN T (DT T) l al (al - (k + 1))) k (rwS T (DT T) l al k) (rwA T (DT T) l al k) = true ∧ ∀ b, b < rwA T (DT T) l al k → gOn T (DT T) (gdN T (DT T) l al (al - (k + 1))) k (rwS T (DT T) l al k) b = false := by
    intro k hk hg
    rw [show al - k = (al - (k + 1)) + 1 by omega] at hg
    obtain ⟨a, ha, h2⟩ := gdN_any hg
    rw [show al - (al - (k + 1) + 1) = k by omega] at h2
    obtain ⟨g1, g2, g3⟩ := ftN_spec (gOn T (DT T) (gdN T (DT T) l al (al - (k + 1))) k (rwS T (DT T) l al k)) (T 61 0)
    have h3 : rwA T (DT T) l al k < T 61 0 := by
      unfold rwA
      rcases Nat.lt_or_ge (ftN (gOn T (DT T) (gdN T (DT T) l al (al - (k + 1))) k (rwS T (DT T) l al k)) (T 61 0)) (T 61 0) with h4 | h4
      · exact h4
      · have := g2 a (by omega)
        rw [h2] at this
        cases this
    exact ⟨h3, g3 h3, g2⟩
  intro k
  induction k with
  | zero => exact fun _ => ⟨hd0, h0, fun hk => key 0 hk h0⟩
  | succ k ih =>
    intro hk
    obtain ⟨-, -, h3⟩ := ih (by omega)
    obtain ⟨h4, h5, -⟩ := h3 (by omega)
    unfold gOn at h5
    rw [Bool.and_eq_true, Bool.and_eq_true] at h5
    have h6 : DT T (nxt T (rwA T (DT T) l al k) (rwS T (DT T) l al k)) = some (k + 1) := by simpa using h5.2
    exact ⟨h6, h5.1.2, fun hk2 => key (k + 1) hk2 h5.1.2⟩
/-- a shortest row to the line: its beginning is good -/
theorem gd_start {T : TK} (hT : WT T) (hB : T 61 13 < 64) {l al : Nat} (hl : fewN (DT T) (64 * l) 64 = some al) : gdN T (DT T) l al al (fst0 T) = true := by
  have hI := DT_isD hT hB
  rw [fewN_om] at hl
  obtain ⟨⟨i, hi, h1⟩, -⟩ := omN_spec.mp hl
  have key : ∀ r k, r ≤ al → DT T k = some (al - r) → (∃ u, rch (sx0 T) k r u ∧ DT T u = some al ∧ u / 64 = l) → gdN T (DT T) l al r k = true := by
    intro r
    induction r with
    | zero =>
      rintro k _ hk ⟨u, hu, h2, h3⟩
      have e : u = k := hu
      subst e
      rw [gdN, h2]
      simp [h3]
    | succ r ih =>
      rintro k hr hk ⟨u, hu, h2, h3⟩
      obtain ⟨t, ht, h4⟩ := rch_cons.mp hu
      obtain ⟨a, b1, b2, b3⟩ := sx0_mem.mp ht
      have hkr := ((hI k _).mp hk).1
      have htr : rch (sx0 T) (fst0 T) (al - (r + 1) + 1) t := ⟨k, hkr, ht⟩
      rw [show al - (r + 1) + 1 = al - r by omega] at htr
      have htd : DT T t = some (al - r) := by
        refine (hI t _).mpr ⟨htr, fun m hm hrm => ?_⟩
        have hup : ∀ n v w, rch (sx0 T) (fst0 T) m v → rch (sx0 T) v n w → rch (sx0 T) (fst0 T) (m + n) w := by
          intro n
          induction n with
          | zero => intro v w hv hw; rw [show w = v from hw]; exact hv
          | succ n ihn => intro v w hv hw; obtain ⟨z, hz, h9⟩ := hw; exact ⟨z, ihn v z hv hz, h9⟩
        have h8 := hup r t u hrm h4
        exact ((hI u al).mp h2).2 (m + r) (by omega) h8
      rw [gdN]
      refine anyN_iff.mpr ⟨a, b1, ?_⟩
      unfold gOn
      rw [b3, b2, ih t (by omega) htd ⟨u, h4, h2, h3⟩, htd, show al - (r + 1) + 1 = al - r by omega]
      simp
  have h5 := ((hI _ al).mp h1).1
  refine key al (fst0 T) (Nat.le_refl al) ?_ ⟨_, h5, h1, by omega⟩
  rw [Nat.sub_self]
  exact (hI _ 0).mpr ⟨rfl, fun m hm => absurd hm (Nat.not_lt_zero m)⟩
noncomputable def mrRow (T : TK) (x i : Int32) : Int32 := if isLn T x = false then -1000001 else if i < 0 then -1000002 else match fewN (DT T) (64 * x.toInt.toNat) 64 with
  | none => -1
  | some al => if i.toInt.toNat < al then nI (rwA T (DT T) x.toInt.toNat al i.toInt.toNat) else -1
theorem E_icmp_ltNO {q : MI} {τ : TT} {pc : Nat} {ls : List (Option Value)} {st : List Value} {a : Nat} {o : Option Nat} {off : Int} {t : Nat} (d : decode (fC q) pc = .ok (.if_icmp .lt off, 3)) (ht : (pc : Int) + off = (t : Int)) (ha : a < 2 ^ 31) (ho : ∀ d, o = some d → d < 2 ^ 31) (kt : (∃ b, o = some b ∧ a < b) → Ex g q τ t ls st M) (kf : (∀ b, o = some b → b ≤ a) → Ex g q τ (pc + 3) ls st M) : Ex g q τ pc ls (.int (oI o) :: .int (nI a) :: st) M :=
  E_icmp_lt d ht (fun h1 => kt (by
    cases o with
    | none =>
      exact absurd (show nI a < 0 from by
        have h2 := Int32.lt_iff_toInt_lt.mp h1
        rw [show oI none = -1 from rfl] at h2
        rw [Int32.lt_iff_toInt_lt, Int32.toInt_zero]
        have h3 : (-1 : Int32).toInt = -1 := by decide
        omega) (nI_pos ha)
    | some b => exact ⟨b, rfl, (nI_ltI ha (ho b rfl)).mp h1⟩)) (fun h1 => kf (fun b e => by
    subst e
    exact Nat.le_of_not_lt (fun h2 => h1 ((nI_ltI ha (ho b rfl)).mpr h2))))
theorem m_row (hR : RM T M) (hB : RB T M) {x i : Int32} : Call g qX11_row [.ref 61, .int x, .int i] M (RtS (mrRow T x i) M) := by
  have hT := rm_wt hR
  have h32 := rm_32 hR
  have hI := DT_isD hT hB.2
  have hd0 : DT T (fst0 T) = some 0 := (hI _ 0).mpr ⟨rfl, fun m hm => absurd hm (Nat.not_lt_zero m)⟩
  have L : ∀ (l j al : Nat), l < 16 → j < al → isLn T (nI l) = true → fewN (DT T) (64 * l) 64 = some al → ∀ (M1 : AM), RF (DT T) M1 → RZ 81 (goF T (DT T) l al 0) M1 → Sb scrM M M1 → ∀ (n k : Nat) (y5 : Option Value), k ≤ j + 1 → j + 1 < k + n → (0 < k → y5 = some (.int (nI (rwA T (DT T) l al (k - 1))))) → Ex g qX11_row (tm g qX11_row (RtS (mrRow T (nI l) (nI j)) M)) 54 [some (.ref 61), some (.int (nI l)), some (.int (nI j)), some (.int (nI al)), some (.int (nI (rwS T (DT T) l al k))), y5, some (.int (nI k))] [] M1 := by
    intro l j al hl hj hil hfe M1 hF1 hZ1 hS1 n
    have hal := fewN_le DL_DT hfe
    have hok := rwS_ok (gd_start hT hB.2 hfe) hd0
    have hR1 := rm_sb hR hS1 (by decide)
    have hlt : ∀ k, k ≤ al → rwS T (DT T) l al k < 1024 := by
      intro k hk
      cases k with
      | zero => exact fst0_lt hT hB.2
      | succ k => exact nxt_lt hT ((hok k (by omega)).2.2 (by omega)).1
    induction n with
    | zero => intro k y5 h1 h2; exact absurd h2 (by omega)
    | succ n ihO =>
      intro k y5 hk hn hy
      have L63 : k ≤ j → ∀ (m a : Nat), a ≤ rwA T (DT T) l al k → rwA T (DT T) l al k < a + m → Ex g qX11_row (tm g qX11_row (RtS (mrRow T (nI l) (nI j)) M)) 63 [some (.ref 61), some (.int (nI l)), some (.int (nI j)), some (.int (nI al)), some (.int (nI (rwS T (DT T) l al k))), some (.int (nI a)), some (.int (nI k))] [] M1 := by
        intro hkj m
        obtain ⟨g1, g2, g3⟩ := (hok k (by omega)).2.2 (by omega)
        have g0 := (hok k (by omega)).1
        have hlk := hlt k (by omega)
        induction m with
        | zero => intro a h1 h2; exact absurd h2 (by omega)
        | succ m ihI =>
          intro a ha hm
          refine E_aload_n dX11_row_63 rfl ?_
          refine E_iload dX11_row_64 rfl ?_
          refine E_iload dX11_row_66 rfl ?_
          refine E_callV (r := qX11_goesOn) (ci := 11) dX11_row_68 mkX11_274 voX11_goesOn rfl rfl rfl ⟨Nat.le_of_ble_eq_true rfl, Nat.le_of_ble_eq_true rfl, Nat.le_of_ble_eq_true rfl, Nat.le_of_ble_eq_true rfl⟩ (m_goesOn hR1 hF1 DL_DT hZ1 (a := a) (by omega) hlk g0) rfl (Nat.le_of_ble_eq_true rfl) ?_
          rintro _ _ ⟨rfl, rfl⟩
          refine E_top (congrArg bI (gOn_good (show k < al by omega))) ?_
          refine E_if_neB (t := 80) dX11_row_71 (by decide) (fun c71 => ?_) (fun c71 => ?_)
          · skip
            have haR : a = rwA T (DT T) l al k := by rcases Nat.lt_or_ge a (rwA T (DT T) l al k) with h5 | h5; rw [g3 a h5] at c71; cases c71; omega
            subst haR
            refine E_aload_n dX11_row_80 rfl ?_
            refine E_iload dX11_row_81 rfl ?_
            refine E_iload dX11_row_83 rfl ?_
            refine E_callV (r := qX11_next) (ci := 11) dX11_row_85 mkX11_108 voX11_next rfl rfl rfl ⟨Nat.le_of_ble_eq_true rfl, Nat.le_of_ble_eq_true rfl, Nat.le_of_ble_eq_true rfl, Nat.le_of_ble_eq_true rfl⟩ (m_next hR1 g1 hlk) rfl (Nat.le_of_ble_eq_true rfl) ?_
            rintro _ _ ⟨rfl, rfl⟩
            refine E_istore dX11_row_88 (by decide) rfl ?_
            refine E_iincN (b := 1) dX11_row_90 rfl rfl (by decide) rfl ?_
            refine E_goto (t := 54) dX11_row_93 (by decide) ?_
            exact ihO (k + 1) _ (by omega) (by omega) (fun _ => rfl)
          · skip
            have haR : a ≠ rwA T (DT T) l al k := fun e => by rw [e, g2] at c71; cases c71
            refine E_iincN (b := 1) dX11_row_74 rfl rfl (by decide) rfl ?_
            refine E_goto (t := 63) dX11_row_77 (by decide) ?_
            exact ihI (a + 1) (by omega) (by omega)
      refine E_iload dX11_row_54 rfl ?_
      refine E_iload_n dX11_row_56 rfl ?_
      refine E_icmp_gtN (t := 96) dX11_row_57 (by decide) (by omega) (by omega) (fun c57 => ?_) (fun c57 => ?_)
      · skip
        have hk9 : k = j + 1 := by omega
        have hy2 := hy (by omega)
        subst hk9
        subst hy2
        refine E_iload dX11_row_96 rfl ?_
        refine E_iret dX11_row_98 rfl ?_
        exact ⟨by unfold mrRow; rw [if_neg (by rw [hil]; decide), if_neg (nI_pos (by omega)), nI_tn (by omega), hfe]; dsimp only; rw [nI_tn (by omega), if_pos hj]; rfl, hS1⟩
      · skip
        refine E_iconst (v := nI 0) dX11_row_60 rfl ?_
        refine E_istore dX11_row_61 (by decide) rfl ?_
        exact L63 (by omega) (rwA T (DT T) l al k + 1) 0 (by omega) (by omega)
  refine Call_of (ls0 := [some (.ref 61), some (.int x), some (.int i), none, none, none, none]) rfl rfl (Nat.le_of_ble_eq_true rfl) ?_
  refine E_aload_n dX11_row_0 rfl ?_
  refine E_iload_n dX11_row_1 rfl ?_
  refine E_callV (r := qX11_isLine) (ci := 11) dX11_row_2 mkX11_250 voX11_isLine rfl rfl rfl ⟨Nat.le_of_ble_eq_true rfl, Nat.le_of_ble_eq_true rfl, Nat.le_of_ble_eq_true rfl, Nat.le_of_ble_eq_true rfl⟩ (m_isLine hR) rfl (Nat.le_of_ble_eq_true rfl) ?_
  rintro _ _ ⟨rfl, rfl⟩
  refine E_if_neB (t := 11) dX11_row_5 (by decide) (fun c5 => ?_) (fun c5 => ?_)
  · skip
    have h5 := c5
    rw [Bool.and_eq_true] at h5
    obtain ⟨l, hl1, hl2, rfl, hl3⟩ := inI_nat h5.1 (by decide)
    have hil : isLn T (nI l) = true := c5
    refine E_iload_n dX11_row_11 rfl ?_
    refine E_if_ge (t := 18) dX11_row_12 (by decide) (fun c12 => ?_) (fun c12 => ?_)
    · skip
      obtain ⟨j, hj, rfl⟩ := nI_of (x := i) (fun e => absurd c12 (Int32.not_le.mpr e))
      refine E_aload_n dX11_row_18 rfl ?_
      refine E_callV (r := qX11_reachesAll) (ci := 11) dX11_row_19 mkX11_255 voX11_reachesAll rfl rfl rfl ⟨Nat.le_of_ble_eq_true rfl, Nat.le_of_ble_eq_true rfl, Nat.le_of_ble_eq_true rfl, Nat.le_of_ble_eq_true rfl⟩ (m_reachesAll hR hB) rfl (Nat.le_of_ble_eq_true rfl) ?_
      rintro _ M1 ⟨rfl, hS1, hq1⟩
      have hR1 := rm_sb hR hS1 (by decide)
      have hB1 : RB T M1 := ⟨by rw [(hS1 61 (by decide)).1]; exact hB.1, hB.2⟩
      refine E_pop dX11_row_22 rfl ?_
      refine E_aload_n dX11_row_23 rfl ?_
      refine E_iload_n dX11_row_24 rfl ?_
      refine E_callV (r := qX11_fewest) (ci := 11) dX11_row_25 mkX11_271 voX11_fewest rfl rfl rfl ⟨Nat.le_of_ble_eq_true rfl, Nat.le_of_ble_eq_true rfl, Nat.le_of_ble_eq_true rfl, Nat.le_of_ble_eq_true rfl⟩ (m_fewest hq1 DL_DT (l := l) (by omega)) rfl (Nat.le_of_ble_eq_true rfl) ?_
      rintro _ _ ⟨rfl, rfl⟩
      refine E_ist_n (i := 3) dX11_row_28 rfl (by decide) rfl ?_
      refine E_iload_n dX11_row_29 rfl ?_
      refine E_iload_n dX11_row_30 rfl ?_
      refine E_icmp_ltNO (t := 36) dX11_row_31 (by decide) (by omega) (fun d hd => by have := fewN_le DL_DT hd; omega) (fun c31 => ?_) (fun c31 => ?_)
      · skip
        obtain ⟨al, hfe, c31⟩ := c31
        have hal := fewN_le DL_DT hfe
        rw [hfe]
        refine E_aload_n dX11_row_36 rfl ?_
        refine E_iload_n dX11_row_37 rfl ?_
        refine E_iload_n dX11_row_38 rfl ?_
        refine E_callV (r := qX11_laysGood) (ci := 11) dX11_row_39 mkX11_277 voX11_laysGood rfl rfl rfl ⟨Nat.le_of_ble_eq_true rfl, Nat.le_of_ble_eq_true rfl, Nat.le_of_ble_eq_true rfl, Nat.le_of_ble_eq_true rfl⟩ (m_laysGood hR1 hq1 DL_DT (l := l) (al := al) (by omega) hal) rfl (Nat.le_of_ble_eq_true rfl) ?_
        rintro _ M2 ⟨rfl, hS2, hz2⟩
        have hSS : Sb scrM M M2 := (hS1.scr (by decide)).tr (hS2.scr (by decide))
        have hB2 : RB T M2 := ⟨by rw [(hSS 61 (by decide)).1]; exact hB.1, hB.2⟩
        refine E_aload_n dX11_row_42 rfl ?_
        refine E_callV (r := qX11_first) (ci := 11) dX11_row_43 mkX11_118 voX11_first rfl rfl rfl ⟨Nat.le_of_ble_eq_true rfl, Nat.le_of_ble_eq_true rfl, Nat.le_of_ble_eq_true rfl, Nat.le_of_ble_eq_true rfl⟩ (m_first (rm_sb hR1 hS2 (by decide)) hB2) rfl (Nat.le_of_ble_eq_true rfl) ?_
        rintro _ _ ⟨rfl, rfl⟩
        refine E_istore dX11_row_46 (by decide) rfl ?_
        refine E_iconst (v := -1) dX11_row_48 rfl ?_
        refine E_istore dX11_row_49 (by decide) rfl ?_
        refine E_iconst (v := nI 0) dX11_row_51 rfl ?_
        refine E_istore dX11_row_52 (by decide) rfl ?_
        exact L l j al (by omega) c31 hil hfe M2 (rf_sb hq1 hS2 (by decide)) hz2 hSS (j + 2) 0 _ (by omega) (by omega) (fun e => absurd e (Nat.lt_irrefl 0))
      · skip
        refine E_iconst (v := -1) dX11_row_34 rfl ?_
        refine E_iret dX11_row_35 rfl ?_
        refine ⟨?_, hS1.scr (by decide)⟩
        unfold mrRow
        rw [if_neg (by rw [hil]; decide), if_neg (nI_pos hj), nI_tn hl3, nI_tn hj]
        cases hfe : fewN (DT T) (64 * l) 64 with
        | none => rfl
        | some al => dsimp only; rw [if_neg (by have := c31 al hfe; omega)]
    · skip
      refine E_ldc dX11_row_15 ckX11_131 ?_
      refine E_iret dX11_row_17 rfl ?_
      exact ⟨by unfold mrRow; rw [if_neg (by rw [hil]; decide), if_pos (Int32.not_le.mp c12)], Sb.rf⟩
  · skip
    refine E_ldc dX11_row_8 ckX11_214 ?_
    refine E_iret dX11_row_10 rfl ?_
    exact ⟨by unfold mrRow; rw [if_pos (show isLn T x = false from c5)], Sb.rf⟩
end M13
