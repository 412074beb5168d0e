-- the class's loops
section K6
variable {g : GG} {M : AM} {T : TK}
def LoP (T : TK) (M : AM) : Prop := ∀ x, x < LTn T → ∃ b, M.1 28 x = bI b ∧ (b = true ↔ onC T x)
def S27 : List Nat := [27, 28, 29, 30, 31, 32, 33]
theorem lr_56 (hT : WT T) (hB : T 61 13 < 64) (hG : GR T M) {F L : List Nat} {lp : Nat → Bool} (hI : GI T F 0 L lp) (hF : FO T F) : ∀ (n k : Nat) (M1 : AM) (lpk : Nat → Bool), k ≤ mN T → mN T < k + n → (∀ x, x < LTn T → M1.1 28 x = bI (lpk x)) → (∀ x, x < LTn T → (lpk x = true ↔ lp x = true ∨ ∃ m, m < k ∧ mF T m = x ∧ mT T m = x)) → Sb S27 M M1 → Ex g qX4_learn (tm g qX4_learn (fun v M' => v = none ∧ LoP T M' ∧ Sb S27 M M')) 54 [some (.ref 27), some (.ref 9), some (.int (nI k))] [] M1 := by
  have hLq := q_le hT hB
  have hN := mN_le hT hB
  intro n
  induction n with
  | zero => intro k M1 lpk h1 h2; exact absurd h2 (by omega)
  | succ n ih =>
    intro k M1 lpk hk hn hz hlp hS
    have hG2 := gr_sb hG hS (by decide)
    by_cases hlt : k < mN T
    · have ok := mv_ok hT hB hlt
      have K1 : ¬ mF T k = mT T k → Ex g qX4_learn (tm g qX4_learn (fun v M' => v = none ∧ LoP T M' ∧ Sb S27 M M')) 54 [some (.ref 27), some (.ref 9), some (.int (nI (k + 1)))] [] M1 := fun e => ih (k + 1) M1 lpk (by omega) (by omega) hz (fun x hx => by
        rw [hlp x hx]
        constructor
        · rintro (q | ⟨m, q1, q2⟩)
          · exact Or.inl q
          · exact Or.inr ⟨m, by omega, q2⟩
        · rintro (q | ⟨m, q1, q2, q3⟩)
          · exact Or.inl q
          · by_cases e2 : m = k
            · rw [e2] at q2 q3
              exact absurd (q2.trans q3.symm) e
            · exact Or.inr ⟨m, by omega, q2, q3⟩) hS
      have K2 : mF T k = mT T k → Ex g qX4_learn (tm g qX4_learn (fun v M' => v = none ∧ LoP T M' ∧ Sb S27 M M')) 54 [some (.ref 27), some (.ref 9), some (.int (nI (k + 1)))] [] (sI M1 28 (mF T k) (bI true)) := fun e => ih (k + 1) _ (fun x => if x = mF T k then true else lpk x) (by omega) (by omega) (fun x hx => by
          by_cases e2 : x = mF T k
          · rw [if_pos e2, e2, sI_s]
          · rw [if_neg e2, sI_o (fun q => e2 q.2)]; exact hz x hx) (fun x hx => by
          by_cases e2 : x = mF T k
          · rw [if_pos e2]
            exact ⟨fun _ => Or.inr ⟨k, by omega, e2.symm, by rw [← e]; exact e2.symm⟩, fun _ => rfl⟩
          · rw [if_neg e2, hlp x hx]
            constructor
            · rintro (q | ⟨m, q1, q2⟩)
              · exact Or.inl q
              · exact Or.inr ⟨m, by omega, q2⟩
            · rintro (q | ⟨m, q1, q2, q3⟩)
              · exact Or.inl q
              · by_cases e3 : m = k
                · rw [e3] at q2
                  exact absurd q2.symm e2
                · exact Or.inr ⟨m, by omega, q2, q3⟩) (hS.tr (Sb.i (by decide)))
      refine E_iload_n dX4_learn_54 rfl ?_
      refine E_aload_n dX4_learn_55 rfl ?_
      refine E_getI' (ci := 2) (j := 12) dX4_learn_56 fkX4_52 rfl (by decide) rfl (by decide) (gr_mv hG2) ?_
      refine E_icmp_geN (t := 95) dX4_learn_59 (by decide) (by omega) (by omega) (fun c59 => ?_) (fun c59 => ?_)
      · skip
        exact absurd c59 (by omega)
      · skip
        refine E_aload_n dX4_learn_62 rfl ?_
        refine E_getR' (ci := 2) (j := 6) (p := 16) dX4_learn_63 fkX4_55 rfl (by decide) rfl (by decide) (rfl) ?_
        refine E_iload_n dX4_learn_66 rfl ?_
        refine E_ialdN dX4_learn_67 rfl (by omega) (by decide) (gr_mf hG2 hlt) ?_
        refine E_aload_n dX4_learn_68 rfl ?_
        refine E_getR' (ci := 2) (j := 7) (p := 17) dX4_learn_69 fkX4_58 rfl (by decide) rfl (by decide) (rfl) ?_
        refine E_iload_n dX4_learn_72 rfl ?_
        refine E_ialdN dX4_learn_73 rfl (by omega) (by decide) (gr_mt hG2 hlt) ?_
        refine E_icmp_neN (t := 89) dX4_learn_74 (by decide) (by omega) (by omega) (fun c74 => ?_) (fun c74 => ?_)
        · skip
          have key := K1 c74
          refine E_iincN (b := 1) dX4_learn_89 rfl rfl (by decide) rfl ?_
          refine E_goto (t := 54) dX4_learn_92 (by decide) ?_
          exact key
        · skip
          have key := K2 c74
          refine E_aload_n dX4_learn_77 rfl ?_
          refine E_getR' (ci := 4) (j := 0) (p := 28) dX4_learn_78 fkX4_9 rfl (by decide) rfl (by decide) (rfl) ?_
          refine E_aload_n dX4_learn_81 rfl ?_
          refine E_getR' (ci := 2) (j := 6) (p := 16) dX4_learn_82 fkX4_55 rfl (by decide) rfl (by decide) (rfl) ?_
          refine E_iload_n dX4_learn_85 rfl ?_
          refine E_ialdN dX4_learn_86 rfl (by omega) (by decide) (gr_mf hG2 hlt) ?_
          refine E_iconst (v := nI 1) dX4_learn_87 rfl ?_
          refine E_top (show nI 1 = bI true from rfl) ?_
          refine E_zastN dX4_learn_88 rfl (by omega) (by decide) ?_
          refine E_iincN (b := 1) dX4_learn_89 rfl rfl (by decide) rfl ?_
          refine E_goto (t := 54) dX4_learn_92 (by decide) ?_
          exact key
    · have hke : k = mN T := by omega
      subst hke
      have key : (fun v M' => v = none ∧ LoP T M' ∧ Sb S27 M M') (none : Option Value) M1 := ⟨rfl, fun x hx => ⟨lpk x, hz x hx, by
        rw [hlp x hx]
        constructor
        · rintro (q | ⟨m, q1, q2, q3⟩)
          · exact hI.2.2.2.2.1 x hx q
          · have ok := mv_ok hT hB q1
            refine ⟨1, by decide, x, rfl, sP_m.mpr ⟨m, ?_, ?_, rfl, q3⟩⟩
            · rw [← q2]; exact ok.2.1
            · rw [← q2]; exact ok.2.2.1
        · rintro ⟨c, c1, c2⟩
          cases c with
          | zero => exact absurd c1 (Nat.lt_irrefl 0)
          | succ c =>
            obtain ⟨w, w1, w2⟩ := rch_cons.mp c2
            obtain ⟨m, m1, m2, m3, m4, m5⟩ := sP_move hT hB hx w1
            by_cases e : w = x
            · exact Or.inr ⟨m, m1, m2, by rw [m3]; exact e⟩
            · have hwl : w < LTn T := by rw [← m3]; exact (mv_ok hT hB m1).2.2.2.2.2.1
              have hxL : x ∈ L := by
                obtain ⟨i, hi⟩ := List.getElem?_of_mem ((hF.2.1 x).mpr hx)
                exact hI.2.2.2.1 i x (Nat.zero_le _) hi
              exact Or.inl (hI.2.2.2.2.2 x w hxL hwl e (rea_1 w1) ⟨c, w2⟩)⟩, hS⟩
      refine E_iload_n dX4_learn_54 rfl ?_
      refine E_aload_n dX4_learn_55 rfl ?_
      refine E_getI' (ci := 2) (j := 12) dX4_learn_56 fkX4_52 rfl (by decide) rfl (by decide) (gr_mv hG2) ?_
      refine E_icmp_geN (t := 95) dX4_learn_59 (by decide) (by omega) (by omega) (fun c59 => ?_) (fun c59 => ?_)
      · skip
        refine E_vret dX4_learn_95 rfl ?_
        exact key
      · skip
        exact absurd c59 (by omega)
theorem lr_33 (hT : WT T) (hB : T 61 13 < 64) (hG : GR T M) {F : List Nat} (hF : FO T F) : ∀ (R : Nat) (M1 : AM) (L : List Nat) (lp : Nat → Bool), R ≤ LTn T → GI T F R L lp → Hq 29 33 27 7 (LTn T) L M1 → (∀ x, x < LTn T → M1.1 28 x = bI (lp x)) → (∀ i, i < LTn T → M1.1 32 i = nI (F.getD i 0)) → Sb S27 M M1 → Ex g qX4_learn (tm g qX4_learn (fun v M' => v = none ∧ LoP T M' ∧ Sb S27 M M')) 31 [some (.ref 27), some (.ref 9), some (.int (oI (pr R)))] [] M1 := by
  have hLq := q_le hT hB
  intro R
  induction R with
  | zero =>
    intro M1 L lp hR hI hq hz h32 hS
    have key := lr_56 (g := g) hT hB hG hI hF (mN T + 1) 0 M1 lp (Nat.zero_le _) (by omega) hz (fun x hx => ⟨fun q => Or.inl q, fun q => q.elim id (fun ⟨m, q1, _⟩ => absurd q1 (Nat.not_lt_zero m))⟩) hS
    refine E_iload_n dX4_learn_31 rfl ?_
    refine E_if_ltO (t := 52) dX4_learn_32 (by decide) (fun d e => by cases e) (fun c32 => ?_) (fun c32 => ?_)
    · skip
      refine E_iconst (v := nI 0) dX4_learn_52 rfl ?_
      refine E_ist_n (i := 2) dX4_learn_53 rfl (by decide) rfl ?_
      exact key
    · skip
      exact absurd rfl c32
  | succ R ih =>
    intro M1 L lp hR hI hq hz h32 hS
    show Ex g qX4_learn (tm g qX4_learn (fun v M' => v = none ∧ LoP T M' ∧ Sb S27 M M')) 31 [some (.ref 27), some (.ref 9), some (.int (nI R))] [] M1
    have hG2 := gr_sb hG hS (by decide)
    have hRl : R < F.length := by rw [hF.2.2.1]; omega
    have hat : F[R]? = some F[R] := List.getElem?_eq_getElem hRl
    obtain ⟨r, hr⟩ : ∃ r, F[R] = r := ⟨_, rfl⟩
    rw [hr] at hat
    have hrl := (hF.2.1 r).mp (List.mem_of_getElem? hat)
    have h32R : M1.1 32 R = nI r := by rw [h32 R (by omega), getD_of hat]
    have K : ∀ M2, GaQ T L lp r M1 none M2 → Ex g qX4_learn (tm g qX4_learn (fun v M' => v = none ∧ LoP T M' ∧ Sb S27 M M')) 31 [some (.ref 27), some (.ref 9), some (.int (nI R + -1))] [] M2 := fun M2 hA => by
      obtain ⟨-, L', lp', a1, a2, a3, a4, a5⟩ := hA
      rw [pr_dec]
      exact ih M2 L' lp' (by omega) (gi_next hT hB hF hI hat a3 a4) a1 a2 (fun i hi => by rw [(a5 32 (by decide)).1]; exact h32 i hi) (hS.tr (a5.sub (by decide)))
    refine E_iload_n dX4_learn_31 rfl ?_
    refine E_if_ltN (t := 52) dX4_learn_32 (by decide) (by omega) ?_
    refine E_aload_n dX4_learn_35 rfl ?_
    refine E_aload_n dX4_learn_36 rfl ?_
    refine E_aload_n dX4_learn_37 rfl ?_
    refine E_getR' (ci := 4) (j := 4) (p := 32) dX4_learn_38 fkX4_25 rfl (by decide) rfl (by decide) (rfl) ?_
    refine E_iload_n dX4_learn_41 rfl ?_
    refine E_ialdN dX4_learn_42 rfl (by omega) (by decide) (h32R) ?_
    refine E_callV (r := qX4_gatherComponent) (ci := 4) dX4_learn_43 mkX4_48 voX4_gatherComponent rfl rfl rfl ⟨Nat.le_of_ble_eq_true rfl, Nat.le_of_ble_eq_true rfl, Nat.le_of_ble_eq_true rfl, Nat.le_of_ble_eq_true rfl⟩ (c_gather hT hB hG2 hrl hI.1 hI.2.1 hI.2.2.1 hq hz) rfl (Nat.le_of_ble_eq_true rfl) ?_
    rintro _ M2 ⟨rfl, hA⟩
    refine E_iinc (v := -1) dX4_learn_46 rfl rfl (by decide) rfl ?_
    refine E_goto (t := 31) dX4_learn_49 (by decide) ?_
    exact K M2 ⟨rfl, hA⟩
set_option maxRecDepth 8000 in
theorem c_loops (hT : WT T) (hB : T 61 13 < 64) (hG : GR T M) : Call g qX4_learn [.ref 27, .ref 9] M (fun v M' => v = none ∧ LoP T M' ∧ Sb S27 M M') := by
  have hLq := q_le hT hB
  have hp := (q_pos hT hB).1
  have K : ∀ M1, FaQ T M none M1 → Ex g qX4_learn (tm g qX4_learn (fun v M' => v = none ∧ LoP T M' ∧ Sb S27 M M')) 31 [some (.ref 27), some (.ref 9), some (.int (oI (pr (LTn T))))] [] (sI (flM (flM M1 29 1024 (bI false)) 28 1024 (bI false)) 27 7 (nI 0)) := fun M1 hA => by
    obtain ⟨-, ⟨F, hF, h32⟩, hS⟩ := hA
    have hSx : Sb S27 M (sI (flM (flM M1 29 1024 (bI false)) 28 1024 (bI false)) 27 7 (nI 0)) := (((hS.sub (by decide)).tr (flM_sb (by decide))).tr (flM_sb (by decide))).tr (Sb.i (by decide))
    refine lr_33 hT hB hG hF (LTn T) _ [] (fun _ => false) (Nat.le_refl _) ⟨List.nodup_nil, fun x hx => absurd hx List.not_mem_nil, fun m hm hx => absurd hx List.not_mem_nil, fun k x hk hx => ?_, fun x hx e => ?_, fun x y hx => absurd hx List.not_mem_nil⟩ ⟨fun i hi => ?_, fun x hx => absurd hx (Nat.not_lt_zero x), sI_s⟩ (fun x hx => ?_) (fun i hi => ?_) hSx
    · have := (List.getElem?_eq_some_iff.mp hx).1
      rw [hF.2.2.1] at this
      omega
    · cases e
    · rw [sI_ne (by decide), flM_ne (by decide), flM_in (by omega), decide_eq_false List.not_mem_nil]
    · rw [sI_ne (by decide), flM_in (by omega)]
    · rw [sI_ne (by decide), flM_ne (by decide), flM_ne (by decide)]; exact h32 i hi
  have hst : ∀ M1, FaQ T M none M1 → (sI (flM (flM M1 29 1024 (bI false)) 28 1024 (bI false)) 27 7 (nI 0)).1 9 11 = nI (LTn T) := fun M1 hA => by
    rw [sI_ne (by decide), flM_ne (by decide), flM_ne (by decide), (hA.2.2 9 (by decide)).1]; exact gr_st hG
  refine Call_of (ls0 := [some (.ref 27), some (.ref 9), none]) rfl rfl (Nat.le_of_ble_eq_true rfl) ?_
  refine E_aload_n dX4_learn_0 rfl ?_
  refine E_aload_n dX4_learn_1 rfl ?_
  refine E_callV (r := qX4_finishAll) (ci := 4) dX4_learn_2 mkX4_31 voX4_finishAll rfl rfl rfl ⟨Nat.le_of_ble_eq_true rfl, Nat.le_of_ble_eq_true rfl, Nat.le_of_ble_eq_true rfl, Nat.le_of_ble_eq_true rfl⟩ (c_finishAll hT hB hG) rfl (Nat.le_of_ble_eq_true rfl) ?_
  rintro _ M1 ⟨rfl, hA⟩
  refine E_aload_n dX4_learn_5 rfl ?_
  refine E_getR' (ci := 4) (j := 1) (p := 29) dX4_learn_6 fkX4_15 rfl (by decide) rfl (by decide) (rfl) ?_
  refine E_callS (r := qX4_clear) dX4_learn_9 mkX4_35 toX4_clear rfl ⟨Nat.le_of_ble_eq_true rfl, Nat.le_of_ble_eq_true rfl, Nat.le_of_ble_eq_true rfl, Nat.le_of_ble_eq_true rfl⟩ (c_fillZ rfl (by decide)) rfl (Nat.le_of_ble_eq_true rfl) ?_
  rintro _ _ ⟨rfl, rfl⟩
  refine E_aload_n dX4_learn_12 rfl ?_
  refine E_getR' (ci := 4) (j := 0) (p := 28) dX4_learn_13 fkX4_9 rfl (by decide) rfl (by decide) (rfl) ?_
  refine E_callS (r := qX4_clear) dX4_learn_16 mkX4_35 toX4_clear rfl ⟨Nat.le_of_ble_eq_true rfl, Nat.le_of_ble_eq_true rfl, Nat.le_of_ble_eq_true rfl, Nat.le_of_ble_eq_true rfl⟩ (c_fillZ rfl (by decide)) rfl (Nat.le_of_ble_eq_true rfl) ?_
  rintro _ _ ⟨rfl, rfl⟩
  refine E_aload_n dX4_learn_19 rfl ?_
  refine E_iconst (v := nI 0) dX4_learn_20 rfl ?_
  refine E_putI (ci := 4) (j := 7) dX4_learn_21 fkX4_39 rfl (by decide) rfl (by decide) ?_
  refine E_aload_n dX4_learn_24 rfl ?_
  refine E_getI' (ci := 2) (j := 11) dX4_learn_25 fkX4_43 rfl (by decide) rfl (by decide) (hst M1 ⟨rfl, hA⟩) ?_
  refine E_iconst (v := nI 1) dX4_learn_28 rfl ?_
  refine E_isub dX4_learn_29 ?_
  refine E_top (pr_sub _) ?_
  refine E_ist_n (i := 2) dX4_learn_30 rfl (by decide) rfl ?_
  exact K M1 ⟨rfl, hA⟩
end K6
