-- the class's loops: depth first
def FS (T : TK) (δ : DF) (M : AM) : Prop := (∀ x, x < LTn T → M.1 29 x = bI (decide (x ∈ δ.1 ∨ x ∈ δ.2.1))) ∧ (∀ j, j < δ.1.length → M.1 30 j = nI (δ.1.getD j 0)) ∧ (∀ x, sn δ x → M.1 31 x = nI (δ.2.2 x)) ∧ (∀ i, i < δ.2.1.length → M.1 32 i = nI (δ.2.1.getD i 0)) ∧ M.1 27 6 = nI δ.1.length
section K3
variable {g : GG} {M : AM} {T : TK}
theorem fs_P {δ : DF} {t : Nat} (h : FS T δ M) (hn : ¬ sn δ t) : FS T (dfP T δ t) (sI (sI (sI (sI M 29 t (bI true)) 31 t (nI (fO T t))) 30 δ.1.length (nI t)) 27 6 (nI (δ.1.length + 1))) := by
  have hsn : ∀ x, sn (dfP T δ t) x ↔ sn δ x ∨ x = t := fun x => by
    unfold sn dfP
    simp only [List.mem_append, List.mem_singleton]
    exact ⟨fun q => q.elim (fun q => q.elim (fun q => Or.inl (Or.inl q)) Or.inr) (fun q => Or.inl (Or.inr q)), fun q => q.elim (fun q => q.elim (fun q => Or.inl (Or.inl q)) Or.inr) (fun q => Or.inl (Or.inr q))⟩
  refine ⟨fun x hx => ?_, fun j hj => ?_, fun x hx => ?_, fun i hi => ?_, ?_⟩
  · rw [sI_o (by omega), sI_o (by omega), sI_o (by omega)]
    by_cases e : x = t
    · rw [e, sI_s, decide_eq_true (show t ∈ (dfP T δ t).1 ∨ t ∈ (dfP T δ t).2.1 from (hsn t).mpr (Or.inr rfl))]
    · rw [sI_o (fun q => e q.2), h.1 x hx]
      congr 1
      exact decide_eq_decide.mpr ⟨fun q => (hsn x).mpr (Or.inl q), fun q => ((hsn x).mp q).resolve_right e⟩
  · have hj : j < (δ.1 ++ [t]).length := hj
    show _ = nI ((δ.1 ++ [t]).getD j 0)
    rw [sI_o (by omega), gd_app hj]
    by_cases e : j = δ.1.length
    · rw [if_pos e, e, sI_s]
    · rw [if_neg e, sI_o (fun q => e q.2), sI_o (by omega), sI_o (by omega)]
      rw [List.length_append] at hj
      have : [t].length = 1 := rfl
      exact h.2.1 j (by omega)
  · show _ = nI (if x = t then fO T t else δ.2.2 x)
    rw [sI_o (by omega), sI_o (by omega)]
    by_cases e : x = t
    · rw [if_pos e, e, sI_s]
    · rw [if_neg e, sI_o (fun q => e q.2), sI_o (by omega)]
      exact h.2.2.1 x (((hsn x).mp hx).resolve_right e)
  · rw [sI_o (by omega), sI_o (by omega), sI_o (by omega), sI_o (by omega)]
    exact h.2.2.2.1 i hi
  · rw [sI_s]
    show _ = nI (δ.1 ++ [t]).length
    rw [List.length_append]; rfl
theorem fs_M {δ : DF} {a : Nat} (h : FS T δ M) : FS T (dfM δ a) (sI M 31 a (nI (δ.2.2 a + 1))) := by
  refine ⟨fun x hx => ?_, fun j hj => ?_, fun x hx => ?_, fun i hi => ?_, ?_⟩
  · rw [sI_o (by omega)]; exact h.1 x hx
  · rw [sI_o (by omega)]; exact h.2.1 j hj
  · show _ = nI (if x = a then δ.2.2 a + 1 else δ.2.2 x)
    by_cases e : x = a
    · rw [if_pos e, e, sI_s]
    · rw [if_neg e, sI_o (fun q => e q.2)]; exact h.2.2.1 x hx
  · rw [sI_o (by omega)]; exact h.2.2.2.1 i hi
  · rw [sI_o (by omega)]; exact h.2.2.2.2
theorem fs_E {S F : List Nat} {nm : Nat → Nat} {a : Nat} (h : FS T (S ++ [a], F, nm) M) : FS T (dfE S F nm a) (sI (sI M 32 F.length (nI a)) 27 6 (nI S.length)) := by
  refine ⟨fun x hx => ?_, fun j hj => ?_, fun x hx => ?_, fun i hi => ?_, ?_⟩
  · rw [sI_o (by omega), sI_o (by omega), h.1 x hx]
    congr 1
    apply decide_eq_decide.mpr
    show (x ∈ S ++ [a] ∨ x ∈ F) ↔ (x ∈ S ∨ x ∈ F ++ [a])
    simp only [List.mem_append]
    exact ⟨fun q => q.elim (fun q => q.elim Or.inl (fun q => Or.inr (Or.inr q))) (fun q => Or.inr (Or.inl q)), fun q => q.elim (fun q => Or.inl (Or.inl q)) (fun q => q.elim Or.inr (fun q => Or.inl (Or.inr q)))⟩
  · have hj : j < S.length := hj
    rw [sI_o (by omega), sI_o (by omega), h.2.1 j (show j < (S ++ [a]).length by rw [List.length_append]; omega)]
    show nI ((S ++ [a]).getD j 0) = nI (S.getD j 0)
    rw [gd_app (by rw [List.length_append]; omega), if_neg (by omega)]
  · rw [sI_o (by omega), sI_o (by omega)]
    refine h.2.2.1 x ?_
    rcases hx with q | q
    · exact Or.inl (List.mem_append_left _ q)
    · rcases List.mem_append.mp q with q | q
      · exact Or.inr q
      · exact Or.inl (List.mem_append_right _ q)
  · have hi : i < (F ++ [a]).length := hi
    show _ = nI ((F ++ [a]).getD i 0)
    rw [sI_o (by omega), gd_app hi]
    by_cases e : i = F.length
    · rw [if_pos e, e, sI_s]
    · rw [if_neg e, sI_o (fun q => e q.2)]
      rw [List.length_append] at hi
      have : [a].length = 1 := rfl
      exact h.2.2.2.1 i (show i < F.length by omega)
  · rw [sI_s]; rfl
def PuQ (T : TK) (δ : DF) (t : Nat) (M : AM) (v : Option Value) (M' : AM) : Prop := v = none ∧ (sn δ t → FS T δ M') ∧ (¬ sn δ t → FS T (dfP T δ t) M') ∧ Sb [27, 29, 30, 31, 32] M M'
set_option maxRecDepth 8000 in
theorem c_push (hT : WT T) (hB : T 61 13 < 64) (hG : GR T M) {δ : DF} {t : Nat} (h : FS T δ M) (ht : t < LTn T) (hl : ¬ sn δ t → δ.1.length < 1024) : Call g qX4_push [.ref 27, .ref 9, .int (nI t)] M (PuQ T δ t M) := by
  have hL := q_le hT hB
  have h29 := h.1 t ht
  have q0 : (sI M 29 t (bI true)).1 15 t = nI (fO T t) := by rw [sI_ne (by decide)]; exact gr_fo hG (by omega)
  have q1 : (sI (sI M 29 t (bI true)) 31 t (nI (fO T t))).1 27 6 = nI δ.1.length := by rw [sI_ne (by decide), sI_ne (by decide)]; exact h.2.2.2.2
  have q2 : (sI (sI (sI M 29 t (bI true)) 31 t (nI (fO T t))) 30 δ.1.length (nI t)).1 27 6 = nI δ.1.length := by rw [sI_ne (by decide)]; exact q1
  have k1 : decide (t ∈ δ.1 ∨ t ∈ δ.2.1) = true → PuQ T δ t M (none : Option Value) M := fun e => ⟨rfl, fun _ => h, fun q => absurd (decide_eq_true_iff.mp e) q, Sb.rf⟩
  have k2 : decide (t ∈ δ.1 ∨ t ∈ δ.2.1) = false → PuQ T δ t M (none : Option Value) (sI (sI (sI (sI M 29 t (bI true)) 31 t (nI (fO T t))) 30 δ.1.length (nI t)) 27 6 (nI (δ.1.length + 1))) := fun e => ⟨rfl, fun q => absurd q (decide_eq_false_iff_not.mp e), fun q => fs_P h q, (((Sb.i (by decide)).tr (Sb.i (by decide))).tr (Sb.i (by decide))).tr (Sb.i (by decide))⟩
  refine Call_of (ls0 := [some (.ref 27), some (.ref 9), some (.int (nI t))]) rfl rfl (Nat.le_of_ble_eq_true rfl) ?_
  refine E_aload_n dX4_push_0 rfl ?_
  refine E_getR' (ci := 4) (j := 1) (p := 29) dX4_push_1 fkX4_15 rfl (by decide) rfl (by decide) (rfl) ?_
  refine E_iload_n dX4_push_4 rfl ?_
  refine E_zaldN dX4_push_5 rfl (by omega) (by decide) (h29) ?_
  refine E_if_neB (t := 58) dX4_push_6 (by decide) (fun c6 => ?_) (fun c6 => ?_)
  · skip
    have key := k1 c6
    refine E_vret dX4_push_58 rfl ?_
    exact key
  · skip
    have hlt := hl (decide_eq_false_iff_not.mp c6)
    have key := k2 c6
    refine E_aload_n dX4_push_9 rfl ?_
    refine E_getI' (ci := 4) (j := 6) dX4_push_10 fkX4_61 rfl (by decide) rfl (by decide) (h.2.2.2.2) ?_
    refine E_sipush (v := nI 1024) dX4_push_13 rfl ?_
    refine E_icmp_geN (t := 58) dX4_push_16 (by decide) (by omega) (by omega) (fun c16 => ?_) (fun c16 => ?_)
    · skip
      exact absurd hlt (by omega)
    · skip
      refine E_aload_n dX4_push_19 rfl ?_
      refine E_getR' (ci := 4) (j := 1) (p := 29) dX4_push_20 fkX4_15 rfl (by decide) rfl (by decide) (rfl) ?_
      refine E_iload_n dX4_push_23 rfl ?_
      refine E_iconst (v := nI 1) dX4_push_24 rfl ?_
      refine E_top (show nI 1 = bI true from rfl) ?_
      refine E_zastN dX4_push_25 rfl (by omega) (by decide) ?_
      refine E_aload_n dX4_push_26 rfl ?_
      refine E_getR' (ci := 4) (j := 3) (p := 31) dX4_push_27 fkX4_22 rfl (by decide) rfl (by decide) (rfl) ?_
      refine E_iload_n dX4_push_30 rfl ?_
      refine E_aload_n dX4_push_31 rfl ?_
      refine E_getR' (ci := 2) (j := 5) (p := 15) dX4_push_32 fkX4_67 rfl (by decide) rfl (by decide) (rfl) ?_
      refine E_iload_n dX4_push_35 rfl ?_
      refine E_ialdN dX4_push_36 rfl (by omega) (by decide) (q0) ?_
      refine E_iastN dX4_push_37 rfl (by omega) (by decide) ?_
      refine E_aload_n dX4_push_38 rfl ?_
      refine E_getR' (ci := 4) (j := 2) (p := 30) dX4_push_39 fkX4_18 rfl (by decide) rfl (by decide) (rfl) ?_
      refine E_aload_n dX4_push_42 rfl ?_
      refine E_getI' (ci := 4) (j := 6) dX4_push_43 fkX4_61 rfl (by decide) rfl (by decide) (q1) ?_
      refine E_iload_n dX4_push_46 rfl ?_
      refine E_iastN dX4_push_47 rfl hlt (by decide) ?_
      refine E_aload_n dX4_push_48 rfl ?_
      refine E_dup dX4_push_49 rfl ?_
      refine E_getI' (ci := 4) (j := 6) dX4_push_50 fkX4_61 rfl (by decide) rfl (by decide) (q2) ?_
      refine E_iconst (v := nI 1) dX4_push_53 rfl ?_
      refine E_iaddN dX4_push_54 ?_
      refine E_putI (ci := 4) (j := 6) dX4_push_55 fkX4_61 rfl (by decide) rfl (by decide) ?_
      refine E_vret dX4_push_58 rfl ?_
      exact key
def FaQ (T : TK) (M : AM) (v : Option Value) (M' : AM) : Prop := v = none ∧ (∃ F, FO T F ∧ ∀ i, i < LTn T → M'.1 32 i = nI (F.getD i 0)) ∧ Sb [27, 29, 30, 31, 32] M M'
set_option maxRecDepth 8000 in
theorem fa_L (hT : WT T) (hB : T 61 13 < 64) (hG : GR T M) : ∀ (n : Nat) (δ : DF) (M1 : AM) (y4 y5 : Option Value), 3072 < tuN T δ + n → DI T δ → FS T δ M1 → Sb [27, 29, 30, 31, 32] M M1 → Ex g qX4_finishAll (tm g qX4_finishAll (FaQ T M)) 22 [some (.ref 27), some (.ref 9), some (.int (nI δ.2.1.length)), some (.int (nI (tuN T δ))), y4, y5] [] M1 := by
  have hL := q_le hT hB
  have hN := mN_le hT hB
  intro n
  induction n with
  | zero =>
    intro δ M1 y4 y5 h1 h2
    have := tu_le h2
    exact absurd h1 (by omega)
  | succ n ih =>
    rintro ⟨S, F, nm⟩ M1 y4 y5 hn hD hF hS
    have hle := tu_le hD
    have hG1 := gr_sb hG hS (by decide)
    have hst : M1.1 27 6 = nI S.length := hF.2.2.2.2
    have hlen := DI_len hD
    dsimp only at hle hlen
    rcases List.eq_nil_or_concat S with e | ⟨S', a, e⟩
    · subst e
      have hFO := fo_of hT hB hD
      have key : FaQ T M (none : Option Value) M1 := ⟨rfl, ⟨F, hFO, fun i hi => hF.2.2.2.1 i (by rw [hFO.2.2.1]; exact hi)⟩, hS⟩
      show Ex g qX4_finishAll (tm g qX4_finishAll (FaQ T M)) 22 [some (.ref 27), some (.ref 9), some (.int (nI F.length)), some (.int (nI (tuN T ([], F, nm)))), y4, y5] [] M1
      refine E_iload_n dX4_finishAll_22 rfl ?_
      refine E_sipush (v := nI 3072) dX4_finishAll_23 rfl ?_
      refine E_icmp_geN (t := 137) dX4_finishAll_26 (by decide) (by omega) (by omega) (fun c26 => ?_) (fun c26 => ?_)
      · skip
        refine E_vret dX4_finishAll_137 rfl ?_
        exact key
      · skip
        refine E_aload_n dX4_finishAll_29 rfl ?_
        refine E_getI' (ci := 4) (j := 6) dX4_finishAll_30 fkX4_61 rfl (by decide) rfl (by decide) (hst) ?_
        refine E_if_leN (t := 137) dX4_finishAll_33 (by decide) (by decide) (fun c33 => ?_) (fun c33 => ?_)
        · skip
          refine E_vret dX4_finishAll_137 rfl ?_
          exact key
        · skip
          exact absurd c33 (by decide)
    · rw [List.concat_eq_append] at e
      subst e
      have hSl : (S' ++ [a]).length = S'.length + 1 := by rw [List.length_append]; rfl
      rw [hSl] at hst hle hlen
      have ha : a ∈ S' ++ [a] := List.mem_append_right _ (List.mem_singleton.mpr rfl)
      have hsa : sn (S' ++ [a], F, nm) a := Or.inl ha
      obtain ⟨al, an1, an2⟩ := hD.2.1 a hsa
      have an1 : fO T a ≤ nm a := an1
      have an2 : nm a ≤ fO T (a + 1) := an2
      have hmx := fO_le (T := T) (show a + 1 ≤ LTn T from al)
      have hmN : fO T (LTn T) = mN T := rfl
      have h30 : M1.1 30 (S'.length + 1 - 1) = nI a := by
        rw [hF.2.1 (S'.length + 1 - 1) (show _ < (S' ++ [a]).length by omega)]
        show nI ((S' ++ [a]).getD (S'.length + 1 - 1) 0) = nI a
        rw [gd_app (by omega), if_pos (by omega)]
      have h31 : M1.1 31 a = nI (nm a) := hF.2.2.1 a hsa
      have KE : fO T (a + 1) ≤ nm a → Ex g qX4_finishAll (tm g qX4_finishAll (FaQ T M)) 22 [some (.ref 27), some (.ref 9), some (.int (nI (F.length + 1))), some (.int (nI (tuN T (S' ++ [a], F, nm) + 1))), some (.int (nI a)), y5] [] (sI (sI M1 32 F.length (nI a)) 27 6 (nI (S'.length + 1 - 1))) := fun e => by
        have := ih (dfE S' F nm a) _ (some (.int (nI a))) y5 (by rw [tu_E]; omega) (dfE_ok hT hB hD (by omega)) (fs_E hF) ((hS.tr (Sb.i (by decide))).tr (Sb.i (by decide)))
        rw [tu_E, show (dfE S' F nm a).2.1.length = F.length + 1 by show (F ++ [a]).length = _; rw [List.length_append]; rfl] at this
        exact this
      have hmm : nm a < fO T (a + 1) → nm a < mN T := fun e => by omega
      have KM : nm a < fO T (a + 1) → ∀ M2, PuQ T (dfM (S' ++ [a], F, nm) a) (mT T (nm a)) (sI M1 31 a (nI (nm a + 1))) none M2 → Ex g qX4_finishAll (tm g qX4_finishAll (FaQ T M)) 22 [some (.ref 27), some (.ref 9), some (.int (nI F.length)), some (.int (nI (tuN T (S' ++ [a], F, nm) + 1))), some (.int (nI a)), some (.int (nI (mT T (nm a))))] [] M2 := fun e M2 hP => by
        obtain ⟨-, p1, p2, p3⟩ := hP
        have hS2 := (hS.tr (Sb.i (k := 31) (j := a) (x := nI (nm a + 1)) (by decide))).tr p3
        have ok := mv_ok hT hB (hmm e)
        have emf := (mv_sl al an1 e).1
        rcases Classical.em (sn (S' ++ [a], F, nm) (mT T (nm a))) with q | q
        · have := ih (dfM (S' ++ [a], F, nm) a) M2 (some (.int (nI a))) (some (.int (nI (mT T (nm a))))) (by rw [tu_M hD hsa]; omega) (dfM_ok hD ha e q) (p1 q) hS2
          rw [tu_M hD hsa] at this
          exact this
        · have hne : mT T (nm a) ≠ a := fun e2 => q (by rw [e2]; exact hsa)
          have hDP := dfP_ok hT hB hD ok.2.2.2.2.2.1 q (fun u hu => by
            refine rea_tr (v := a) ?_ (rea_1 (sP_m.mpr ⟨nm a, an1, e, rfl, rfl⟩))
            obtain ⟨j, hj⟩ := List.getElem?_of_mem hu
            have hj2 := (List.getElem?_eq_some_iff.mp hj).1
            dsimp only at hj2
            exact hD.2.2.2.1 j S'.length u a (by omega) hj (by show (S' ++ [a])[S'.length]? = _; rw [List.getElem?_append_right (Nat.le_refl _), Nat.sub_self]; rfl))
          have eq : dfM (dfP T (S' ++ [a], F, nm) (mT T (nm a))) a = dfP T (dfM (S' ++ [a], F, nm) a) (mT T (nm a)) := by
            unfold dfM dfP
            dsimp only
            congr 2
            funext x
            by_cases q1 : x = a
            · rw [if_pos q1, if_neg (fun q2 => hne (q2.symm)), if_neg (fun q2 => hne (q2.symm.trans q1)), if_pos q1]
            · rw [if_neg q1, if_neg q1]
          have hnm : (dfP T (S' ++ [a], F, nm) (mT T (nm a))).2.2 a = nm a := by
            show (if a = mT T (nm a) then _ else nm a) = nm a
            rw [if_neg (fun q2 => hne q2.symm)]
          have hsa2 : a ∈ (dfP T (S' ++ [a], F, nm) (mT T (nm a))).1 := List.mem_append_left _ ha
          have hst2 : sn (dfP T (S' ++ [a], F, nm) (mT T (nm a))) (mT T (nm a)) := Or.inl (List.mem_append_right _ (List.mem_singleton.mpr rfl))
          have hDM := dfM_ok hDP hsa2 (by rw [hnm]; exact e) (by rw [hnm]; exact hst2)
          have htu : tuN T (dfP T (dfM (S' ++ [a], F, nm) a) (mT T (nm a))) = tuN T (S' ++ [a], F, nm) + 1 := by
            rw [← eq, tu_M hDP (Or.inl hsa2), tu_P q]
          rw [eq] at hDM
          have := ih (dfP T (dfM (S' ++ [a], F, nm) a) (mT T (nm a))) M2 (some (.int (nI a))) (some (.int (nI (mT T (nm a))))) (by rw [htu]; omega) hDM (p2 q) hS2
          rw [htu] at this
          exact this
      have hG2 := gr_sb hG (hS.tr (Sb.i (k := 31) (j := a) (x := nI (nm a + 1)) (by decide))) (by decide)
      have cP : nm a < fO T (a + 1) → Call g qX4_push [.ref 27, .ref 9, .int (nI (mT T (nm a)))] (sI M1 31 a (nI (nm a + 1))) (PuQ T (dfM (S' ++ [a], F, nm) a) (mT T (nm a)) (sI M1 31 a (nI (nm a + 1)))) := fun e => by
        have ok := mv_ok hT hB (hmm e)
        refine c_push hT hB hG2 (fs_M hF) ok.2.2.2.2.2.1 (fun q => ?_)
        have q : ¬ sn (S' ++ [a], F, nm) (mT T (nm a)) := q
        have hDP := dfP_ok hT hB hD ok.2.2.2.2.2.1 q (fun u hu => by
            refine rea_tr (v := a) ?_ (rea_1 (sP_m.mpr ⟨nm a, an1, e, rfl, rfl⟩))
            obtain ⟨j, hj⟩ := List.getElem?_of_mem hu
            have hj2 := (List.getElem?_eq_some_iff.mp hj).1
            dsimp only at hj2
            exact hD.2.2.2.1 j S'.length u a (by omega) hj (by show (S' ++ [a])[S'.length]? = _; rw [List.getElem?_append_right (Nat.le_refl _), Nat.sub_self]; rfl))
        have h1 := DI_len hDP
        have h2 : (dfP T (S' ++ [a], F, nm) (mT T (nm a))).1.length = S'.length + 1 + 1 := by show ((S' ++ [a]) ++ [_]).length = _; rw [List.length_append, hSl]; rfl
        show (S' ++ [a]).length < 1024
        omega
      have h31' : (sI M1 31 a (nI (nm a + 1))).1 27 6 = (sI M1 31 a (nI (nm a + 1))).1 27 6 := rfl
      have q27 : (sI M1 32 F.length (nI a)).1 27 6 = nI (S'.length + 1) := by rw [sI_ne (by decide)]; exact hst
      show Ex g qX4_finishAll (tm g qX4_finishAll (FaQ T M)) 22 [some (.ref 27), some (.ref 9), some (.int (nI F.length)), some (.int (nI (tuN T (S' ++ [a], F, nm)))), y4, y5] [] M1
      refine E_iload_n dX4_finishAll_22 rfl ?_
      refine E_sipush (v := nI 3072) dX4_finishAll_23 rfl ?_
      refine E_icmp_geN (t := 137) dX4_finishAll_26 (by decide) (by omega) (by omega) (fun c26 => ?_) (fun c26 => ?_)
      · skip
        exact absurd c26 (by omega)
      · skip
        refine E_aload_n dX4_finishAll_29 rfl ?_
        refine E_getI' (ci := 4) (j := 6) dX4_finishAll_30 fkX4_61 rfl (by decide) rfl (by decide) (hst) ?_
        refine E_if_leN (t := 137) dX4_finishAll_33 (by decide) (by omega) (fun c33 => ?_) (fun c33 => ?_)
        · skip
          exact absurd c33 (by omega)
        · skip
          refine E_iload_n dX4_finishAll_36 rfl ?_
          refine E_sipush (v := nI 1024) dX4_finishAll_37 rfl ?_
          refine E_icmp_geN (t := 137) dX4_finishAll_40 (by decide) (by omega) (by omega) (fun c40 => ?_) (fun c40 => ?_)
          · skip
            exact absurd c40 (by omega)
          · skip
            refine E_aload_n dX4_finishAll_43 rfl ?_
            refine E_getR' (ci := 4) (j := 2) (p := 30) dX4_finishAll_44 fkX4_18 rfl (by decide) rfl (by decide) (rfl) ?_
            refine E_aload_n dX4_finishAll_47 rfl ?_
            refine E_getI' (ci := 4) (j := 6) dX4_finishAll_48 fkX4_61 rfl (by decide) rfl (by decide) (hst) ?_
            refine E_iconst (v := nI 1) dX4_finishAll_51 rfl ?_
            refine E_isubN dX4_finishAll_52 (by omega) ?_
            refine E_ialdN dX4_finishAll_53 rfl (by omega) (by decide) (h30) ?_
            refine E_istore dX4_finishAll_54 (by decide) rfl ?_
            refine E_aload_n dX4_finishAll_56 rfl ?_
            refine E_getR' (ci := 4) (j := 3) (p := 31) dX4_finishAll_57 fkX4_22 rfl (by decide) rfl (by decide) (rfl) ?_
            refine E_iload dX4_finishAll_60 rfl ?_
            refine E_ialdN dX4_finishAll_62 rfl (by omega) (by decide) (h31) ?_
            refine E_aload_n dX4_finishAll_63 rfl ?_
            refine E_getR' (ci := 2) (j := 5) (p := 15) dX4_finishAll_64 fkX4_67 rfl (by decide) rfl (by decide) (rfl) ?_
            refine E_iload dX4_finishAll_67 rfl ?_
            refine E_iconst (v := nI 1) dX4_finishAll_69 rfl ?_
            refine E_iaddN dX4_finishAll_70 ?_
            refine E_ialdN dX4_finishAll_71 rfl (by omega) (by decide) (gr_fo hG1 (show a + 1 ≤ LTn T from al)) ?_
            refine E_icmp_geN (t := 110) dX4_finishAll_72 (by decide) (by omega) (by omega) (fun c72 => ?_) (fun c72 => ?_)
            · skip
              have key := KE c72
              refine E_aload_n dX4_finishAll_110 rfl ?_
              refine E_getR' (ci := 4) (j := 4) (p := 32) dX4_finishAll_111 fkX4_25 rfl (by decide) rfl (by decide) (rfl) ?_
              refine E_iload_n dX4_finishAll_114 rfl ?_
              refine E_iload dX4_finishAll_115 rfl ?_
              refine E_iastN dX4_finishAll_117 rfl (by omega) (by decide) ?_
              refine E_iincN (b := 1) dX4_finishAll_118 rfl rfl (by decide) rfl ?_
              refine E_aload_n dX4_finishAll_121 rfl ?_
              refine E_dup dX4_finishAll_122 rfl ?_
              refine E_getI' (ci := 4) (j := 6) dX4_finishAll_123 fkX4_61 rfl (by decide) rfl (by decide) (q27) ?_
              refine E_iconst (v := nI 1) dX4_finishAll_126 rfl ?_
              refine E_isubN dX4_finishAll_127 (by omega) ?_
              refine E_putI (ci := 4) (j := 6) dX4_finishAll_128 fkX4_61 rfl (by decide) rfl (by decide) ?_
              refine E_iincN (b := 1) dX4_finishAll_131 rfl rfl (by decide) rfl ?_
              refine E_goto (t := 22) dX4_finishAll_134 (by decide) ?_
              exact key
            · skip
              refine E_aload_n dX4_finishAll_75 rfl ?_
              refine E_getR' (ci := 2) (j := 7) (p := 17) dX4_finishAll_76 fkX4_58 rfl (by decide) rfl (by decide) (rfl) ?_
              refine E_aload_n dX4_finishAll_79 rfl ?_
              refine E_getR' (ci := 4) (j := 3) (p := 31) dX4_finishAll_80 fkX4_22 rfl (by decide) rfl (by decide) (rfl) ?_
              refine E_iload dX4_finishAll_83 rfl ?_
              refine E_ialdN dX4_finishAll_85 rfl (by omega) (by decide) (h31) ?_
              refine E_ialdN dX4_finishAll_86 rfl (by have := hmm c72; omega) (by decide) (gr_mt hG1 (hmm c72)) ?_
              refine E_istore dX4_finishAll_87 (by decide) rfl ?_
              refine E_aload_n dX4_finishAll_89 rfl ?_
              refine E_getR' (ci := 4) (j := 3) (p := 31) dX4_finishAll_90 fkX4_22 rfl (by decide) rfl (by decide) (rfl) ?_
              refine E_iload dX4_finishAll_93 rfl ?_
              refine E_dup2 dX4_finishAll_95 rfl rfl ?_
              refine E_ialdN dX4_finishAll_96 rfl (by omega) (by decide) (h31) ?_
              refine E_iconst (v := nI 1) dX4_finishAll_97 rfl ?_
              refine E_iaddN dX4_finishAll_98 ?_
              refine E_iastN dX4_finishAll_99 rfl (by omega) (by decide) ?_
              refine E_aload_n dX4_finishAll_100 rfl ?_
              refine E_aload_n dX4_finishAll_101 rfl ?_
              refine E_iload dX4_finishAll_102 rfl ?_
              refine E_callV (r := qX4_push) (ci := 4) dX4_finishAll_104 mkX4_64 voX4_push rfl rfl rfl ⟨Nat.le_of_ble_eq_true rfl, Nat.le_of_ble_eq_true rfl, Nat.le_of_ble_eq_true rfl, Nat.le_of_ble_eq_true rfl⟩ (cP c72) rfl (Nat.le_of_ble_eq_true rfl) ?_
              rintro _ M2 ⟨rfl, hP⟩
              have key := KM c72 M2 ⟨rfl, hP⟩
              refine E_goto (t := 131) dX4_finishAll_107 (by decide) ?_
              refine E_iincN (b := 1) dX4_finishAll_131 rfl rfl (by decide) rfl ?_
              refine E_goto (t := 22) dX4_finishAll_134 (by decide) ?_
              exact key
set_option maxRecDepth 8000 in
theorem c_finishAll (hT : WT T) (hB : T 61 13 < 64) (hG : GR T M) : Call g qX4_finishAll [.ref 27, .ref 9] M (FaQ T M) := by
  have hp := (q_pos hT hB).1
  have hL := q_le hT hB
  let M1 := sI (flM M 29 1024 (bI false)) 27 6 (nI 0)
  have hS1 : Sb [27, 29, 30, 31, 32] M M1 := (flM_sb (by decide)).tr (Sb.i (by decide))
  have hG1 := gr_sb hG hS1 (by decide)
  let δ0 : DF := ([], [], fun _ => 0)
  have hF0 : FS T δ0 M1 := ⟨fun x hx => by
      show (sI (flM M 29 1024 (bI false)) 27 6 (nI 0)).1 29 x = _
      rw [sI_ne (by decide), flM_in (by omega)]
      rw [decide_eq_false (fun q => q.elim (fun q => absurd q List.not_mem_nil) (fun q => absurd q List.not_mem_nil))], fun j hj => absurd hj (Nat.not_lt_zero j), fun x hx => hx.elim (fun q => absurd q List.not_mem_nil) (fun q => absurd q List.not_mem_nil), fun i hi => absurd hi (Nat.not_lt_zero i), sI_s⟩
  have hn0 : ¬ sn δ0 0 := fun q => q.elim (fun q => absurd q List.not_mem_nil) (fun q => absurd q List.not_mem_nil)
  have hD1 : DI T (dfP T δ0 0) := by
    refine ⟨List.pairwise_singleton _ _, fun x hx => ?_, fun x m hx m1 m2 => ?_, fun j j' u v hj hu hv => ?_, fun i v hv => ?_, Or.inl (List.mem_singleton.mpr rfl)⟩
    · have e : x = 0 := hx.elim (fun q => List.mem_singleton.mp q) (fun q => absurd q List.not_mem_nil)
      subst e
      exact ⟨hp, Nat.le_refl _, Nat.zero_le _⟩
    · have e : x = 0 := hx.elim (fun q => List.mem_singleton.mp q) (fun q => absurd q List.not_mem_nil)
      subst e
      have m2 : m < 0 := m2
      omega
    · have e1 : u = 0 := List.mem_singleton.mp (show u ∈ [0] from List.mem_of_getElem? hu)
      have e2 : v = 0 := List.mem_singleton.mp (show v ∈ [0] from List.mem_of_getElem? hv)
      rw [e1, e2]; exact rea_rf
    · exact absurd (show v ∈ ([] : List Nat) from List.mem_of_getElem? hv) List.not_mem_nil
  have htu : tuN T (dfP T δ0 0) = 0 := by
    rw [tu_P hn0]
    show smN (fun x => @ite Nat (sn δ0 x) (Classical.propDecidable _) _ 0) (LTn T) + 0 = 0
    have : ∀ n, smN (fun x => @ite Nat (sn δ0 x) (Classical.propDecidable _) (0 - fO T x) 0) n = 0 := fun n => by
      induction n with
      | zero => rfl
      | succ n ih =>
        show smN _ n + _ = 0
        rw [ih]
        dsimp only
        split <;> omega
    rw [Nat.add_zero]
    exact this _
  have K : ∀ M2, PuQ T δ0 0 M1 none M2 → Ex g qX4_finishAll (tm g qX4_finishAll (FaQ T M)) 22 [some (.ref 27), some (.ref 9), some (.int (nI 0)), some (.int (nI 0)), none, none] [] M2 := fun M2 hP => by
    obtain ⟨-, p1, p2, p3⟩ := hP
    have := fa_L (g := g) hT hB hG 3073 (dfP T δ0 0) M2 none none (by omega) hD1 (p2 hn0) (hS1.tr p3)
    rw [htu] at this
    exact this
  refine Call_of (ls0 := [some (.ref 27), some (.ref 9), none, none, none, none]) rfl rfl (Nat.le_of_ble_eq_true rfl) ?_
  refine E_aload_n dX4_finishAll_0 rfl ?_
  refine E_getR' (ci := 4) (j := 1) (p := 29) dX4_finishAll_1 fkX4_15 rfl (by decide) rfl (by decide) (rfl) ?_
  refine E_callS (r := qX4_clear) dX4_finishAll_4 mkX4_35 toX4_clear rfl ⟨Nat.le_of_ble_eq_true rfl, Nat.le_of_ble_eq_true rfl, Nat.le_of_ble_eq_true rfl, Nat.le_of_ble_eq_true rfl⟩ (c_fillZ rfl (by decide)) rfl (Nat.le_of_ble_eq_true rfl) ?_
  rintro _ _ ⟨rfl, rfl⟩
  refine E_aload_n dX4_finishAll_7 rfl ?_
  refine E_iconst (v := nI 0) dX4_finishAll_8 rfl ?_
  refine E_putI (ci := 4) (j := 6) dX4_finishAll_9 fkX4_61 rfl (by decide) rfl (by decide) ?_
  refine E_aload_n dX4_finishAll_12 rfl ?_
  refine E_aload_n dX4_finishAll_13 rfl ?_
  refine E_iconst (v := nI 0) dX4_finishAll_14 rfl ?_
  refine E_callV (r := qX4_push) (ci := 4) dX4_finishAll_15 mkX4_64 voX4_push rfl rfl rfl ⟨Nat.le_of_ble_eq_true rfl, Nat.le_of_ble_eq_true rfl, Nat.le_of_ble_eq_true rfl, Nat.le_of_ble_eq_true rfl⟩ (c_push hT hB hG1 hF0 hp (fun _ => by decide)) rfl (Nat.le_of_ble_eq_true rfl) ?_
  rintro _ M2 ⟨rfl, hP⟩
  refine E_iconst (v := nI 0) dX4_finishAll_18 rfl ?_
  refine E_ist_n (i := 2) dX4_finishAll_19 rfl (by decide) rfl ?_
  refine E_iconst (v := nI 0) dX4_finishAll_20 rfl ?_
  refine E_ist_n (i := 3) dX4_finishAll_21 rfl (by decide) rfl ?_
  exact K M2 ⟨rfl, hP⟩
end K3
