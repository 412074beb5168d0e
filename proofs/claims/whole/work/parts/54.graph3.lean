-- the class's graph: the entry, line and marks of a place
noncomputable def GS (T : TK) (n : Nat) (M : AM) : Prop := M.1 9 11 = nI n ∧ (∀ i, i < n → M.1 10 i = nI (Qn T i) ∧ M.1 12 i = nI (dQ T i)) ∧ (∀ s, s < 1024 → M.1 11 s = oI (fdN (fun i => Qn T i == s) n)) ∧ ∀ l, l < 16 → M.1 14 l = oI (fdN (fun i => Qn T i / 64 == l) n)
theorem fdN_s {f : Nat → Bool} {n : Nat} : fdN f (n + 1) = match fdN f n with
    | some i => some i
    | none => if f n = true then some n else none := rfl
theorem fdN_le {f : Nat → Bool} {n d : Nat} (h : fdN f n = some d) : d < n := (fdN_some.mp h).1
theorem gs_next {T : TK} {n t d : Nat} {M M' : AM} (hG : GS T n M) (hq : Qn T n = t) (hd : dQ T n = d) (hn : ∀ i, i < n → Qn T i ≠ t) (h0 : M'.1 9 11 = nI (n + 1)) (h1 : ∀ i, i ≠ n → M'.1 10 i = M.1 10 i) (h1' : M'.1 10 n = nI t) (h2 : ∀ i, i ≠ n → M'.1 12 i = M.1 12 i) (h2' : M'.1 12 n = nI d)
    (h3 : ∀ s, s ≠ t → M'.1 11 s = M.1 11 s) (h3' : M'.1 11 t = nI n) (h4 : ∀ l, l ≠ t / 64 → M'.1 14 l = M.1 14 l) (h4' : fdN (fun i => Qn T i / 64 == t / 64) n = none → M'.1 14 (t / 64) = nI n) (h4'' : ¬ fdN (fun i => Qn T i / 64 == t / 64) n = none → M'.1 14 (t / 64) = M.1 14 (t / 64)) : GS T (n + 1) M' := by
  refine ⟨h0, fun i hi => ?_, fun s hs => ?_, fun l hl => ?_⟩
  · by_cases e : i = n
    · subst e; rw [h1', h2', hq, hd]; exact ⟨rfl, rfl⟩
    · rw [h1 i e, h2 i e]; exact hG.2.1 i (by omega)
  · by_cases e : s = t
    · subst e
      have e1 : fdN (fun i => Qn T i == s) n = none := fdN_none.mpr (fun i hi => by rw [beq_eq_false_iff_ne]; exact hn i hi)
      rw [h3', fdN_s, e1]
      dsimp only
      rw [if_pos (by rw [hq]; exact beq_self_eq_true s)]; rfl
    · rw [h3 s e, hG.2.2.1 s hs, fdN_s]
      cases fdN (fun i => Qn T i == s) n with
      | some i => rfl
      | none => dsimp only; rw [if_neg (by rw [hq, beq_iff_eq]; exact fun h => e h.symm)]
  · by_cases e : l = t / 64
    · subst e
      rw [fdN_s]
      cases h : fdN (fun i => Qn T i / 64 == t / 64) n with
      | some i => rw [h4'' (by rw [h]; exact fun e => by cases e), hG.2.2.2 _ hl, h]
      | none => dsimp only; rw [h4' h, if_pos (by rw [hq]; exact beq_self_eq_true _)]; rfl
    · rw [h4 l e, hG.2.2.2 l hl, fdN_s]
      cases fdN (fun i => Qn T i / 64 == l) n with
      | some i => rfl
      | none => dsimp only; rw [if_neg (by rw [hq, beq_iff_eq]; exact fun h => e h.symm)]
section G3
variable {g : GG} {M : AM} {T : TK}
theorem c_lineAt {i s : Nat} (h : M.1 10 i = nI s) (hi : i < 1024) (hs : s < 1024) : Call g qX2_lineAt [.ref 9, .int (nI i)] M (Rt (nI (s / 64)) M) := by
  refine Call_of (ls0 := [some (.ref 9), some (.int (nI i))]) rfl rfl (Nat.le_of_ble_eq_true rfl) ?_
  refine E_aload_n dX2_lineAt_0 rfl ?_
  refine E_getR' (ci := 2) (j := 0) (p := 10) dX2_lineAt_1 fkX2_9 rfl (by decide) rfl (by decide) (rfl) ?_
  refine E_iload_n dX2_lineAt_4 rfl ?_
  refine E_ialdN dX2_lineAt_5 rfl (by omega) (by decide) (h) ?_
  refine E_bipush (v := nI 64) dX2_lineAt_6 rfl ?_
  refine E_idivN dX2_lineAt_8 (by omega) (by decide) (by decide) ?_
  refine E_iret dX2_lineAt_9 rfl ?_
  exact Rt_n rfl
theorem c_marksAt {i s : Nat} (h : M.1 10 i = nI s) (hi : i < 1024) (hs : s < 1024) : Call g qX2_marksAt [.ref 9, .int (nI i)] M (Rt (nI (s % 64)) M) := by
  refine Call_of (ls0 := [some (.ref 9), some (.int (nI i))]) rfl rfl (Nat.le_of_ble_eq_true rfl) ?_
  refine E_aload_n dX2_marksAt_0 rfl ?_
  refine E_getR' (ci := 2) (j := 0) (p := 10) dX2_marksAt_1 fkX2_9 rfl (by decide) rfl (by decide) (rfl) ?_
  refine E_iload_n dX2_marksAt_4 rfl ?_
  refine E_ialdN dX2_marksAt_5 rfl (by omega) (by decide) (h) ?_
  refine E_bipush (v := nI 64) dX2_marksAt_6 rfl ?_
  refine E_iremN dX2_marksAt_8 (by omega) (by decide) (by decide) ?_
  refine E_iret dX2_marksAt_9 rfl ?_
  exact Rt_n rfl
def AdQ (T : TK) (n : Nat) (x : Int32) (M : AM) (v : Option Value) (M' : AM) : Prop := v = some (.int (bI true)) ∧ GS T (n + 1) M' ∧ M'.1 13 n = x ∧ (∀ i, i ≠ n → M'.1 13 i = M.1 13 i) ∧ M'.1 9 12 = M.1 9 12 ∧ Sb [9, 10, 11, 12, 13, 14] M M'
theorem c_admit {n t d : Nat} {x : Int32} (hG : GS T n M) (hn : n < 1024) (ht : t < 1024) (hq : Qn T n = t) (hd : dQ T n = d) (hne : ∀ i, i < n → Qn T i ≠ t) : Call g qX2_admit [.ref 9, .int (nI t), .int (nI d), .int x] M (AdQ T n x M) := by
  have hl : t / 64 < 16 := by omega
  have q0 := hG.1
  have q1 : (sI M 11 t (nI n)).1 9 11 = nI n := by rw [sI_o (by omega)]; exact q0
  have q2 : (sI (sI M 11 t (nI n)) 10 n (nI t)).1 9 11 = nI n := by rw [sI_o (by omega)]; exact q1
  have q3 : (sI (sI (sI M 11 t (nI n)) 10 n (nI t)) 12 n (nI d)).1 9 11 = nI n := by rw [sI_o (by omega)]; exact q2
  have q4 : (sI (sI (sI (sI M 11 t (nI n)) 10 n (nI t)) 12 n (nI d)) 13 n x).1 9 11 = nI n := by rw [sI_o (by omega)]; exact q3
  have q5 : (sI (sI (sI (sI M 11 t (nI n)) 10 n (nI t)) 12 n (nI d)) 13 n x).1 14 (t / 64) = oI (fdN (fun i => Qn T i / 64 == t / 64) n) := by
    rw [sI_o (by omega), sI_o (by omega), sI_o (by omega), sI_o (by omega)]; exact hG.2.2.2 _ hl
  have q6 : (sI (sI (sI (sI (sI M 11 t (nI n)) 10 n (nI t)) 12 n (nI d)) 13 n x) 14 (t / 64) (nI n)).1 9 11 = nI n := by rw [sI_o (by omega)]; exact q4
  have hob : ∀ e, fdN (fun i => Qn T i / 64 == t / 64) n = some e → e < 2 ^ 31 := fun e he => by have := fdN_le he; omega
  have S4 : Sb [9, 10, 11, 12, 13, 14] M (sI (sI (sI (sI M 11 t (nI n)) 10 n (nI t)) 12 n (nI d)) 13 n x) := (((Sb.i (by decide)).tr (Sb.i (by decide))).tr (Sb.i (by decide))).tr (Sb.i (by decide))
  have K1 : ¬ fdN (fun i => Qn T i / 64 == t / 64) n = none → AdQ T n x M (some (.int (bI true))) (sI (sI (sI (sI (sI M 11 t (nI n)) 10 n (nI t)) 12 n (nI d)) 13 n x) 9 11 (nI (n + 1))) := fun e => by
    refine ⟨rfl, gs_next hG hq hd hne sI_s (fun i hi => ?_) ?_ (fun i hi => ?_) ?_ (fun i hi => ?_) ?_ (fun i hi => ?_) (fun h => absurd h e) (fun _ => ?_), ?_, fun i hi => ?_, ?_, S4.tr (Sb.i (by decide))⟩
    · rw [sI_o (by omega), sI_o (by omega), sI_o (by omega), sI_o (by omega), sI_o (by omega)]
    · rw [sI_o (by omega), sI_o (by omega), sI_o (by omega), sI_s]
    · rw [sI_o (by omega), sI_o (by omega), sI_o (by omega), sI_o (by omega), sI_o (by omega)]
    · rw [sI_o (by omega), sI_o (by omega), sI_s]
    · rw [sI_o (by omega), sI_o (by omega), sI_o (by omega), sI_o (by omega), sI_o (by omega)]
    · rw [sI_o (by omega), sI_o (by omega), sI_o (by omega), sI_o (by omega), sI_s]
    · rw [sI_o (by omega), sI_o (by omega), sI_o (by omega), sI_o (by omega), sI_o (by omega)]
    · rw [sI_o (by omega), sI_o (by omega), sI_o (by omega), sI_o (by omega), sI_o (by omega)]
    · rw [sI_o (by omega), sI_s]
    · rw [sI_o (by omega), sI_o (by omega), sI_o (by omega), sI_o (by omega), sI_o (by omega)]
    · rw [sI_o (by omega), sI_o (by omega), sI_o (by omega), sI_o (by omega), sI_o (by omega)]
  have K2 : fdN (fun i => Qn T i / 64 == t / 64) n = none → AdQ T n x M (some (.int (bI true))) (sI (sI (sI (sI (sI (sI M 11 t (nI n)) 10 n (nI t)) 12 n (nI d)) 13 n x) 14 (t / 64) (nI n)) 9 11 (nI (n + 1))) := fun e => by
    refine ⟨rfl, gs_next hG hq hd hne sI_s (fun i hi => ?_) ?_ (fun i hi => ?_) ?_ (fun i hi => ?_) ?_ (fun i hi => ?_) (fun _ => ?_) (fun h => absurd e h), ?_, fun i hi => ?_, ?_, (S4.tr (Sb.i (by decide))).tr (Sb.i (by decide))⟩
    · rw [sI_o (by omega), sI_o (by omega), sI_o (by omega), sI_o (by omega), sI_o (by omega), sI_o (by omega)]
    · rw [sI_o (by omega), sI_o (by omega), sI_o (by omega), sI_o (by omega), sI_s]
    · rw [sI_o (by omega), sI_o (by omega), sI_o (by omega), sI_o (by omega), sI_o (by omega), sI_o (by omega)]
    · rw [sI_o (by omega), sI_o (by omega), sI_o (by omega), sI_s]
    · rw [sI_o (by omega), sI_o (by omega), sI_o (by omega), sI_o (by omega), sI_o (by omega), sI_o (by omega)]
    · rw [sI_o (by omega), sI_o (by omega), sI_o (by omega), sI_o (by omega), sI_o (by omega), sI_s]
    · rw [sI_o (by omega), sI_o (by omega), sI_o (by omega), sI_o (by omega), sI_o (by omega), sI_o (by omega)]
    · rw [sI_o (by omega), sI_s]
    · rw [sI_o (by omega), sI_o (by omega), sI_s]
    · rw [sI_o (by omega), sI_o (by omega), sI_o (by omega), sI_o (by omega), sI_o (by omega), sI_o (by omega)]
    · rw [sI_o (by omega), sI_o (by omega), sI_o (by omega), sI_o (by omega), sI_o (by omega), sI_o (by omega)]
  refine Call_of (ls0 := [some (.ref 9), some (.int (nI t)), some (.int (nI d)), some (.int x)]) rfl rfl (Nat.le_of_ble_eq_true rfl) ?_
  refine E_aload_n dX2_admit_0 rfl ?_
  refine E_getI' (ci := 2) (j := 11) dX2_admit_1 fkX2_51 rfl (by decide) rfl (by decide) (q0) ?_
  refine E_sipush (v := nI 1024) dX2_admit_4 rfl ?_
  refine E_icmp_ltN (t := 12) dX2_admit_7 (by decide) (by omega) (by omega) (fun c7 => ?_) (fun c7 => ?_)
  · skip
    refine E_aload_n dX2_admit_12 rfl ?_
    refine E_getR' (ci := 2) (j := 1) (p := 11) dX2_admit_13 fkX2_15 rfl (by decide) rfl (by decide) (rfl) ?_
    refine E_iload_n dX2_admit_16 rfl ?_
    refine E_aload_n dX2_admit_17 rfl ?_
    refine E_getI' (ci := 2) (j := 11) dX2_admit_18 fkX2_51 rfl (by decide) rfl (by decide) (q0) ?_
    refine E_iastN dX2_admit_21 rfl (by omega) (by decide) ?_
    refine E_aload_n dX2_admit_22 rfl ?_
    refine E_getR' (ci := 2) (j := 0) (p := 10) dX2_admit_23 fkX2_9 rfl (by decide) rfl (by decide) (rfl) ?_
    refine E_aload_n dX2_admit_26 rfl ?_
    refine E_getI' (ci := 2) (j := 11) dX2_admit_27 fkX2_51 rfl (by decide) rfl (by decide) (q1) ?_
    refine E_iload_n dX2_admit_30 rfl ?_
    refine E_iastN dX2_admit_31 rfl (by omega) (by decide) ?_
    refine E_aload_n dX2_admit_32 rfl ?_
    refine E_getR' (ci := 2) (j := 2) (p := 12) dX2_admit_33 fkX2_18 rfl (by decide) rfl (by decide) (rfl) ?_
    refine E_aload_n dX2_admit_36 rfl ?_
    refine E_getI' (ci := 2) (j := 11) dX2_admit_37 fkX2_51 rfl (by decide) rfl (by decide) (q2) ?_
    refine E_iload_n dX2_admit_40 rfl ?_
    refine E_iastN dX2_admit_41 rfl (by omega) (by decide) ?_
    refine E_aload_n dX2_admit_42 rfl ?_
    refine E_getR' (ci := 2) (j := 3) (p := 13) dX2_admit_43 fkX2_21 rfl (by decide) rfl (by decide) (rfl) ?_
    refine E_aload_n dX2_admit_46 rfl ?_
    refine E_getI' (ci := 2) (j := 11) dX2_admit_47 fkX2_51 rfl (by decide) rfl (by decide) (q3) ?_
    refine E_iload_n dX2_admit_50 rfl ?_
    refine E_iastN dX2_admit_51 rfl (by omega) (by decide) ?_
    refine E_aload_n dX2_admit_52 rfl ?_
    refine E_getR' (ci := 2) (j := 4) (p := 14) dX2_admit_53 fkX2_24 rfl (by decide) rfl (by decide) (rfl) ?_
    refine E_iload_n dX2_admit_56 rfl ?_
    refine E_bipush (v := nI 64) dX2_admit_57 rfl ?_
    refine E_idivN dX2_admit_59 (by omega) (by decide) (by decide) ?_
    refine E_ialdN dX2_admit_60 rfl hl (by decide) (q5) ?_
    refine E_iconst (v := -1) dX2_admit_61 rfl ?_
    refine E_icmp_neO (t := 78) dX2_admit_62 (by decide) hob (fun c62 => ?_) (fun c62 => ?_)
    · skip
      have q7 := q4
      have key := K1 c62
      refine E_aload_n dX2_admit_78 rfl ?_
      refine E_dup dX2_admit_79 rfl ?_
      refine E_getI' (ci := 2) (j := 11) dX2_admit_80 fkX2_51 rfl (by decide) rfl (by decide) (q7) ?_
      refine E_iconst (v := nI 1) dX2_admit_83 rfl ?_
      refine E_iaddN dX2_admit_84 ?_
      refine E_putI (ci := 2) (j := 11) dX2_admit_85 fkX2_51 rfl (by decide) rfl (by decide) ?_
      refine E_iconst (v := nI 1) dX2_admit_88 rfl ?_
      refine E_top (show nI 1 = bI true from rfl) ?_
      refine E_zret dX2_admit_89 rfl (bI_01 _) ?_
      exact key
    · skip
      have q7 := q6
      have key := K2 c62
      refine E_aload_n dX2_admit_65 rfl ?_
      refine E_getR' (ci := 2) (j := 4) (p := 14) dX2_admit_66 fkX2_24 rfl (by decide) rfl (by decide) (rfl) ?_
      refine E_iload_n dX2_admit_69 rfl ?_
      refine E_bipush (v := nI 64) dX2_admit_70 rfl ?_
      refine E_idivN dX2_admit_72 (by omega) (by decide) (by decide) ?_
      refine E_aload_n dX2_admit_73 rfl ?_
      refine E_getI' (ci := 2) (j := 11) dX2_admit_74 fkX2_51 rfl (by decide) rfl (by decide) (q4) ?_
      refine E_iastN dX2_admit_77 rfl hl (by decide) ?_
      refine E_aload_n dX2_admit_78 rfl ?_
      refine E_dup dX2_admit_79 rfl ?_
      refine E_getI' (ci := 2) (j := 11) dX2_admit_80 fkX2_51 rfl (by decide) rfl (by decide) (q7) ?_
      refine E_iconst (v := nI 1) dX2_admit_83 rfl ?_
      refine E_iaddN dX2_admit_84 ?_
      refine E_putI (ci := 2) (j := 11) dX2_admit_85 fkX2_51 rfl (by decide) rfl (by decide) ?_
      refine E_iconst (v := nI 1) dX2_admit_88 rfl ?_
      refine E_top (show nI 1 = bI true from rfl) ?_
      refine E_zret dX2_admit_89 rfl (bI_01 _) ?_
      exact key
  · skip
    exact absurd hn (by omega)
end G3
