-- the class: its reader: append, readInto
def pOK (r : Nat × PS) : Prop := r.1 ≤ 4 ∧ r.2.1 < 10
theorem pok_B {f : Nat} {P : TK} (h : f ≤ 4) : pOK (pB f P) := ⟨h, Nat.le_of_ble_eq_true rfl⟩
theorem pok_0 {w l : Nat} {P : TK} (h : w < 10) : pOK (0, w, l, P) := ⟨Nat.zero_le _, h⟩
theorem pok_End {c l : Nat} {P : TK} : pOK (pEnd c l P) := by unfold pEnd; split; exact pok_0 (by decide); exact pok_B (by decide)
theorem pok_Ten {c l : Nat} {P : TK} : pOK (pTen c l P) := by unfold pTen; split; exact pok_0 (by decide); exact pok_End
theorem pok_Alt {l : Nat} {P : TK} : pOK (pAlt l P) := by unfold pAlt; split; exact pok_B (by decide); exact pok_0 (by decide)
theorem pok_Five {c l : Nat} {P : TK} : pOK (pFive c l P) := by unfold pFive; split; exact pok_Alt; exact pok_Ten
theorem pok_Ask {c l : Nat} {P : TK} : pOK (pAsk c l P) := by unfold pAsk; split; exact pok_0 (by decide); exact pok_B (by decide)
theorem pok_Chg {c l : Nat} {P : TK} : pOK (pChg c l P) := by unfold pChg; split; split; exact pok_0 (by decide); exact pok_B (by decide); exact pok_B (by decide)
theorem pok_S {w c l : Nat} {P : TK} : pOK (pS w c l P) := by
  unfold pS
  split
  · split; exact pok_0 (by decide); exact pok_B (by decide)
  · split; exact pok_0 (by decide); split; split; exact pok_B (by decide); exact pok_0 (by decide); exact pok_B (by decide)
  · exact pok_End
  · split; exact pok_0 (by decide); exact pok_B (by decide)
  · split; exact pok_0 (by decide); exact pok_Five
  · exact pok_Five
  · exact pok_Ask
  · split; exact pok_Ask; split; exact pok_Alt; exact pok_Ten
  · exact pok_Chg
  · split; exact pok_0 (by decide); exact pok_Chg
  · exact pok_Ten
theorem sb_fr {P : TK} {p : Nat} {M M' : AM} (h : SB P p M) (hf : ∀ k, p ≤ k → k ≤ p + 8 → M'.1 k = M.1 k) : SB P p M' := ⟨h.1, fun k j hd => by
  obtain ⟨h1, h2, h3⟩ := h.2.1 k j hd
  refine ⟨h1, h2, ?_⟩
  have : p ≤ (aS p k j).1 ∧ (aS p k j).1 ≤ p + 8 := by unfold aS; split <;> dsimp only <;> omega
  rw [hf _ this.1 this.2]; exact h3, h.2.2.1, h.2.2.2.1, h.2.2.2.2.k rfl (fun _ => rfl) (by rw [hf p (Nat.le_refl p) (by omega)]) (by rw [hf p (Nat.le_refl p) (by omega)])⟩
section R10
variable {g : GG} {M : AM} {p c l : Nat} {P T : TK}
theorem c_append {n : Nat} {x : Int32} (h : M.1 1 1 = nI n) (hn : n ≤ 200) : Call g qX6_append [.ref 1, .int x] M (fun v M' => v = some (.int (bI (decide (n < 200)))) ∧ M' = if n < 200 then sI (sI M 2 n x) 1 1 (nI (n + 1)) else M) := by
  have h2 : (sI M 2 n x).1 1 1 = nI n := by rw [sI_o (by omega)]; exact h
  refine Call_of (ls0 := [some (.ref 1), some (.int x)]) rfl rfl (Nat.le_of_ble_eq_true rfl) ?_
  refine E_aload_n dX6_append_0 rfl ?_
  refine E_getI' (ci := 6) (j := 1) dX6_append_1 fkX6_15 rfl (by decide) rfl (by decide) (h) ?_
  refine E_sipush (v := nI 200) dX6_append_4 rfl ?_
  refine E_icmp_ltN (t := 12) dX6_append_7 (by decide) (by omega) (by omega) (fun c7 => ?_) (fun c7 => ?_)
  · skip
    refine E_aload_n dX6_append_12 rfl ?_
    refine E_getR' (ci := 6) (j := 0) (p := 2) dX6_append_13 fkX6_9 rfl (by decide) rfl (by decide) (rfl) ?_
    refine E_aload_n dX6_append_16 rfl ?_
    refine E_getI' (ci := 6) (j := 1) dX6_append_17 fkX6_15 rfl (by decide) rfl (by decide) (h) ?_
    refine E_iload_n dX6_append_20 rfl ?_
    refine E_iastN dX6_append_21 rfl (by omega) (by decide) ?_
    refine E_aload_n dX6_append_22 rfl ?_
    refine E_dup dX6_append_23 rfl ?_
    refine E_getI' (ci := 6) (j := 1) dX6_append_24 fkX6_15 rfl (by decide) rfl (by decide) (h2) ?_
    refine E_iconst (v := nI 1) dX6_append_27 rfl ?_
    refine E_iaddN dX6_append_28 ?_
    refine E_putI (ci := 6) (j := 1) dX6_append_29 fkX6_15 rfl (by decide) rfl (by decide) ?_
    refine E_iconst (v := nI 1) dX6_append_32 rfl ?_
    refine E_top (show nI 1 = bI true from rfl) ?_
    refine E_zret dX6_append_33 rfl (bI_01 _) ?_
    rw [decide_eq_true c7, if_pos c7]
    exact ⟨rfl, rfl⟩
  · skip
    refine E_iconst (v := nI 0) dX6_append_10 rfl ?_
    refine E_top (show nI 0 = bI false from rfl) ?_
    refine E_zret dX6_append_11 rfl (bI_01 _) ?_
    rw [decide_eq_false (by omega), if_neg (by omega)]
    exact ⟨rfl, rfl⟩
theorem c_first0 (hB : SB P p M) (hc : c < 256) : Call g qX6_acceptFirstLine [.ref 1, .int (nI c), .ref p] M (RDp p (pStp c (0, l, P)) M) := by
  have hs := hB.1
  have hno : ¬ (97 ≤ c ∧ c ≤ 112) → pStp c (0, l, P) = pB 1 P := fun e => by
    show (if lnC c = true then _ else pB 1 P) = _
    rw [if_neg (by unfold lnC; rw [decide_eq_true_iff]; exact e)]
  have hys : 97 ≤ c → c ≤ 112 → pStp c (0, l, P) = (0, 1, c - 97, nmL P (c - 97)) := fun e1 e2 => by
    show (if lnC c = true then (0, 1, c - 97, nmL P (c - 97)) else _) = _
    rw [if_pos (by unfold lnC; rw [decide_eq_true_iff]; exact ⟨e1, e2⟩)]
  refine Call_of (ls0 := [some (.ref 1), some (.int (nI c)), some (.ref p)]) rfl rfl (Nat.le_of_ble_eq_true rfl) ?_
  refine E_iload_n dX6_acceptFirstLine_0 rfl ?_
  refine E_bipush (v := nI 97) dX6_acceptFirstLine_1 rfl ?_
  refine E_icmp_ltN (t := 12) dX6_acceptFirstLine_3 (by decide) (by omega) (by omega) (fun c3 => ?_) (fun c3 => ?_)
  · skip
    refine E_iconst (v := nI 1) dX6_acceptFirstLine_12 rfl ?_
    refine E_iret dX6_acceptFirstLine_13 rfl ?_
    rw [hno (by omega)]
    exact rd_e (by decide) RDF.rf
  · skip
    refine E_iload_n dX6_acceptFirstLine_6 rfl ?_
    refine E_bipush (v := nI 112) dX6_acceptFirstLine_7 rfl ?_
    refine E_icmp_leN (t := 14) dX6_acceptFirstLine_9 (by decide) (by omega) (by omega) (fun c9 => ?_) (fun c9 => ?_)
    · skip
      refine E_aload_n dX6_acceptFirstLine_14 rfl ?_
      refine E_iload_n dX6_acceptFirstLine_15 rfl ?_
      refine E_bipush (v := nI 97) dX6_acceptFirstLine_16 rfl ?_
      refine E_isubN dX6_acceptFirstLine_18 (by omega) ?_
      refine E_putI (ci := 6) (j := 4) dX6_acceptFirstLine_19 fkX6_71 rfl (by decide) rfl (by decide) ?_
      refine E_aload_n dX6_acceptFirstLine_22 rfl ?_
      refine E_aload_n dX6_acceptFirstLine_23 rfl ?_
      refine E_getI' (ci := 6) (j := 4) dX6_acceptFirstLine_24 fkX6_71 rfl (by decide) rfl (by decide) (sI_s) ?_
      refine E_callV (r := qX8_nameLine) (ci := 8) dX6_acceptFirstLine_27 mkX6_74 voX8_nameLine rfl (kS hs) rfl ⟨Nat.le_of_ble_eq_true rfl, Nat.le_of_ble_eq_true rfl, Nat.le_of_ble_eq_true rfl, Nat.le_of_ble_eq_true rfl⟩ (c_nameLine (sb_1 hB) (by omega)) rfl (Nat.le_of_ble_eq_true rfl) ?_
      rintro _ M2 ⟨rfl, hB2, hF2⟩
      refine E_aload_n dX6_acceptFirstLine_30 rfl ?_
      refine E_iconst (v := nI 1) dX6_acceptFirstLine_31 rfl ?_
      refine E_callV (r := qX6_goOn) (ci := 6) dX6_acceptFirstLine_32 mkX6_78 voX6_goOn rfl rfl rfl ⟨Nat.le_of_ble_eq_true rfl, Nat.le_of_ble_eq_true rfl, Nat.le_of_ble_eq_true rfl, Nat.le_of_ble_eq_true rfl⟩ (c_goOn) rfl (Nat.le_of_ble_eq_true rfl) ?_
      rintro _ _ ⟨rfl, rfl⟩
      refine E_iret dX6_acceptFirstLine_35 rfl ?_
      rw [hys (by omega) (by omega)]
      refine rd_0 sI_s ?_ (by omega) (sb_1 hB2) (fun e => absurd e (by decide)) (fun e => absurd e (by decide)) (((RDF.rf.o hs (by decide)).s hs hF2).o hs (by decide))
      rw [sI_o (by decide), sf_1 hs hF2, sI_s]
    · skip
      refine E_iconst (v := nI 1) dX6_acceptFirstLine_12 rfl ?_
      refine E_iret dX6_acceptFirstLine_13 rfl ?_
      rw [hno (by omega)]
      exact rd_e (by decide) RDF.rf
theorem c_accept0 (h3 : M.1 1 3 = nI 0) (hB : SB P p M) (hc : c < 256) : Call g qX6_accept [.ref 1, .int (nI c), .ref p] M (RDp p (pStp c (0, l, P)) M) := by
  have hs := hB.1
  have K : Ex g qX6_accept (tm g qX6_accept (RDp p (pStp c (0, l, P)) M)) 56 [some (.ref 1), some (.int (nI c)), some (.ref p)] [] M := by
    refine E_aload_n dX6_accept_56 rfl ?_
    refine E_iload_n dX6_accept_57 rfl ?_
    refine E_aload_n dX6_accept_58 rfl ?_
    refine E_callV (r := qX6_acceptFirstLine) (ci := 6) dX6_accept_59 mkX6_40 voX6_acceptFirstLine rfl rfl rfl ⟨Nat.le_of_ble_eq_true rfl, Nat.le_of_ble_eq_true rfl, Nat.le_of_ble_eq_true rfl, Nat.le_of_ble_eq_true rfl⟩ (c_first0 (l := l) hB hc) rfl (Nat.le_of_ble_eq_true rfl) ?_
    rintro _ M2 ⟨rfl, hr1, hr2⟩
    refine E_iret dX6_accept_62 rfl ?_
    exact ⟨rfl, hr1, hr2⟩
  refine Call_of (ls0 := [some (.ref 1), some (.int (nI c)), some (.ref p)]) rfl rfl (Nat.le_of_ble_eq_true rfl) ?_
  refine E_aload_n dX6_accept_0 rfl ?_
  refine E_getI' (ci := 6) (j := 3) dX6_accept_1 fkX6_24 rfl (by decide) rfl (by decide) (h3) ?_
  exact E_swIn (t := 56) (off := 52) dX6_accept_4 (by decide) (by decide) (by decide) (by decide) K
def RDi (s : PS) (p : Nat) (M : AM) : Prop := RDs s p M ∨ (s.1 = 0 ∧ M.1 1 3 = nI 0 ∧ SB s.2.2 p M)
theorem rdi_B {s : PS} (h : RDi s p M) : SB s.2.2 p M := h.elim (fun h => h.2.2.2.1) (fun h => h.2.2)
theorem rdi_3 {s : PS} (h : RDi s p M) : M.1 1 3 = nI s.1 := h.elim (fun h => h.1) (fun h => by rw [h.1]; exact h.2.1)
theorem rdi_1 {s : PS} {x : Int32} (h : RDi s p M) : RDi s p (sI M 1 2 x) := h.elim (fun h => Or.inl ⟨by rw [sI_o (by decide)]; exact h.1, by rw [sI_o (by decide)]; exact h.2.1, h.2.2.1, sb_1 h.2.2.2.1, h.2.2.2.2⟩) (fun h => Or.inr ⟨h.1, by rw [sI_o (by decide)]; exact h.2.1, sb_1 h.2.2⟩)
theorem c_acc {s : PS} (h : RDi s p M) (hw : s.1 < 10) (hc : c < 256) : Call g qX6_accept [.ref 1, .int (nI c), .ref p] M (RDp p (pStp c s) M) := by
  obtain ⟨w, l, P⟩ := s
  rcases h with h | ⟨h1, h2, h3⟩
  · exact c_accept h hw hc
  · dsimp only at h1 h2 h3
    subst h1
    exact c_accept0 h2 h3 hc
def RdQ (T : TK) (p : Nat) (M : AM) (v : Option Value) (M' : AM) : Prop := v = some (.int (if (prs T).1 = 0 then -1 else nI (prs T).2.1)) ∧ M'.1 1 1 = nI 0 ∧ M'.1 1 2 = nI (prs T).1 ∧ ((prs T).1 = 0 → SB (prs T).2.2 p M' ∧ SL (prs T).2.2 p M') ∧ M'.1 p 14 = nI 0 ∧ Sb (1 :: SpL p) M M'
theorem c_readInto (hs : Sp p) (hT : TX T) (h21 : M.1 1 1 = nI (T 61 21)) (h75 : ∀ i, i < T 61 21 → M.1 2 i = nI (T 75 i)) : Call g qX6_readInto [.ref 1, .ref p] M (RdQ T p M) := by
  have hp2 : (2 : Nat) ∉ 1 :: SpL p := by unfold SpL; simp only [List.mem_cons, List.not_mem_nil, or_false]; rcases hs with e | e <;> omega
  have LO : ∀ (n pl : Nat) (s : PS) (M1 : AM), pl ≤ T 61 21 → T 61 21 < pl + n → RDi s p M1 → s.1 < 10 → rn T pl s = prs T → Sb (1 :: SpL p) M M1 → M1.1 p 14 = nI 0 → M1.1 1 1 = nI 0 → (M1.1 1 2 = nI 0 ∨ s.2.2 61 1 = 0) → Ex g qX6_readInto (tm g qX6_readInto (RdQ T p M)) 21 [some (.ref 1), some (.ref p), some (.int (nI (T 61 21))), some (.int (nI pl))] [] M1 := by
    intro n
    induction n with
    | zero => intro pl s M1 h1 h2; exact absurd h2 (by omega)
    | succ n ih =>
      intro pl s M1 hpl hn hR hw hrn hS h14 h11 h12
      have hB := rdi_B hR
      have h200 := hT.1
      have hpne : p ≠ 1 := by rcases hs with e | e <;> omega
      have hld : pl < T 61 21 → M1.1 2 pl = nI (T 75 pl) := fun h => (congrFun (hS 2 hp2).1 pl).trans (h75 pl h)
      have hth : M1.1 p 11 = nI (s.2.2 61 1) := sb_6 hB (j := 1) (by decide)
      have hlt : pl < T 61 21 → T 75 pl < 256 := hT.2 pl
      have hthb : s.2.2 61 1 < 65536 := hB.2.2.1.2.1
      have EF : ∀ (M2 : AM) (f : Nat), f ≠ 0 → (prs T).1 = f → (prs T).2.1 = pl → Sb (1 :: SpL p) M M2 → M2.1 p 14 = nI 0 → M2.1 1 1 = nI 0 → RdQ T p M (some (.int (nI pl))) (sI M2 1 2 (nI f)) := fun M2 f hf e1 e2 k1 k2 k3 => ⟨by rw [e1, if_neg hf, e2], by rw [sI_o (by decide)]; exact k3, by rw [sI_s, e1], fun e => absurd (e1.symm.trans e) hf, by rw [sI_o (by omega)]; exact k2, k1.tr (Sb.i (List.mem_cons_self ..))⟩
      have KA : pl < T 61 21 → T 75 pl = 32 → 0 = 0 → Ex g qX6_readInto (tm g qX6_readInto (RdQ T p M)) 21 [some (.ref 1), some (.ref p), some (.int (nI (T 61 21))), some (.int (nI (pl + 1)))] [] (sI M1 1 2 (nI 0)) := fun h1 h2 _ => ih (pl + 1) s _ (by omega) (by omega) (rdi_1 hR) hw ((rn_bl h1 h2).symm.trans hrn) (hS.tr (Sb.i (List.mem_cons_self ..))) (by rw [sI_o (by omega)]; exact h14) (by rw [sI_o (by decide)]; exact h11) (Or.inl sI_s)
      have KB : pl < T 61 21 → ¬ T 75 pl = 32 → ∀ M2, ((pStp (T 75 pl) s).1 = 0 → RDs (pStp (T 75 pl) s).2 p M2) → RDF p M1 M2 → (pStp (T 75 pl) s).1 = 0 → Ex g qX6_readInto (tm g qX6_readInto (RdQ T p M)) 21 [some (.ref 1), some (.ref p), some (.int (nI (T 61 21))), some (.int (nI (pl + 1)))] [] (sI M2 1 2 (nI (pStp (T 75 pl) s).1)) := fun h1 h2 M2 k1 k2 e => by
        refine ih (pl + 1) (pStp (T 75 pl) s).2 _ (by omega) (by omega) (rdi_1 (Or.inl (k1 e))) (pok_S).2 ((rn_ok h1 h2 (Prod.ext e rfl)).symm.trans hrn) ((hS.tr k2.1).tr (Sb.i (List.mem_cons_self ..))) (by rw [sI_o (by omega), k2.2.1]; exact h14) (by rw [sI_o (by decide), k2.2.2 1 (by decide)]; exact h11) (Or.inl ?_)
        rw [sI_s, e]
      have KC : pl < T 61 21 → ¬ T 75 pl = 32 → ∀ M2, RDF p M1 M2 → 0 < (pStp (T 75 pl) s).1 → RdQ T p M (some (.int (nI pl))) (sI M2 1 2 (nI (pStp (T 75 pl) s).1)) := fun h1 h2 M2 k2 e => by
        have hf : (pStp (T 75 pl) s).1 ≠ 0 := by omega
        obtain ⟨r1, r2⟩ := rn_er h1 h2 (s := s) (f := (pStp (T 75 pl) s).1) (s' := (pStp (T 75 pl) s).2) rfl hf
        rw [hrn] at r1 r2
        exact EF M2 _ hf r1 r2 (hS.tr k2.1) (by rw [k2.2.1]; exact h14) (by rw [k2.2.2 1 (by decide)]; exact h11)
      have KE : pl = T 61 21 → (s.1 ≠ 0 ∨ s.2.2 61 1 = 0) → RdQ T p M (some (.int (nI (T 61 21)))) (sI M1 1 2 (nI 1)) := fun h1 h2 => by
        obtain ⟨r1, r2⟩ := rn_en (T := T) (s := s) h1 h2
        rw [hrn] at r1 r2
        have := EF M1 1 (by decide) r1 r2 hS h14 h11
        rw [h1] at this
        exact this
      have KG : pl = T 61 21 → s.1 = 0 → s.2.2 61 1 ≠ 0 → ∀ M2, SL s.2.2 p M2 → Sb [p + 9, p + 10] M1 M2 → RdQ T p M (some (.int (-1))) M2 := fun h1 h2 h3 M2 k1 k2 => by
        have er : prs T = (0, pl, s.2.2) := by
          rw [← hrn]
          unfold rn
          rw [show T 61 21 - pl = 0 by omega, pRun, if_pos ⟨h2, h3⟩]
        have k2' : ∀ k, k ≠ p + 9 → k ≠ p + 10 → M2.1 k = M1.1 k := fun k q1 q2 => (k2 k (by simp [q1, q2])).1
        have hc1 : M2.1 1 = M1.1 1 := k2' 1 (by omega) (by omega)
        refine ⟨by rw [er]; rfl, by rw [hc1]; exact h11, by rw [hc1, er]; exact h12.resolve_right h3, fun _ => ?_, by rw [k2' p (by omega) (by omega)]; exact h14, hS.tr (k2.sub ?_)⟩
        · rw [er]
          exact ⟨sb_fr hB (fun k q1 q2 => k2' k (by omega) (by omega)), k1⟩
        · intro k hk
          simp only [List.mem_cons, List.not_mem_nil, or_false] at hk
          exact List.mem_cons_of_mem _ (spL_m (by omega) (by omega))
      refine E_iload_n dX6_readInto_21 rfl ?_
      refine E_iload_n dX6_readInto_22 rfl ?_
      refine E_icmp_geN (t := 71) dX6_readInto_23 (by decide) (by omega) (by omega) (fun c23 => ?_) (fun c23 => ?_)
      · skip
        refine E_aload_n dX6_readInto_71 rfl ?_
        refine E_getI' (ci := 6) (j := 3) dX6_readInto_72 fkX6_24 rfl (by decide) rfl (by decide) (rdi_3 hR) ?_
        refine E_if_neN (t := 85) dX6_readInto_75 (by decide) (by omega) (fun c75 => ?_) (fun c75 => ?_)
        · skip
          have key3 := KE (by omega) (Or.inl (by omega))
          refine E_aload_n dX6_readInto_85 rfl ?_
          refine E_iconst (v := nI 1) dX6_readInto_86 rfl ?_
          refine E_putI (ci := 6) (j := 2) dX6_readInto_87 fkX6_31 rfl (by decide) rfl (by decide) ?_
          refine E_iload_n dX6_readInto_90 rfl ?_
          refine E_iret dX6_readInto_91 rfl ?_
          exact key3
        · skip
          refine E_aload_n dX6_readInto_78 rfl ?_
          refine E_getI' (ci := 8) (j := 11) dX6_readInto_79 fkX6_34 rfl (by decide) (kS hs) (by decide) (hth) ?_
          refine E_if_neN (t := 92) dX6_readInto_82 (by decide) (by omega) (fun c82 => ?_) (fun c82 => ?_)
          · skip
            refine E_aload_n dX6_readInto_92 rfl ?_
            refine E_callV (r := qX8_sortByLine) (ci := 8) dX6_readInto_93 mkX6_37 voX8_sortByLine rfl (kS hs) rfl ⟨Nat.le_of_ble_eq_true rfl, Nat.le_of_ble_eq_true rfl, Nat.le_of_ble_eq_true rfl, Nat.le_of_ble_eq_true rfl⟩ (c_sort hB) rfl (Nat.le_of_ble_eq_true rfl) ?_
            rintro _ M2 ⟨rfl, hr1, hr2⟩
            refine E_iconst (v := -1) dX6_readInto_96 rfl ?_
            refine E_iret dX6_readInto_97 rfl ?_
            exact KG (by omega) c75 (by omega) M2 hr1 hr2
          · skip
            have key3 := KE (by omega) (Or.inr c82)
            refine E_aload_n dX6_readInto_85 rfl ?_
            refine E_iconst (v := nI 1) dX6_readInto_86 rfl ?_
            refine E_putI (ci := 6) (j := 2) dX6_readInto_87 fkX6_31 rfl (by decide) rfl (by decide) ?_
            refine E_iload_n dX6_readInto_90 rfl ?_
            refine E_iret dX6_readInto_91 rfl ?_
            exact key3
      · skip
        refine E_aload_n dX6_readInto_26 rfl ?_
        refine E_aload_n dX6_readInto_27 rfl ?_
        refine E_getR' (ci := 6) (j := 0) (p := 2) dX6_readInto_28 fkX6_9 rfl (by decide) rfl (by decide) (rfl) ?_
        refine E_iload_n dX6_readInto_31 rfl ?_
        refine E_ialdN dX6_readInto_32 rfl (by omega) (by decide) (hld c23) ?_
        refine E_bipush (v := nI 32) dX6_readInto_33 rfl ?_
        refine E_icmp_neN (t := 42) dX6_readInto_35 (by decide) (by have := hlt c23; omega) (by omega) (fun c35 => ?_) (fun c35 => ?_)
        · skip
          refine E_aload_n dX6_readInto_42 rfl ?_
          refine E_aload_n dX6_readInto_43 rfl ?_
          refine E_getR' (ci := 6) (j := 0) (p := 2) dX6_readInto_44 fkX6_9 rfl (by decide) rfl (by decide) (rfl) ?_
          refine E_iload_n dX6_readInto_47 rfl ?_
          refine E_ialdN dX6_readInto_48 rfl (by omega) (by decide) (hld c23) ?_
          refine E_aload_n dX6_readInto_49 rfl ?_
          refine E_callV (r := qX6_accept) (ci := 6) dX6_readInto_50 mkX6_27 voX6_accept rfl rfl rfl ⟨Nat.le_of_ble_eq_true rfl, Nat.le_of_ble_eq_true rfl, Nat.le_of_ble_eq_true rfl, Nat.le_of_ble_eq_true rfl⟩ (c_acc hR hw (hlt c23)) rfl (Nat.le_of_ble_eq_true rfl) ?_
          rintro _ M2 ⟨rfl, hr1, hr2⟩
          have key := KB c23 c35 M2 hr1 hr2
          have key2 := KC c23 c35 M2 hr2
          have h31 : (pStp (T 75 pl) s).1 < 2 ^ 31 := Nat.lt_of_le_of_lt (pok_S).1 (by decide)
          refine E_putI (ci := 6) (j := 2) dX6_readInto_53 fkX6_31 rfl (by decide) rfl (by decide) ?_
          refine E_aload_n dX6_readInto_56 rfl ?_
          refine E_getI' (ci := 6) (j := 2) dX6_readInto_57 fkX6_31 rfl (by decide) rfl (by decide) (sI_s) ?_
          refine E_if_eqN (t := 65) dX6_readInto_60 (by decide) h31 (fun c60 => ?_) (fun c60 => ?_)
          · skip
            refine E_iincN (b := 1) dX6_readInto_65 rfl rfl (by decide) rfl ?_
            refine E_goto (t := 21) dX6_readInto_68 (by decide) ?_
            exact key c60
          · skip
            refine E_iload_n dX6_readInto_63 rfl ?_
            refine E_iret dX6_readInto_64 rfl ?_
            exact key2 c60
        · skip
          have key := KA c23 c35
          have key2 : 0 < 0 → RdQ T p M (some (.int (nI pl))) (sI M1 1 2 (nI 0)) := fun e => absurd e (Nat.lt_irrefl 0)
          have h31 : 0 < 2 ^ 31 := by decide
          refine E_iconst (v := nI 0) dX6_readInto_38 rfl ?_
          refine E_goto (t := 53) dX6_readInto_39 (by decide) ?_
          refine E_putI (ci := 6) (j := 2) dX6_readInto_53 fkX6_31 rfl (by decide) rfl (by decide) ?_
          refine E_aload_n dX6_readInto_56 rfl ?_
          refine E_getI' (ci := 6) (j := 2) dX6_readInto_57 fkX6_31 rfl (by decide) rfl (by decide) (sI_s) ?_
          refine E_if_eqN (t := 65) dX6_readInto_60 (by decide) h31 (fun c60 => ?_) (fun c60 => ?_)
          · skip
            refine E_iincN (b := 1) dX6_readInto_65 rfl rfl (by decide) rfl ?_
            refine E_goto (t := 21) dX6_readInto_68 (by decide) ?_
            exact key c60
          · skip
            refine E_iload_n dX6_readInto_63 rfl ?_
            refine E_iret dX6_readInto_64 rfl ?_
            exact key2 c60
  have K : ∀ M2, SB (fun _ _ => 0) p M2 → Sb (SpL p) (sI M 1 1 (nI 0)) M2 → M2.1 p 14 = nI 0 → Ex g qX6_readInto (tm g qX6_readInto (RdQ T p M)) 21 [some (.ref 1), some (.ref p), some (.int (nI (T 61 21))), some (.int (nI 0))] [] (sI M2 1 3 (nI 0)) := fun M2 k1 k2 k3 => by
    have hc1 : M2.1 1 = (sI M 1 1 (nI 0)).1 1 := (k2 1 (by unfold SpL; simp only [List.mem_cons, List.not_mem_nil, or_false]; rcases hs with e | e <;> omega)).1
    refine LO (T 61 21 + 1) 0 (0, 0, fun _ _ => 0) _ (Nat.zero_le _) (by omega) (Or.inr ⟨rfl, sI_s, sb_1 k1⟩) (by decide) rfl (((Sb.i (List.mem_cons_self ..)).tr (k2.sub (fun k hk => List.mem_cons_of_mem _ hk))).tr (Sb.i (List.mem_cons_self ..))) (by rw [sI_o (by rcases hs with e | e <;> omega)]; exact k3) ?_ (Or.inr rfl)
    rw [sI_o (by decide), hc1, sI_s]
  refine Call_of (ls0 := [some (.ref 1), some (.ref p), none, none]) rfl rfl (Nat.le_of_ble_eq_true rfl) ?_
  refine E_aload_n dX6_readInto_0 rfl ?_
  refine E_getI' (ci := 6) (j := 1) dX6_readInto_1 fkX6_15 rfl (by decide) rfl (by decide) (h21) ?_
  refine E_ist_n (i := 2) dX6_readInto_4 rfl (by decide) rfl ?_
  refine E_aload_n dX6_readInto_5 rfl ?_
  refine E_iconst (v := nI 0) dX6_readInto_6 rfl ?_
  refine E_putI (ci := 6) (j := 1) dX6_readInto_7 fkX6_15 rfl (by decide) rfl (by decide) ?_
  refine E_aload_n dX6_readInto_10 rfl ?_
  refine E_callV (r := qX8_clear) (ci := 8) dX6_readInto_11 mkX6_19 voX8_clear rfl (kS hs) rfl ⟨Nat.le_of_ble_eq_true rfl, Nat.le_of_ble_eq_true rfl, Nat.le_of_ble_eq_true rfl, Nat.le_of_ble_eq_true rfl⟩ (c_clear hs) rfl (Nat.le_of_ble_eq_true rfl) ?_
  rintro _ M2 ⟨rfl, hr1, hr2, hr3⟩
  refine E_aload_n dX6_readInto_14 rfl ?_
  refine E_iconst (v := nI 0) dX6_readInto_15 rfl ?_
  refine E_putI (ci := 6) (j := 3) dX6_readInto_16 fkX6_24 rfl (by decide) rfl (by decide) ?_
  refine E_iconst (v := nI 0) dX6_readInto_19 rfl ?_
  refine E_ist_n (i := 3) dX6_readInto_20 rfl (by decide) rfl ?_
  exact K M2 hr1 hr2 hr3
end R10
