-- the class: its reader, step by step
/-- the reader stands at s, the script p shows what is read -/
def RDs (s : PS) (p : Nat) (M : AM) : Prop := M.1 1 3 = nI s.1 ∧ M.1 1 4 = nI s.2.1 ∧ s.2.1 < 16 ∧ SB s.2.2 p M ∧ (3 ≤ s.1 → 0 < s.2.2 61 0) ∧ (s.1 = 6 ∨ s.1 = 7 → 0 < s.2.2 65 (s.2.2 61 0 - 1))
def RDF (p : Nat) (M M' : AM) : Prop := Sb (1 :: SpL p) M M' ∧ M'.1 p 14 = M.1 p 14 ∧ ∀ j, j < 3 → M'.1 1 j = M.1 1 j
theorem RDF.rf {p : Nat} {M : AM} : RDF p M M := ⟨Sb.rf, rfl, fun _ _ => rfl⟩
theorem RDF.tr {p : Nat} {M M' M'' : AM} (h1 : RDF p M M') (h2 : RDF p M' M'') : RDF p M M'' := ⟨h1.1.tr h2.1, h2.2.1.trans h1.2.1, fun j hj => (h2.2.2 j hj).trans (h1.2.2 j hj)⟩
theorem RDF.s {p : Nat} (hs : Sp p) {M M' M'' : AM} (h1 : RDF p M M') (h2 : SF p M' M'') : RDF p M M'' := h1.tr ⟨h2.1.sub (fun k hk => List.mem_cons_of_mem _ hk), h2.2, fun j _ => by
  rw [(h2.1 1 (by unfold SpL; simp only [List.mem_cons, List.not_mem_nil, or_false]; rcases hs with e | e <;> omega)).1]⟩
theorem RDF.o {p : Nat} (hs : Sp p) {M M' : AM} {j : Nat} {x : Int32} (h1 : RDF p M M') (hj : 3 ≤ j) : RDF p M (sI M' 1 j x) := h1.tr ⟨Sb.i (List.mem_cons_self ..), sI_o (by rcases hs with e | e <;> omega), fun i hi => sI_o (by omega)⟩
theorem sb_1 {P : TK} {p j : Nat} {M : AM} {x : Int32} (h : SB P p M) : SB P p (sI M 1 j x) := by
  have hn : ∀ i, ¬ (p = 1 ∧ i = j) := fun i => by rcases h.1 with e | e <;> omega
  refine ⟨h.1, fun k i hd => ?_, h.2.2.1, h.2.2.2.1, h.2.2.2.2.k rfl (fun _ => rfl) (sI_o (hn _)) (sI_o (hn _))⟩
  have h1 := h.2.1 k i hd
  refine ⟨h1.1, h1.2.1, ?_⟩
  have hs := h.1
  rw [sI_o (by unfold aS; split <;> (intro e; have e1 := e.1; simp at e1; rcases hs with h | h <;> omega))]
  exact h1.2.2
section R1
variable {g : GG} {M : AM} {p : Nat}
theorem c_goOn {w : Nat} : Call g qX6_goOn [.ref 1, .int (nI w)] M (fun v M' => v = some (.int (nI 0)) ∧ M' = sI M 1 3 (nI w)) := by
  refine Call_of (ls0 := [some (.ref 1), some (.int (nI w))]) rfl rfl (Nat.le_of_ble_eq_true rfl) ?_
  refine E_aload_n dX6_goOn_0 rfl ?_
  refine E_iload_n dX6_goOn_1 rfl ?_
  refine E_putI (ci := 6) (j := 3) dX6_goOn_2 fkX6_24 rfl (by decide) rfl (by decide) ?_
  refine E_iconst (v := nI 0) dX6_goOn_5 rfl ?_
  refine E_iret dX6_goOn_6 rfl ?_
  exact ⟨rfl, rfl⟩
theorem c_smallMark {c : Nat} (hc : c < 256) : Call g qX6_smallMark [.int (nI c)] M (Rt (nI (sMk c)) M) := by
  refine Call_of (ls0 := [some (.int (nI c))]) rfl rfl (Nat.le_of_ble_eq_true rfl) ?_
  refine E_iload_n dX6_smallMark_0 rfl ?_
  refine E_bipush (v := nI 113) dX6_smallMark_1 rfl ?_
  refine E_icmp_ltN (t := 21) dX6_smallMark_3 (by decide) (by omega) (by omega) (fun c3 => ?_) (fun c3 => ?_)
  · skip
    refine E_iconst (v := nI 0) dX6_smallMark_21 rfl ?_
    refine E_iret dX6_smallMark_22 rfl ?_
    refine Rt_n ?_
    unfold sMk
    first | rw [if_pos ⟨c3, c9⟩, Nat.one_mul] | rw [if_neg (by omega)]
  · skip
    refine E_iload_n dX6_smallMark_6 rfl ?_
    refine E_bipush (v := nI 118) dX6_smallMark_7 rfl ?_
    refine E_icmp_gtN (t := 21) dX6_smallMark_9 (by decide) (by omega) (by omega) (fun c9 => ?_) (fun c9 => ?_)
    · skip
      refine E_iconst (v := nI 0) dX6_smallMark_21 rfl ?_
      refine E_iret dX6_smallMark_22 rfl ?_
      refine Rt_n ?_
      unfold sMk
      first | rw [if_pos ⟨c3, c9⟩, Nat.one_mul] | rw [if_neg (by omega)]
    · skip
      have hp2 := p2_64 (l := c - 113) (by omega)
      refine E_iconst (v := nI 1) dX6_smallMark_12 rfl ?_
      refine E_iload_n dX6_smallMark_13 rfl ?_
      refine E_bipush (v := nI 113) dX6_smallMark_14 rfl ?_
      refine E_isubN dX6_smallMark_16 (by omega) ?_
      refine E_ishlN dX6_smallMark_17 (by omega) (by omega) ?_
      refine E_goto (t := 22) dX6_smallMark_18 (by decide) ?_
      refine E_iret dX6_smallMark_22 rfl ?_
      refine Rt_n ?_
      unfold sMk
      first | rw [if_pos ⟨c3, c9⟩, Nat.one_mul] | rw [if_neg (by omega)]
theorem c_greatMark {c : Nat} (hc : c < 256) : Call g qX6_greatMark [.int (nI c)] M (Rt (nI (gMk c)) M) := by
  refine Call_of (ls0 := [some (.int (nI c))]) rfl rfl (Nat.le_of_ble_eq_true rfl) ?_
  refine E_iload_n dX6_greatMark_0 rfl ?_
  refine E_bipush (v := nI 81) dX6_greatMark_1 rfl ?_
  refine E_icmp_ltN (t := 21) dX6_greatMark_3 (by decide) (by omega) (by omega) (fun c3 => ?_) (fun c3 => ?_)
  · skip
    refine E_iconst (v := nI 0) dX6_greatMark_21 rfl ?_
    refine E_iret dX6_greatMark_22 rfl ?_
    refine Rt_n ?_
    unfold gMk
    first | rw [if_pos ⟨c3, c9⟩, Nat.one_mul] | rw [if_neg (by omega)]
  · skip
    refine E_iload_n dX6_greatMark_6 rfl ?_
    refine E_bipush (v := nI 86) dX6_greatMark_7 rfl ?_
    refine E_icmp_gtN (t := 21) dX6_greatMark_9 (by decide) (by omega) (by omega) (fun c9 => ?_) (fun c9 => ?_)
    · skip
      refine E_iconst (v := nI 0) dX6_greatMark_21 rfl ?_
      refine E_iret dX6_greatMark_22 rfl ?_
      refine Rt_n ?_
      unfold gMk
      first | rw [if_pos ⟨c3, c9⟩, Nat.one_mul] | rw [if_neg (by omega)]
    · skip
      have hp2 := p2_64 (l := c - 81) (by omega)
      refine E_iconst (v := nI 1) dX6_greatMark_12 rfl ?_
      refine E_iload_n dX6_greatMark_13 rfl ?_
      refine E_bipush (v := nI 81) dX6_greatMark_14 rfl ?_
      refine E_isubN dX6_greatMark_16 (by omega) ?_
      refine E_ishlN dX6_greatMark_17 (by omega) (by omega) ?_
      refine E_goto (t := 22) dX6_greatMark_18 (by decide) ?_
      refine E_iret dX6_greatMark_22 rfl ?_
      refine Rt_n ?_
      unfold gMk
      first | rw [if_pos ⟨c3, c9⟩, Nat.one_mul] | rw [if_neg (by omega)]
theorem c_clauseEnd {c : Nat} (hc : c < 256) : Call g qX6_acceptClauseEnd [.ref 1, .int (nI c)] M (fun v M' => v = some (.int (nI (if c = 59 then 0 else 1))) ∧ M' = if c = 59 then sI M 1 3 (nI 0) else M) := by
  refine Call_of (ls0 := [some (.ref 1), some (.int (nI c))]) rfl rfl (Nat.le_of_ble_eq_true rfl) ?_
  refine E_iload_n dX6_acceptClauseEnd_0 rfl ?_
  refine E_bipush (v := nI 59) dX6_acceptClauseEnd_1 rfl ?_
  refine E_icmp_neN (t := 14) dX6_acceptClauseEnd_3 (by decide) (by omega) (by omega) (fun c3 => ?_) (fun c3 => ?_)
  · skip
    refine E_iconst (v := nI 1) dX6_acceptClauseEnd_14 rfl ?_
    refine E_iret dX6_acceptClauseEnd_15 rfl ?_
    first | exact ⟨by rw [if_pos c3], by rw [if_pos c3]⟩ | exact ⟨by rw [if_neg c3], by rw [if_neg c3]⟩
  · skip
    refine E_aload_n dX6_acceptClauseEnd_6 rfl ?_
    refine E_iconst (v := nI 0) dX6_acceptClauseEnd_7 rfl ?_
    refine E_callV (r := qX6_goOn) (ci := 6) dX6_acceptClauseEnd_8 mkX6_78 voX6_goOn rfl rfl rfl ⟨Nat.le_of_ble_eq_true rfl, Nat.le_of_ble_eq_true rfl, Nat.le_of_ble_eq_true rfl, Nat.le_of_ble_eq_true rfl⟩ (c_goOn) rfl (Nat.le_of_ble_eq_true rfl) ?_
    rintro _ _ ⟨rfl, rfl⟩
    refine E_goto (t := 15) dX6_acceptClauseEnd_11 (by decide) ?_
    refine E_iret dX6_acceptClauseEnd_15 rfl ?_
    first | exact ⟨by rw [if_pos c3], by rw [if_pos c3]⟩ | exact ⟨by rw [if_neg c3], by rw [if_neg c3]⟩
end R1
