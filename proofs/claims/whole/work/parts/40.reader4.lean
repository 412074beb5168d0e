-- the class: its reader: what may follow, costs
section R4
variable {g : GG} {M : AM} {p c l w : Nat} {P : TK}
theorem c_rest (h : RDs (w, l, P) p M) (hw : 3 ≤ w) (hw9 : w < 10) (hc : c < 256) : Call g qX6_acceptRest [.ref 1, .int (nI c), .ref p] M (RDp p (if w = 7 then pTen c l P else pFive c l P) M) := by
  have hB : SB P p M := h.2.2.2.1
  have hs := hB.1
  have hl : l < 16 := h.2.2.1
  have h3 : M.1 1 3 = nI w := h.1
  have h4 : M.1 1 4 = nI l := h.2.1
  have h0 : 0 < P 61 0 := h.2.2.2.2.1 hw
  have ho : ∀ v, RDp p (0, v, l, P) M (some (.int (nI 0))) (sI M 1 3 (nI v)) ∨ (v = 6 ∨ v = 7) := fun v => by
    by_cases e : v = 6 ∨ v = 7
    · exact Or.inr e
    · exact Or.inl (rd_0 sI_s (by (rw [sI_o (by decide)]; exact h4)) hl (sb_1 hB) (fun _ => h0) (fun e2 => absurd e2 e) (RDF.rf.o hs (by decide)))
  have e5 : ¬ (c = 63 ∧ ¬ w = 7) → (if w = 7 then pTen c l P else pFive c l P) = pTen c l P := fun e => by
    by_cases e7 : w = 7
    · rw [if_pos e7]
    · rw [if_neg e7]; unfold pFive; rw [if_neg (fun e2 => e ⟨e2, e7⟩)]
  have e6 : c = 63 → ¬ w = 7 → (if w = 7 then pTen c l P else pFive c l P) = pAlt l P := fun e1 e2 => by rw [if_neg e2]; unfold pFive; rw [if_pos e1]
  have r33 : c = 33 → RDp p (if w = 7 then pTen c l P else pFive c l P) M (some (.int (nI 0))) (sI M 1 3 (nI 8)) := fun e => by
    rw [e5 (by omega)]; unfold pTen; rw [if_pos e]
    exact (ho 8).elim id (fun e => absurd e (by decide))
  have rEn : ¬ (c = 63 ∧ ¬ w = 7) → ¬ c = 33 → RDp p (if w = 7 then pTen c l P else pFive c l P) M (some (.int (nI (if c = 59 then 0 else 1)))) (if c = 59 then sI M 1 3 (nI 0) else M) := fun e1 e2 => by
    rw [e5 e1]; unfold pTen; rw [if_neg e2]; unfold pEnd
    by_cases e : c = 59
    · rw [if_pos e, if_pos e, if_pos e]; exact (ho 0).elim id (fun e => absurd e (by decide))
    · rw [if_neg e, if_neg e, if_neg e]; exact rd_e (by decide) RDF.rf
  refine Call_of (ls0 := [some (.ref 1), some (.int (nI c)), some (.ref p)]) rfl rfl (Nat.le_of_ble_eq_true rfl) ?_
  refine E_iload_n dX6_acceptRest_0 rfl ?_
  refine E_bipush (v := nI 63) dX6_acceptRest_1 rfl ?_
  refine E_icmp_neN (t := 21) dX6_acceptRest_3 (by decide) (by omega) (by omega) (fun c3 => ?_) (fun c3 => ?_)
  · skip
    refine E_iload_n dX6_acceptRest_21 rfl ?_
    refine E_bipush (v := nI 33) dX6_acceptRest_22 rfl ?_
    refine E_icmp_neN (t := 34) dX6_acceptRest_24 (by decide) (by omega) (by omega) (fun c24 => ?_) (fun c24 => ?_)
    · skip
      refine E_aload_n dX6_acceptRest_34 rfl ?_
      refine E_iload_n dX6_acceptRest_35 rfl ?_
      refine E_callV (r := qX6_acceptClauseEnd) (ci := 6) dX6_acceptRest_36 mkX6_46 voX6_acceptClauseEnd rfl rfl rfl ⟨Nat.le_of_ble_eq_true rfl, Nat.le_of_ble_eq_true rfl, Nat.le_of_ble_eq_true rfl, Nat.le_of_ble_eq_true rfl⟩ (c_clauseEnd hc) rfl (Nat.le_of_ble_eq_true rfl) ?_
      rintro _ _ ⟨rfl, rfl⟩
      refine E_iret dX6_acceptRest_39 rfl ?_
      exact rEn (by omega) c24
    · skip
      refine E_aload_n dX6_acceptRest_27 rfl ?_
      refine E_bipush (v := nI 8) dX6_acceptRest_28 rfl ?_
      refine E_callV (r := qX6_goOn) (ci := 6) dX6_acceptRest_30 mkX6_78 voX6_goOn rfl rfl rfl ⟨Nat.le_of_ble_eq_true rfl, Nat.le_of_ble_eq_true rfl, Nat.le_of_ble_eq_true rfl, Nat.le_of_ble_eq_true rfl⟩ (c_goOn) rfl (Nat.le_of_ble_eq_true rfl) ?_
      rintro _ _ ⟨rfl, rfl⟩
      refine E_iret dX6_acceptRest_33 rfl ?_
      exact r33 c24
  · skip
    refine E_aload_n dX6_acceptRest_6 rfl ?_
    refine E_getI' (ci := 6) (j := 3) dX6_acceptRest_7 fkX6_24 rfl (by decide) rfl (by decide) (h3) ?_
    refine E_bipush (v := nI 7) dX6_acceptRest_10 rfl ?_
    refine E_icmp_eqN (t := 21) dX6_acceptRest_12 (by decide) (by omega) (by omega) (fun c12 => ?_) (fun c12 => ?_)
    · skip
      refine E_iload_n dX6_acceptRest_21 rfl ?_
      refine E_bipush (v := nI 33) dX6_acceptRest_22 rfl ?_
      refine E_icmp_neN (t := 34) dX6_acceptRest_24 (by decide) (by omega) (by omega) (fun c24 => ?_) (fun c24 => ?_)
      · skip
        refine E_aload_n dX6_acceptRest_34 rfl ?_
        refine E_iload_n dX6_acceptRest_35 rfl ?_
        refine E_callV (r := qX6_acceptClauseEnd) (ci := 6) dX6_acceptRest_36 mkX6_46 voX6_acceptClauseEnd rfl rfl rfl ⟨Nat.le_of_ble_eq_true rfl, Nat.le_of_ble_eq_true rfl, Nat.le_of_ble_eq_true rfl, Nat.le_of_ble_eq_true rfl⟩ (c_clauseEnd hc) rfl (Nat.le_of_ble_eq_true rfl) ?_
        rintro _ _ ⟨rfl, rfl⟩
        refine E_iret dX6_acceptRest_39 rfl ?_
        exact rEn (by omega) c24
      · skip
        refine E_aload_n dX6_acceptRest_27 rfl ?_
        refine E_bipush (v := nI 8) dX6_acceptRest_28 rfl ?_
        refine E_callV (r := qX6_goOn) (ci := 6) dX6_acceptRest_30 mkX6_78 voX6_goOn rfl rfl rfl ⟨Nat.le_of_ble_eq_true rfl, Nat.le_of_ble_eq_true rfl, Nat.le_of_ble_eq_true rfl, Nat.le_of_ble_eq_true rfl⟩ (c_goOn) rfl (Nat.le_of_ble_eq_true rfl) ?_
        rintro _ _ ⟨rfl, rfl⟩
        refine E_iret dX6_acceptRest_33 rfl ?_
        exact r33 c24
    · skip
      refine E_aload_n dX6_acceptRest_15 rfl ?_
      refine E_aload_n dX6_acceptRest_16 rfl ?_
      refine E_callV (r := qX6_openAlternative) (ci := 6) dX6_acceptRest_17 mkX6_97 voX6_openAlternative rfl rfl rfl ⟨Nat.le_of_ble_eq_true rfl, Nat.le_of_ble_eq_true rfl, Nat.le_of_ble_eq_true rfl, Nat.le_of_ble_eq_true rfl⟩ (c_openAlt h hw) rfl (Nat.le_of_ble_eq_true rfl) ?_
      rintro _ M2 ⟨rfl, hr1, hr2⟩
      refine E_iret dX6_acceptRest_20 rfl ?_
      rw [e6 c3 c12]
      exact ⟨rfl, hr1, hr2⟩
end R4
