-- printed by wip/whole/gen91.py: the law: its loop
theorem nI_any (x : Int32) : ∃ a, x = nI a := ⟨x.toBitVec.toNat, by unfold nI; rw [← Int32.toBitVec_inj]; simp⟩
theorem nI_31 (x : Int32) : ∃ c, c < 32 ∧ x &&& nI 31 = nI c := by
  obtain ⟨a, rfl⟩ := nI_any x
  exact ⟨a &&& 31, Nat.lt_succ_of_le Nat.and_le_right, nI_and a 31⟩
section LL
variable {g : GG} {L : Nat} {xs : Nat → Int32}
set_option maxRecDepth 8000 in
set_option maxHeartbeats 2000000 in
theorem lw_loop (hL : L ≤ 1536) : ∀ (k n : Nat) (M : AM), L - n = k → n ≤ 1539 → Iv M → Ex g qL (tL g L xs) 18 (lsL n) [] M := by
  intro k
  induction k using Nat.strongRecOn with
  | ind k ih =>
  intro n M hk hn hI
  have E : ∀ M1 : AM, Ex g qL (tL g L xs) 709 (lsL n) [] M1 := fun M1 => E_iconst (v := 1) dL_law_709 (by decide) (E_end dL_law_710)
  refine E_iload_n dL_law_18 rfl ?_
  refine E_aload_n dL_law_19 rfl ?_
  refine E_slen dL_law_20 ?_
  refine E_iconst (v := nI 3) dL_law_21 (by decide +kernel) ?_
  by_cases h3 : 3 ≤ L
  · refine E_isubN dL_law_22 h3 ?_
    refine E_icmp_gtN (t := 709) dL_law_23 (by decide) (by omega) (by omega) (fun _ => E M) (fun hle => ?_)
    have hn3 : n + 3 ≤ L := by omega
    have hg : ∀ M2, Iv M2 → Ex g qL (tL g L xs) 703 (lsL n) [] M2 := by
      intro M2 h2
      refine E_iincN (a := n) (b := 3) dL_law_703 rfl (by decide +kernel) (Nat.le_of_ble_eq_true rfl) rfl ?_
      refine E_goto (t := 18) dL_law_706 (by decide) ?_
      exact ih (L - (n + 3)) (by omega) (n + 3) M2 rfl (by omega) h2
    refine E_aload_n dL_law_26 rfl ?_
    refine E_iload_n dL_law_27 rfl ?_
    refine E_sld dL_law_28 (by omega) hL ?_
    refine E_bipush (v := nI 31) dL_law_29 (by decide +kernel) ?_
    obtain ⟨c, hc, hw⟩ := nI_31 (xs (nI n).toNatClampNeg)
    refine E_iand dL_law_31 ?_
    rw [hw]
    rcases (show c = 0 ∨ c = 1 ∨ c = 2 ∨ c = 3 ∨ c = 4 ∨ c = 5 ∨ c = 6 ∨ c = 7 ∨ c = 8 ∨ c = 9 ∨ c = 10 ∨ c = 11 ∨ c = 12 ∨ c = 13 ∨ c = 14 ∨ c = 15 ∨ c = 16 ∨ c = 17 ∨ c = 18 ∨ c = 19 ∨ c = 20 ∨ c = 21 ∨ 22 ≤ c by omega) with rfl | rfl | rfl | rfl | rfl | rfl | rfl | rfl | rfl | rfl | rfl | rfl | rfl | rfl | rfl | rfl | rfl | rfl | rfl | rfl | rfl | rfl | h22
    · exact E_swIn (t := 136) (off := 104) dL_law_32 (by decide) (by decide) (by decide) (by decide) (lc_0 hI hL hn3 hg)
    · exact E_swIn (t := 159) (off := 127) dL_law_32 (by decide) (by decide) (by decide) (by decide) (lc_1 hI hL hn3 hg)
    · exact E_swIn (t := 172) (off := 140) dL_law_32 (by decide) (by decide) (by decide) (by decide) (lc_2 hI hL hn3 hg)
    · exact E_swIn (t := 185) (off := 153) dL_law_32 (by decide) (by decide) (by decide) (by decide) (lc_3 hI hL hn3 hg)
    · exact E_swIn (t := 208) (off := 176) dL_law_32 (by decide) (by decide) (by decide) (by decide) (lc_4 hI hL hn3 hg)
    · exact E_swIn (t := 231) (off := 199) dL_law_32 (by decide) (by decide) (by decide) (by decide) (lc_5 hI hL hn3 hg)
    · exact E_swIn (t := 254) (off := 222) dL_law_32 (by decide) (by decide) (by decide) (by decide) (lc_6 hI hL hn3 hg)
    · exact E_swIn (t := 287) (off := 255) dL_law_32 (by decide) (by decide) (by decide) (by decide) (lc_7 hI hL hn3 hg)
    · exact E_swIn (t := 320) (off := 288) dL_law_32 (by decide) (by decide) (by decide) (by decide) (lc_8 hI hL hn3 hg)
    · exact E_swIn (t := 333) (off := 301) dL_law_32 (by decide) (by decide) (by decide) (by decide) (lc_9 hI hL hn3 hg)
    · exact E_swIn (t := 366) (off := 334) dL_law_32 (by decide) (by decide) (by decide) (by decide) (lc_10 hI hL hn3 hg)
    · exact E_swIn (t := 389) (off := 357) dL_law_32 (by decide) (by decide) (by decide) (by decide) (lc_11 hI hL hn3 hg)
    · exact E_swIn (t := 412) (off := 380) dL_law_32 (by decide) (by decide) (by decide) (by decide) (lc_12 hI hL hn3 hg)
    · exact E_swIn (t := 445) (off := 413) dL_law_32 (by decide) (by decide) (by decide) (by decide) (lc_13 hI hL hn3 hg)
    · exact E_swIn (t := 478) (off := 446) dL_law_32 (by decide) (by decide) (by decide) (by decide) (lc_14 hI hL hn3 hg)
    · exact E_swIn (t := 511) (off := 479) dL_law_32 (by decide) (by decide) (by decide) (by decide) (lc_15 hI hL hn3 hg)
    · exact E_swIn (t := 534) (off := 502) dL_law_32 (by decide) (by decide) (by decide) (by decide) (lc_16 hI hL hn3 hg)
    · exact E_swIn (t := 567) (off := 535) dL_law_32 (by decide) (by decide) (by decide) (by decide) (lc_17 hI hL hn3 hg)
    · exact E_swIn (t := 590) (off := 558) dL_law_32 (by decide) (by decide) (by decide) (by decide) (lc_18 hI hL hn3 hg)
    · exact E_swIn (t := 613) (off := 581) dL_law_32 (by decide) (by decide) (by decide) (by decide) (lc_19 hI hL hn3 hg)
    · exact E_swIn (t := 646) (off := 614) dL_law_32 (by decide) (by decide) (by decide) (by decide) (lc_20 hI hL hn3 hg)
    · exact E_swIn (t := 669) (off := 637) dL_law_32 (by decide) (by decide) (by decide) (by decide) (lc_21 hI hL hn3 hg)
    · exact E_swOut (t := 703) dL_law_32 (Or.inr (by rw [nI_toInt (by omega)]; omega)) (by decide) (hg M hI)
  · refine E_isub dL_law_22 ?_
    refine E_icmp_gt (t := 709) dL_law_23 (by decide) (fun _ => E M) (fun hle => ?_)
    exfalso
    apply hle
    rw [Int32.lt_iff_toInt_lt, nI_toInt (by omega)]
    have : (nI L - nI 3).toInt < 0 := by
      rcases (show L = 0 ∨ L = 1 ∨ L = 2 by omega) with rfl | rfl | rfl <;> decide +kernel
    omega
end LL
