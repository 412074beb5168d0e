-- the class's graph, pure: a place's moves one by one
section Q2
variable {T : TK}
noncomputable def Lk (T : TK) (k : Nat) : List Nat := blL T (Qn T k / 64) (T 61 0)
noncomputable def Aj (T : TK) (k j : Nat) : List Nat := ((Lk T k).take j).filter (fun a => opn T a (Qn T k) 0)
noncomputable def sgj (T : TK) (k j : Nat) : BS := ((Aj T k j).map (fun a => nxt T a (Qn T k))).foldl (vis (dQ T k + 1)) (bfN (sx0 T) (fst0 T) k)
theorem Lk_mv {k : Nat} : (Lk T k).filter (fun a => opn T a (Qn T k) 0) = mvA T (Qn T k) := by
  unfold Lk blL mvA
  rw [List.filter_filter]
  apply List.filter_congr
  intro a _
  by_cases e : opn T a (Qn T k) 0 = true
  · rw [e, opn_fr e, beq_self_eq_true]; rfl
  · rw [Bool.eq_false_iff.mpr e]; rfl
theorem g0 (hT : WT T) (hB : T 61 13 < 64) {k : Nat} (hk : k < LTn T) : (bfN (sx0 T) (fst0 T) k).1[k]? = some (Qn T k) ∧ dOf (bfN (sx0 T) (fst0 T) k) (Qn T k) = dQ T k := by
  have h1 := (q_end hT hB).2 k hk
  have hk2 : k ≤ 1024 := Nat.le_trans (Nat.le_of_lt hk) (q_le hT hB)
  have h2 := bq_get hk2 h1
  refine ⟨h2, ?_⟩
  have hI := bInv_N (fst0_lt hT hB) (sux_lt (but := none) (un := none) (w := none) hT) k
  have h3 := (hI.2.1 (Qn T k)).mp (List.mem_of_getElem? h2)
  obtain ⟨e, he⟩ := Option.ne_none_iff_exists'.mp h3
  have h4 := bq_D hk2 he
  show ((bfN (sx0 T) (fst0 T) k).2 (Qn T k)).getD 0 = (DT T (Qn T k)).getD 0
  rw [h4]
  show (Option.getD (α := Nat) _ 0) = _
  rw [he]
theorem sj_end (hT : WT T) (hB : T 61 13 < 64) {k : Nat} (hk : k < LTn T) : sgj T k (Lk T k).length = bfN (sx0 T) (fst0 T) (k + 1) := by
  obtain ⟨h1, h2⟩ := g0 hT hB hk
  have e : bfN (sx0 T) (fst0 T) (k + 1) = exN (sx0 T) (bfN (sx0 T) (fst0 T) k) (Qn T k) := by
    rw [bfN, h1]
  rw [e]
  unfold sgj exN Aj
  rw [List.take_length, Lk_mv, h2, sx0_map]
theorem sj_rest (hT : WT T) (hB : T 61 13 < 64) {k : Nat} (hk : k < LTn T) (j : Nat) : bfN (sx0 T) (fst0 T) (k + 1) = ((((Lk T k).drop j).filter (fun a => opn T a (Qn T k) 0)).map (fun a => nxt T a (Qn T k))).foldl (vis (dQ T k + 1)) (sgj T k j) := by
  rw [← sj_end hT hB hk]
  unfold sgj Aj
  rw [← List.foldl_append, ← List.map_append, ← List.filter_append, List.take_append_drop, List.take_length]
theorem sj_0 {k : Nat} : sgj T k 0 = bfN (sx0 T) (fst0 T) k := rfl
theorem Aj_s {k j a : Nat} (h : (Lk T k)[j]? = some a) : Aj T k (j + 1) = Aj T k j ++ (if opn T a (Qn T k) 0 = true then [a] else []) := by
  unfold Aj
  rw [List.take_succ, h, List.filter_append]
  congr 1
  by_cases e : opn T a (Qn T k) 0 = true
  · rw [if_pos e]; simp [e]
  · rw [if_neg e]; simp [e]
theorem sj_y {k j a : Nat} (h : (Lk T k)[j]? = some a) (ho : opn T a (Qn T k) 0 = true) : sgj T k (j + 1) = vis (dQ T k + 1) (sgj T k j) (nxt T a (Qn T k)) := by
  unfold sgj
  rw [Aj_s h, if_pos ho, List.map_append, List.foldl_append]; rfl
theorem sj_n {k j a : Nat} (h : (Lk T k)[j]? = some a) (ho : ¬ opn T a (Qn T k) 0 = true) : sgj T k (j + 1) = sgj T k j ∧ Aj T k (j + 1) = Aj T k j := by
  have e : Aj T k (j + 1) = Aj T k j := by rw [Aj_s h, if_neg ho, List.append_nil]
  refine ⟨?_, e⟩
  unfold sgj
  rw [e]
theorem sj_inv (hT : WT T) (hB : T 61 13 < 64) {k : Nat} (j : Nat) : bInv 1024 (sgj T k j) := by
  unfold sgj
  refine bInv_fold _ (bInv_N (fst0_lt hT hB) (sux_lt (but := none) (un := none) (w := none) hT) k) (fun t ht => ?_)
  obtain ⟨a, ha, rfl⟩ := List.mem_map.mp ht
  unfold Aj at ha
  have h1 := List.mem_of_mem_take (List.mem_filter.mp ha).1
  unfold Lk at h1
  exact nxt_lt hT (blL_m.mp h1).1
theorem sj_get (hT : WT T) (hB : T 61 13 < 64) {k j i : Nat} (hk : k < LTn T) (hi : i < (sgj T k j).1.length) : (sgj T k j).1[i]? = some (Qn T i) ∧ i < LTn T := by
  have hk2 : k + 1 ≤ 1024 := Nat.le_trans hk (q_le hT hB)
  have e := sj_rest hT hB hk j
  have h1 := fold_get (d := dQ T k + 1) ((((Lk T k).drop j).filter (fun a => opn T a (Qn T k) 0)).map (fun a => nxt T a (Qn T k))) hi
  have h2 := fold_len (d := dQ T k + 1) ((((Lk T k).drop j).filter (fun a => opn T a (Qn T k) 0)).map (fun a => nxt T a (Qn T k))) (σ := sgj T k j)
  rw [← e] at h1 h2
  have h3 : i < (bfN (sx0 T) (fst0 T) (k + 1)).1.length := by omega
  rw [← h1]
  exact ⟨bq_get hk2 h3, Nat.lt_of_lt_of_le h3 (bq_len hk2)⟩
theorem sj_D (hT : WT T) (hB : T 61 13 < 64) {k j u d : Nat} (hk : k < LTn T) (h : (sgj T k j).2 u = some d) : DT T u = some d := by
  have hk2 : k + 1 ≤ 1024 := Nat.le_trans hk (q_le hT hB)
  have h1 := fold_pre (d := dQ T k + 1) ((((Lk T k).drop j).filter (fun a => opn T a (Qn T k) 0)).map (fun a => nxt T a (Qn T k))) h
  rw [← sj_rest hT hB hk j] at h1
  exact bq_D hk2 h1
theorem sj_fd (hT : WT T) (hB : T 61 13 < 64) {k j t : Nat} (hk : k < LTn T) : fdN (fun i => Qn T i == t) (sgj T k j).1.length = none ↔ (sgj T k j).2 t = none := by
  have hI := sj_inv (k := k) hT hB j
  rw [fdN_none]
  constructor
  · intro h
    rcases Classical.em ((sgj T k j).2 t = none) with e | e
    · exact e
    · obtain ⟨i, hi⟩ := List.getElem?_of_mem ((hI.2.1 t).mpr e)
      have hl := (List.getElem?_eq_some_iff.mp hi).1
      rw [(sj_get hT hB hk hl).1] at hi
      have := h i hl
      rw [Option.some.inj hi, beq_self_eq_true] at this
      cases this
  · intro h i hi
    rw [beq_eq_false_iff_ne]
    intro e
    have h1 := List.mem_of_getElem? (sj_get hT hB hk hi).1
    rw [e] at h1
    exact (hI.2.1 t).mp h1 h
/-- a new place: it is the next in the row -/
theorem sj_new (hT : WT T) (hB : T 61 13 < 64) {k j a : Nat} (hk : k < LTn T) (h : (Lk T k)[j]? = some a) (ho : opn T a (Qn T k) 0 = true) (hn : (sgj T k j).2 (nxt T a (Qn T k)) = none) :
    (sgj T k (j + 1)).1.length = (sgj T k j).1.length + 1 ∧ (sgj T k j).1.length < LTn T ∧ Qn T (sgj T k j).1.length = nxt T a (Qn T k) ∧ dQ T (sgj T k j).1.length = dQ T k + 1 := by
  have e := sj_y h ho
  have e1 : (sgj T k (j + 1)).1 = (sgj T k j).1 ++ [nxt T a (Qn T k)] := by rw [e]; unfold vis; rw [if_pos hn]
  have e2 : (sgj T k (j + 1)).2 (nxt T a (Qn T k)) = some (dQ T k + 1) := by rw [e]; unfold vis; rw [if_pos hn]; dsimp only; rw [if_pos rfl]
  have l1 : (sgj T k (j + 1)).1.length = (sgj T k j).1.length + 1 := by rw [e1, List.length_append]; rfl
  have h1 := sj_get hT hB hk (j := j + 1) (i := (sgj T k j).1.length) (by omega)
  have h2 := h1.1
  rw [e1, List.getElem?_append_right (Nat.le_refl _), Nat.sub_self] at h2
  have h3 : Qn T (sgj T k j).1.length = nxt T a (Qn T k) := (Option.some.inj h2).symm
  refine ⟨l1, h1.2, h3, ?_⟩
  unfold dQ
  rw [h3, sj_D hT hB hk e2]; rfl
theorem sj_old {k j a : Nat} (h : (Lk T k)[j]? = some a) (ho : opn T a (Qn T k) 0 = true) (hn : ¬ (sgj T k j).2 (nxt T a (Qn T k)) = none) : (sgj T k (j + 1)).1.length = (sgj T k j).1.length := by
  rw [sj_y h ho]
  unfold vis
  rw [if_neg hn]
theorem sj_mv {k j a : Nat} (hk : k < LTn T) (h : (Lk T k)[j]? = some a) (ho : opn T a (Qn T k) 0 = true) : (Aj T k (j + 1)).length = (Aj T k j).length + 1 ∧ mF T (fO T k + (Aj T k j).length) = k ∧ mA T (fO T k + (Aj T k j).length) = a ∧ fO T k + (Aj T k j).length < mN T := by
  have e1 : (Aj T k (j + 1)) = Aj T k j ++ [a] := by rw [Aj_s h, if_pos ho]
  have e2 : mvA T (Qn T k) = Aj T k (j + 1) ++ ((Lk T k).drop (j + 1)).filter (fun a => opn T a (Qn T k) 0) := by
    rw [← Lk_mv]
    unfold Aj
    rw [← List.filter_append, List.take_append_drop]
  have e3 : (mvA T (Qn T k))[(Aj T k j).length]? = some a := by
    rw [e2, e1, List.append_assoc, List.getElem?_append_right (Nat.le_refl _), Nat.sub_self]; rfl
  have h1 := mv_at hk e3
  exact ⟨by rw [e1, List.length_append]; rfl, h1.1, h1.2.1, Nat.lt_of_lt_of_le h1.2.2 (fO_le (by omega))⟩
theorem Aj_end {k : Nat} : fO T k + (Aj T k (Lk T k).length).length = fO T (k + 1) := by
  unfold Aj
  rw [List.take_length, Lk_mv, fO_s]
end Q2
