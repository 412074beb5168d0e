-- the class's graph, pure: places, moves
def fdN (f : Nat → Bool) : Nat → Option Nat
  | 0 => none
  | n + 1 => match fdN f n with
    | some i => some i
    | none => if f n = true then some n else none
theorem fdN_none {f : Nat → Bool} : ∀ {n : Nat}, fdN f n = none ↔ ∀ i, i < n → f i = false
  | 0 => ⟨fun _ i hi => absurd hi (Nat.not_lt_zero i), fun _ => rfl⟩
  | n + 1 => by
    rw [fdN]
    cases h : fdN f n with
    | some i =>
      refine ⟨fun e => by simp at e, fun e => ?_⟩
      have := (fdN_none (n := n)).mpr (fun j hj => e j (by omega))
      rw [h] at this
      cases this
    | none =>
      have h1 := (fdN_none (n := n)).mp h
      by_cases e : f n = true
      · rw [if_pos e]
        refine ⟨fun e => (by simp at e), fun h2 => ?_⟩
        rw [h2 n (by omega)] at e
        cases e
      · rw [if_neg e]
        refine ⟨fun _ i hi => ?_, fun _ => rfl⟩
        by_cases h2 : i = n
        · rw [h2]; exact Bool.eq_false_iff.mpr e
        · exact h1 i (by omega)
theorem fdN_some {f : Nat → Bool} {i : Nat} : ∀ {n : Nat}, fdN f n = some i ↔ i < n ∧ f i = true ∧ ∀ j, j < i → f j = false
  | 0 => ⟨fun e => by simp [fdN] at e, fun e => absurd e.1 (Nat.not_lt_zero i)⟩
  | n + 1 => by
    rw [fdN]
    cases h : fdN f n with
    | some k =>
      have h1 := (fdN_some (n := n) (i := k)).mp h
      constructor
      · intro e
        cases e
        exact ⟨by omega, h1.2⟩
      · rintro ⟨h2, h3, h4⟩
        rcases Nat.lt_trichotomy i k with h5 | h5 | h5
        · rw [h1.2.2 i h5] at h3; cases h3
        · rw [h5]
        · rw [h4 k h5] at h1; exact absurd h1.2.1 (by decide)
    | none =>
      have h1 := fdN_none.mp h
      by_cases e : f n = true
      · rw [if_pos e]
        constructor
        · intro e2; cases e2
          exact ⟨by omega, e, fun j hj => h1 j hj⟩
        · rintro ⟨h2, h3, h4⟩
          by_cases e3 : i = n
          · rw [e3]
          · rw [h1 i (by omega)] at h3; cases h3
      · rw [if_neg e]
        refine ⟨fun e2 => (by cases e2), fun ⟨h2, h3, h4⟩ => ?_⟩
        by_cases e3 : i = n
        · rw [e3] at h3; exact absurd h3 e
        · rw [h1 i (by omega)] at h3; cases h3
theorem fdN_cong {f h : Nat → Bool} : ∀ {n : Nat}, (∀ t, t < n → f t = h t) → fdN f n = fdN h n
  | 0, _ => rfl
  | n + 1, e => by rw [fdN, fdN, fdN_cong (fun t ht => e t (by omega)), e n (by omega)]
theorem inj_le {n m : Nat} {f : Nat → Nat} (h1 : ∀ i, i < n → f i < m) (h2 : ∀ i j, i < j → j < n → f i ≠ f j) : n ≤ m := by
  have := nodup_len m ((List.range n).map f) (List.pairwise_map.mpr ((List.pairwise_lt_range).imp_of_mem (fun _ hb hlt => h2 _ _ hlt (List.mem_range.mp hb)))) (fun x hx => by
    obtain ⟨i, hi, rfl⟩ := List.mem_map.mp hx
    exact h1 i (List.mem_range.mp hi))
  rw [List.length_map, List.length_range] at this
  exact this
noncomputable def QT (T : TK) : List Nat := (bfs (sx0 T) (fst0 T) 1024).1
noncomputable def Qn (T : TK) (i : Nat) : Nat := (QT T).getD i 0
noncomputable def dQ (T : TK) (i : Nat) : Nat := (DT T (Qn T i)).getD 0
def mvA (T : TK) (s : Nat) : List Nat := (List.range (T 61 0)).filter (fun a => opn T a s 0)
theorem mvA_m {T : TK} {s a : Nat} : a ∈ mvA T s ↔ a < T 61 0 ∧ opn T a s 0 = true := by
  unfold mvA
  rw [List.mem_filter, List.mem_range]
theorem fm_map {T : TK} {s : Nat} : ∀ l : List Nat, l.filterMap (sxF T none none none s) = (l.filter (fun a => opn T a s 0)).map (fun a => nxt T a s)
  | [] => rfl
  | a :: l => by
    have ih := fm_map (T := T) (s := s) l
    by_cases e : opn T a s 0 = true
    · have h1 : sxF T none none none s a = some (nxt T a s) := by
        unfold sxF
        rw [if_pos (by show (true && opn T a s 0) = true; rw [e]; rfl)]
      rw [List.filterMap_cons_some h1, List.filter_cons_of_pos (by exact e), List.map_cons, ih]
    · have h1 : sxF T none none none s a = none := by
        unfold sxF
        rw [if_neg (by show ¬ (true && opn T a s 0) = true; rw [Bool.eq_false_iff.mpr e]; decide)]
      rw [List.filterMap_cons_none h1, List.filter_cons_of_neg (by exact e), ih]
theorem sx0_map {T : TK} {s : Nat} : sx0 T s = (mvA T s).map (fun a => nxt T a s) := fm_map _
section Q1
variable {T : TK}
theorem q_inv (hT : WT T) (hB : T 61 13 < 64) : bInv 1024 (bfs (sx0 T) (fst0 T) 1024) := by
  rw [bfs_eq]
  exact bInv_N (fst0_lt hT hB) (sux_lt hT) 1024
theorem q_nd (hT : WT T) (hB : T 61 13 < 64) : (QT T).Nodup := (q_inv hT hB).1
theorem q_mem (hT : WT T) (hB : T 61 13 < 64) {s : Nat} : s ∈ QT T ↔ ¬ DT T s = none := (q_inv hT hB).2.1 s
theorem q_len (T : TK) : (QT T).length = LTn T := rfl
theorem q_le (hT : WT T) (hB : T 61 13 < 64) : LTn T ≤ 1024 := nodup_len 1024 _ (q_nd hT hB) (q_inv hT hB).2.2
theorem Qn_at {i : Nat} (hi : i < LTn T) : (QT T)[i]? = some (Qn T i) := by
  unfold Qn
  rw [List.getD_eq_getElem?_getD, List.getElem?_eq_getElem (show i < (QT T).length from hi)]; rfl
theorem Qn_m {i : Nat} (hi : i < LTn T) : Qn T i ∈ QT T := List.mem_of_getElem? (Qn_at hi)
theorem Qn_lt (hT : WT T) (hB : T 61 13 < 64) {i : Nat} (hi : i < LTn T) : Qn T i < 1024 := (q_inv hT hB).2.2 _ (Qn_m hi)
theorem Qn_D (hT : WT T) (hB : T 61 13 < 64) {i : Nat} (hi : i < LTn T) : DT T (Qn T i) = some (dQ T i) := by
  have := (q_mem hT hB).mp (Qn_m hi)
  unfold dQ
  cases h : DT T (Qn T i) with
  | none => exact absurd h this
  | some d => rfl
theorem D_Qn (hT : WT T) (hB : T 61 13 < 64) {s : Nat} (h : ¬ DT T s = none) : ∃ i, i < LTn T ∧ Qn T i = s := by
  obtain ⟨i, hi⟩ := List.getElem?_of_mem ((q_mem hT hB).mpr h)
  have h1 : i < LTn T := (List.getElem?_eq_some_iff.mp hi).1
  rw [Qn_at h1] at hi
  exact ⟨i, h1, Option.some.inj hi⟩
theorem Qn_inj (hT : WT T) (hB : T 61 13 < 64) {i j : Nat} (hi : i < LTn T) (hj : j < LTn T) (e : Qn T i = Qn T j) : i = j := by
  have h1 := Qn_at hi
  rw [e, ← Qn_at hj] at h1
  exact (List.getElem?_inj hi (q_nd hT hB)).mp h1
theorem q_end (hT : WT T) (hB : T 61 13 < 64) : bfs (sx0 T) (fst0 T) 1024 = bfN (sx0 T) (fst0 T) (LTn T) ∧ ∀ j, j < LTn T → j < (bfN (sx0 T) (fst0 T) j).1.length := by
  obtain ⟨k, hk, hl, hj⟩ := bfN_end (fst0_lt hT hB) (sux_lt (but := none) (un := none) (w := none) hT)
  have e := bfs_at (succ := sx0 T) (f := fst0 T) hk (Nat.le_of_eq hl)
  have e2 : LTn T = k := by
    show (bfs (sx0 T) (fst0 T) 1024).1.length = k
    rw [e]; exact hl
  rw [e2]
  exact ⟨e, hj⟩
theorem bq_len {k : Nat} (hk : k ≤ 1024) : (bfN (sx0 T) (fst0 T) k).1.length ≤ LTn T := by
  have := bfN_glen (succ := sx0 T) (f := fst0 T) k (1024 - k)
  rw [show k + (1024 - k) = 1024 by omega, ← bfs_eq (sx0 T) (fst0 T) 1024] at this
  exact this
theorem bq_get {k i : Nat} (hk : k ≤ 1024) (hi : i < (bfN (sx0 T) (fst0 T) k).1.length) : (bfN (sx0 T) (fst0 T) k).1[i]? = some (Qn T i) := by
  have := bfN_get hi (1024 - k)
  rw [show k + (1024 - k) = 1024 by omega, ← bfs_eq (sx0 T) (fst0 T) 1024] at this
  rw [← this]
  exact Qn_at (Nat.lt_of_lt_of_le hi (bq_len hk))
theorem bq_D {k s d : Nat} (hk : k ≤ 1024) (h : (bfN (sx0 T) (fst0 T) k).2 s = some d) : DT T s = some d := by
  have := bfN_pre h (1024 - k)
  rw [show k + (1024 - k) = 1024 by omega, ← bfs_eq (sx0 T) (fst0 T) 1024] at this
  exact this
theorem q_pos (hT : WT T) (hB : T 61 13 < 64) : 0 < LTn T ∧ Qn T 0 = fst0 T := by
  have h1 : (0 : Nat) < (bfN (sx0 T) (fst0 T) 0).1.length := by show 0 < 1; decide
  have h2 := bq_len (T := T) (k := 0) (by decide)
  refine ⟨by omega, ?_⟩
  have := bq_get (T := T) (k := 0) (by decide) h1
  exact (Option.some.inj this).symm
theorem dQ_mono (hT : WT T) (hB : T 61 13 < 64) {i j : Nat} (hij : i ≤ j) (hj : j < LTn T) : dQ T i ≤ dQ T j := by
  obtain ⟨e, -⟩ := q_end hT hB
  have hl : LTn T ≤ (bfN (sx0 T) (fst0 T) (LTn T)).1.length := by rw [← e]; exact Nat.le_refl _
  have hM := bMid_N (fst0_lt hT hB) (sux_lt (but := none) (un := none) (w := none) hT) (LTn T) hl
  rw [← e] at hM
  exact hM.2.1 i j _ _ hij (Qn_at (by omega)) (Qn_at hj)
noncomputable def mvP (T : TK) : Nat → List (Nat × Nat)
  | 0 => []
  | k + 1 => mvP T k ++ (mvA T (Qn T k)).map (fun a => (k, a))
noncomputable def fO (T : TK) (k : Nat) : Nat := (mvP T k).length
noncomputable def mN (T : TK) : Nat := fO T (LTn T)
noncomputable def mF (T : TK) (m : Nat) : Nat := ((mvP T (LTn T)).getD m (0, 0)).1
noncomputable def mA (T : TK) (m : Nat) : Nat := ((mvP T (LTn T)).getD m (0, 0)).2
noncomputable def plT (T : TK) (s : Nat) : Nat := (fdN (fun i => Qn T i == s) (LTn T)).getD 0
noncomputable def mT (T : TK) (m : Nat) : Nat := plT T (nxt T (mA T m) (Qn T (mF T m)))
theorem fO_s {k : Nat} : fO T (k + 1) = fO T k + (mvA T (Qn T k)).length := by
  unfold fO
  rw [mvP, List.length_append, List.length_map]
theorem fO_0 : fO T 0 = 0 := rfl
theorem fO_mono {k : Nat} : ∀ n, fO T k ≤ fO T (k + n)
  | 0 => Nat.le_refl _
  | n + 1 => by
    have h1 := fO_mono (k := k) n
    have h2 := fO_s (T := T) (k := k + n)
    show fO T k ≤ fO T (k + n + 1)
    omega
theorem fO_le {k k' : Nat} (h : k ≤ k') : fO T k ≤ fO T k' := by
  have := fO_mono (T := T) (k := k) (k' - k)
  rw [show k + (k' - k) = k' by omega] at this
  exact this
theorem mvP_pre {k m : Nat} (hm : m < fO T k) : ∀ n, (mvP T (k + n))[m]? = (mvP T k)[m]?
  | 0 => rfl
  | n + 1 => by
    have h1 : m < fO T (k + n) := Nat.lt_of_lt_of_le hm (fO_mono n)
    show (mvP T (k + n) ++ _)[m]? = _
    rw [List.getElem?_append_left h1]
    exact mvP_pre hm n
theorem mv_at {k j a : Nat} (hk : k < LTn T) (hj : (mvA T (Qn T k))[j]? = some a) : mF T (fO T k + j) = k ∧ mA T (fO T k + j) = a ∧ fO T k + j < fO T (k + 1) := by
  have hl := (List.getElem?_eq_some_iff.mp hj).1
  have h1 : fO T k + j < fO T (k + 1) := by rw [fO_s]; omega
  have h2 := mvP_pre h1 (LTn T - (k + 1))
  rw [show k + 1 + (LTn T - (k + 1)) = LTn T by omega, mvP, List.getElem?_append_right (show (mvP T k).length ≤ fO T k + j from Nat.le_add_right _ _), show fO T k + j - (mvP T k).length = j from Nat.add_sub_cancel_left .., List.getElem?_map, hj] at h2
  unfold mF mA
  rw [List.getD_eq_getElem?_getD, h2]
  exact ⟨rfl, rfl, h1⟩
theorem mv_ex {m : Nat} : ∀ {k : Nat}, m < fO T k → ∃ i j a, i < k ∧ (mvA T (Qn T i))[j]? = some a ∧ m = fO T i + j
  | 0, h => absurd h (Nat.not_lt_zero m)
  | k + 1, h => by
    by_cases e : m < fO T k
    · obtain ⟨i, j, a, h1, h2, h3⟩ := mv_ex e
      exact ⟨i, j, a, by omega, h2, h3⟩
    · rw [fO_s] at h
      have h1 : m - fO T k < (mvA T (Qn T k)).length := by omega
      exact ⟨k, m - fO T k, _, by omega, List.getElem?_eq_getElem h1, by omega⟩
theorem pl_of (hT : WT T) (hB : T 61 13 < 64) {s : Nat} (h : ¬ DT T s = none) : plT T s < LTn T ∧ Qn T (plT T s) = s := by
  obtain ⟨i, h1, h2⟩ := D_Qn hT hB h
  have h3 : fdN (fun i => Qn T i == s) (LTn T) = some i := by
    rw [fdN_some]
    refine ⟨h1, by rw [h2]; exact beq_self_eq_true s, fun j hj => ?_⟩
    rw [beq_eq_false_iff_ne]
    intro e
    have := Qn_inj hT hB (by omega) h1 (e.trans h2.symm)
    omega
  unfold plT
  rw [h3]
  exact ⟨h1, h2⟩
theorem pl_Qn (hT : WT T) (hB : T 61 13 < 64) {i : Nat} (hi : i < LTn T) : plT T (Qn T i) = i := by
  obtain ⟨h1, h2⟩ := pl_of hT hB (s := Qn T i) (by rw [Qn_D hT hB hi]; exact fun e => by cases e)
  exact Qn_inj hT hB h1 hi h2
theorem nx_D (hT : WT T) (hB : T 61 13 < 64) {i a : Nat} (hi : i < LTn T) (ha : a < T 61 0) (ho : opn T a (Qn T i) 0 = true) : ¬ DT T (nxt T a (Qn T i)) = none := isD_cl (DT_isD hT hB) (by rw [Qn_D hT hB hi]; exact fun e => by cases e) (sx0_mem.mpr ⟨a, ha, ho, rfl⟩)
theorem mv_ok (hT : WT T) (hB : T 61 13 < 64) {m : Nat} (hm : m < mN T) : mF T m < LTn T ∧ fO T (mF T m) ≤ m ∧ m < fO T (mF T m + 1) ∧ mA T m < T 61 0 ∧ opn T (mA T m) (Qn T (mF T m)) 0 = true ∧ mT T m < LTn T ∧ Qn T (mT T m) = nxt T (mA T m) (Qn T (mF T m)) := by
  obtain ⟨i, j, a, h1, h2, h3⟩ := mv_ex hm
  obtain ⟨e1, e2, e3⟩ := mv_at h1 h2
  rw [← h3] at e1 e2 e3
  obtain ⟨h4, h5⟩ := mvA_m.mp (List.mem_of_getElem? h2)
  have h6 := pl_of hT hB (nx_D hT hB h1 h4 h5)
  unfold mT
  rw [e1, e2]
  exact ⟨h1, by omega, e3, h4, h5, h6.1, h6.2⟩
theorem mv_sl {i m : Nat} (hi : i < LTn T) (h1 : fO T i ≤ m) (h2 : m < fO T (i + 1)) : mF T m = i ∧ m < mN T := by
  have h3 : m - fO T i < (mvA T (Qn T i)).length := by rw [fO_s] at h2; omega
  have := mv_at hi (List.getElem?_eq_getElem h3)
  rw [show fO T i + (m - fO T i) = m by omega] at this
  exact ⟨this.1, Nat.lt_of_lt_of_le h2 (fO_le (by omega))⟩
theorem mv_of {i a : Nat} (hi : i < LTn T) (ha : a < T 61 0) (ho : opn T a (Qn T i) 0 = true) : ∃ m, fO T i ≤ m ∧ m < fO T (i + 1) ∧ mF T m = i ∧ mA T m = a := by
  obtain ⟨j, hj⟩ := List.getElem?_of_mem (mvA_m.mpr ⟨ha, ho⟩)
  obtain ⟨e1, e2, e3⟩ := mv_at hi hj
  exact ⟨fO T i + j, by omega, e3, e1, e2⟩
theorem mv_up {i m1 m2 : Nat} (hi : i < LTn T) (h1 : fO T i ≤ m1) (h2 : m1 < m2) (h3 : m2 < fO T (i + 1)) : mA T m1 < mA T m2 := by
  have l2 : m2 - fO T i < (mvA T (Qn T i)).length := by rw [fO_s] at h3; omega
  have l1 : m1 - fO T i < (mvA T (Qn T i)).length := by omega
  have e1 := mv_at hi (List.getElem?_eq_getElem l1)
  have e2 := mv_at hi (List.getElem?_eq_getElem l2)
  rw [show fO T i + (m1 - fO T i) = m1 by omega] at e1
  rw [show fO T i + (m2 - fO T i) = m2 by omega] at e2
  rw [e1.2.1, e2.2.1]
  have hp : (mvA T (Qn T i)).Pairwise (· < ·) := List.Pairwise.filter _ List.pairwise_lt_range
  exact List.pairwise_iff_getElem.mp hp _ _ l1 l2 (by omega)
theorem opn_fr {a s : Nat} (h : opn T a s 0 = true) : T 62 a = s / 64 := by
  unfold opn at h
  simp only [Bool.and_eq_true, beq_iff_eq] at h
  exact h.1.1.2
theorem mN_le (hT : WT T) (hB : T 61 13 < 64) : mN T ≤ 2048 := by
  refine inj_le (f := fun m => 64 * mA T m + Qn T (mF T m) % 64) (fun m hm => ?_) (fun m1 m2 h1 h2 e => ?_)
  · have h3 := (mv_ok hT hB hm).2.2.2.1
    have h4 := hT.1
    omega
  · skip
    have k1 := mv_ok hT hB (show m1 < mN T by omega)
    have k2 := mv_ok hT hB h2
    have e1 : mA T m1 = mA T m2 := by omega
    have f1 := opn_fr k1.2.2.2.2.1
    have f2 := opn_fr k2.2.2.2.2.1
    rw [e1] at f1
    have e2 : mF T m1 = mF T m2 := Qn_inj hT hB k1.1 k2.1 (by omega)
    have := mv_up k1.1 k1.2.1 h1 (by rw [e2]; exact k2.2.2.1)
    omega
end Q1
