-- places and states: marks, nearest, cheapest, stuck, lost
theorem cnt0 {f : Nat → Bool} : ∀ {n : Nat}, cntN f n = 0 ↔ ∀ t, t < n → f t = false
  | 0 => ⟨fun _ t ht => absurd ht (Nat.not_lt_zero t), fun _ => rfl⟩
  | n + 1 => by
    have ih := cnt0 (f := f) (n := n)
    constructor
    · intro h t ht
      have h1 : cntN f n + (f n).toNat = 0 := h
      by_cases e : t = n
      · rw [e]
        cases hf : f n
        · rfl
        · rw [hf] at h1
          have : true.toNat = 1 := rfl
          omega
      · exact ih.mp (by omega) t (by omega)
    · intro h
      show cntN f n + (f n).toNat = 0
      rw [ih.mpr (fun t ht => h t (by omega)), h n (by omega)]; rfl
theorem mkN_o {D : Nat → Option Nat} {b x : Nat} : ∀ {n : Nat}, (mkN false D b n).testBit x = true ↔ ∃ k, k < n ∧ (D (b + k)).isSome = true ∧ k.testBit x = true
  | 0 => ⟨fun h => (by rw [mkN] at h; rw [if_neg (by decide), Nat.zero_testBit] at h; cases h), fun ⟨k, hk, _⟩ => absurd hk (Nat.not_lt_zero k)⟩
  | n + 1 => by
    have ih := mkN_o (D := D) (b := b) (x := x) (n := n)
    rw [mkN]
    by_cases e : (D (b + n)).isSome = true
    · rw [if_pos e, if_neg (by decide), Nat.testBit_or, Bool.or_eq_true, ih]
      constructor
      · rintro (⟨k, h1, h2⟩ | h)
        · exact ⟨k, by omega, h2⟩
        · exact ⟨n, by omega, e, h⟩
      · rintro ⟨k, h1, h2⟩
        by_cases q : k = n
        · subst q; exact Or.inr h2.2
        · exact Or.inl ⟨k, by omega, h2⟩
    · rw [if_neg e, ih]
      constructor
      · rintro ⟨k, h1, h2⟩; exact ⟨k, by omega, h2⟩
      · rintro ⟨k, h1, h2⟩
        by_cases q : k = n
        · subst q; exact absurd h2.1 e
        · exact ⟨k, by omega, h2⟩
theorem mkN_a {D : Nat → Option Nat} {b x : Nat} : ∀ {n : Nat}, (mkN true D b n).testBit x = true ↔ (63 : Nat).testBit x = true ∧ ∀ k, k < n → (D (b + k)).isSome = true → k.testBit x = true
  | 0 => ⟨fun h => ⟨(by rw [mkN, if_pos rfl] at h; exact h), fun k hk => absurd hk (Nat.not_lt_zero k)⟩, fun h => by rw [mkN, if_pos rfl]; exact h.1⟩
  | n + 1 => by
    have ih := mkN_a (D := D) (b := b) (x := x) (n := n)
    rw [mkN]
    by_cases e : (D (b + n)).isSome = true
    · rw [if_pos e, if_pos rfl, Nat.testBit_and, Bool.and_eq_true, ih]
      refine ⟨fun h => ⟨h.1.1, fun k hk hs => ?_⟩, fun h => ⟨⟨h.1, fun k hk => h.2 k (by omega)⟩, h.2 n (by omega) e⟩⟩
      by_cases q : k = n
      · subst q; exact h.2
      · exact h.1.2 k (by omega) hs
    · rw [if_neg e, ih]
      refine ⟨fun h => ⟨h.1, fun k hk hs => ?_⟩, fun h => ⟨h.1, fun k hk => h.2 k (by omega)⟩⟩
      by_cases q : k = n
      · subst q; exact absurd hs e
      · exact h.2 k (by omega) hs
section E1
variable {T : TK} {l : Nat}
theorem Q_sl (hT : WT T) (hB : T 61 13 < 64) {k : Nat} (hk : k < 64) (h : (DT T (64 * l + k)).isSome = true) : ∃ i, i < LTn T ∧ Qn T i = 64 * l + k ∧ Qn T i / 64 = l ∧ Qn T i % 64 = k := by
  obtain ⟨i, hi, hq⟩ := D_Qn hT hB (s := 64 * l + k) (fun e => by rw [e] at h; cases h)
  exact ⟨i, hi, hq, by rw [hq]; omega, by rw [hq]; omega⟩
theorem Q_of (hT : WT T) (hB : T 61 13 < 64) {i : Nat} (hi : i < LTn T) (h : Qn T i / 64 = l) : Qn T i = 64 * l + Qn T i % 64 ∧ (DT T (64 * l + Qn T i % 64)).isSome = true := by
  have e : Qn T i = 64 * l + Qn T i % 64 := by omega
  refine ⟨e, ?_⟩
  rw [← e, Qn_D hT hB hi]; rfl
theorem near_n (hT : WT T) (hB : T 61 13 < 64) : fdN (fun i => Qn T i / 64 == l) (LTn T) = none ↔ ∀ k, k < 64 → (DT T (64 * l + k)).isSome = false := by
  rw [fdN_none]
  constructor
  · intro h k hk
    rw [Bool.eq_false_iff]
    intro e
    obtain ⟨i, hi, -, h1, -⟩ := Q_sl hT hB hk e
    have := h i hi
    rw [h1, beq_self_eq_true] at this
    cases this
  · intro h i hi
    rw [beq_eq_false_iff_ne]
    intro e
    have := (Q_of hT hB hi e).2
    rw [h _ (Nat.mod_lt _ (by decide))] at this
    cases this
theorem mk_some (hT : WT T) (hB : T 61 13 < 64) : orF (fun i => Qn T i / 64 == l) (fun i => Qn T i % 64) (LTn T) = mkR false (DT T) l := by
  have h1 : orF (fun i => Qn T i / 64 == l) (fun i => Qn T i % 64) (LTn T) = mkN false (DT T) (64 * l) 64 := by
    apply Nat.eq_of_testBit_eq
    intro x
    rw [Bool.eq_iff_iff, orF_bit, mkN_o]
    constructor
    · rintro ⟨i, hi, h2, h3⟩
      exact ⟨Qn T i % 64, Nat.mod_lt _ (by decide), (Q_of hT hB hi (beq_iff_eq.mp h2)).2, h3⟩
    · rintro ⟨k, hk, h2, h3⟩
      obtain ⟨i, hi, -, q1, q2⟩ := Q_sl hT hB hk h2
      exact ⟨i, hi, beq_iff_eq.mpr q1, by rw [q2]; exact h3⟩
  unfold mkR
  by_cases e : cntN (fun k => (DT T (64 * l + k)).isSome) 64 = 0
  · rw [if_pos e, h1]
    apply Nat.eq_of_testBit_eq
    intro x
    rw [Nat.zero_testBit, Bool.eq_false_iff, ne_eq, mkN_o]
    rintro ⟨k, hk, h2, -⟩
    rw [cnt0.mp e k hk] at h2
    cases h2
  · rw [if_neg e, h1]
theorem mk_all (hT : WT T) (hB : T 61 13 < 64) : maN T l = mkR true (DT T) l := by
  unfold maN mkR
  by_cases e : fdN (fun i => Qn T i / 64 == l) (LTn T) = none
  · rw [if_pos e, if_pos (cnt0.mpr (fun k hk => (near_n hT hB).mp e k hk))]
  · rw [if_neg e, if_neg (fun q => e ((near_n hT hB).mpr (fun k hk => cnt0.mp q k hk)))]
    apply Nat.eq_of_testBit_eq
    intro x
    rw [Bool.eq_iff_iff, anF_bit, mkN_a]
    refine ⟨fun h => ⟨h.1, fun k hk h2 => ?_⟩, fun h => ⟨h.1, fun i hi h2 => ?_⟩⟩
    · obtain ⟨i, hi, -, q1, q2⟩ := Q_sl hT hB hk h2
      rw [← q2]
      exact h.2 i hi (beq_iff_eq.mpr q1)
    · exact h.2 _ (Nat.mod_lt _ (by decide)) (Q_of hT hB hi (beq_iff_eq.mp h2)).2
theorem near_few (hT : WT T) (hB : T 61 13 < 64) : fewN (DT T) (64 * l) 64 = (fdN (fun i => Qn T i / 64 == l) (LTn T)).map (dQ T) := by
  rw [fewN_om]
  cases h : fdN (fun i => Qn T i / 64 == l) (LTn T) with
  | none =>
    show _ = none
    rw [omN_none]
    intro k hk
    have := (near_n hT hB).mp h k hk
    cases hd : DT T (64 * l + k) with
    | none => rfl
    | some d => rw [hd] at this; cases this
  | some e =>
    show _ = some (dQ T e)
    obtain ⟨h1, h2, h3⟩ := fdN_some.mp h
    have h2 : Qn T e / 64 = l := beq_iff_eq.mp h2
    rw [omN_spec]
    refine ⟨⟨Qn T e % 64, Nat.mod_lt _ (by decide), ?_⟩, fun k x hk hx => ?_⟩
    · show DT T (64 * l + Qn T e % 64) = _
      rw [← (Q_of hT hB h1 h2).1]; exact Qn_D hT hB h1
    · have hx : DT T (64 * l + k) = some x := hx
      obtain ⟨i, hi, q, q1, -⟩ := Q_sl hT hB hk (by rw [hx]; rfl)
      have h4 := Qn_D hT hB hi
      rw [q, hx] at h4
      have h5 : e ≤ i := Nat.le_of_not_lt (fun z => by have := h3 i z; rw [q1, beq_self_eq_true] at this; cases this)
      have h6 := dQ_mono hT hB h5 hi
      have := Option.some.inj h4
      omega
theorem miF_sp {f : Nat → Bool} {x : Nat → Nat} : ∀ {n : Nat}, (∀ i, i < n → f i = true → miF f x n ≤ x i) ∧ ((∃ i, i < n ∧ f i = true ∧ x i = miF f x n) ∨ miF f x n = 10240)
  | 0 => ⟨fun i hi => absurd hi (Nat.not_lt_zero i), Or.inr rfl⟩
  | n + 1 => by
    obtain ⟨h1, h2⟩ := miF_sp (f := f) (x := x) (n := n)
    rw [miF]
    by_cases e : f n = true
    · rw [if_pos e]
      refine ⟨fun i hi hf => ?_, ?_⟩
      · by_cases q : i = n
        · rw [q]; exact Nat.min_le_right _ _
        · have := h1 i (by omega) hf
          omega
      · by_cases q : x n ≤ miF f x n
        · exact Or.inl ⟨n, by omega, e, (Nat.min_eq_right q).symm⟩
        · rw [Nat.min_eq_left (by omega)]
          rcases h2 with ⟨i, h3, h4⟩ | h2
          · exact Or.inl ⟨i, by omega, h4⟩
          · exact Or.inr h2
    · rw [if_neg e]
      refine ⟨fun i hi hf => ?_, ?_⟩
      · by_cases q : i = n
        · rw [q] at hf; exact absurd hf e
        · exact h1 i (by omega) hf
      · rcases h2 with ⟨i, h3, h4⟩ | h2
        · exact Or.inl ⟨i, by omega, h4⟩
        · exact Or.inr h2
theorem cheap_eq (hT : WT T) (hB : T 61 13 < 64) (hl : l < 16) (h : ¬ fdN (fun i => Qn T i / 64 == l) (LTn T) = none) : omN (fun i => CT T (64 * l + i)) 64 = some (miF (fun i => Qn T i / 64 == l) (cQ T) (LTn T)) := by
  obtain ⟨e, he⟩ := Option.ne_none_iff_exists'.mp h
  obtain ⟨h1, h2, -⟩ := fdN_some.mp he
  obtain ⟨s1, s2⟩ := miF_sp (f := fun i => Qn T i / 64 == l) (x := cQ T) (n := LTn T)
  have h3 := s1 e h1 h2
  have h4 := (cQ_ok hT hB h1).2
  obtain ⟨i, hi, hf, hx⟩ := s2.resolve_right (by omega)
  have hf : Qn T i / 64 = l := beq_iff_eq.mp hf
  rw [omN_spec]
  refine ⟨⟨Qn T i % 64, Nat.mod_lt _ (by decide), ?_⟩, fun k x hk hc => ?_⟩
  · show CT T (64 * l + Qn T i % 64) = _
    rw [← (Q_of hT hB hi hf).1, (cQ_ok hT hB hi).1, hx]
  · have hc : CT T (64 * l + k) = some x := hc
    obtain ⟨⟨n, h5⟩, -⟩ := (CT_isC T _ _ (show 64 * l + k < 1024 by omega)).mp hc
    obtain ⟨j, hj, hq⟩ := crch_D hT hB n _ _ h5
    have h6 := (cQ_ok hT hB hj).1
    rw [hq, hc] at h6
    rw [Option.some.inj h6]
    exact s1 j hj (beq_iff_eq.mpr (by rw [hq]; omega))
theorem cheap_none (hT : WT T) (hB : T 61 13 < 64) (hl : l < 16) (h : fdN (fun i => Qn T i / 64 == l) (LTn T) = none) : omN (fun i => CT T (64 * l + i)) 64 = none := by
  rw [omN_none]
  intro k hk
  cases hc : CT T (64 * l + k) with
  | none => rfl
  | some x =>
    obtain ⟨⟨n, h5⟩, -⟩ := (CT_isC T _ _ (show 64 * l + k < 1024 by omega)).mp hc
    obtain ⟨j, hj, hq⟩ := crch_D hT hB n _ _ h5
    have := fdN_none.mp h j hj
    rw [hq, show (64 * l + k) / 64 = l by omega, beq_self_eq_true] at this
    cases this
theorem mvA_cnt {s : Nat} : (mvA T s).length = cntN (fun a => opn T a s 0) (T 61 0) := by
  have : ∀ n, ((List.range n).filter (fun a => opn T a s 0)).length = cntN (fun a => opn T a s 0) n := fun n => by
    induction n with
    | zero => rfl
    | succ n ih =>
      rw [List.range_succ, List.filter_append, List.length_append, ih]
      show _ + _ = cntN _ n + _
      cases h : opn T n s 0 <;> simp [h]
  exact this _
noncomputable def stP (T : TK) (i : Nat) : Bool := decide ((mvA T (Qn T i)).length = 0) && !((T 61 2).testBit (Qn T i / 64))
theorem st_stu (hT : WT T) (hB : T 61 13 < 64) {i : Nat} (hi : i < LTn T) : stuF T (DT T) (Qn T i) = stP T i := by
  unfold stuF stP
  rw [Qn_D hT hB hi, mvA_cnt]
  show (true && _ && (cntN (fun a => opn T a (Qn T i) 0) (T 61 0) == 0)) = (decide (cntN (fun a => opn T a (Qn T i) 0) (T 61 0) = 0) && _)
  rw [Bool.true_and, Bool.and_comm]
  congr 1
theorem stuF_D {s : Nat} : stuF T (DT T) s = ((DT T s).isSome && stuF T (DT T) s) := by
  unfold stuF
  cases (DT T s).isSome <;> rfl
theorem cnt_stu (hT : WT T) (hB : T 61 13 < 64) (hl : l < 16) : cntN (fun k => stuF T (DT T) (64 * l + k)) 64 = cntN (fun i => (Qn T i / 64 == l) && stP T i) (LTn T) := by
  have h := cnt_line hT hB (p := stuF T (DT T)) hl
  rw [cntN_cong (fun t _ => stuF_D (T := T) (s := 64 * l + t)), h]
  exact cntN_cong (fun i hi => by rw [st_stu hT hB hi])
theorem cnt_lost (hT : WT T) (hB : T 61 13 < 64) (hl : l < 16) : cntN (fun k => (DT T (64 * l + k)).isSome && !canB T (64 * l + k)) 64 = cntN (fun i => (Qn T i / 64 == l) && !canB T (Qn T i)) (LTn T) := cnt_line hT hB (p := fun s => !canB T s) hl
end E1
