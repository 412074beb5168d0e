-- the class: from picture to picture
def agV (T T' : TK) : Prop := (∀ j, T' 61 j = T 61 j) ∧ (∀ k, 62 ≤ k → k ≤ 70 → k ≠ 66 → k ≠ 67 → ∀ j, j < T 61 0 → T' k j = T k j) ∧ T' 66 = T 66 ∧ T' 67 = T 67 ∧ T' 71 = T 71 ∧ T' 72 = T 72 ∧ T' 75 = T 75
section TR
variable {T T' : TK} {M M' : AM} {p q : Nat}
theorem agV_rf : agV T T := ⟨fun _ => rfl, fun _ _ _ _ _ _ _ => rfl, rfl, rfl, rfl, rfl, rfl⟩
theorem wt_v (h : WT T) (h1 : ∀ j, j < 4 → T' 61 j = T 61 j) (h2 : ∀ k, 62 ≤ k → k ≤ 70 → k ≠ 66 → k ≠ 67 → ∀ j, j < T 61 0 → T' k j = T k j) (h6 : T' 66 = T 66) (h7 : T' 67 = T 67) : WT T' := by
  unfold WT
  rw [h1 0 (by decide), h1 1 (by decide), h1 2 (by decide), h1 3 (by decide), h6, h7]
  refine ⟨h.1, h.2.1, h.2.2.1, h.2.2.2.1, fun a ha => ?_⟩
  rw [h2 62 (by decide) (by decide) (by decide) (by decide) a ha, h2 63 (by decide) (by decide) (by decide) (by decide) a ha, h2 64 (by decide) (by decide) (by decide) (by decide) a ha, h2 65 (by decide) (by decide) (by decide) (by decide) a ha, h2 68 (by decide) (by decide) (by decide) (by decide) a ha, h2 69 (by decide) (by decide) (by decide) (by decide) a ha, h2 70 (by decide) (by decide) (by decide) (by decide) a ha]
  exact h.2.2.2.2 a ha
theorem ms_v (hv : agV T T') (h : MS T M) : MS T' M := by
  obtain ⟨v1, v2, v6, v7, v71, v72, v75⟩ := hv
  obtain ⟨⟨r1, r2, r3, r4⟩, hB, hS, hA, hX⟩ := h
  refine ⟨⟨fun j hj => by rw [v1]; exact r1 j hj, fun a ha i hi n4 n5 => ?_, fun a ha k hk => ?_, wt_v r4 (fun j _ => v1 j) v2 v6 v7⟩, ?_, ?_, ?_, ?_⟩
  · rw [v1] at ha
    rw [v2 (62 + i) (by omega) (by omega) (by omega) (by omega) a ha]
    exact r2 a ha i hi n4 n5
  · rw [v1] at ha
    rw [v2 65 (by decide) (by decide) (by decide) (by decide) a ha] at hk
    rw [v6, v7]
    exact r3 a ha k hk
  · unfold RB; rw [v1]; exact hB
  · unfold RS; rw [v1, v1, v71]; exact hS
  · unfold RA; rw [v1, v1, v72]; exact hA
  · unfold RX; rw [v1, v1, v75]; exact hX
theorem co_ag (h : CO T M) (h15 : T' 61 15 = T 61 15) (h13 : T' 61 13 = T 61 13) (h0 : T' 61 0 = T 61 0) (h71 : T' 71 = T 71) : CO T' M := by unfold CO at *; rw [h15, h13, h0, h71]; exact h
theorem ac_ag (h : AC T M) (h17 : T' 61 17 = T 61 17) (h0 : T' 61 0 = T 61 0) (h72 : T' 72 = T 72) (h64 : T' 64 = T 64) (h70 : T' 70 = T 70) : AC T' M := by
  unfold AC ACe snp at *
  rw [h17, h0, h72, h64, h70]; exact h
theorem sc_ag (h : SC T p M) (h1 : ∀ j, j < 4 → T' 61 j = T 61 j) (h2 : ∀ k, 62 ≤ k → k ≤ 70 → T' k = T k) : SC T' p M := by
  refine ⟨h.1, fun k j hd => ?_, wt_v h.2.2.1 h1 (fun k a b _ _ j _ => by rw [h2 k a b]) (h2 66 (by decide) (by decide)) (h2 67 (by decide) (by decide)), ?_⟩
  · have hd2 : dom T k j := by
      unfold dom at *
      rw [h1 0 (by decide), h2 65 (by decide) (by decide)] at hd
      exact hd
    obtain ⟨e1, e2, e3⟩ := h.2.1 k j hd2
    refine ⟨e1, e2, ?_⟩
    rw [e3]
    by_cases e : k = 61
    · subst e
      rcases hd with q | q | q
      · rw [h1 j q.2]
      · omega
      · omega
    · rw [h2 k (by omega) (by omega)]
  · obtain ⟨C, c1, c2, c3⟩ := h.2.2.2
    exact ⟨C, c1, c2, fun i => by rw [h1 0 (by decide), h2 70 (by decide) (by decide)]; exact c3 i⟩
theorem sl_ag (h : SL T p M) (h0 : T' 61 0 = T 61 0) (h62 : T' 62 = T 62) : SL T' p M := by
  have e : ∀ l n, blL T' l n = blL T l n := fun l n => by unfold blL; rw [h62]
  have e2 : ∀ n, blN T' n = blN T n := fun n => by
    induction n with
    | zero => rfl
    | succ n ih => rw [blN, blN, ih, e, h0]
  unfold SL at *
  simp only [e2]
  exact h
theorem fg_ag (hT : WT T) (hB : T 61 13 < 64) (h : agG T T') (h4 : T' 64 = T 64) (hF : FG T M) : FG T' M := by
  obtain ⟨gf, hf, lf, pf, h1, h2, h3, h4', h5⟩ := hF
  exact ⟨gf, hf, lf, pf, h1, h2, h3, h4', fun e => ⟨ag_GR h (h5 e).1, fun q => ag_HP h ((h5 e).2.1 q), fun q => ag_LoP h ((h5 e).2.2.1 q), fun q => ag_PP hT hB h h4 ((h5 e).2.2.2 q)⟩⟩
/-- the flags are truth values, the graph stale -/
theorem fg_st (hF : FG T M) (h12 : M'.1 0 12 = bI false) (h13 : M'.1 0 13 = M.1 0 13) (h14 : M'.1 0 14 = M.1 0 14) (h15 : M'.1 0 15 = M.1 0 15) : FG T' M' := by
  obtain ⟨gf, hf, lf, pf, h1, h2, h3, h4, h5⟩ := hF
  exact ⟨false, hf, lf, pf, h12, h13.trans h2, h14.trans h3, h15.trans h4, fun e => by cases e⟩
/-- the prices stale -/
theorem fg_pr (hF : FG T M) (h : agG T T') (h0 : ∀ k, k ≠ 0 → 9 ≤ k ∧ k ≤ 35 → M'.1 k = M.1 k) (h12 : M'.1 0 12 = M.1 0 12) (h13 : M'.1 0 13 = M.1 0 13) (h14 : M'.1 0 14 = M.1 0 14) (h15 : M'.1 0 15 = bI false) : FG T' M' := by
  obtain ⟨gf, hf, lf, pf, h1, h2, h3, h4, h5⟩ := hF
  have e : ∀ k, 9 ≤ k → k ≤ 35 → M'.1 k = M.1 k := fun k a b => h0 k (by omega) ⟨a, b⟩
  refine ⟨gf, hf, lf, false, h12.trans h1, h13.trans h2, h14.trans h3, h15, fun q => ⟨ag_GR h ?_, fun z => ag_HP h ?_, fun z => ag_LoP h ?_, fun z => by cases z⟩⟩
  · obtain ⟨a, -, -, -⟩ := h5 q
    have hb : ∀ c ∈ [9, 10, 11, 12, 13, 14, 16, 17, 18], 9 ≤ c ∧ c ≤ 35 := by decide
    exact ⟨g3_fr a.1 (fun c hc => e c (hb c hc).1 (hb c hc).2), by rw [e 15 (by decide) (by decide)]; exact a.2.1, by rw [e 19 (by decide) (by decide)]; exact a.2.2.1, by rw [e 20 (by decide) (by decide)]; exact a.2.2.2⟩
  · unfold HP; rw [e 25 (by decide) (by decide)]; exact (h5 q).2.1 z
  · unfold LoP; rw [e 28 (by decide) (by decide)]; exact (h5 q).2.2.1 z
theorem cb_x (h : CB T p q M) (e0 : M'.2.2 0 = M.2.2 0) (e36 : M'.2.2 36 = M.2.2 36) (t11 : M'.1 0 11 = M.1 0 11) (h1 : T' 61 1 = T 61 1) (h0 : T' 61 0 = T 61 0) (rd : M'.1 1 1 = nI (T' 61 21) ∧ (∀ i, i < T' 61 21 → M'.1 2 i = nI (T' 75 i)) ∧ M'.1 1 2 = nI (T' 61 22)) (co : CO T' M') (ac : AC T' M') (sc : tlk T = true → SC T p M → SL T p M → NL T → SC T' p M' ∧ SL T' p M' ∧ NL T') : CB T' p q M' := by
  have ht : tlk T' = tlk T := by unfold tlk; rw [h1]
  refine ⟨h.1, by rw [e0]; exact h.2.1, by rw [e0]; exact h.2.2.1, by rw [t11, ht]; exact h.2.2.2.1, rd, co, ac, by rw [e36]; exact h.2.2.2.2.2.2.2.1, fun e => ?_, fun e => ?_⟩
  · rw [ht] at e
    obtain ⟨a, b, c⟩ := cb_tld h e
    exact sc e a b c
  · rw [h0]; exact cb_unt h (ht.symm.trans e)
abbrev RtY (x : Int32) (T' : TK) (M : AM) : Option Value → AM → Prop := fun v M' => v = some (.int x) ∧ (∃ T'' p q, agV T' T'' ∧ CX T'' p q M') ∧ F60 M M'
theorem rty {x y : Int32} {T1 T2 : TK} (h1 : x = y) (h2 : T1 = T2) (hC : CX T1 p q M') (hF : F60 M M') : RtY y T2 M (some (.int x)) M' := by
  subst h1; subst h2
  exact ⟨rfl, ⟨T1, p, q, agV_rf, hC⟩, hF⟩
end TR
