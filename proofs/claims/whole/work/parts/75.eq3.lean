-- places and states: loops, use, mark, the whole
section E3
variable {T : TK} {l : Nat}
theorem rp_f (hT : WT T) (hB : T 61 13 < 64) {i : Nat} (hi : i < LTn T) : ∀ (n j : Nat), rch (sP T okT) i n j → rch (sx0 T) (Qn T i) n (Qn T j)
  | 0, j, h => by rw [show j = i from h]; rfl
  | n + 1, j, ⟨u, h1, h2⟩ => by
    have hu := rch_lt hT hB hi h1
    obtain ⟨m, m1, m2, m3, m4, m5⟩ := sP_move hT hB hu h2
    have ok := mv_ok hT hB m1
    refine ⟨_, rp_f hT hB hi n u h1, sx0_mem.mpr ⟨mA T m, ok.2.2.2.1, ?_, ?_⟩⟩
    · rw [← m2]; exact ok.2.2.2.2.1
    · rw [← m2, ← ok.2.2.2.2.2.2, m3]
theorem rp_b (hT : WT T) (hB : T 61 13 < 64) {i : Nat} (hi : i < LTn T) : ∀ (n s : Nat), rch (sx0 T) (Qn T i) n s → ∃ j, j < LTn T ∧ Qn T j = s ∧ rch (sP T okT) i n j
  | 0, s, h => ⟨i, hi, (show s = Qn T i from h).symm, rfl⟩
  | n + 1, s, ⟨u, h1, h2⟩ => by
    obtain ⟨j, hj, hq, hr⟩ := rp_b hT hB hi n u h1
    obtain ⟨a, ha, ho, hx⟩ := sx0_mem.mp h2
    rw [← hq] at ho hx
    obtain ⟨m, m1, m2, m3, m4⟩ := mv_of hj ha ho
    have hm := (mv_sl hj m1 m2).2
    have ok := mv_ok hT hB hm
    exact ⟨mT T m, ok.2.2.2.2.2.1, by rw [ok.2.2.2.2.2.2, m3, m4]; exact hx, j, hr, sP_m.mpr ⟨m, m1, m2, rfl, rfl⟩⟩
theorem rp_c (hT : WT T) (hB : T 61 13 < 64) {i c : Nat} (hi : i < LTn T) : rch (sP T okT) i c i ↔ rch (sx0 T) (Qn T i) c (Qn T i) := by
  refine ⟨rp_f hT hB hi c i, fun h => ?_⟩
  obtain ⟨j, hj, hq, hr⟩ := rp_b hT hB hi c _ h
  rw [Qn_inj hT hB hj hi hq] at hr
  exact hr
theorem DS_isD (hT : WT T) {s : Nat} (hs : s < 1024) : isD (sx0 T) s (DS T s) := by
  unfold DS
  exact bfs_isD hs (sux_lt hT)
theorem rch_1024 (hT : WT T) {s t : Nat} (hs : s < 1024) : ∀ {n : Nat}, rch (sx0 T) s n t → t < 1024 := by
  intro n
  induction n generalizing t with
  | zero => intro h; rw [show t = s from h]; exact hs
  | succ n ih => rintro ⟨u, h1, h2⟩; exact sux_lt hT u t (ih h1) h2
theorem lp_spec (hT : WT T) {s c : Nat} (hs : s < 1024) : lpS T s = some c ↔ 0 < c ∧ rch (sx0 T) s c s ∧ ∀ c', 0 < c' → rch (sx0 T) s c' s → c ≤ c' := by
  have hD := DS_isD hT hs
  have hG : ∀ k x, lpG T (DS T s) s k = some x → 0 < x ∧ rch (sx0 T) s x s := fun k x hx => by
    obtain ⟨⟨a, ha, h1⟩, -⟩ := omN_spec.mp hx
    unfold lpH at h1
    by_cases e : (opn T a k 0 && nxt T a k == s) = true
    · rw [if_pos e] at h1
      rw [Bool.and_eq_true, beq_iff_eq] at e
      cases hd : DS T s k with
      | none => rw [hd] at h1; cases h1
      | some d =>
        rw [hd] at h1
        have h1 : some (d + 1) = some x := h1
        cases h1
        exact ⟨by omega, k, ((hD k d).mp hd).1, sx0_mem.mpr ⟨a, ha, e.1, e.2⟩⟩
    · rw [if_neg e] at h1; cases h1
  have hmin : ∀ c', 0 < c' → rch (sx0 T) s c' s → ∃ k x, k < 1024 ∧ lpG T (DS T s) s k = some x ∧ x ≤ c' := fun c' h0 hr => by
    cases c' with
    | zero => exact absurd h0 (Nat.lt_irrefl 0)
    | succ n =>
      obtain ⟨k, h1, h2⟩ := hr
      obtain ⟨a, ha, ho, hx⟩ := sx0_mem.mp h2
      obtain ⟨n0, h3, h4⟩ := pk_least _ (show ∃ n, rch (sx0 T) s n k from ⟨n, h1⟩)
      have h5 := (hD k n0).mpr ⟨h3, h4⟩
      have h6 : n0 ≤ n := Nat.le_of_not_lt (fun e => h4 n e h1)
      have h7 : lpH T (DS T s) s k a = some (n0 + 1) := by
        unfold lpH
        rw [if_pos (by rw [ho, hx, beq_self_eq_true]; rfl), h5]; rfl
      cases hg : lpG T (DS T s) s k with
      | none =>
        have := omN_none.mp hg a ha
        rw [h7] at this; cases this
      | some x =>
        have := (omN_spec.mp hg).2 a (n0 + 1) ha h7
        exact ⟨k, x, rch_1024 hT hs h1, hg, by omega⟩
  unfold lpS
  rw [omN_spec]
  constructor
  · rintro ⟨⟨k, hk, h1⟩, h2⟩
    have h3 := hG k c h1
    refine ⟨h3.1, h3.2, fun c' h0 hr => ?_⟩
    obtain ⟨k', x, hk', h4, h5⟩ := hmin c' h0 hr
    have := h2 k' x hk' h4
    omega
  · rintro ⟨h0, hr, h2⟩
    obtain ⟨k, x, hk, h4, h5⟩ := hmin c h0 hr
    have h6 := hG k x h4
    have h7 := h2 x h6.1 h6.2
    have : x = c := by omega
    subst this
    exact ⟨⟨k, hk, h4⟩, fun k' x' hk' h8 => h2 x' (hG k' x' h8).1 (hG k' x' h8).2⟩
theorem lp_none (hT : WT T) {s : Nat} (hs : s < 1024) : lpS T s = none ↔ ∀ c, 0 < c → ¬ rch (sx0 T) s c s := by
  constructor
  · intro h c h0 hr
    obtain ⟨z, ⟨h1, h2⟩, h3⟩ := pk_least (fun c => 0 < c ∧ rch (sx0 T) s c s) ⟨c, h0, hr⟩
    have := (lp_spec hT hs).mpr ⟨h1, h2, fun c' q1 q2 => Nat.le_of_not_lt (fun e => h3 c' e ⟨q1, q2⟩)⟩
    rw [h] at this; cases this
  · intro h
    cases e : lpS T s with
    | none => rfl
    | some c =>
      have := (lp_spec hT hs).mp e
      exact absurd this.2.1 (h c this.1)
theorem onC_lp (hT : WT T) (hB : T 61 13 < 64) {i : Nat} (hi : i < LTn T) : onC T i ↔ ¬ lpS T (Qn T i) = none := by
  rw [lp_none hT (Qn_lt hT hB hi)]
  constructor
  · rintro ⟨c, h0, hr⟩ h
    exact h c h0 ((rp_c hT hB hi).mp hr)
  · intro h
    obtain ⟨c, hc⟩ := Classical.not_forall.mp h
    obtain ⟨h0, h1⟩ := Classical.not_imp.mp hc
    exact ⟨c, h0, (rp_c hT hB hi).mpr (Classical.not_not.mp h1)⟩
/-- what is come to, is by fewer answers than there are places -/
theorem dist_lt (hT : WT T) (hB : T 61 13 < 64) {f : Nat} (hf : f < LTn T) {n u : Nat} (h : rch (sP T okT) f n u) (hm : ∀ m, m < n → ¬ rch (sP T okT) f m u) : n < LTn T := by
  have key : ∀ (n u : Nat), rch (sP T okT) f n u → (∀ m, m < n → ¬ rch (sP T okT) f m u) → ∀ j, j ≤ n → ∃ w, w < LTn T ∧ rch (sP T okT) f j w ∧ ∀ m, m < j → ¬ rch (sP T okT) f m w := by
    intro n
    induction n with
    | zero =>
      intro u h1 h2 j hj
      rw [show j = 0 by omega]
      exact ⟨u, rch_lt hT hB hf h1, h1, h2⟩
    | succ n ih =>
      intro u h1 h2 j hj
      by_cases e : j = n + 1
      · rw [e]; exact ⟨u, rch_lt hT hB hf h1, h1, h2⟩
      · obtain ⟨x, h3, h4⟩ := h1
        exact ih x h3 (fun m hm hr => h2 (m + 1) (by omega) ⟨x, hr, h4⟩) j (by omega)
  have h1 := key n u h hm
  have : n + 1 ≤ LTn T := inj_le (f := fun j => if q : j ≤ n then Classical.choose (h1 j q) else 0) (fun j hj => by
    rw [dif_pos (show j ≤ n by omega)]
    exact (Classical.choose_spec (h1 j (by omega))).1) (fun i j hij hj e => by
    rw [dif_pos (show i ≤ n by omega), dif_pos (show j ≤ n by omega)] at e
    have q1 := Classical.choose_spec (h1 i (by omega))
    have q2 := Classical.choose_spec (h1 j (by omega))
    rw [← e] at q2
    exact q2.2.2 i hij q1.2.1)
  omega
theorem lp_le (hT : WT T) (hB : T 61 13 < 64) {i c : Nat} (hi : i < LTn T) (h : lpS T (Qn T i) = some c) : c ≤ LTn T := by
  obtain ⟨h0, h1, h2⟩ := (lp_spec hT (Qn_lt hT hB hi)).mp h
  have h1 := (rp_c hT hB hi).mpr h1
  cases c with
  | zero => omega
  | succ n =>
    obtain ⟨u, h3, h4⟩ := h1
    obtain ⟨n0, h5, h6⟩ := pk_least _ (show ∃ n, rch (sP T okT) i n u from ⟨n, h3⟩)
    have h7 := dist_lt hT hB hi h5 h6
    have h8 := h2 (n0 + 1) (by omega) ((rp_c hT hB hi).mp ⟨u, h5, h4⟩)
    omega
noncomputable def shO (T : TK) (l : Nat) : Nat → Option Nat := omN (fun i => if Qn T i / 64 = l then lpS T (Qn T i) else none)
theorem sh_ln (hT : WT T) (hB : T 61 13 < 64) : shO T l (LTn T) = lnL T l := by
  unfold shO lnL
  cases h : omN (fun k => if (DT T (64 * l + k)).isSome = true then lpS T (64 * l + k) else none) 64 with
  | none =>
    rw [omN_none] at h ⊢
    intro i hi
    by_cases e : Qn T i / 64 = l
    · have h1 := Q_of hT hB hi e
      have := h (Qn T i % 64) (Nat.mod_lt _ (by decide))
      rw [if_pos h1.2, ← h1.1] at this
      rw [if_pos e]; exact this
    · rw [if_neg e]
  | some m =>
    rw [omN_spec] at h ⊢
    obtain ⟨⟨k, hk, h1⟩, h2⟩ := h
    refine ⟨?_, fun i x hi hx => ?_⟩
    · by_cases e : (DT T (64 * l + k)).isSome = true
      · rw [if_pos e] at h1
        obtain ⟨i, hi, q, q1, -⟩ := Q_sl hT hB hk e
        exact ⟨i, hi, by rw [if_pos q1, q]; exact h1⟩
      · rw [if_neg e] at h1; cases h1
    · by_cases e : Qn T i / 64 = l
      · rw [if_pos e] at hx
        have h3 := Q_of hT hB hi e
        exact h2 (Qn T i % 64) x (Nat.mod_lt _ (by decide)) (by rw [if_pos h3.2, ← h3.1]; exact hx)
      · rw [if_neg e] at hx; cases hx
/-! use -/
theorem use_n (hT : WT T) (hB : T 61 13 < 64) {a : Nat} (ha : a < T 61 0) : cntN (fun m => mA T m == a) (mN T) = usN T a ∧ cntN (fun i => Qn T i / 64 == T 62 a) (LTn T) = usA T a := by
  have h16 := (wt_a hT ha).1
  refine ⟨?_, (cnt_line1 hT hB h16).symm⟩
  unfold usN
  rw [cnt_line hT hB (p := fun s => opn T a s 0) h16, cnt_sm, cnt_sm]
  refine ((smN_cong (h := fun m => (fun (_ : Nat) b => if b = a then 1 else 0) (mF T m) (mA T m)) (fun m hm => ?_)).trans (sum_mv hT hB (G := fun _ b => if b = a then 1 else 0) (LTn T) (Nat.le_refl _))).trans (smN_cong (fun i hi => ?_))
  · show (mA T m == a).toNat = if mA T m = a then 1 else 0
    by_cases e : mA T m = a
    · rw [if_pos e, e, beq_self_eq_true]; rfl
    · rw [if_neg e, beq_eq_false_iff_ne.mpr e]; rfl
  · have h1 : (fun b => if opn T b (Qn T i) 0 = true then (if b = a then 1 else 0) else 0) = (fun b => if b = a then (fun b => if opn T b (Qn T i) 0 = true then 1 else 0) b else 0) := by
      funext b
      by_cases e : b = a
      · rw [if_pos e, if_pos e]
      · rw [if_neg e, if_neg e]; split <;> rfl
    rw [h1, smN_one ha]
    by_cases e : opn T a (Qn T i) 0 = true
    · rw [if_pos e, e, opn_fr e, beq_self_eq_true]; rfl
    · rw [if_neg e, Bool.eq_false_iff.mpr e, Bool.and_false]; rfl
theorem us_le {a : Nat} : usN T a ≤ usA T a := cntN_mono (fun t _ h => by
  rw [Bool.and_eq_true] at h
  exact h.1)
/-! mark -/
theorem any_W (hT : WT T) (hB : T 61 13 < 64) {m : Nat} : anyW T m = anyN (fun i => (Qn T i % 64).testBit m) (LTn T) := by
  unfold anyW
  rw [Bool.eq_iff_iff, anyN_iff, anyN_iff]
  constructor
  · rintro ⟨k, hk, h⟩
    rw [Bool.and_eq_true] at h
    obtain ⟨i, hi, hq⟩ := D_Qn hT hB (s := k) (fun e => by rw [e] at h; cases h.1)
    exact ⟨i, hi, by rw [hq]; exact h.2⟩
  · rintro ⟨i, hi, h⟩
    exact ⟨Qn T i, Qn_lt hT hB hi, by rw [Qn_D hT hB hi]; exact h⟩
theorem alt_wide {i marks m : Nat} (h : altOK T i marks 0 = true) : altOK T i marks (2 ^ m) = true := by
  unfold altOK at *
  rw [← alt_eq] at h ⊢
  have h1 : ∀ x, ndf x 0 = x := fun x => Nat.eq_of_testBit_eq (fun b => by rw [ndf_bit, Nat.zero_testBit, Bool.not_false, Bool.and_true])
  rw [h1] at h
  rw [h]
  exact Nat.eq_zero_of_le_zero (ndf_le _ _)
theorem opn_wide {a s m : Nat} (h : opn T a s 0 = true) : opn T a s (2 ^ m) = true := by
  unfold opn hold at *
  simp only [Bool.and_eq_true, Bool.or_eq_true] at h ⊢
  refine ⟨h.1, ?_⟩
  rcases h.2 with q | q
  · exact Or.inl q
  · obtain ⟨k, h1, h2⟩ := anyN_iff.mp q
    exact Or.inr (anyN_iff.mpr ⟨k, h1, alt_wide h2⟩)
noncomputable def loB (T : TK) (m s : Nat) : Bool := anyN (fun a => opn T a s (2 ^ m) && (DT T (nxt T a s)).isNone) (T 61 0)
theorem idl_eq (hT : WT T) (hB : T 61 13 < 64) {m : Nat} : idlB T m = allN (fun i => !loB T m (Qn T i)) (LTn T) := by
  have hD := bfs_isD (succ := sux T none none (some m)) (fst0_lt hT hB) (sux_lt hT)
  have hsub : ∀ n s, rch (sx0 T) (fst0 T) n s → rch (sux T none none (some m)) (fst0 T) n s := by
    intro n
    induction n with
    | zero => intro s h; exact h
    | succ n ih =>
      rintro s ⟨u, h1, h2⟩
      obtain ⟨a, ha, ho, hx⟩ := sx0_mem.mp h2
      exact ⟨u, ih u h1, sux_mem.mpr ⟨a, ha, rfl, opn_wide ho, hx⟩⟩
  have hW : ∀ s, (DW T m s).isSome = true ↔ ∃ n, rch (sux T none none (some m)) (fst0 T) n s := fun s => by
    unfold DW
    constructor
    · intro h
      obtain ⟨d, hd⟩ := Option.isSome_iff_exists.mp h
      exact ⟨d, ((hD s d).mp hd).1⟩
    · intro h
      obtain ⟨n0, h5, h6⟩ := pk_least _ h
      rw [(hD s n0).mpr ⟨h5, h6⟩]; rfl
  have hDT : ∀ s, (DT T s).isSome = true → ∃ n, rch (sx0 T) (fst0 T) n s := fun s h => by
    obtain ⟨d, hd⟩ := Option.isSome_iff_exists.mp h
    exact ⟨d, ((DT_isD hT hB s d).mp hd).1⟩
  unfold idlB
  rw [Bool.eq_iff_iff, allN_iff, allN_iff]
  constructor
  · intro h i hi
    rw [Bool.not_eq_true', Bool.eq_false_iff]
    intro hl
    obtain ⟨a, ha, hb⟩ := anyN_iff.mp hl
    rw [Bool.and_eq_true] at hb
    have hq : (DT T (Qn T i)).isSome = true := by rw [Qn_D hT hB hi]; rfl
    obtain ⟨n, hn⟩ := hDT _ hq
    have h1 : (DW T m (nxt T a (Qn T i))).isSome = true := (hW _).mpr ⟨n + 1, _, hsub n _ hn, sux_mem.mpr ⟨a, ha, rfl, hb.1, rfl⟩⟩
    have h2 := h (nxt T a (Qn T i)) (nxt_lt hT ha)
    rw [h1] at h2
    cases hd : DT T (nxt T a (Qn T i)) with
    | none => rw [hd] at h2; cases h2
    | some d => rw [hd] at hb; exact absurd hb.2 (by simp)
  · intro h k hk
    have key : ∀ n s, rch (sux T none none (some m)) (fst0 T) n s → (DT T s).isSome = true := by
      intro n
      induction n with
      | zero =>
        intro s hs
        have : s = fst0 T := hs
        rw [this, (DT_isD hT hB (fst0 T) 0).mpr ⟨rfl, fun m hm => absurd hm (Nat.not_lt_zero m)⟩]; rfl
      | succ n ih =>
        rintro s ⟨u, h1, h2⟩
        have hu := ih u h1
        obtain ⟨a, ha, -, ho, hx⟩ := sux_mem.mp h2
        obtain ⟨i, hi, hq⟩ := D_Qn hT hB (s := u) (fun e => by rw [e] at hu; cases hu)
        have h3 := h i hi
        rw [Bool.not_eq_true', Bool.eq_false_iff] at h3
        cases hd : DT T s with
        | some d => rfl
        | none =>
          exact absurd (anyN_iff.mpr ⟨a, ha, by
            show (opn T a (Qn T i) (2 ^ m) && (DT T (nxt T a (Qn T i))).isNone) = true
            rw [hq, hx, hd]
            rw [show opn T a u (2 ^ m) = true from ho]; rfl⟩) h3
    rw [beq_iff_eq, Bool.eq_iff_iff]
    constructor
    · intro q
      obtain ⟨n, hn⟩ := hDT k q
      exact (hW k).mpr ⟨n, hsub n k hn⟩
    · intro q
      obtain ⟨n, hn⟩ := (hW k).mp q
      exact key n k hn
/-! the whole -/
theorem mxN_iff {D : Nat → Option Nat} {f : Nat → Nat} {c : Nat} : ∀ {n : Nat}, mxN D f n ≤ c ↔ ∀ k, k < n → (D k).isSome = true → f k ≤ c
  | 0 => ⟨fun _ k hk => absurd hk (Nat.not_lt_zero k), fun _ => Nat.zero_le c⟩
  | n + 1 => by
    have ih := mxN_iff (D := D) (f := f) (c := c) (n := n)
    rw [mxN]
    by_cases e : (D n).isSome = true
    · rw [if_pos e]
      constructor
      · intro h k hk hs
        have h1 : f n ≤ c ∧ mxN D f n ≤ c := by
          by_cases q : f n > mxN D f n
          · rw [if_pos q] at h; omega
          · rw [if_neg q] at h; omega
        by_cases q : k = n
        · rw [q]; exact h1.1
        · exact ih.mp h1.2 k (by omega) hs
      · intro h
        have h1 := h n (by omega) e
        have h2 := ih.mpr (fun k hk => h k (by omega))
        split <;> omega
    · rw [if_neg e, ih]
      refine ⟨fun h k hk hs => ?_, fun h k hk => h k (by omega)⟩
      by_cases q : k = n
      · rw [q] at hs; exact absurd hs e
      · exact h k (by omega) hs
theorem mx_eq (hT : WT T) (hB : T 61 13 < 64) {f : Nat → Nat} {x : Nat → Nat} (h : ∀ i, i < LTn T → f (Qn T i) = x i) : mxN (DT T) f 1024 = mxF x (LTn T) := by
  have key : ∀ c, mxN (DT T) f 1024 ≤ c ↔ mxF x (LTn T) ≤ c := fun c => by
    rw [mxN_iff, mxF_le]
    constructor
    · intro h1 i hi
      rw [← h i hi]
      exact h1 _ (Qn_lt hT hB hi) (by rw [Qn_D hT hB hi]; rfl)
    · intro h1 k hk hs
      obtain ⟨i, hi, hq⟩ := D_Qn hT hB (s := k) (fun e => by rw [e] at hs; cases hs)
      rw [← hq, h i hi]
      exact h1 i hi
  exact Nat.le_antisymm ((key _).mpr (Nat.le_refl _)) ((key _).mp (Nat.le_refl _))
theorem mx_depth (hT : WT T) (hB : T 61 13 < 64) : mxF (dQ T) (LTn T) = dQ T (LTn T - 1) := by
  have hp := (q_pos hT hB).1
  refine Nat.le_antisymm (mxF_le.mpr (fun i hi => dQ_mono hT hB (by omega) (by omega))) ?_
  exact mxF_le.mp (Nat.le_refl _) (LTn T - 1) (by omega)
theorem ln_bits (hT : WT T) (hB : T 61 13 < 64) {f : Nat → Bool} {q : Nat → Bool} (h : ∀ l, l < 16 → (q l = true ↔ ∃ i, i < LTn T ∧ f i = true ∧ Qn T i / 64 = l)) : orF f (fun i => 1 * 2 ^ (Qn T i / 64)) (LTn T) = bsN q 16 := by
  apply Nat.eq_of_testBit_eq
  intro x
  rw [Bool.eq_iff_iff, orF_bit, bsN_bit]
  constructor
  · rintro ⟨i, hi, h1, h2⟩
    rw [Nat.one_mul, Nat.testBit_two_pow, decide_eq_true_iff] at h2
    have hx : x < 16 := by have := Qn_lt hT hB hi; omega
    rw [decide_eq_true hx, Bool.true_and]
    exact (h x hx).mpr ⟨i, hi, h1, h2⟩
  · intro h1
    rw [Bool.and_eq_true, decide_eq_true_iff] at h1
    obtain ⟨i, hi, h2, h3⟩ := (h x h1.1).mp h1.2
    exact ⟨i, hi, h2, by rw [Nat.one_mul, Nat.testBit_two_pow, decide_eq_true_iff]; exact h3⟩
theorem cnt_pos {f : Nat → Bool} {n : Nat} : 0 < cntN f n ↔ ∃ i, i < n ∧ f i = true := by
  constructor
  · intro h
    rcases Classical.em (∃ i, i < n ∧ f i = true) with q | q
    · exact q
    · have := cnt0.mpr (fun t ht => Bool.eq_false_iff.mpr (fun e => q ⟨t, ht, e⟩))
      omega
  · rintro ⟨i, hi, h⟩
    rcases Nat.eq_zero_or_pos (cntN f n) with q | q
    · rw [cnt0.mp q i hi] at h; cases h
    · exact q
theorem w_stuck (hT : WT T) (hB : T 61 13 < 64) (hN : NL T) (ht : T 61 1 ≠ 0) : orF (stP T) (fun i => 1 * 2 ^ (Qn T i / 64)) (LTn T) = bsN (ltB T (DT T) (canB T) 1) 16 := ln_bits hT hB (fun l hl => by
  unfold ltB
  rw [if_neg (by decide), show (fun k => st3 T (DT T) (canB T) 1 (64 * l + k)) = (fun k => stuF T (DT T) (64 * l + k)) from funext (fun k => by unfold st3; rw [if_neg (by decide), if_pos rfl]), cnt_stu hT hB hl, Bool.and_eq_true, decide_eq_true_iff, cnt_pos]
  constructor
  · rintro ⟨-, i, hi, h⟩
    rw [Bool.and_eq_true, beq_iff_eq] at h
    exact ⟨i, hi, h.2, h.1⟩
  · rintro ⟨i, hi, h1, h2⟩
    exact ⟨by rw [← h2]; exact nl_Q hT hB hN ht hi, i, hi, by rw [h1, h2, beq_self_eq_true]; rfl⟩)
theorem w_lost (hT : WT T) (hB : T 61 13 < 64) (hN : NL T) (ht : T 61 1 ≠ 0) : orF (fun i => !canB T (Qn T i)) (fun i => 1 * 2 ^ (Qn T i / 64)) (LTn T) = bsN (ltB T (DT T) (canB T) 2) 16 := ln_bits hT hB (fun l hl => by
  unfold ltB
  rw [if_neg (by decide), show (fun k => st3 T (DT T) (canB T) 2 (64 * l + k)) = (fun k => (DT T (64 * l + k)).isSome && !canB T (64 * l + k)) from funext (fun k => by unfold st3; rw [if_neg (by decide), if_neg (by decide)]), cnt_lost hT hB hl, Bool.and_eq_true, decide_eq_true_iff, cnt_pos]
  constructor
  · rintro ⟨-, i, hi, h⟩
    rw [Bool.and_eq_true, beq_iff_eq] at h
    exact ⟨i, hi, h.2, h.1⟩
  · rintro ⟨i, hi, h1, h2⟩
    exact ⟨by rw [← h2]; exact nl_Q hT hB hN ht hi, i, hi, by rw [h1, h2, beq_self_eq_true]; rfl⟩)
theorem w_loop (hT : WT T) (hB : T 61 13 < 64) (hN : NL T) (ht : T 61 1 ≠ 0) : orF (fun i => (lpS T (Qn T i)).isSome) (fun i => 1 * 2 ^ (Qn T i / 64)) (LTn T) = bsN (lwB T) 16 := ln_bits hT hB (fun l hl => by
  unfold lwB
  rw [Bool.and_eq_true, ← sh_ln hT hB]
  constructor
  · rintro ⟨-, h⟩
    obtain ⟨c, hc⟩ := Option.isSome_iff_exists.mp h
    obtain ⟨⟨i, hi, h1⟩, -⟩ := omN_spec.mp hc
    by_cases e : Qn T i / 64 = l
    · rw [if_pos e] at h1
      exact ⟨i, hi, by rw [h1]; rfl, e⟩
    · rw [if_neg e] at h1; cases h1
  · rintro ⟨i, hi, h1, h2⟩
    refine ⟨by rw [← h2]; exact nl_Q hT hB hN ht hi, ?_⟩
    cases h : shO T l (LTn T) with
    | some c => rfl
    | none =>
      have := omN_none.mp h i hi
      rw [if_pos h2] at this
      rw [this] at h1; cases h1)
theorem w_unr (hT : WT T) (hB : T 61 13 < 64) : ndf (T 61 1) (orF (fun _ => true) (fun i => 1 * 2 ^ (Qn T i / 64)) (LTn T)) = bsN (ltB T (DT T) (canB T) 0) 16 := by
  apply Nat.eq_of_testBit_eq
  intro x
  rw [ndf_bit, bsN_bit]
  by_cases hx : x < 16
  · rw [decide_eq_true hx, Bool.true_and]
    unfold ltB
    rw [if_pos rfl, show (fun k => st3 T (DT T) (canB T) 0 (64 * x + k)) = (fun k => (DT T (64 * x + k)).isSome) from funext (fun k => by unfold st3; rw [if_pos rfl])]
    congr 1
    rw [Bool.eq_iff_iff, Bool.not_eq_true', Bool.eq_false_iff, ne_eq, orF_bit, beq_iff_eq, cnt0]
    constructor
    · intro h k hk
      rw [Bool.eq_false_iff]
      intro e
      obtain ⟨i, hi, -, q1, -⟩ := Q_sl hT hB hk e
      exact h ⟨i, hi, rfl, by rw [Nat.one_mul, Nat.testBit_two_pow, decide_eq_true_iff]; exact q1⟩
    · rintro h ⟨i, hi, -, h2⟩
      rw [Nat.one_mul, Nat.testBit_two_pow, decide_eq_true_iff] at h2
      have := (Q_of hT hB hi h2).2
      rw [h _ (Nat.mod_lt _ (by decide))] at this
      cases this
  · rw [decide_eq_false hx, Bool.false_and]
    have h16 : 2 ^ 16 ≤ 2 ^ x := Nat.pow_le_pow_right (by decide) (by omega)
    have h17 : T 61 1 < 2 ^ 16 := hT.2.1
    have : (T 61 1).testBit x = false := Nat.testBit_lt_two_pow (Nat.lt_of_lt_of_le h17 h16)
    rw [this, Bool.false_and]
end E3
