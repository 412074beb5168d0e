-- sums over states, places and moves
theorem smN_plus {f h : Nat → Nat} : ∀ n, smN (fun t => f t + h t) n = smN f n + smN h n
  | 0 => rfl
  | n + 1 => by
    show smN _ n + (f n + h n) = smN f n + f n + (smN h n + h n)
    rw [smN_plus n]; omega
theorem smN_zero {f : Nat → Nat} : ∀ {n : Nat}, (∀ t, t < n → f t = 0) → smN f n = 0
  | 0, _ => rfl
  | n + 1, h => by
    show smN f n + f n = 0
    rw [smN_zero (fun t ht => h t (by omega)), h n (by omega)]
theorem smN_one {f : Nat → Nat} {x : Nat} : ∀ {N : Nat}, x < N → smN (fun s => if s = x then f s else 0) N = f x
  | 0, h => absurd h (Nat.not_lt_zero x)
  | N + 1, h => by
    show smN _ N + (if N = x then f N else 0) = f x
    by_cases e : N = x
    · rw [if_pos e, smN_zero (fun t ht => if_neg (by omega)), e]; omega
    · rw [if_neg e, smN_one (by omega)]; omega
theorem smN_add {f : Nat → Nat} {a : Nat} : ∀ b, smN f (a + b) = smN f a + smN (fun i => f (a + i)) b
  | 0 => rfl
  | b + 1 => by
    show smN f (a + b) + f (a + b) = smN f a + (smN (fun i => f (a + i)) b + f (a + b))
    rw [smN_add b]; omega
theorem cnt_sm {f : Nat → Bool} : ∀ n, cntN f n = smN (fun i => (f i).toNat) n
  | 0 => rfl
  | n + 1 => by
    show cntN f n + _ = smN _ n + _
    rw [cnt_sm n]
theorem sum_line {h : Nat → Nat} {l : Nat} (hl : l < 16) : smN (fun s => if s / 64 = l then h s else 0) 1024 = smN (fun k => h (64 * l + k)) 64 := by
  have z1 : smN (fun s => if s / 64 = l then h s else 0) (64 * l) = 0 := smN_zero (fun t ht => if_neg (by omega))
  have z2 : smN (fun i => if (64 * l + (64 + i)) / 64 = l then h (64 * l + (64 + i)) else 0) (1024 - 64 * l - 64) = 0 := smN_zero (fun t ht => if_neg (by omega))
  have z3 : smN (fun i => if (64 * l + i) / 64 = l then h (64 * l + i) else 0) 64 = smN (fun k => h (64 * l + k)) 64 := smN_cong (fun t ht => if_pos (by omega))
  rw [show 1024 = 64 * l + (64 + (1024 - 64 * l - 64)) by omega, smN_add, smN_add, z1, z3]
  show 0 + (_ + smN (fun i => if (64 * l + (64 + i)) / 64 = l then h (64 * l + (64 + i)) else 0) (1024 - 64 * l - 64)) = _
  rw [z2]
  omega
section Q7
variable {T : TK}
theorem sum_Q (hT : WT T) (hB : T 61 13 < 64) {f : Nat → Nat} : ∀ k, k ≤ LTn T → smN (fun s => if anyN (fun i => Qn T i == s) k = true then f s else 0) 1024 = smN (fun i => f (Qn T i)) k
  | 0, _ => smN_zero (fun t _ => if_neg (by rw [anyN]; decide))
  | k + 1, hk => by
    show _ = smN (fun i => f (Qn T i)) k + f (Qn T k)
    rw [← sum_Q hT hB k (by omega), ← smN_one (f := f) (Qn_lt hT hB (show k < LTn T by omega)), ← smN_plus]
    apply smN_cong
    intro s _
    by_cases e : s = Qn T k
    · subst e
      have h1 : ¬ anyN (fun i => Qn T i == Qn T k) k = true := fun q => by
        obtain ⟨i, hi, h2⟩ := anyN_iff.mp q
        have := Qn_inj hT hB (by omega) (by omega) (beq_iff_eq.mp h2)
        omega
      have h0 : anyN (fun i => Qn T i == Qn T k) (k + 1) = true := anyN_iff.mpr ⟨k, by omega, beq_self_eq_true _⟩
      rw [if_pos h0, if_neg h1, if_pos rfl, Nat.zero_add]
    · have h1 : anyN (fun i => Qn T i == s) (k + 1) = anyN (fun i => Qn T i == s) k := by
        rw [Bool.eq_iff_iff, anyN_iff, anyN_iff]
        constructor
        · rintro ⟨i, hi, h2⟩
          by_cases q : i = k
          · rw [q] at h2; exact absurd (beq_iff_eq.mp h2).symm e
          · exact ⟨i, by omega, h2⟩
        · rintro ⟨i, hi, h2⟩; exact ⟨i, by omega, h2⟩
      simp only [if_neg e, h1, Nat.add_zero]
theorem any_D (hT : WT T) (hB : T 61 13 < 64) {s : Nat} : anyN (fun i => Qn T i == s) (LTn T) = (DT T s).isSome := by
  rw [Bool.eq_iff_iff, anyN_iff]
  constructor
  · rintro ⟨i, hi, h⟩
    rw [← beq_iff_eq.mp h, Qn_D hT hB hi]; rfl
  · intro h
    obtain ⟨i, hi, hq⟩ := D_Qn hT hB (s := s) (fun e => by rw [e] at h; cases h)
    exact ⟨i, hi, beq_iff_eq.mpr hq⟩
theorem sum_D (hT : WT T) (hB : T 61 13 < 64) {f : Nat → Nat} : smN (fun s => if (DT T s).isSome = true then f s else 0) 1024 = smN (fun i => f (Qn T i)) (LTn T) := by
  rw [← sum_Q hT hB (LTn T) (Nat.le_refl _)]
  exact smN_cong (fun s _ => by rw [any_D hT hB])
theorem cnt_line (hT : WT T) (hB : T 61 13 < 64) {p : Nat → Bool} {l : Nat} (hl : l < 16) : cntN (fun k => (DT T (64 * l + k)).isSome && p (64 * l + k)) 64 = cntN (fun i => (Qn T i / 64 == l) && p (Qn T i)) (LTn T) := by
  rw [cnt_sm, cnt_sm, ← sum_line (h := fun s => ((DT T s).isSome && p s).toNat) hl]
  have h1 := sum_D hT hB (f := fun s => ((s / 64 == l) && p s).toNat)
  rw [← h1]
  apply smN_cong
  intro s _
  by_cases e : s / 64 = l
  · rw [if_pos e, beq_iff_eq.mpr e]; cases (DT T s).isSome <;> rfl
  · rw [if_neg e, beq_eq_false_iff_ne.mpr e]; cases (DT T s).isSome <;> rfl
theorem cnt_line1 (hT : WT T) (hB : T 61 13 < 64) {l : Nat} (hl : l < 16) : cntN (fun k => (DT T (64 * l + k)).isSome) 64 = cntN (fun i => Qn T i / 64 == l) (LTn T) := by
  have h := cnt_line hT hB (p := fun _ => true) hl
  rw [show (fun k => (DT T (64 * l + k)).isSome && (fun _ => true) (64 * l + k)) = (fun k => (DT T (64 * l + k)).isSome) from funext (fun k => Bool.and_true _), show (fun i => (Qn T i / 64 == l) && (fun _ => true) (Qn T i)) = (fun i => Qn T i / 64 == l) from funext (fun k => Bool.and_true _)] at h
  exact h
theorem cnt_all (hT : WT T) (hB : T 61 13 < 64) {p : Nat → Bool} : cntN (fun s => (DT T s).isSome && p s) 1024 = cntN (fun i => p (Qn T i)) (LTn T) := by
  rw [cnt_sm, cnt_sm, ← sum_D hT hB (f := fun s => (p s).toNat)]
  apply smN_cong
  intro s _
  cases (DT T s).isSome <;> rfl
theorem sum_flt {p : Nat → Bool} {f : Nat → Nat} : ∀ n, smN (fun j => f (((List.range n).filter p).getD j 0)) ((List.range n).filter p).length = smN (fun a => if p a = true then f a else 0) n
  | 0 => rfl
  | n + 1 => by
    have ih := sum_flt (p := p) (f := f) n
    show _ = smN (fun a => if p a = true then f a else 0) n + (if p n = true then f n else 0)
    rw [← ih, List.range_succ, List.filter_append]
    by_cases e : p n = true
    · rw [show [n].filter p = [n] by simp [e], if_pos e, List.length_append]
      show smN _ (((List.range n).filter p).length + 1) = _
      show smN _ ((List.range n).filter p).length + f (((List.range n).filter p ++ [n]).getD ((List.range n).filter p).length 0) = _
      have hl : ((List.range n).filter p ++ [n]).length = ((List.range n).filter p).length + 1 := by rw [List.length_append]; rfl
      rw [gd_app (by omega), if_pos rfl]
      congr 1
      exact smN_cong (fun t ht => by rw [gd_app (by omega), if_neg (by omega)])
    · rw [show [n].filter p = [] by simp [e], if_neg e, List.append_nil, Nat.add_zero]
theorem sum_mv (hT : WT T) (hB : T 61 13 < 64) {G : Nat → Nat → Nat} : ∀ k, k ≤ LTn T → smN (fun m => G (mF T m) (mA T m)) (fO T k) = smN (fun i => smN (fun a => if opn T a (Qn T i) 0 = true then G i a else 0) (T 61 0)) k
  | 0, _ => rfl
  | k + 1, hk => by
    show _ = smN _ k + smN (fun a => if opn T a (Qn T k) 0 = true then G k a else 0) (T 61 0)
    rw [← sum_mv hT hB k (by omega), fO_s, smN_add, ← sum_flt (p := fun a => opn T a (Qn T k) 0) (f := fun a => G k a)]
    congr 1
    apply smN_cong
    intro j hj
    have hj2 : j < (mvA T (Qn T k)).length := hj
    have h1 := mv_at (show k < LTn T by omega) (List.getElem?_eq_getElem hj2)
    rw [h1.1, h1.2.1]
    congr 1
    show _ = (mvA T (Qn T k)).getD j 0
    rw [List.getD_eq_getElem?_getD, List.getElem?_eq_getElem hj2]; rfl
noncomputable def nxW (T : TK) (W : Nat → Nat) (t k : Nat) : Nat := smN (fun m => if mT T m = t then W (mF T m) else 0) k
theorem cW_z (hT : WT T) (hB : T 61 13 < 64) : ∀ (k s : Nat), DT T s = none → cW T k s = 0
  | 0, s, h => by
    rw [cW, if_neg]
    rintro rfl
    rw [(DT_isD hT hB (fst0 T) 0).mpr ⟨rfl, fun m hm => absurd hm (Nat.not_lt_zero m)⟩] at h
    cases h
  | k + 1, s, h => by
    show smN (roW T (cW T k) s) 1024 = 0
    refine smN_zero (fun u hu => ?_)
    show smN (edW T (cW T k) s u) (T 61 0) = 0
    refine smN_zero (fun a ha => ?_)
    unfold edW
    by_cases e : (opn T a u 0 && nxt T a u == s) = true
    · rw [if_pos e]
      rw [Bool.and_eq_true, beq_iff_eq] at e
      rcases Classical.em (DT T u = none) with q | q
      · exact cW_z hT hB k u q
      · exact absurd h (isD_cl (DT_isD hT hB) q (sx0_mem.mpr ⟨a, ha, e.1, e.2⟩))
    · rw [if_neg e]
theorem nx_cW (hT : WT T) (hB : T 61 13 < 64) {k t : Nat} (ht : t < LTn T) : nxW T (fun i => cW T k (Qn T i)) t (mN T) = cW T (k + 1) (Qn T t) := by
  unfold nxW
  have e1 : smN (fun m => if mT T m = t then cW T k (Qn T (mF T m)) else 0) (mN T) = smN (fun m => (fun i a => if nxt T a (Qn T i) = Qn T t then cW T k (Qn T i) else 0) (mF T m) (mA T m)) (fO T (LTn T)) := smN_cong (fun m hm => by
    have ok := mv_ok hT hB hm
    show (if mT T m = t then cW T k (Qn T (mF T m)) else 0) = if nxt T (mA T m) (Qn T (mF T m)) = Qn T t then cW T k (Qn T (mF T m)) else 0
    by_cases e : mT T m = t
    · rw [if_pos e, if_pos (by rw [← ok.2.2.2.2.2.2, e])]
    · rw [if_neg e, if_neg (fun q => e (mT_of hT hB ht q))])
  rw [e1]
  refine (sum_mv hT hB (G := fun i a => if nxt T a (Qn T i) = Qn T t then cW T k (Qn T i) else 0) (LTn T) (Nat.le_refl _)).trans ?_
  show _ = smN (roW T (cW T k) (Qn T t)) 1024
  have e2 : smN (roW T (cW T k) (Qn T t)) 1024 = smN (fun s => if (DT T s).isSome = true then roW T (cW T k) (Qn T t) s else 0) 1024 := smN_cong (fun s _ => by
    cases h : DT T s with
    | some d => rw [if_pos (show (some d).isSome = true from rfl)]
    | none =>
      rw [if_neg (show ¬ (none : Option Nat).isSome = true by decide)]
      show smN (edW T (cW T k) (Qn T t) s) (T 61 0) = 0
      refine smN_zero (fun a ha => ?_)
      unfold edW
      rw [cW_z hT hB k s h]
      split <;> rfl)
  rw [e2, sum_D hT hB]
  apply smN_cong
  intro i _
  apply smN_cong
  intro a _
  unfold edW
  by_cases e3 : opn T a (Qn T i) 0 = true
  · by_cases e4 : nxt T a (Qn T i) = Qn T t
    · rw [if_pos e3, if_pos e4, if_pos (by rw [e3, e4, beq_self_eq_true]; rfl)]
    · rw [if_pos e3, if_neg e4, if_neg (by rw [e3, beq_eq_false_iff_ne.mpr e4]; decide)]
  · rw [if_neg e3, if_neg (by rw [Bool.eq_false_iff.mpr e3, Bool.false_and]; decide)]
end Q7
