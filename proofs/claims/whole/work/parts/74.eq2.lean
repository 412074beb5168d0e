-- places and states: rows, needs, must
section E2
variable {T : TK} {l : Nat}
noncomputable abbrev nrT (T : TK) (l : Nat) : Option Nat := fdN (fun i => Qn T i / 64 == l) (LTn T)
def VF (T : TK) : Prop := ∀ i, 0 < i → i < LTn T → ∀ m', m' < viT T i → mT T m' < i
theorem gr_VF {M : AM} (hT : WT T) (hB : T 61 13 < 64) (h : GR T M) : VF T := fun _ h0 hi => (gr_via hT hB h h0 hi).2
theorem par_mv (hT : WT T) (hB : T 61 13 < 64) {i : Nat} (h0 : 0 < i) (hi : i < LTn T) : opn T (mA T (viT T i)) (Qn T (par T i)) 0 = true ∧ nxt T (mA T (viT T i)) (Qn T (par T i)) = Qn T i ∧ mA T (viT T i) < T 61 0 := by
  have hv := vi_ok hT hB h0 hi
  have ok := mv_ok hT hB hv.1
  refine ⟨ok.2.2.2.2.1, ?_, ok.2.2.2.1⟩
  have := ok.2.2.2.2.2.2
  rw [hv.2.1] at this
  exact this.symm
theorem gd_tree (hT : WT T) (hB : T 61 13 < 64) {e : Nat} (he : nrT T l = some e) : ∀ r, r ≤ dQ T e → gdN T (DT T) l (dQ T e) r (Qn T (ancT T e r)) = true
  | 0, _ => by
    obtain ⟨h1, h2, -⟩ := fdN_some.mp he
    show (DT T (Qn T e) == some (dQ T e) && Qn T e / 64 == l) = true
    rw [Qn_D hT hB h1, h2, beq_self_eq_true]; rfl
  | r + 1, hr => by
    obtain ⟨h1, -, -⟩ := fdN_some.mp he
    have hA := anc_ok hT hB h1 r (by omega)
    have hp := anc_pos hT hB h1 (r := r) (by omega)
    obtain ⟨q1, q2, q3⟩ := par_mv hT hB hp hA.1
    refine anyN_iff.mpr ⟨mA T (viT T (ancT T e r)), q3, ?_⟩
    show (opn T _ (Qn T (par T (ancT T e r))) 0 && gdN T (DT T) l (dQ T e) r (nxt T _ (Qn T (par T (ancT T e r)))) && DT T (nxt T _ (Qn T (par T (ancT T e r)))) == some (dQ T e - (r + 1) + 1)) = true
    rw [q2, q1, gd_tree hT hB he r (by omega), Qn_D hT hB hA.1, show dQ T (ancT T e r) = dQ T e - (r + 1) + 1 by omega, beq_self_eq_true]; rfl
theorem ord_L (hT : WT T) (hB : T 61 13 < 64) (hV : VF T) {e : Nat} (he : nrT T l = some e) : ∀ (r w : Nat), r ≤ dQ T e → w < LTn T → w < ancT T e r → gdN T (DT T) l (dQ T e) r (Qn T w) = true → False
  | 0, w, _, hw, hlt, hg => by
    obtain ⟨h1, h2, h3⟩ := fdN_some.mp he
    have hg : (DT T (Qn T w) == some (dQ T e) && Qn T w / 64 == l) = true := hg
    rw [Bool.and_eq_true] at hg
    have := h3 w hlt
    rw [hg.2] at this
    cases this
  | r + 1, w, hr, hw, hlt, hg => by
    obtain ⟨h1, -, -⟩ := fdN_some.mp he
    have hA := anc_ok hT hB h1 r (by omega)
    have hp := anc_pos hT hB h1 (r := r) (by omega)
    have hv := vi_ok hT hB hp hA.1
    obtain ⟨a, ha, hga⟩ := anyN_iff.mp hg
    have hga : (opn T a (Qn T w) 0 && gdN T (DT T) l (dQ T e) r (nxt T a (Qn T w)) && DT T (nxt T a (Qn T w)) == some (dQ T e - (r + 1) + 1)) = true := hga
    rw [Bool.and_eq_true, Bool.and_eq_true] at hga
    obtain ⟨m, m1, m2, m3, m4⟩ := mv_of hw ha hga.1.1
    have hm := (mv_sl hw m1 m2).2
    have ok := mv_ok hT hB hm
    have hlt2 : m < viT T (ancT T e r) := Nat.lt_of_not_le (fun q => by
      have := mF_mono hT hB q hm
      rw [m3] at this
      exact absurd (show ancT T e (r + 1) ≤ w from this) (by omega))
    have h5 := hV _ hp hA.1 m hlt2
    have h6 : Qn T (mT T m) = nxt T a (Qn T w) := by rw [ok.2.2.2.2.2.2, m3, m4]
    exact ord_L hT hB hV he r (mT T m) (by omega) ok.2.2.2.2.2.1 h5 (by rw [h6]; exact hga.1.2)
theorem row_eq (hT : WT T) (hB : T 61 13 < 64) (hV : VF T) {e : Nat} (he : nrT T l = some e) : ∀ k, k ≤ dQ T e → rwS T (DT T) l (dQ T e) k = Qn T (ancT T e (dQ T e - k)) ∧ (k < dQ T e → rwA T (DT T) l (dQ T e) k = mA T (viT T (ancT T e (dQ T e - 1 - k)))) := by
  obtain ⟨h1, -, -⟩ := fdN_some.mp he
  have key : ∀ k, k < dQ T e → rwS T (DT T) l (dQ T e) k = Qn T (ancT T e (dQ T e - k)) → rwA T (DT T) l (dQ T e) k = mA T (viT T (ancT T e (dQ T e - 1 - k))) := by
    intro k hk hS
    have hA := anc_ok hT hB h1 (dQ T e - 1 - k) (by omega)
    have hp := anc_pos hT hB h1 (r := dQ T e - 1 - k) (by omega)
    have hv := vi_ok hT hB hp hA.1
    obtain ⟨q1, q2, q3⟩ := par_mv hT hB hp hA.1
    have hpar : par T (ancT T e (dQ T e - 1 - k)) = ancT T e (dQ T e - k) := by rw [show dQ T e - k = dQ T e - 1 - k + 1 by omega]; rfl
    have hu := (anc_ok hT hB h1 (dQ T e - k) (by omega)).1
    rw [hpar] at q1 q2
    unfold rwA
    rw [hS]
    refine ftN_eq q3 ?_ (fun b hb => ?_)
    · unfold gOn
      rw [q2, q1, show dQ T e - (k + 1) = dQ T e - 1 - k by omega, gd_tree hT hB he _ (by omega), Qn_D hT hB hA.1, show dQ T (ancT T e (dQ T e - 1 - k)) = k + 1 by omega, beq_self_eq_true]; rfl
    · rw [Bool.eq_false_iff]
      intro hg
      unfold gOn at hg
      rw [Bool.and_eq_true, Bool.and_eq_true] at hg
      obtain ⟨m, m1, m2, m3, m4⟩ := mv_of hu (show b < T 61 0 by omega) hg.1.1
      have hm := (mv_sl hu m1 m2).2
      have ok := mv_ok hT hB hm
      have okv := mv_ok hT hB hv.1
      have hlt2 : m < viT T (ancT T e (dQ T e - 1 - k)) := Nat.lt_of_not_le (fun q => by
        by_cases q5 : viT T (ancT T e (dQ T e - 1 - k)) = m
        · rw [q5, m4] at hb; omega
        · have f1 : fO T (ancT T e (dQ T e - k)) ≤ viT T (ancT T e (dQ T e - 1 - k)) := by rw [← hpar]; exact okv.2.1
          have := mv_up hu f1 (by omega) m2
          rw [m4] at this
          omega)
      have h5 := hV _ hp hA.1 m hlt2
      have h6 : Qn T (mT T m) = nxt T b (Qn T (ancT T e (dQ T e - k))) := by rw [ok.2.2.2.2.2.2, m3, m4]
      exact ord_L hT hB hV he (dQ T e - 1 - k) (mT T m) (by omega) ok.2.2.2.2.2.1 h5 (by rw [h6, show dQ T e - 1 - k = dQ T e - (k + 1) by omega]; exact hg.1.2)
  intro k
  induction k with
  | zero =>
    intro _
    have hA := anc_ok hT hB h1 (dQ T e) (Nat.le_refl _)
    have h0 : ancT T e (dQ T e) = 0 := (dQ_z hT hB hA.1).mp (by omega)
    have e0 : rwS T (DT T) l (dQ T e) 0 = Qn T (ancT T e (dQ T e - 0)) := by
      rw [Nat.sub_zero, h0]; exact (q_pos hT hB).2.symm
    exact ⟨e0, fun hk => key 0 hk e0⟩
  | succ k ih =>
    intro hk
    obtain ⟨i1, i2⟩ := ih (by omega)
    have hA := anc_ok hT hB h1 (dQ T e - 1 - k) (by omega)
    have hp := anc_pos hT hB h1 (r := dQ T e - 1 - k) (by omega)
    obtain ⟨q1, q2, q3⟩ := par_mv hT hB hp hA.1
    have hpar : par T (ancT T e (dQ T e - 1 - k)) = ancT T e (dQ T e - k) := by rw [show dQ T e - k = dQ T e - 1 - k + 1 by omega]; rfl
    rw [hpar] at q2
    have e0 : rwS T (DT T) l (dQ T e) (k + 1) = Qn T (ancT T e (dQ T e - (k + 1))) := by
      show nxt T (rwA T (DT T) l (dQ T e) k) (rwS T (DT T) l (dQ T e) k) = _
      rw [i2 (by omega), i1, q2, show dQ T e - (k + 1) = dQ T e - 1 - k by omega]
    exact ⟨e0, fun hk2 => key (k + 1) hk2 e0⟩
theorem rch_f (hT : WT T) (hB : T 61 13 < 64) {but un : Option Nat} {ok : Nat → Bool} (hok : ∀ m, m < mN T → ok m = okA T but un (mA T m)) : ∀ (n i : Nat), rch (sP T ok) 0 n i → rch (sux T but un none) (fst0 T) n (Qn T i)
  | 0, i, h => by rw [show i = 0 from h]; exact (q_pos hT hB).2
  | n + 1, i, ⟨u, h1, h2⟩ => by
    have hu := rch_lt hT hB (q_pos hT hB).1 h1
    obtain ⟨m, m1, m2, m3, m4⟩ := sP_m.mp h2
    obtain ⟨m5, m6⟩ := mv_sl hu m1 m2
    have ok1 := mv_ok hT hB m6
    refine ⟨_, rch_f hT hB hok n u h1, sux_mem.mpr ⟨mA T m, ok1.2.2.2.1, by rw [← hok m m6]; exact m3, ?_, ?_⟩⟩
    · rw [← m5]; exact ok1.2.2.2.2.1
    · rw [← m5, ← ok1.2.2.2.2.2.2, m4]
theorem rch_b (hT : WT T) (hB : T 61 13 < 64) {but un : Option Nat} {ok : Nat → Bool} (hok : ∀ m, m < mN T → ok m = okA T but un (mA T m)) : ∀ (n s : Nat), rch (sux T but un none) (fst0 T) n s → ∃ i, i < LTn T ∧ Qn T i = s ∧ rch (sP T ok) 0 n i
  | 0, s, h => ⟨0, (q_pos hT hB).1, (q_pos hT hB).2.trans (show s = fst0 T from h).symm, rfl⟩
  | n + 1, s, ⟨u, h1, h2⟩ => by
    obtain ⟨i, hi, hq, hr⟩ := rch_b hT hB hok n u h1
    obtain ⟨a, ha, hoa, ho, hx⟩ := sux_mem.mp h2
    rw [← hq] at ho hx
    obtain ⟨m, m1, m2, m3, m4⟩ := mv_of hi ha ho
    have hm := (mv_sl hi m1 m2).2
    have ok1 := mv_ok hT hB hm
    exact ⟨mT T m, ok1.2.2.2.2.2.1, by rw [ok1.2.2.2.2.2.2, m3, m4]; exact hx, i, hr, sP_m.mpr ⟨m, m1, m2, by rw [hok m hm, m4]; exact hoa, rfl⟩⟩
theorem few_x (hT : WT T) (hB : T 61 13 < 64) (hl : l < 16) {but un : Option Nat} {ok : Nat → Bool} (hok : ∀ m, m < mN T → ok m = okA T but un (mA T m)) : (∃ n i, rch (sP T ok) 0 n i ∧ Qn T i / 64 = l) ↔ (fewN (bfs (sux T but un none) (fst0 T) 1024).2 (64 * l) 64).isNone = false := by
  have hD := bfs_isD (succ := sux T but un none) (fst0_lt hT hB) (sux_lt hT)
  have e : (fewN (bfs (sux T but un none) (fst0 T) 1024).2 (64 * l) 64).isNone = false ↔ ¬ fewN (bfs (sux T but un none) (fst0 T) 1024).2 (64 * l) 64 = none := by
    cases fewN (bfs (sux T but un none) (fst0 T) 1024).2 (64 * l) 64 <;> simp
  rw [e, fewN_om, omN_none]
  constructor
  · rintro ⟨n, i, h1, h2⟩ h3
    have hi := rch_lt hT hB (q_pos hT hB).1 h1
    have h4 := rch_f hT hB hok n i h1
    obtain ⟨n0, h5, h6⟩ := pk_least _ (show ∃ n, rch (sux T but un none) (fst0 T) n (Qn T i) from ⟨n, h4⟩)
    have h7 := (hD _ n0).mpr ⟨h5, h6⟩
    have h8 := h3 (Qn T i % 64) (Nat.mod_lt _ (by decide))
    rw [show 64 * l + Qn T i % 64 = Qn T i by omega, h7] at h8
    cases h8
  · intro h
    obtain ⟨k, hk⟩ := Classical.not_forall.mp h
    obtain ⟨hk1, hk2⟩ := Classical.not_imp.mp hk
    obtain ⟨d, hd⟩ := Option.ne_none_iff_exists'.mp hk2
    obtain ⟨i, hi, hq, hr⟩ := rch_b hT hB hok d _ ((hD _ d).mp hd).1
    exact ⟨d, i, hr, by rw [hq]; omega⟩
theorem tree_av (hT : WT T) (hB : T 61 13 < 64) {ok : Nat → Bool} {e : Nat} (he : e < LTn T) (h : ∀ r, r < dQ T e → ok (viT T (ancT T e r)) = true) : ∀ r, r ≤ dQ T e → rch (sP T ok) (ancT T e r) r e
  | 0, _ => rfl
  | r + 1, hr => by
    have hA := anc_ok hT hB he r (by omega)
    have hp := anc_pos hT hB he (r := r) (by omega)
    have hv := vi_ok hT hB hp hA.1
    have okv := mv_ok hT hB hv.1
    refine rch_cons.mpr ⟨ancT T e r, sP_m.mpr ⟨viT T (ancT T e r), okv.2.1, okv.2.2.1, h r (by omega), hv.2.1⟩, tree_av hT hB he h r (by omega)⟩
theorem rs_bit {e a : Nat} (h : ¬ (rsA T (some e)).testBit a = true) : ∀ r, r < dQ T e → mA T (viT T (ancT T e r)) ≠ a := fun r hr q => h (orF_bit.mpr ⟨r, hr, rfl, by rw [q, Nat.one_mul, Nat.testBit_two_pow, decide_eq_true rfl]⟩)
/-- an answer that is not in the shortest row isn't needed -/
theorem must_c (hT : WT T) (hB : T 61 13 < 64) (hl : l < 16) {e a : Nat} (he : nrT T l = some e) (h : ¬ (rsA T (some e)).testBit a = true) : mstB T l a = false := by
  obtain ⟨h1, h2, -⟩ := fdN_some.mp he
  have hok : ∀ m, m < mN T → (fun m => !(some a == some (mA T m))) m = okA T (some a) none (mA T m) := fun m _ => (Bool.and_true _).symm
  have h3 := tree_av (ok := fun m => !(some a == some (mA T m))) hT hB h1 (fun r hr => by
    have := rs_bit h r hr
    show (!(some a == some (mA T (viT T (ancT T e r))))) = true
    rw [Bool.not_eq_true', beq_eq_false_iff_ne]
    exact fun q => this (Option.some.inj q).symm) (dQ T e) (Nat.le_refl _)
  have hA := anc_ok hT hB h1 (dQ T e) (Nat.le_refl _)
  rw [(dQ_z hT hB hA.1).mp (by omega)] at h3
  unfold mstB DB
  exact (few_x hT hB hl hok).mp ⟨_, e, h3, beq_iff_eq.mp h2⟩
theorem must_n (hT : WT T) (hB : T 61 13 < 64) (hl : l < 16) {a : Nat} (he : nrT T l = none) : mstB T l a = true := by
  unfold mstB DB
  have hok : ∀ m, m < mN T → (fun m => !(some a == some (mA T m))) m = okA T (some a) none (mA T m) := fun m _ => (Bool.and_true _).symm
  cases h : (fewN (bfs (sux T (some a) none none) (fst0 T) 1024).2 (64 * l) 64).isNone with
  | true => rfl
  | false =>
    obtain ⟨n, i, h1, h2⟩ := (few_x hT hB hl hok).mpr h
    have hi := rch_lt hT hB (q_pos hT hB).1 h1
    have := fdN_none.mp he i hi
    rw [h2, beq_self_eq_true] at this
    cases this
end E2
