-- what is read, as a picture at addresses
def dom (P : TK) (k j : Nat) : Prop := (k = 61 ∧ j < 4) ∨ (((62 ≤ k ∧ k ≤ 65) ∨ (68 ≤ k ∧ k ≤ 69)) ∧ j < P 61 0) ∨ ((k = 66 ∨ k = 67) ∧ ∃ a r, a < P 61 0 ∧ r < P 65 a ∧ j = 3 * a + r)
def Inj (A : Nat → Nat → Nat × Nat) : Prop := ∀ k j k' j', 61 ≤ k → k ≤ 69 → 61 ≤ k' → k' ≤ 69 → (A k j).1 = (A k' j').1 → (A k j).2 = (A k' j').2 → k = k' ∧ j = j'
def RPd (A : Nat → Nat → Nat × Nat) (D : Nat → Nat → Prop) (P : TK) (M : AM) : Prop := ∀ k j, D k j → 61 ≤ k ∧ k ≤ 69 ∧ M.1 (A k j).1 (A k j).2 = nI (P k j)
section RPs
variable {A : Nat → Nat → Nat × Nat} {D D' : Nat → Nat → Prop} {P : TK} {M : AM}
theorem rp_sub (h : RPd A D P M) (hs : ∀ k j, D' k j → D k j) : RPd A D' P M := fun k j hd => h k j (hs k j hd)
theorem rp_up (hA : Inj A) (h : RPd A D P M) {k j v : Nat} (h1 : 61 ≤ k) (h2 : k ≤ 69) : RPd A (fun k' j' => D k' j' ∨ (k' = k ∧ j' = j)) (upT P k j v) (sI M (A k j).1 (A k j).2 (nI v)) := by
  intro k' j' hd
  by_cases e : k' = k ∧ j' = j
  · rw [e.1, e.2, sI_s, upT_at]
    exact ⟨h1, h2, rfl⟩
  · have hd' : D k' j' := hd.elim id (fun h => absurd h e)
    obtain ⟨g1, g2, g3⟩ := h k' j' hd'
    refine ⟨g1, g2, ?_⟩
    rw [upT_ne e, sI_o (fun h => e (hA k' j' k j g1 g2 h1 h2 h.1 h.2))]
    exact g3
theorem dom_b {k j : Nat} (h : dom P k j) : 61 ≤ k ∧ k ≤ 69 := by
  unfold dom at h
  rcases h with h | h | ⟨h, -⟩ <;> omega
theorem dom_up {k j v k' j' : Nat} (h0 : ¬ (k = 61 ∧ j = 0)) (h5 : k ≠ 65) (h : dom (upT P k j v) k' j') : dom P k' j' := by
  unfold dom at h ⊢
  rw [upT_ne (a := 61) (b := 0) (fun e => h0 ⟨e.1.symm, e.2.symm⟩)] at h
  rcases h with h | h | ⟨h, a, r, h1, h2, h3⟩
  · exact Or.inl h
  · exact Or.inr (Or.inl h)
  · rw [upT_ne (fun e => h5 e.1.symm)] at h2
    exact Or.inr (Or.inr ⟨h, a, r, h1, h2, h3⟩)
theorem rp_set (hA : Inj A) (h : RPd A (dom P) P M) {k j v : Nat} (h1 : 61 ≤ k) (h2 : k ≤ 69) (h0 : ¬ (k = 61 ∧ j = 0)) (h5 : k ≠ 65) : RPd A (dom (upT P k j v)) (upT P k j v) (sI M (A k j).1 (A k j).2 (nI v)) :=
  rp_sub (rp_up hA h h1 h2) (fun _ _ hd => Or.inl (dom_up h0 h5 hd))
end RPs
theorem upT_id {P : TK} {k j : Nat} : upT P k j (P k j) = P := by
  funext a b
  unfold upT
  split
  · rename_i h; rw [h.1, h.2]
  · rfl
theorem or_b {x y : Nat} (hx : x < 65536) (hy : y < 65536) : x ||| y < 65536 := Nat.or_lt_two_pow (n := 16) hx hy
theorem p2_16 {l : Nat} (h : l < 16) : 2 ^ l < 65536 := Nat.pow_lt_pow_right (a := 2) (n := 16) (by decide) h
theorem p2_64 {l : Nat} (h : l < 6) : 2 ^ l < 64 := Nat.pow_lt_pow_right (a := 2) (n := 6) (by decide) h
theorem sMk_lt (c : Nat) : sMk c < 64 := by unfold sMk; split; exact p2_64 (by omega); decide
theorem gMk_lt (c : Nat) : gMk c < 64 := by unfold gMk; split; exact p2_64 (by omega); decide
section WTs
variable {P : TK}
theorem wt_set (h : WT P) {k j v : Nat} (h0 : k ≠ 61) (h5 : k ≠ 65) (h7 : k ≠ 70) (c2 : k = 62 → v < 16) (c3 : k = 63 → v < 16) (c4 : k = 64 → v ≤ 9) (c6 : k = 66 → v < 64) (c7 : k = 67 → v < 64) (c8 : k = 68 → v < 64 ∧ v &&& P 69 j = 0) (c9 : k = 69 → v < 64 ∧ P 68 j &&& v = 0) : WT (upT P k j v) := by
  have e6 : ∀ i, upT P k j v 61 i = P 61 i := fun i => upT_ne (fun e => h0 e.1.symm)
  have e5 : ∀ i, upT P k j v 65 i = P 65 i := fun i => upT_ne (fun e => h5 e.1.symm)
  have e7 : ∀ i, upT P k j v 70 i = P 70 i := fun i => upT_ne (fun e => h7 e.1.symm)
  unfold WT
  simp only [e6, e5, e7]
  refine ⟨h.1, h.2.1, h.2.2.1, h.2.2.2.1, fun a ha => ?_⟩
  obtain ⟨⟨j1, j2, j3, j4, j5, j6, j7, j8⟩, j9⟩ := h.2.2.2.2 a ha
  have up : ∀ k' b, (k' = k ∧ b = j ∧ upT P k j v k' b = v) ∨ (¬ (k' = k ∧ b = j) ∧ upT P k j v k' b = P k' b) := fun k' b => by
    by_cases e : k' = k ∧ b = j
    · exact Or.inl ⟨e.1, e.2, by rw [e.1, e.2, upT_at]⟩
    · exact Or.inr ⟨e, upT_ne e⟩
  refine ⟨⟨?_, ?_, ?_, j4, ?_, ?_, ?_, j8⟩, fun r hr => ⟨?_, ?_⟩⟩
  · rcases up 62 a with ⟨e1, e2, e3⟩ | ⟨e1, e3⟩ <;> rw [e3]; exact c2 e1.symm; exact j1
  · rcases up 63 a with ⟨e1, e2, e3⟩ | ⟨e1, e3⟩ <;> rw [e3]; exact c3 e1.symm; exact j2
  · rcases up 64 a with ⟨e1, e2, e3⟩ | ⟨e1, e3⟩ <;> rw [e3]; exact c4 e1.symm; exact j3
  · rcases up 68 a with ⟨e1, e2, e3⟩ | ⟨e1, e3⟩ <;> rw [e3]; exact (c8 e1.symm).1; exact j5
  · rcases up 69 a with ⟨e1, e2, e3⟩ | ⟨e1, e3⟩ <;> rw [e3]; exact (c9 e1.symm).1; exact j6
  · rcases up 68 a with ⟨e1, e2, e3⟩ | ⟨e1, e3⟩
    · rw [e3, upT_ne (by omega), e2]; exact (c8 e1.symm).2
    · rcases up 69 a with ⟨f1, f2, f3⟩ | ⟨f1, f3⟩
      · rw [e3, f3, f2]; exact (c9 f1.symm).2
      · rw [e3, f3]; exact j7
  · rcases up 66 (3 * a + r) with ⟨e1, e2, e3⟩ | ⟨e1, e3⟩ <;> rw [e3]; exact c6 e1.symm; exact (j9 r hr).1
  · rcases up 67 (3 * a + r) with ⟨e1, e2, e3⟩ | ⟨e1, e3⟩ <;> rw [e3]; exact c7 e1.symm; exact (j9 r hr).2
theorem wt_61 (h : WT P) {j v : Nat} (h0 : j ≠ 0) (c1 : j = 1 → v < 65536) (c2 : j = 2 → v < 65536) (c3 : j = 3 → v < 16) : WT (upT P 61 j v) := by
  have e : ∀ k i, k ≠ 61 → upT P 61 j v k i = P k i := fun k i hk => upT_ne (fun e => hk e.1)
  have e0 : upT P 61 j v 61 0 = P 61 0 := upT_ne (fun e => h0 e.2.symm)
  have up : ∀ b, (b = j ∧ upT P 61 j v 61 b = v) ∨ (¬ b = j ∧ upT P 61 j v 61 b = P 61 b) := fun b => by
    by_cases e : b = j
    · exact Or.inl ⟨e, by rw [e, upT_at]⟩
    · exact Or.inr ⟨e, upT_ne (fun h => e h.2)⟩
  unfold WT
  rw [e0]
  refine ⟨h.1, ?_, ?_, ?_, ?_⟩
  · rcases up 1 with ⟨e1, e3⟩ | ⟨e1, e3⟩ <;> rw [e3]; exact c1 e1.symm; exact h.2.1
  · rcases up 2 with ⟨e1, e3⟩ | ⟨e1, e3⟩ <;> rw [e3]; exact c2 e1.symm; exact h.2.2.1
  · rcases up 3 with ⟨e1, e3⟩ | ⟨e1, e3⟩ <;> rw [e3]; exact c3 e1.symm; exact h.2.2.2.1
  · simp only [e _ _ (show (62 : Nat) ≠ 61 by decide), e _ _ (show (63 : Nat) ≠ 61 by decide), e _ _ (show (64 : Nat) ≠ 61 by decide), e _ _ (show (65 : Nat) ≠ 61 by decide), e _ _ (show (66 : Nat) ≠ 61 by decide), e _ _ (show (67 : Nat) ≠ 61 by decide), e _ _ (show (68 : Nat) ≠ 61 by decide), e _ _ (show (69 : Nat) ≠ 61 by decide), e _ _ (show (70 : Nat) ≠ 61 by decide)]
    exact h.2.2.2.2
theorem wt_nmL (h : WT P) {l : Nat} (hl : l < 16) : WT (nmL P l) :=
  wt_61 (wt_61 h (by decide) (fun e => absurd e (by decide)) (fun e => absurd e (by decide)) (fun _ => by split; exact hl; exact h.2.2.2.1)) (by decide) (fun _ => or_b h.2.1 (p2_16 hl)) (fun e => absurd e (by decide)) (fun e => absurd e (by decide))
theorem wt_or2 (h : WT P) {l : Nat} (hl : l < 16) : WT (orT P 61 2 (2 ^ l)) :=
  wt_61 h (by decide) (fun e => absurd e (by decide)) (fun _ => or_b h.2.2.1 (p2_16 hl)) (fun e => absurd e (by decide))
theorem wt_opA (h : WT P) (h3 : P 65 (P 61 0 - 1) < 3) : WT (opA P) := by
  have hW : WT (upT (upT P 66 (3 * (P 61 0 - 1) + P 65 (P 61 0 - 1)) 0) 67 (3 * (P 61 0 - 1) + P 65 (P 61 0 - 1)) 0) := wt_set (wt_set h (by decide) (by decide) (by decide) (by omega) (by omega) (by omega) (fun _ => by decide) (by omega) (by omega) (by omega)) (by decide) (by decide) (by decide) (by omega) (by omega) (by omega) (by omega) (fun _ => by decide) (by omega) (by omega)
  have e0 : opA P 61 0 = P 61 0 := by unfold opA; rw [upT_ne (by omega), upT_ne (by omega), upT_ne (by omega)]
  have ek : ∀ k j, k ≠ 65 → opA P k j = upT (upT P 66 (3 * (P 61 0 - 1) + P 65 (P 61 0 - 1)) 0) 67 (3 * (P 61 0 - 1) + P 65 (P 61 0 - 1)) 0 k j := fun k j hk => by unfold opA; rw [upT_ne (fun e => hk e.1)]
  have e6 : ∀ j, opA P 61 j = P 61 j := fun j => by rw [ek _ _ (by decide), upT_ne (by omega), upT_ne (by omega)]
  unfold WT
  simp only [e6]
  refine ⟨h.1, h.2.1, h.2.2.1, h.2.2.2.1, fun a ha => ?_⟩
  obtain ⟨⟨j1, j2, j3, j4, j5, j6, j7, j8⟩, j9⟩ := h.2.2.2.2 a ha
  have eo : ∀ k j, k ≠ 65 → k ≠ 66 → k ≠ 67 → opA P k j = P k j := fun k j h1 h2 h3 => by rw [ek k j h1, upT_ne (fun e => h3 e.1), upT_ne (fun e => h2 e.1)]
  rw [eo 62 _ (by decide) (by decide) (by decide), eo 63 _ (by decide) (by decide) (by decide), eo 64 _ (by decide) (by decide) (by decide), eo 68 _ (by decide) (by decide) (by decide), eo 69 _ (by decide) (by decide) (by decide), eo 70 _ (by decide) (by decide) (by decide)]
  have e5 : opA P 65 a ≤ 3 := by
    unfold opA
    by_cases e : a = P 61 0 - 1
    · rw [e, upT_at]; omega
    · rw [upT_ne (fun h => e h.2), upT_ne (by omega), upT_ne (by omega)]; exact j4
  refine ⟨⟨j1, j2, j3, e5, j5, j6, j7, j8⟩, fun r hr => ?_⟩
  rw [ek 66 _ (by decide), ek 67 _ (by decide)]
  by_cases e : 3 * a + r = 3 * (P 61 0 - 1) + P 65 (P 61 0 - 1)
  · rw [e, upT_ne (by omega), upT_at, upT_at]; exact ⟨by decide, by decide⟩
  · rw [upT_ne (by omega), upT_ne (fun h => e h.2), upT_ne (fun h => e h.2), upT_ne (by omega)]
    apply j9
    unfold opA at hr
    by_cases e2 : a = P 61 0 - 1
    · rw [e2, upT_at] at hr; rw [e2] at e ⊢; omega
    · rw [upT_ne (fun h => e2 h.2), upT_ne (by omega), upT_ne (by omega)] at hr; exact hr
theorem alI_lt {a : Nat} (ha : P 61 0 = a + 1) (h1 : 0 < P 65 a) : alI P = 3 * a + (P 65 a - 1) := by unfold alI; rw [ha, Nat.add_sub_cancel]; omega
theorem wt_asM (h : WT P) {a c : Nat} (ha : P 61 0 = a + 1) (h1 : 0 < P 65 a) : WT (asM P c) := by
  have hi := alI_lt ha h1
  obtain ⟨-, hb⟩ := h.2.2.2.2 a (by omega)
  have h2 := hb (P 65 a - 1) (by omega)
  rw [← hi] at h2
  unfold asM orT
  exact wt_set (wt_set h (by decide) (by decide) (by decide) (by omega) (by omega) (by omega) (fun _ => or_64 h2.1 (sMk_lt c)) (by omega) (by omega) (by omega)) (by decide) (by decide) (by decide) (by omega) (by omega) (by omega) (by omega) (fun _ => or_64 (by rw [upT_ne (by omega)]; exact h2.2) (gMk_lt c)) (by omega) (by omega)
theorem and_or0 {x y s g : Nat} (h1 : x &&& y = 0) (h2 : (x ||| y) &&& (s ||| g) = 0) : (x ||| s) &&& y = 0 ∧ (s &&& g = 0 → (x ||| s) &&& (y ||| g) = 0) := by
  have b1 : ∀ i, (x.testBit i && y.testBit i) = false := fun i => by rw [← Nat.testBit_and, h1, Nat.zero_testBit]
  have b2 : ∀ i, ((x.testBit i || y.testBit i) && (s.testBit i || g.testBit i)) = false := fun i => by rw [← Nat.testBit_or, ← Nat.testBit_or, ← Nat.testBit_and, h2, Nat.zero_testBit]
  refine ⟨Nat.eq_of_testBit_eq (fun i => ?_), fun h3 => Nat.eq_of_testBit_eq (fun i => ?_)⟩
  · have q1 := b1 i
    have q2 := b2 i
    rw [Nat.testBit_and, Nat.testBit_or, Nat.zero_testBit]
    revert q1 q2
    cases x.testBit i <;> cases y.testBit i <;> cases s.testBit i <;> cases g.testBit i <;> decide
  · have b3 : (s.testBit i && g.testBit i) = false := by rw [← Nat.testBit_and, h3, Nat.zero_testBit]
    have q1 := b1 i
    have q2 := b2 i
    rw [Nat.testBit_and, Nat.testBit_or, Nat.testBit_or, Nat.zero_testBit]
    revert q1 q2 b3
    cases x.testBit i <;> cases y.testBit i <;> cases s.testBit i <;> cases g.testBit i <;> decide
theorem sg_0 (c : Nat) : sMk c &&& gMk c = 0 := by
  unfold sMk gMk
  by_cases h : 113 ≤ c ∧ c ≤ 118
  · rw [if_neg (show ¬ (81 ≤ c ∧ c ≤ 86) by omega), Nat.and_zero]
  · rw [if_neg h, Nat.zero_and]
theorem wt_chM (h : WT P) {a c : Nat} (ha : P 61 0 = a + 1) (h2 : (P 68 a ||| P 69 a) &&& (sMk c ||| gMk c) = 0) : WT (chM P c) := by
  obtain ⟨j1, j2, j3, j4, j5, j6, j7, j8⟩ := wt_a h (show a < P 61 0 by omega)
  obtain ⟨k1, k2⟩ := and_or0 j7 h2
  unfold chM orT
  rw [ha, Nat.add_sub_cancel]
  exact wt_set (wt_set h (by decide) (by decide) (by decide) (by omega) (by omega) (by omega) (by omega) (by omega) (fun _ => ⟨or_64 j5 (sMk_lt c), k1⟩) (by omega)) (by decide) (by decide) (by decide) (by omega) (by omega) (by omega) (by omega) (by omega) (by omega) (fun _ => by rw [upT_ne (k := 68) (by omega), upT_at]; exact ⟨or_64 j6 (gMk_lt c), k2 (sg_0 c)⟩)
theorem wt_adA (h : WT P) {l : Nat} (hm : P 61 0 < 32) (hl : l < 16) (h70 : ∀ a, P 70 a ≤ 1) : WT (adA P l) := by
  have e6 : ∀ j, j ≠ 0 → adA P l 61 j = P 61 j := fun j hj => by unfold adA; rw [upT_ne (fun e => hj e.2), upT_ne (by omega), upT_ne (by omega), upT_ne (by omega), upT_ne (by omega), upT_ne (by omega), upT_ne (by omega)]
  have e0 : adA P l 61 0 = P 61 0 + 1 := by unfold adA; rw [upT_at]
  have eo : ∀ k j, j ≠ P 61 0 → k ≠ 61 → adA P l k j = P k j := fun k j hj hk => by unfold adA; rw [upT_ne (fun e => hk e.1), upT_ne (fun e => hj e.2), upT_ne (fun e => hj e.2), upT_ne (fun e => hj e.2), upT_ne (fun e => hj e.2), upT_ne (fun e => hj e.2), upT_ne (fun e => hj e.2)]
  have er : ∀ k j, (k = 66 ∨ k = 67 ∨ k = 70) → adA P l k j = P k j := fun k j hk => by unfold adA; rw [upT_ne (by omega), upT_ne (by omega), upT_ne (by omega), upT_ne (by omega), upT_ne (by omega), upT_ne (by omega), upT_ne (by omega)]
  unfold WT
  rw [e0, e6 1 (by decide), e6 2 (by decide), e6 3 (by decide)]
  refine ⟨by omega, h.2.1, h.2.2.1, h.2.2.2.1, fun a ha => ?_⟩
  by_cases e : a = P 61 0
  · have k2 : adA P l 62 a = l := by unfold adA; rw [e, upT_ne (by omega), upT_ne (by omega), upT_ne (by omega), upT_ne (by omega), upT_ne (by omega), upT_ne (by omega), upT_at]
    have k3 : adA P l 63 a = l := by unfold adA; rw [e, upT_ne (by omega), upT_ne (by omega), upT_ne (by omega), upT_ne (by omega), upT_ne (by omega), upT_at]
    have k4 : adA P l 64 a = 0 := by unfold adA; rw [e, upT_ne (by omega), upT_ne (by omega), upT_ne (by omega), upT_ne (by omega), upT_at]
    have k5 : adA P l 65 a = 0 := by unfold adA; rw [e, upT_ne (by omega), upT_ne (by omega), upT_ne (by omega), upT_at]
    have k8 : adA P l 68 a = 0 := by unfold adA; rw [e, upT_ne (by omega), upT_ne (by omega), upT_at]
    have k9 : adA P l 69 a = 0 := by unfold adA; rw [e, upT_ne (by omega), upT_at]
    rw [k2, k3, k4, k5, k8, k9, er 70 a (by omega)]
    exact ⟨⟨hl, hl, by decide, by decide, by decide, by decide, by decide, h70 a⟩, fun r hr => absurd hr (by omega)⟩
  · rw [eo 62 a e (by decide), eo 63 a e (by decide), eo 64 a e (by decide), eo 65 a e (by decide), eo 68 a e (by decide), eo 69 a e (by decide), er 70 a (by omega)]
    simp only [er _ _ (show (66 : Nat) = 66 ∨ 66 = 67 ∨ 66 = 70 by omega), er _ _ (show (67 : Nat) = 66 ∨ 67 = 67 ∨ 67 = 70 by omega)]
    exact h.2.2.2.2 a (by omega)
end WTs
/-- only what the reading uses is changed -/
def PF (M M' : AM) : Prop := Sb [61, 76, 77, 78] M M' ∧ ∀ j, j < 23 ∨ 31 < j → M'.1 61 j = M.1 61 j
theorem PF.rf {M : AM} : PF M M := ⟨Sb.rf, fun _ _ => rfl⟩
theorem PF.tr {M M' M'' : AM} (h1 : PF M M') (h2 : PF M' M'') : PF M M'' := ⟨h1.1.tr h2.1, fun j hj => (h2.2 j hj).trans (h1.2 j hj)⟩
theorem PF.i {M M' : AM} {k j : Nat} {x : Int32} (h : PF M M') (hk : k = 76 ∨ k = 77 ∨ k = 78 ∨ (k = 61 ∧ 28 ≤ j ∧ j ≤ 31)) : PF M (sI M' k j x) :=
  h.tr ⟨Sb.i (by simp; omega), fun i hi => sI_o (by omega)⟩
theorem rt_pf {T : TK} {M M' : AM} (h : RT T M) (hf : PF M M') : RT T M' := ⟨h.1, (hf.2 21 (by decide)).trans h.2.1, fun i hi => (congrFun (hf.1 75 (by decide)).1 i).trans (h.2.2 i hi)⟩
/-- where the model keeps what it reads -/
def aM (k j : Nat) : Nat × Nat := if k = 61 then (61, 28 + j) else if k = 66 then (77, j) else if k = 67 then (78, j) else if k < 66 then (76, 6 * j + (k - 62)) else (76, 6 * j + (k - 64))
theorem aM_inj : Inj aM := by
  intro k j k' j' h1 h2 h3 h4 h5 h6
  unfold aM at h5 h6
  (repeat' split at h5) <;> (first | (simp at h5; done) | skip) <;> (repeat' split at h6) <;> (first | (simp at h6; omega) | omega)
def RPm (P : TK) (M : AM) : Prop := RPd aM (dom P) P M ∧ WT P ∧ ∀ a, P 70 a ≤ 1
abbrev PO (T : TK) (res : Nat × Nat × TK) (part lc : Nat) (K : TK → Nat → Prop) (M : AM) : Option Value → AM → Prop := fun v M' => v = none ∧ ∃ M1 q b, M' = AB M1 q b ∧ PF M M1 ∧ ((b = 0 ∧ q ≤ T 61 21 ∧ ∃ P, RPm P M1 ∧ rn T q (part, lc, P) = res ∧ K P q) ∨ FL T res q b)
