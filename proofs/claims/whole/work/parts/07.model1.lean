-- the model: its talk as a picture of natural numbers; guards, open answers, what is next
abbrev TK : Type := Nat → Nat → Nat
/-- a talk: 61: 0 many, 1 there, 2 endings, 3 start; 62 from, 63 to, 64 cost, 65 alternatives, 66 wants, 67 bars, 68 lays, 69 takes, 70 cut -/
def WT (T : TK) : Prop := T 61 0 ≤ 32 ∧ T 61 1 < 65536 ∧ T 61 2 < 65536 ∧ T 61 3 < 16 ∧ ∀ a, a < T 61 0 → (T 62 a < 16 ∧ T 63 a < 16 ∧ T 64 a ≤ 9 ∧ T 65 a ≤ 3 ∧ T 68 a < 64 ∧ T 69 a < 64 ∧ T 68 a &&& T 69 a = 0 ∧ T 70 a ≤ 1) ∧ ∀ k, k < T 65 a → T 66 (3 * a + k) < 64 ∧ T 67 (3 * a + k) < 64
def RM (T : TK) (M : AM) : Prop := (∀ j, j < 4 → M.1 61 j = nI (T 61 j)) ∧ (∀ a, a < T 61 0 → ∀ i, i < 9 → i ≠ 4 → i ≠ 5 → M.1 (62 + i) a = nI (T (62 + i) a)) ∧ (∀ a, a < T 61 0 → ∀ k, k < T 65 a → M.1 66 (3 * a + k) = nI (T 66 (3 * a + k)) ∧ M.1 67 (3 * a + k) = nI (T 67 (3 * a + k))) ∧ WT T
theorem rm_many {T : TK} {M : AM} (hR : RM T M) : M.1 61 0 = nI (T 61 0) := hR.1 0 (by decide)
theorem rm_there {T : TK} {M : AM} (hR : RM T M) : M.1 61 1 = nI (T 61 1) := hR.1 1 (by decide)
theorem rm_endings {T : TK} {M : AM} (hR : RM T M) : M.1 61 2 = nI (T 61 2) := hR.1 2 (by decide)
theorem rm_start {T : TK} {M : AM} (hR : RM T M) : M.1 61 3 = nI (T 61 3) := hR.1 3 (by decide)
theorem rm_from {T : TK} {M : AM} (hR : RM T M) {a : Nat} (ha : a < T 61 0) : M.1 62 a = nI (T 62 a) := hR.2.1 a ha 0 (by decide) (by decide) (by decide)
theorem rm_to {T : TK} {M : AM} (hR : RM T M) {a : Nat} (ha : a < T 61 0) : M.1 63 a = nI (T 63 a) := hR.2.1 a ha 1 (by decide) (by decide) (by decide)
theorem rm_cost {T : TK} {M : AM} (hR : RM T M) {a : Nat} (ha : a < T 61 0) : M.1 64 a = nI (T 64 a) := hR.2.1 a ha 2 (by decide) (by decide) (by decide)
theorem rm_alts {T : TK} {M : AM} (hR : RM T M) {a : Nat} (ha : a < T 61 0) : M.1 65 a = nI (T 65 a) := hR.2.1 a ha 3 (by decide) (by decide) (by decide)
theorem rm_lays {T : TK} {M : AM} (hR : RM T M) {a : Nat} (ha : a < T 61 0) : M.1 68 a = nI (T 68 a) := hR.2.1 a ha 6 (by decide) (by decide) (by decide)
theorem rm_takes {T : TK} {M : AM} (hR : RM T M) {a : Nat} (ha : a < T 61 0) : M.1 69 a = nI (T 69 a) := hR.2.1 a ha 7 (by decide) (by decide) (by decide)
theorem rm_cutN {T : TK} {M : AM} (hR : RM T M) {a : Nat} (ha : a < T 61 0) : M.1 70 a = nI (T 70 a) := hR.2.1 a ha 8 (by decide) (by decide) (by decide)
theorem rm_wants {T : TK} {M : AM} (hR : RM T M) {a k : Nat} (ha : a < T 61 0) (hk : k < T 65 a) : M.1 66 (3 * a + k) = nI (T 66 (3 * a + k)) := (hR.2.2.1 a ha k hk).1
theorem rm_bars {T : TK} {M : AM} (hR : RM T M) {a k : Nat} (ha : a < T 61 0) (hk : k < T 65 a) : M.1 67 (3 * a + k) = nI (T 67 (3 * a + k)) := (hR.2.2.1 a ha k hk).2
theorem rm_wt {T : TK} {M : AM} (hR : RM T M) : WT T := hR.2.2.2
theorem rm_32 {T : TK} {M : AM} (hR : RM T M) : T 61 0 ≤ 32 := hR.2.2.2.1
theorem wt_a {T : TK} (h : WT T) {a : Nat} (ha : a < T 61 0) : T 62 a < 16 ∧ T 63 a < 16 ∧ T 64 a ≤ 9 ∧ T 65 a ≤ 3 ∧ T 68 a < 64 ∧ T 69 a < 64 ∧ T 68 a &&& T 69 a = 0 ∧ T 70 a ≤ 1 := (h.2.2.2.2 a ha).1
theorem rm_cut {T : TK} {M : AM} (h : RM T M) {a : Nat} (ha : a < T 61 0) : M.1 70 a = bI (T 70 a == 1) := by
  rw [rm_cutN h ha]
  have h1 := (wt_a (rm_wt h) ha).2.2.2.2.2.2.2
  rcases (show T 70 a = 0 ∨ T 70 a = 1 by omega) with e | e <;> rw [e] <;> rfl
def anyN (f : Nat → Bool) : Nat → Bool
  | 0 => false
  | n + 1 => anyN f n || f n
theorem anyN_iff {f : Nat → Bool} : ∀ {n : Nat}, anyN f n = true ↔ ∃ k, k < n ∧ f k = true
  | 0 => by simp [anyN]
  | n + 1 => by
    rw [anyN, Bool.or_eq_true, anyN_iff]
    constructor
    · rintro (⟨k, h1, h2⟩ | h)
      · exact ⟨k, by omega, h2⟩
      · exact ⟨n, by omega, h⟩
    · rintro ⟨k, h1, h2⟩
      rcases Nat.lt_or_ge k n with h | h
      · exact Or.inl ⟨k, h, h2⟩
      · have : k = n := by omega
        subst this
        exact Or.inr h2
/-- the mark that is left out of guards, as a set -/
def ou (w : Option Nat) : Nat := match w with
  | none => 0
  | some m => 2 ^ m
def altOK (T : TK) (i marks out : Nat) : Bool := (marks &&& ndf (T 66 i) out == ndf (T 66 i) out) && (marks &&& ndf (T 67 i) out == 0)
def hold (T : TK) (a marks out : Nat) : Bool := T 65 a == 0 || anyN (fun k => altOK T (3 * a + k) marks out) (T 65 a)
def opn (T : TK) (a s out : Nat) : Bool := !(T 70 a == 1) && T 62 a == s / 64 && !((T 61 2).testBit (s / 64)) && hold T a (s % 64) out
def nxt (T : TK) (a s : Nat) : Nat := 64 * T 63 a + (ndf (s % 64) (T 69 a) ||| T 68 a)
theorem ndf_le (a b : Nat) : ndf a b ≤ a := Nat.le_of_testBit (fun i hi => by
  rw [ndf_bit] at hi
  simp only [Bool.and_eq_true] at hi
  exact hi.1)
theorem or_64 {a b : Nat} (ha : a < 64) (hb : b < 64) : a ||| b < 64 := Nat.or_lt_two_pow (n := 6) ha hb
theorem nxt_lt {T : TK} (h : WT T) {a s : Nat} (ha : a < T 61 0) : nxt T a s < 1024 := by
  obtain ⟨-, h2, -, -, h5, -⟩ := wt_a h ha
  have h6 : ndf (s % 64) (T 69 a) ≤ s % 64 := ndf_le _ _
  have h7 : ndf (s % 64) (T 69 a) ||| T 68 a < 64 := or_64 (by omega) h5
  unfold nxt
  omega
abbrev Rt (x : Int32) (M : AM) : Option Value → AM → Prop := fun v M' => v = some (.int x) ∧ M = M'
theorem Rt_b {b c : Bool} {M : AM} (h : b = c) : Rt (bI c) M (some (.int (bI b))) M := ⟨by rw [h], rfl⟩
theorem Rt_n {b c : Nat} {M : AM} (h : b = c) : Rt (nI c) M (some (.int (nI b))) M := ⟨by rw [h], rfl⟩
theorem Rt_o {b c : Option Nat} {M : AM} (h : b = c) : Rt (oI c) M (some (.int (oI b))) M := ⟨by rw [h], rfl⟩
theorem Rt_i {b c : Int32} {M : AM} (h : b = c) : Rt c M (some (.int b)) M := ⟨by rw [h], rfl⟩
section M1
variable {g : GG} {M : AM}
theorem m_in {v lo hi : Int64} : Call g qX11_in [.long v, .long lo, .long hi] M (Rt (bI (decide (lo ≤ v ∧ v ≤ hi))) M) := by
  refine Call_of (ls0 := [some (.long v), none, some (.long lo), none, some (.long hi), none]) rfl rfl (Nat.le_of_ble_eq_true rfl) ?_
  refine E_lload_n dX11_in_0 rfl ?_
  refine E_lload_n dX11_in_1 rfl ?_
  refine E_lcmp dX11_in_2 ?_
  refine E_if_lt (t := 17) dX11_in_3 (by decide) (fun c3 => ?_) (fun c3 => ?_)
  · skip
    have h1 : ¬ (lo ≤ v ∧ v ≤ hi) := fun h2 => absurd ((lg_cmp_lt _ _).mp c3) (Int64.not_lt.mpr h2.1)
    refine E_iconst (v := nI 0) dX11_in_17 rfl ?_
    refine E_top (show nI 0 = bI false from rfl) ?_
    refine E_zret dX11_in_18 rfl (bI_01 _) ?_
    exact Rt_b (by simp [h1])
  · skip
    refine E_lload_n dX11_in_6 rfl ?_
    refine E_lload dX11_in_7 rfl ?_
    refine E_lcmp dX11_in_9 ?_
    refine E_if_gt (t := 17) dX11_in_10 (by decide) (fun c10 => ?_) (fun c10 => ?_)
    · skip
      have h1 : ¬ (lo ≤ v ∧ v ≤ hi) := fun h2 => absurd ((lg_cmp_gt _ _).mp c10) (Int64.not_lt.mpr h2.2)
      refine E_iconst (v := nI 0) dX11_in_17 rfl ?_
      refine E_top (show nI 0 = bI false from rfl) ?_
      refine E_zret dX11_in_18 rfl (bI_01 _) ?_
      exact Rt_b (by simp [h1])
    · skip
      have h1 : lo ≤ v ∧ v ≤ hi := ⟨by rw [lg_cmp_lt] at c3; exact Int64.not_lt.mp c3, by rw [lg_cmp_gt] at c10; exact Int64.not_lt.mp c10⟩
      refine E_iconst (v := nI 1) dX11_in_13 rfl ?_
      refine E_goto (t := 18) dX11_in_14 (by decide) ?_
      refine E_top (show nI 1 = bI true from rfl) ?_
      refine E_zret dX11_in_18 rfl (bI_01 _) ?_
      exact Rt_b (by simp [h1])
theorem m_has {S j : Nat} (hj : j < 32) : Call g qX11_has [.int (nI S), .int (nI j)] M (Rt (bI (S.testBit j)) M) := by
  refine Call_of (ls0 := [some (.int (nI S)), some (.int (nI j))]) rfl rfl (Nat.le_of_ble_eq_true rfl) ?_
  refine E_iload_n dX11_has_0 rfl ?_
  refine E_iload_n dX11_has_1 rfl ?_
  refine E_ishr dX11_has_2 ?_
  refine E_iconst (v := nI 1) dX11_has_3 rfl ?_
  refine E_iand dX11_has_4 ?_
  refine E_top (nI_bit hj) ?_
  refine E_iconst (v := nI 1) dX11_has_5 rfl ?_
  refine E_icmp_neB (t := 13) dX11_has_6 (by decide) (fun c6 => ?_) (fun c6 => ?_)
  · skip
    refine E_iconst (v := nI 0) dX11_has_13 rfl ?_
    refine E_top (show nI 0 = bI false from rfl) ?_
    refine E_zret dX11_has_14 rfl (bI_01 _) ?_
    exact Rt_b (by simp [c6])
  · skip
    refine E_iconst (v := nI 1) dX11_has_9 rfl ?_
    refine E_goto (t := 14) dX11_has_10 (by decide) ?_
    refine E_top (show nI 1 = bI true from rfl) ?_
    refine E_zret dX11_has_14 rfl (bI_01 _) ?_
    exact Rt_b (by simp [c6])
end M1
