-- the model: states of a line, marks of a line, what can end
theorem cntN_cong {f h : Nat → Bool} : ∀ {n : Nat}, (∀ t, t < n → f t = h t) → cntN f n = cntN h n
  | 0, _ => rfl
  | n + 1, e => by rw [cntN, cntN, cntN_cong (fun t ht => e t (by omega)), e n (by omega)]
theorem cntN_mono {f h : Nat → Bool} : ∀ {n : Nat}, (∀ t, t < n → f t = true → h t = true) → cntN f n ≤ cntN h n
  | 0, _ => Nat.le_refl 0
  | n + 1, e => by
    rw [cntN, cntN]
    have h1 := cntN_mono (f := f) (h := h) (n := n) (fun t ht => e t (by omega))
    have h2 := e n (by omega)
    cases hf : f n
    · simp only [Bool.toNat_false]; omega
    · rw [h2 hf]; simp only [Bool.toNat_true]; omega
theorem cntN_up {f : Nat → Bool} {k : Nat} (hk : f k = false) : ∀ {n : Nat}, k < n → cntN (fun t => if t = k then true else f t) n = cntN f n + 1
  | 0, e => absurd e (Nat.not_lt_zero k)
  | n + 1, e => by
    rw [cntN, cntN]
    by_cases h1 : n = k
    · have h2 : cntN (fun t => if t = k then true else f t) n = cntN f n := cntN_cong (fun t ht => by rw [if_neg (by omega)])
      rw [h2, if_pos h1, h1, hk]
      rfl
    · rw [cntN_up hk (n := n) (by omega), if_neg h1]
      omega
theorem sx0_mem {T : TK} {s t : Nat} : t ∈ sx0 T s ↔ ∃ a, a < T 61 0 ∧ opn T a s 0 = true ∧ nxt T a s = t := by
  rw [sux_mem]
  constructor
  · rintro ⟨a, h1, -, h3, h4⟩; exact ⟨a, h1, h3, h4⟩
  · rintro ⟨a, h1, h3, h4⟩; exact ⟨a, h1, rfl, h3, h4⟩
theorem rch_cons {succ : Nat → List Nat} : ∀ {n : Nat} {k u : Nat}, rch succ k (n + 1) u ↔ ∃ t, t ∈ succ k ∧ rch succ t n u
  | 0, k, u => by
    constructor
    · rintro ⟨w, hw, hu⟩
      have e : w = k := hw
      exact ⟨u, e ▸ hu, rfl⟩
    · rintro ⟨t, ht, hu⟩
      have e : u = t := hu
      exact ⟨k, rfl, e ▸ ht⟩
  | n + 1, k, u => by
    constructor
    · rintro ⟨w, hw, hu⟩
      obtain ⟨t, h1, h2⟩ := rch_cons.mp hw
      exact ⟨t, h1, w, h2, hu⟩
    · rintro ⟨t, ht, w, h2, hu⟩
      exact ⟨w, rch_cons.mpr ⟨t, ht, h2⟩, hu⟩
/-- an ending is come to from here -/
def canE (T : TK) (k : Nat) : Prop := ∃ n u, rch (sx0 T) k n u ∧ (T 61 2).testBit (u / 64) = true
def endPost (T : TK) (D : Nat → Option Nat) (E : Nat → Bool) : Prop := ∀ k, k < 1024 → (E k = true ↔ ¬ D k = none ∧ canE T k)
section M5
variable {g : GG} {M : AM} {T : TK} {D : Nat → Option Nat} {E : Nat → Bool}
def st3 (T : TK) (D : Nat → Option Nat) (E : Nat → Bool) (w s : Nat) : Bool := if w = 0 then (D s).isSome else if w = 1 then stuF T D s else (D s).isSome && !E s
theorem m_statesOf (hR : RM T M) (hF : RF D M) (hD : DL D) {l w : Nat} (hE : w = 2 → RZ 79 E M) (hl : l < 16) (hw : w < 3) : Call g qX11_statesOf [.ref 61, .int (nI l), .int (nI w)] M (Rt (nI (cntN (fun k => st3 T D E w (64 * l + k)) 64)) M) := by
  have L : ∀ (n k : Nat) (y : Option Value), k ≤ 64 → 64 < k + n → Ex g qX11_statesOf (tm g qX11_statesOf (Rt (nI (cntN (fun k => st3 T D E w (64 * l + k)) 64)) M)) 8 [some (.ref 61), some (.int (nI l)), some (.int (nI w)), some (.int (nI (cntN (fun k => st3 T D E w (64 * l + k)) k))), some (.int (nI (64 * l + k))), y] [] M := by
    intro n
    induction n with
    | zero => intro k y h1 h2; exact absurd h2 (by omega)
    | succ n ih =>
      intro k y hk hn
      have hcl := cntN_le (fun k => st3 T D E w (64 * l + k)) k
      have J : k < 64 → Ex g qX11_statesOf (tm g qX11_statesOf (Rt (nI (cntN (fun k => st3 T D E w (64 * l + k)) 64)) M)) 62 [some (.ref 61), some (.int (nI l)), some (.int (nI w)), some (.int (nI (cntN (fun k => st3 T D E w (64 * l + k)) k))), some (.int (nI (64 * l + k))), y] [.int (bI (st3 T D E w (64 * l + k)))] M := by
        intro hk2
        refine E_istore dX11_statesOf_62 (by decide) rfl ?_
        refine E_iload_n dX11_statesOf_64 rfl ?_
        refine E_iload dX11_statesOf_65 rfl ?_
        refine E_if_eqB (t := 74) dX11_statesOf_67 (by decide) (fun c67 => ?_) (fun c67 => ?_)
        · skip
          have hs1 : cntN (fun k => st3 T D E w (64 * l + k)) (k + 1) = cntN (fun k => st3 T D E w (64 * l + k)) k + 0 := by rw [cntN, c67]; rfl
          refine E_iconst (v := nI 0) dX11_statesOf_74 rfl ?_
          refine E_iaddN dX11_statesOf_75 ?_
          refine E_ist_n (i := 3) dX11_statesOf_76 rfl (by decide) rfl ?_
          refine E_iincN (b := 1) dX11_statesOf_77 rfl rfl (by decide) rfl ?_
          refine E_goto (t := 8) dX11_statesOf_80 (by decide) ?_
          have := ih (k + 1) (some (.int (bI (st3 T D E w (64 * l + k))))) (by omega) (by omega)
          rw [hs1] at this
          exact this
        · skip
          have hs1 : cntN (fun k => st3 T D E w (64 * l + k)) (k + 1) = cntN (fun k => st3 T D E w (64 * l + k)) k + 1 := by rw [cntN, c67]; rfl
          refine E_iconst (v := nI 1) dX11_statesOf_70 rfl ?_
          refine E_goto (t := 75) dX11_statesOf_71 (by decide) ?_
          refine E_iaddN dX11_statesOf_75 ?_
          refine E_ist_n (i := 3) dX11_statesOf_76 rfl (by decide) rfl ?_
          refine E_iincN (b := 1) dX11_statesOf_77 rfl rfl (by decide) rfl ?_
          refine E_goto (t := 8) dX11_statesOf_80 (by decide) ?_
          have := ih (k + 1) (some (.int (bI (st3 T D E w (64 * l + k))))) (by omega) (by omega)
          rw [hs1] at this
          exact this
      refine E_iload dX11_statesOf_8 rfl ?_
      refine E_bipush (v := nI 64) dX11_statesOf_10 rfl ?_
      refine E_iload_n dX11_statesOf_12 rfl ?_
      refine E_imulN dX11_statesOf_13 ?_
      refine E_bipush (v := nI 64) dX11_statesOf_14 rfl ?_
      refine E_iaddN dX11_statesOf_16 ?_
      refine E_icmp_geN (t := 83) dX11_statesOf_17 (by decide) (by omega) (by omega) (fun c17 => ?_) (fun c17 => ?_)
      · skip
        refine E_iload_n dX11_statesOf_83 rfl ?_
        refine E_iret dX11_statesOf_84 rfl ?_
        exact Rt_n (by rw [show k = 64 by omega])
      · skip
        refine E_iload_n dX11_statesOf_20 rfl ?_
        refine E_if_neN (t := 42) dX11_statesOf_21 (by decide) (by omega) (fun c21 => ?_) (fun c21 => ?_)
        · skip
          refine E_iload_n dX11_statesOf_42 rfl ?_
          refine E_iconst (v := nI 1) dX11_statesOf_43 rfl ?_
          refine E_icmp_neN (t := 56) dX11_statesOf_44 (by decide) (by omega) (by omega) (fun c44 => ?_) (fun c44 => ?_)
          · skip
            have hw2 : w = 2 := by omega
            subst hw2
            refine E_aload_n dX11_statesOf_56 rfl ?_
            refine E_iload dX11_statesOf_57 rfl ?_
            refine E_callV (r := qX11_isLost) (ci := 11) dX11_statesOf_59 mkX11_247 voX11_isLost rfl rfl rfl ⟨Nat.le_of_ble_eq_true rfl, Nat.le_of_ble_eq_true rfl, Nat.le_of_ble_eq_true rfl, Nat.le_of_ble_eq_true rfl⟩ (m_isLost hF hD (hE (by omega)) (by omega)) rfl (Nat.le_of_ble_eq_true rfl) ?_
            rintro _ _ ⟨rfl, rfl⟩
            first | exact J (by omega) | (refine E_top ?_ (J (by omega)); first | (apply nI0_b; simp [st3, c31]; done) | (apply nI1_b; simp [st3, hd]; done))
          · skip
            subst c44
            refine E_aload_n dX11_statesOf_47 rfl ?_
            refine E_iload dX11_statesOf_48 rfl ?_
            refine E_callV (r := qX11_isStuck) (ci := 11) dX11_statesOf_50 mkX11_244 voX11_isStuck rfl rfl rfl ⟨Nat.le_of_ble_eq_true rfl, Nat.le_of_ble_eq_true rfl, Nat.le_of_ble_eq_true rfl, Nat.le_of_ble_eq_true rfl⟩ (m_isStuck hR hF hD (by omega)) rfl (Nat.le_of_ble_eq_true rfl) ?_
            rintro _ _ ⟨rfl, rfl⟩
            refine E_goto (t := 62) dX11_statesOf_53 (by decide) ?_
            first | exact J (by omega) | (refine E_top ?_ (J (by omega)); first | (apply nI0_b; simp [st3, c31]; done) | (apply nI1_b; simp [st3, hd]; done))
        · skip
          subst c21
          refine E_aload_n dX11_statesOf_24 rfl ?_
          refine E_getR' (ci := 11) (j := 18) (p := 73) dX11_statesOf_25 fkX11_44 rfl (by decide) rfl (by decide) (rfl) ?_
          refine E_iload dX11_statesOf_28 rfl ?_
          refine E_ialdN dX11_statesOf_30 rfl (by omega) (by decide) (hF _ (by omega)) ?_
          refine E_if_ltO (t := 38) dX11_statesOf_31 (by decide) (fun d hd => by have := hD _ d hd; omega) (fun c31 => ?_) (fun c31 => ?_)
          · skip
            refine E_iconst (v := nI 0) dX11_statesOf_38 rfl ?_
            refine E_goto (t := 62) dX11_statesOf_39 (by decide) ?_
            first | exact J (by omega) | (refine E_top ?_ (J (by omega)); first | (apply nI0_b; simp [st3, c31]; done) | (apply nI1_b; simp [st3, hd]; done))
          · skip
            obtain ⟨d, hd⟩ := Option.ne_none_iff_exists'.mp c31
            refine E_iconst (v := nI 1) dX11_statesOf_34 rfl ?_
            refine E_goto (t := 62) dX11_statesOf_35 (by decide) ?_
            first | exact J (by omega) | (refine E_top ?_ (J (by omega)); first | (apply nI0_b; simp [st3, c31]; done) | (apply nI1_b; simp [st3, hd]; done))
  refine Call_of (ls0 := [some (.ref 61), some (.int (nI l)), some (.int (nI w)), none, none, none]) rfl rfl (Nat.le_of_ble_eq_true rfl) ?_
  refine E_iconst (v := nI 0) dX11_statesOf_0 rfl ?_
  refine E_ist_n (i := 3) dX11_statesOf_1 rfl (by decide) rfl ?_
  refine E_bipush (v := nI 64) dX11_statesOf_2 rfl ?_
  refine E_iload_n dX11_statesOf_4 rfl ?_
  refine E_imulN dX11_statesOf_5 ?_
  refine E_istore dX11_statesOf_6 (by decide) rfl ?_
  exact L 65 0 none (by omega) (by omega)
def mkN (b : Bool) (D : Nat → Option Nat) (base : Nat) : Nat → Nat
  | 0 => if b then 63 else 0
  | n + 1 => if (D (base + n)).isSome then (if b then mkN b D base n &&& n else mkN b D base n ||| n) else mkN b D base n
theorem mkN_lt {b : Bool} {base : Nat} : ∀ n, n ≤ 64 → mkN b D base n < 64
  | 0, _ => by rw [mkN]; cases b <;> decide
  | n + 1, h1 => by
    have ih := mkN_lt (b := b) (base := base) n (by omega)
    rw [mkN]
    split
    · split
      · exact Nat.lt_of_le_of_lt Nat.and_le_left ih
      · exact or_64 ih (by omega)
    · exact ih
def mkR (b : Bool) (D : Nat → Option Nat) (l : Nat) : Nat := if cntN (fun k => (D (64 * l + k)).isSome) 64 = 0 then 0 else mkN b D (64 * l) 64
theorem m_marksOf (hF : RF D M) (hD : DL D) {l : Nat} {b : Bool} (hl : l < 16) : Call g qX11_marksOf [.ref 61, .int (nI l), .int (bI b)] M (Rt (nI (mkR b D l)) M) := by
  have L : ∀ (n k : Nat), k ≤ 64 → 64 < k + n → Ex g qX11_marksOf (tm g qX11_marksOf (Rt (nI (mkR b D l)) M)) 17 [some (.ref 61), some (.int (nI l)), some (.int (bI b)), some (.int (nI (mkN b D (64 * l) k))), some (.int (nI (cntN (fun k => (D (64 * l + k)).isSome) k))), some (.int (nI k))] [] M := by
    intro n
    induction n with
    | zero => intro k h1 h2; exact absurd h2 (by omega)
    | succ n ih =>
      intro k hk hn
      have hcl := cntN_le (fun k => (D (64 * l + k)).isSome) k
      refine E_iload dX11_marksOf_17 rfl ?_
      refine E_bipush (v := nI 64) dX11_marksOf_19 rfl ?_
      refine E_icmp_geN (t := 64) dX11_marksOf_21 (by decide) (by omega) (by omega) (fun c21 => ?_) (fun c21 => ?_)
      · skip
        have hk6 : k = 64 := by omega
        subst hk6
        refine E_iload dX11_marksOf_64 rfl ?_
        refine E_if_neN (t := 73) dX11_marksOf_66 (by decide) (by omega) (fun c66 => ?_) (fun c66 => ?_)
        · skip
          refine E_iload_n dX11_marksOf_73 rfl ?_
          refine E_iret dX11_marksOf_74 rfl ?_
          exact Rt_n (by unfold mkR; first | (rw [if_pos c66]; done) | (rw [if_neg (by omega)]; done))
        · skip
          refine E_iconst (v := nI 0) dX11_marksOf_69 rfl ?_
          refine E_goto (t := 74) dX11_marksOf_70 (by decide) ?_
          refine E_iret dX11_marksOf_74 rfl ?_
          exact Rt_n (by unfold mkR; first | (rw [if_pos c66]; done) | (rw [if_neg (by omega)]; done))
      · skip
        refine E_aload_n dX11_marksOf_24 rfl ?_
        refine E_getR' (ci := 11) (j := 18) (p := 73) dX11_marksOf_25 fkX11_44 rfl (by decide) rfl (by decide) (rfl) ?_
        refine E_bipush (v := nI 64) dX11_marksOf_28 rfl ?_
        refine E_iload_n dX11_marksOf_30 rfl ?_
        refine E_imulN dX11_marksOf_31 ?_
        refine E_iload dX11_marksOf_32 rfl ?_
        refine E_iaddN dX11_marksOf_34 ?_
        refine E_ialdN dX11_marksOf_35 rfl (by omega) (by decide) (hF _ (by omega)) ?_
        refine E_if_ltO (t := 58) dX11_marksOf_36 (by decide) (fun d hd => by have := hD _ d hd; omega) (fun c36 => ?_) (fun c36 => ?_)
        · skip
          have hs1 : cntN (fun k => (D (64 * l + k)).isSome) (k + 1) = cntN (fun k => (D (64 * l + k)).isSome) k := by rw [cntN, c36]; rfl
          have hs2 : mkN b D (64 * l) (k + 1) = mkN b D (64 * l) k := by rw [mkN, c36]; rfl
          refine E_iincN (b := 1) dX11_marksOf_58 rfl rfl (by decide) rfl ?_
          refine E_goto (t := 17) dX11_marksOf_61 (by decide) ?_
          have := ih (k + 1) (by omega) (by omega)
          rw [hs1, hs2] at this
          exact this
        · skip
          obtain ⟨d, hd⟩ := Option.ne_none_iff_exists'.mp c36
          have hs1 : cntN (fun k => (D (64 * l + k)).isSome) (k + 1) = cntN (fun k => (D (64 * l + k)).isSome) k + 1 := by rw [cntN, hd]; rfl
          refine E_iload_n dX11_marksOf_39 rfl ?_
          refine E_if_eqB (t := 50) dX11_marksOf_40 (by decide) (fun c40 => ?_) (fun c40 => ?_)
          · skip
            have hs2 : mkN b D (64 * l) (k + 1) = mkN b D (64 * l) k ||| k := by rw [mkN, hd, c40]; rfl
            refine E_iload_n dX11_marksOf_50 rfl ?_
            refine E_iload dX11_marksOf_51 rfl ?_
            refine E_iorN dX11_marksOf_53 ?_
            refine E_ist_n (i := 3) dX11_marksOf_54 rfl (by decide) rfl ?_
            refine E_iincN (b := 1) dX11_marksOf_55 rfl rfl (by decide) rfl ?_
            refine E_iincN (b := 1) dX11_marksOf_58 rfl rfl (by decide) rfl ?_
            refine E_goto (t := 17) dX11_marksOf_61 (by decide) ?_
            have := ih (k + 1) (by omega) (by omega)
            rw [hs1, hs2] at this
            exact this
          · skip
            have hs2 : mkN b D (64 * l) (k + 1) = mkN b D (64 * l) k &&& k := by rw [mkN, hd, c40]; rfl
            refine E_iload_n dX11_marksOf_43 rfl ?_
            refine E_iload dX11_marksOf_44 rfl ?_
            refine E_iandN dX11_marksOf_46 ?_
            refine E_goto (t := 54) dX11_marksOf_47 (by decide) ?_
            refine E_ist_n (i := 3) dX11_marksOf_54 rfl (by decide) rfl ?_
            refine E_iincN (b := 1) dX11_marksOf_55 rfl rfl (by decide) rfl ?_
            refine E_iincN (b := 1) dX11_marksOf_58 rfl rfl (by decide) rfl ?_
            refine E_goto (t := 17) dX11_marksOf_61 (by decide) ?_
            have := ih (k + 1) (by omega) (by omega)
            rw [hs1, hs2] at this
            exact this
  refine Call_of (ls0 := [some (.ref 61), some (.int (nI l)), some (.int (bI b)), none, none, none]) rfl rfl (Nat.le_of_ble_eq_true rfl) ?_
  refine E_iload_n dX11_marksOf_0 rfl ?_
  refine E_if_eqB (t := 9) dX11_marksOf_1 (by decide) (fun c1 => ?_) (fun c1 => ?_)
  · skip
    subst c1
    refine E_iconst (v := nI 0) dX11_marksOf_9 rfl ?_
    refine E_ist_n (i := 3) dX11_marksOf_10 rfl (by decide) rfl ?_
    refine E_iconst (v := nI 0) dX11_marksOf_11 rfl ?_
    refine E_istore dX11_marksOf_12 (by decide) rfl ?_
    refine E_iconst (v := nI 0) dX11_marksOf_14 rfl ?_
    refine E_istore dX11_marksOf_15 (by decide) rfl ?_
    exact L 65 0 (by omega) (by omega)
  · skip
    subst c1
    refine E_bipush (v := nI 63) dX11_marksOf_4 rfl ?_
    refine E_goto (t := 10) dX11_marksOf_6 (by decide) ?_
    refine E_ist_n (i := 3) dX11_marksOf_10 rfl (by decide) rfl ?_
    refine E_iconst (v := nI 0) dX11_marksOf_11 rfl ?_
    refine E_istore dX11_marksOf_12 (by decide) rfl ?_
    refine E_iconst (v := nI 0) dX11_marksOf_14 rfl ?_
    refine E_istore dX11_marksOf_15 (by decide) rfl ?_
    exact L 65 0 (by omega) (by omega)
def iniE (T : TK) (D : Nat → Option Nat) (t : Nat) : Bool := (D t).isSome && (T 61 2).testBit (t / 64)
/-- of what was looked at, what can't end leads nowhere that can -/
def chkE (T : TK) (D : Nat → Option Nat) (E : Nat → Bool) (k a : Nat) : Prop := ∀ k' a', k' < 1024 → a' < T 61 0 → (k' < k ∨ (k' = k ∧ a' < a)) → ¬ D k' = none → E k' = false → opn T a' k' 0 = true → E (nxt T a' k') = false
def sndE (T : TK) (D : Nat → Option Nat) (E : Nat → Bool) : Prop := ∀ k, k < 1024 → E k = true → ¬ D k = none ∧ canE T k
theorem sndE_up {T : TK} {D : Nat → Option Nat} {E : Nat → Bool} {k a : Nat} (hT : WT T) (h1 : sndE T D E) (hk : k < 1024) (ha : a < T 61 0) (hd : ¬ D k = none) (ho : opn T a k 0 = true) (he : E (nxt T a k) = true) : sndE T D (fun t => if t = k then true else E t) := by
  intro t ht h2
  by_cases h3 : t = k
  · subst h3
    obtain ⟨-, n, u, h4, h5⟩ := h1 _ (nxt_lt hT ha) he
    exact ⟨hd, n + 1, u, rch_cons.mpr ⟨_, sx0_mem.mpr ⟨a, ha, ho, rfl⟩, h4⟩, h5⟩
  · dsimp only at h2
    rw [if_neg h3] at h2
    exact h1 t ht h2
theorem endPost_of {T : TK} {D : Nat → Option Nat} {E : Nat → Bool} (hT : WT T) (hcl : ∀ k t, k < 1024 → ¬ D k = none → t ∈ sx0 T k → ¬ D t = none) (h1 : sndE T D E) (h2 : ∀ t, t < 1024 → iniE T D t = true → E t = true) (h3 : chkE T D E 1024 0) : endPost T D E := by
  intro k hk
  refine ⟨h1 k hk, fun hx => ?_⟩
  obtain ⟨hd, n, u, h4, h5⟩ := hx
  induction n generalizing k with
  | zero =>
    have e : u = k := h4
    refine h2 k hk ?_
    unfold iniE
    cases hh : D k with
    | none => exact absurd hh hd
    | some d => rw [← e, h5]; rfl
  | succ n ih =>
    obtain ⟨t, h6, h7⟩ := rch_cons.mp h4
    have ht : t < 1024 := sux_lt hT k t hk h6
    have h8 := ih t ht (hcl k t hk hd h6) h7
    cases he : E k with
    | true => rfl
    | false =>
      obtain ⟨a, b1, b2, b3⟩ := sx0_mem.mp h6
      have := h3 k a hk b1 (Or.inl hk) hd he b2
      rw [b3, h8] at this
      cases this
theorem RZ_up {E : Nat → Bool} {M : AM} {p k : Nat} {b : Bool} (hE : RZ p E M) : RZ p (fun t => if t = k then b else E t) (sI M p k (bI b)) := by
  intro t ht
  dsimp only
  rw [sI_get]
  by_cases h1 : t = k
  · rw [if_pos ⟨rfl, h1⟩, if_pos h1]
  · rw [if_neg (fun e => h1 e.2), if_neg h1]
    exact hE t ht
theorem RZ_same {E : Nat → Bool} {M : AM} {p k : Nat} (hE : RZ p E M) (hk : E k = false) : RZ p E (sI M p k (bI false)) := by
  intro t ht
  rw [sI_get]
  by_cases h1 : t = k
  · rw [if_pos ⟨rfl, h1⟩, h1, hk]
  · rw [if_neg (fun e => h1 e.2)]
    exact hE t ht
theorem rf_sb {D : Nat → Option Nat} {S : List Nat} {M M' : AM} (hF : RF D M) (hS : Sb S M M') (hd : 73 ∉ S) : RF D M' := fun t ht => by rw [(hS 73 hd).1]; exact hF t ht
theorem rz_sb {p : Nat} {E : Nat → Bool} {S : List Nat} {M M' : AM} (hF : RZ p E M) (hS : Sb S M M') (hd : p ∉ S) : RZ p E M' := fun t ht => by rw [(hS p hd).1]; exact hF t ht
theorem chk_next {T : TK} {D : Nat → Option Nat} {E : Nat → Bool} {k a : Nat} (h1 : chkE T D E k a) (h2 : T 61 0 ≤ a ∨ D k = none ∨ E k = true) : chkE T D E (k + 1) 0 := by
  intro k' a' b1 b2 b3 b4 b5 b6
  by_cases hk : k' = k
  · subst hk
    rcases h2 with h2 | h2 | h2
    · exact h1 k' a' b1 b2 (Or.inr ⟨rfl, by omega⟩) b4 b5 b6
    · exact absurd h2 b4
    · rw [h2] at b5; cases b5
  · exact h1 k' a' b1 b2 (Or.inl (by omega)) b4 b5 b6
theorem chk_step {T : TK} {D : Nat → Option Nat} {E : Nat → Bool} {k a : Nat} (h1 : chkE T D E k a) (h2 : opn T a k 0 = false ∨ E (nxt T a k) = false) : chkE T D E k (a + 1) := by
  intro k' a' b1 b2 b3 b4 b5 b6
  by_cases hk : k' = k ∧ a' = a
  · obtain ⟨rfl, rfl⟩ := hk
    rcases h2 with h2 | h2
    · rw [h2] at b6; cases b6
    · exact h2
  · exact h1 k' a' b1 b2 (by omega) b4 b5 b6
theorem m_laysEnds (hR : RM T M) (hF : RF D M) (hD : DL D) (hcl : ∀ k t, k < 1024 → ¬ D k = none → t ∈ sx0 T k → ¬ D t = none) : Call g qX11_laysEnds [.ref 61] M (fun v M' => v = none ∧ Sb [79] M M' ∧ ∃ E, RZ 79 E M' ∧ endPost T D E) := by
  have h32 := rm_32 hR
  have hT := rm_wt hR
  have L9 : ∀ (E : Nat → Bool) (M1 : AM) (y2 y3 : Option Value), sndE T D E → (∀ t, t < 1024 → iniE T D t = true → E t = true) → chkE T D E 1024 0 → RZ 79 E M1 → Sb [79] M M1 → Ex g qX11_laysEnds (tm g qX11_laysEnds (fun v M' => v = none ∧ Sb [79] M M' ∧ ∃ E, RZ 79 E M' ∧ endPost T D E)) 51 [some (.ref 61), some (.int (bI false)), y2, y3] [] M1 := by
    intro E M1 y2 y3 h1 h2 h3 h4 h5
    refine E_iload_n dX11_laysEnds_51 rfl ?_
    refine E_if_eqB (t := 163) dX11_laysEnds_52 (by decide) (fun c52 => ?_) (fun c52 => ?_)
    · skip
      refine E_vret dX11_laysEnds_163 rfl ?_
      exact ⟨rfl, h5, E, h4, endPost_of hT hcl h1 h2 h3⟩
    · skip
      cases c52
  have L51 : ∀ (n : Nat) (E0 : Nat → Bool) (M1 : AM) (y2 y3 : Option Value), 1024 < cntN E0 1024 + n → sndE T D E0 → (∀ t, t < 1024 → iniE T D t = true → E0 t = true) → RZ 79 E0 M1 → Sb [79] M M1 → Ex g qX11_laysEnds (tm g qX11_laysEnds (fun v M' => v = none ∧ Sb [79] M M' ∧ ∃ E, RZ 79 E M' ∧ endPost T D E)) 51 [some (.ref 61), some (.int (bI true)), y2, y3] [] M1 := by
    intro n
    induction n with
    | zero => intro E0 M1 y2 y3 h1; exact absurd (cntN_le E0 1024) (by omega)
    | succ n ihW =>
      intro E0 M1 y2 y3 hn hs0 hi0 hz0 hS0
      have L59 : ∀ (m k : Nat) (E : Nat → Bool) (b : Bool) (M2 : AM) (y3 : Option Value), k ≤ 1024 → 1024 < k + m → sndE T D E → (∀ t, t < 1024 → E0 t = true → E t = true) → (b = false → E = E0 ∧ chkE T D E k 0) → (b = true → cntN E0 1024 < cntN E 1024) → RZ 79 E M2 → Sb [79] M M2 → Ex g qX11_laysEnds (tm g qX11_laysEnds (fun v M' => v = none ∧ Sb [79] M M' ∧ ∃ E, RZ 79 E M' ∧ endPost T D E)) 59 [some (.ref 61), some (.int (bI b)), some (.int (nI k)), y3] [] M2 := by
        intro m
        induction m with
        | zero => intro k E b M2 y3 h1 h2; exact absurd h2 (by omega)
        | succ m ihK =>
          intro k E b M2 y3 hk hm hs1 hmo hb0 hb1 hz1 hS1
          have L68 : k < 1024 → ∀ (j a : Nat) (E : Nat → Bool) (b : Bool) (M2 : AM), a ≤ T 61 0 → T 61 0 < a + j → sndE T D E → (∀ t, t < 1024 → E0 t = true → E t = true) → (b = false → E = E0 ∧ chkE T D E k a) → (b = true → cntN E0 1024 < cntN E 1024) → RZ 79 E M2 → Sb [79] M M2 → Ex g qX11_laysEnds (tm g qX11_laysEnds (fun v M' => v = none ∧ Sb [79] M M' ∧ ∃ E, RZ 79 E M' ∧ endPost T D E)) 68 [some (.ref 61), some (.int (bI b)), some (.int (nI k)), some (.int (nI a))] [] M2 := by
            intro hk2 j
            induction j with
            | zero => intro a E b M2 h1 h2; exact absurd h2 (by omega)
            | succ j ihA =>
              intro a E b M2 ha hj hs1 hmo hb0 hb1 hz1 hS1
              have hR2 := rm_sb hR hS1 (by decide)
              have hF2 := rf_sb hF hS1 (by decide)
              refine E_iload_n dX11_laysEnds_68 rfl ?_
              refine E_aload_n dX11_laysEnds_69 rfl ?_
              refine E_getI' (ci := 11) (j := 0) dX11_laysEnds_70 fkX11_85 rfl (by decide) rfl (by decide) (rm_many hR2) ?_
              refine E_icmp_geN (t := 154) dX11_laysEnds_73 (by decide) (by omega) (by omega) (fun c73 => ?_) (fun c73 => ?_)
              · skip
                have hnx : b = false → E = E0 ∧ chkE T D E (k + 1) 0 := fun e => ⟨(hb0 e).1, chk_next (hb0 e).2 (Or.inl c73)⟩
                refine E_iincN (b := 1) dX11_laysEnds_154 rfl rfl (by decide) rfl ?_
                refine E_goto (t := 59) dX11_laysEnds_157 (by decide) ?_
                exact ihK (k + 1) E b M2 _ (by omega) (by omega) hs1 hmo hnx hb1 hz1 hS1
              · skip
                refine E_aload_n dX11_laysEnds_76 rfl ?_
                refine E_getR' (ci := 11) (j := 18) (p := 73) dX11_laysEnds_77 fkX11_44 rfl (by decide) rfl (by decide) (rfl) ?_
                refine E_iload_n dX11_laysEnds_80 rfl ?_
                refine E_ialdN dX11_laysEnds_81 rfl (by omega) (by decide) (hF2 k hk2) ?_
                refine E_if_ltO (t := 154) dX11_laysEnds_82 (by decide) (fun d hd => by have := hD _ d hd; omega) (fun c82 => ?_) (fun c82 => ?_)
                · skip
                  have hnx : b = false → E = E0 ∧ chkE T D E (k + 1) 0 := fun e => ⟨(hb0 e).1, chk_next (hb0 e).2 (Or.inr (Or.inl c82))⟩
                  refine E_iincN (b := 1) dX11_laysEnds_154 rfl rfl (by decide) rfl ?_
                  refine E_goto (t := 59) dX11_laysEnds_157 (by decide) ?_
                  exact ihK (k + 1) E b M2 _ (by omega) (by omega) hs1 hmo hnx hb1 hz1 hS1
                · skip
                  refine E_aload_n dX11_laysEnds_85 rfl ?_
                  refine E_getR' (ci := 11) (j := 32) (p := 79) dX11_laysEnds_86 fkX11_62 rfl (by decide) rfl (by decide) (rfl) ?_
                  refine E_iload_n dX11_laysEnds_89 rfl ?_
                  refine E_zaldN dX11_laysEnds_90 rfl (by omega) (by decide) (hz1 k hk2) ?_
                  refine E_if_neB (t := 154) dX11_laysEnds_91 (by decide) (fun c91 => ?_) (fun c91 => ?_)
                  · skip
                    have hnx : b = false → E = E0 ∧ chkE T D E (k + 1) 0 := fun e => ⟨(hb0 e).1, chk_next (hb0 e).2 (Or.inr (Or.inr c91))⟩
                    refine E_iincN (b := 1) dX11_laysEnds_154 rfl rfl (by decide) rfl ?_
                    refine E_goto (t := 59) dX11_laysEnds_157 (by decide) ?_
                    exact ihK (k + 1) E b M2 _ (by omega) (by omega) hs1 hmo hnx hb1 hz1 hS1
                  · skip
                    refine E_aload_n dX11_laysEnds_94 rfl ?_
                    refine E_getR' (ci := 11) (j := 32) (p := 79) dX11_laysEnds_95 fkX11_62 rfl (by decide) rfl (by decide) (rfl) ?_
                    refine E_iload_n dX11_laysEnds_98 rfl ?_
                    refine E_aload_n dX11_laysEnds_99 rfl ?_
                    refine E_iload_n dX11_laysEnds_100 rfl ?_
                    refine E_iload_n dX11_laysEnds_101 rfl ?_
                    refine E_iconst (v := -1) dX11_laysEnds_102 rfl ?_
                    refine E_callV (r := qX11_isOpen) (ci := 11) dX11_laysEnds_103 mkX11_105 voX11_isOpen rfl rfl rfl ⟨Nat.le_of_ble_eq_true rfl, Nat.le_of_ble_eq_true rfl, Nat.le_of_ble_eq_true rfl, Nat.le_of_ble_eq_true rfl⟩ (m_isOpen0 hR2 c73 hk2) rfl (Nat.le_of_ble_eq_true rfl) ?_
                    rintro _ _ ⟨rfl, rfl⟩
                    refine E_if_eqB (t := 127) dX11_laysEnds_106 (by decide) (fun c106 => ?_) (fun c106 => ?_)
                    · skip
                      have hz2 : RZ 79 E (sI M2 79 k (bI false)) := RZ_same hz1 c91
                      have hst : opn T a k 0 = false ∨ E (nxt T a k) = false := Or.inl c106
                      refine E_iconst (v := nI 0) dX11_laysEnds_127 rfl ?_
                      refine E_top (show nI 0 = bI false from rfl) ?_
                      refine E_zastN dX11_laysEnds_128 rfl (by omega) (by decide) ?_
                      refine E_iload_n dX11_laysEnds_129 rfl ?_
                      refine E_if_neB (t := 142) dX11_laysEnds_130 (by decide) (fun c130 => ?_) (fun c130 => ?_)
                      · skip
                        refine E_iconst (v := nI 1) dX11_laysEnds_142 rfl ?_
                        refine E_goto (t := 147) dX11_laysEnds_143 (by decide) ?_
                        refine E_top (show nI 1 = bI true from rfl) ?_
                        refine E_ist_n (i := 1) dX11_laysEnds_147 rfl (by decide) rfl ?_
                        refine E_iincN (b := 1) dX11_laysEnds_148 rfl rfl (by decide) rfl ?_
                        refine E_goto (t := 68) dX11_laysEnds_151 (by decide) ?_
                        first | exact ihA (a + 1) E true _ (by omega) (by omega) hs1 hmo (fun e => by cases e) (fun _ => hb1 c130) hz2 (hS1.tr (Sb.i (by decide))) | exact ihA (a + 1) E false _ (by omega) (by omega) hs1 hmo (fun _ => ⟨(hb0 c130).1, chk_step (hb0 c130).2 hst⟩) (fun e => by cases e) hz2 (hS1.tr (Sb.i (by decide))) | exact ihA (a + 1) _ true _ (by omega) (by omega) hs3 hm3 (fun e => by cases e) (fun _ => by omega) hz3 (hS1.tr (Sb.i (by decide))) | (exfalso; rw [c91] at c139; cases c139) | (exfalso; simp at c139)
                      · skip
                        refine E_aload_n dX11_laysEnds_133 rfl ?_
                        refine E_getR' (ci := 11) (j := 32) (p := 79) dX11_laysEnds_134 fkX11_62 rfl (by decide) rfl (by decide) (rfl) ?_
                        refine E_iload_n dX11_laysEnds_137 rfl ?_
                        refine E_zaldN dX11_laysEnds_138 rfl (by omega) (by decide) ((by first | exact hz2 k hk2 | exact hz3 k hk2)) ?_
                        refine E_if_eqB (t := 146) dX11_laysEnds_139 (by decide) (fun c139 => ?_) (fun c139 => ?_)
                        · skip
                          refine E_iconst (v := nI 0) dX11_laysEnds_146 rfl ?_
                          refine E_top (show nI 0 = bI false from rfl) ?_
                          refine E_ist_n (i := 1) dX11_laysEnds_147 rfl (by decide) rfl ?_
                          refine E_iincN (b := 1) dX11_laysEnds_148 rfl rfl (by decide) rfl ?_
                          refine E_goto (t := 68) dX11_laysEnds_151 (by decide) ?_
                          first | exact ihA (a + 1) E true _ (by omega) (by omega) hs1 hmo (fun e => by cases e) (fun _ => hb1 c130) hz2 (hS1.tr (Sb.i (by decide))) | exact ihA (a + 1) E false _ (by omega) (by omega) hs1 hmo (fun _ => ⟨(hb0 c130).1, chk_step (hb0 c130).2 hst⟩) (fun e => by cases e) hz2 (hS1.tr (Sb.i (by decide))) | exact ihA (a + 1) _ true _ (by omega) (by omega) hs3 hm3 (fun e => by cases e) (fun _ => by omega) hz3 (hS1.tr (Sb.i (by decide))) | (exfalso; rw [c91] at c139; cases c139) | (exfalso; simp at c139)
                        · skip
                          refine E_iconst (v := nI 1) dX11_laysEnds_142 rfl ?_
                          refine E_goto (t := 147) dX11_laysEnds_143 (by decide) ?_
                          refine E_top (show nI 1 = bI true from rfl) ?_
                          refine E_ist_n (i := 1) dX11_laysEnds_147 rfl (by decide) rfl ?_
                          refine E_iincN (b := 1) dX11_laysEnds_148 rfl rfl (by decide) rfl ?_
                          refine E_goto (t := 68) dX11_laysEnds_151 (by decide) ?_
                          first | exact ihA (a + 1) E true _ (by omega) (by omega) hs1 hmo (fun e => by cases e) (fun _ => hb1 c130) hz2 (hS1.tr (Sb.i (by decide))) | exact ihA (a + 1) E false _ (by omega) (by omega) hs1 hmo (fun _ => ⟨(hb0 c130).1, chk_step (hb0 c130).2 hst⟩) (fun e => by cases e) hz2 (hS1.tr (Sb.i (by decide))) | exact ihA (a + 1) _ true _ (by omega) (by omega) hs3 hm3 (fun e => by cases e) (fun _ => by omega) hz3 (hS1.tr (Sb.i (by decide))) | (exfalso; rw [c91] at c139; cases c139) | (exfalso; simp at c139)
                    · skip
                      refine E_aload_n dX11_laysEnds_109 rfl ?_
                      refine E_getR' (ci := 11) (j := 32) (p := 79) dX11_laysEnds_110 fkX11_62 rfl (by decide) rfl (by decide) (rfl) ?_
                      refine E_aload_n dX11_laysEnds_113 rfl ?_
                      refine E_iload_n dX11_laysEnds_114 rfl ?_
                      refine E_iload_n dX11_laysEnds_115 rfl ?_
                      refine E_callV (r := qX11_next) (ci := 11) dX11_laysEnds_116 mkX11_108 voX11_next rfl rfl rfl ⟨Nat.le_of_ble_eq_true rfl, Nat.le_of_ble_eq_true rfl, Nat.le_of_ble_eq_true rfl, Nat.le_of_ble_eq_true rfl⟩ (m_next hR2 c73 hk2) rfl (Nat.le_of_ble_eq_true rfl) ?_
                      rintro _ _ ⟨rfl, rfl⟩
                      refine E_zaldN dX11_laysEnds_119 rfl (nxt_lt hT c73) (by decide) (hz1 _ (nxt_lt hT c73)) ?_
                      refine E_if_eqB (t := 127) dX11_laysEnds_120 (by decide) (fun c120 => ?_) (fun c120 => ?_)
                      · skip
                        have hz2 : RZ 79 E (sI M2 79 k (bI false)) := RZ_same hz1 c91
                        have hst : opn T a k 0 = false ∨ E (nxt T a k) = false := Or.inr c120
                        refine E_iconst (v := nI 0) dX11_laysEnds_127 rfl ?_
                        refine E_top (show nI 0 = bI false from rfl) ?_
                        refine E_zastN dX11_laysEnds_128 rfl (by omega) (by decide) ?_
                        refine E_iload_n dX11_laysEnds_129 rfl ?_
                        refine E_if_neB (t := 142) dX11_laysEnds_130 (by decide) (fun c130 => ?_) (fun c130 => ?_)
                        · skip
                          refine E_iconst (v := nI 1) dX11_laysEnds_142 rfl ?_
                          refine E_goto (t := 147) dX11_laysEnds_143 (by decide) ?_
                          refine E_top (show nI 1 = bI true from rfl) ?_
                          refine E_ist_n (i := 1) dX11_laysEnds_147 rfl (by decide) rfl ?_
                          refine E_iincN (b := 1) dX11_laysEnds_148 rfl rfl (by decide) rfl ?_
                          refine E_goto (t := 68) dX11_laysEnds_151 (by decide) ?_
                          first | exact ihA (a + 1) E true _ (by omega) (by omega) hs1 hmo (fun e => by cases e) (fun _ => hb1 c130) hz2 (hS1.tr (Sb.i (by decide))) | exact ihA (a + 1) E false _ (by omega) (by omega) hs1 hmo (fun _ => ⟨(hb0 c130).1, chk_step (hb0 c130).2 hst⟩) (fun e => by cases e) hz2 (hS1.tr (Sb.i (by decide))) | exact ihA (a + 1) _ true _ (by omega) (by omega) hs3 hm3 (fun e => by cases e) (fun _ => by omega) hz3 (hS1.tr (Sb.i (by decide))) | (exfalso; rw [c91] at c139; cases c139) | (exfalso; simp at c139)
                        · skip
                          refine E_aload_n dX11_laysEnds_133 rfl ?_
                          refine E_getR' (ci := 11) (j := 32) (p := 79) dX11_laysEnds_134 fkX11_62 rfl (by decide) rfl (by decide) (rfl) ?_
                          refine E_iload_n dX11_laysEnds_137 rfl ?_
                          refine E_zaldN dX11_laysEnds_138 rfl (by omega) (by decide) ((by first | exact hz2 k hk2 | exact hz3 k hk2)) ?_
                          refine E_if_eqB (t := 146) dX11_laysEnds_139 (by decide) (fun c139 => ?_) (fun c139 => ?_)
                          · skip
                            refine E_iconst (v := nI 0) dX11_laysEnds_146 rfl ?_
                            refine E_top (show nI 0 = bI false from rfl) ?_
                            refine E_ist_n (i := 1) dX11_laysEnds_147 rfl (by decide) rfl ?_
                            refine E_iincN (b := 1) dX11_laysEnds_148 rfl rfl (by decide) rfl ?_
                            refine E_goto (t := 68) dX11_laysEnds_151 (by decide) ?_
                            first | exact ihA (a + 1) E true _ (by omega) (by omega) hs1 hmo (fun e => by cases e) (fun _ => hb1 c130) hz2 (hS1.tr (Sb.i (by decide))) | exact ihA (a + 1) E false _ (by omega) (by omega) hs1 hmo (fun _ => ⟨(hb0 c130).1, chk_step (hb0 c130).2 hst⟩) (fun e => by cases e) hz2 (hS1.tr (Sb.i (by decide))) | exact ihA (a + 1) _ true _ (by omega) (by omega) hs3 hm3 (fun e => by cases e) (fun _ => by omega) hz3 (hS1.tr (Sb.i (by decide))) | (exfalso; rw [c91] at c139; cases c139) | (exfalso; simp at c139)
                          · skip
                            refine E_iconst (v := nI 1) dX11_laysEnds_142 rfl ?_
                            refine E_goto (t := 147) dX11_laysEnds_143 (by decide) ?_
                            refine E_top (show nI 1 = bI true from rfl) ?_
                            refine E_ist_n (i := 1) dX11_laysEnds_147 rfl (by decide) rfl ?_
                            refine E_iincN (b := 1) dX11_laysEnds_148 rfl rfl (by decide) rfl ?_
                            refine E_goto (t := 68) dX11_laysEnds_151 (by decide) ?_
                            first | exact ihA (a + 1) E true _ (by omega) (by omega) hs1 hmo (fun e => by cases e) (fun _ => hb1 c130) hz2 (hS1.tr (Sb.i (by decide))) | exact ihA (a + 1) E false _ (by omega) (by omega) hs1 hmo (fun _ => ⟨(hb0 c130).1, chk_step (hb0 c130).2 hst⟩) (fun e => by cases e) hz2 (hS1.tr (Sb.i (by decide))) | exact ihA (a + 1) _ true _ (by omega) (by omega) hs3 hm3 (fun e => by cases e) (fun _ => by omega) hz3 (hS1.tr (Sb.i (by decide))) | (exfalso; rw [c91] at c139; cases c139) | (exfalso; simp at c139)
                      · skip
                        have hz3 : RZ 79 (fun t => if t = k then true else E t) (sI M2 79 k (bI true)) := RZ_up hz1
                        have hs3 := sndE_up hT hs1 hk2 c73 c82 c106 c120
                        have hc3 := cntN_up c91 hk2
                        have hc4 : cntN E0 1024 ≤ cntN E 1024 := cntN_mono hmo
                        have hm3 : ∀ t, t < 1024 → E0 t = true → (if t = k then true else E t) = true := fun t ht h6 => by by_cases h7 : t = k; rw [if_pos h7]; rw [if_neg h7]; exact hmo t ht h6
                        refine E_iconst (v := nI 1) dX11_laysEnds_123 rfl ?_
                        refine E_goto (t := 128) dX11_laysEnds_124 (by decide) ?_
                        refine E_top (show nI 1 = bI true from rfl) ?_
                        refine E_zastN dX11_laysEnds_128 rfl (by omega) (by decide) ?_
                        refine E_iload_n dX11_laysEnds_129 rfl ?_
                        refine E_if_neB (t := 142) dX11_laysEnds_130 (by decide) (fun c130 => ?_) (fun c130 => ?_)
                        · skip
                          refine E_iconst (v := nI 1) dX11_laysEnds_142 rfl ?_
                          refine E_goto (t := 147) dX11_laysEnds_143 (by decide) ?_
                          refine E_top (show nI 1 = bI true from rfl) ?_
                          refine E_ist_n (i := 1) dX11_laysEnds_147 rfl (by decide) rfl ?_
                          refine E_iincN (b := 1) dX11_laysEnds_148 rfl rfl (by decide) rfl ?_
                          refine E_goto (t := 68) dX11_laysEnds_151 (by decide) ?_
                          first | exact ihA (a + 1) E true _ (by omega) (by omega) hs1 hmo (fun e => by cases e) (fun _ => hb1 c130) hz2 (hS1.tr (Sb.i (by decide))) | exact ihA (a + 1) E false _ (by omega) (by omega) hs1 hmo (fun _ => ⟨(hb0 c130).1, chk_step (hb0 c130).2 hst⟩) (fun e => by cases e) hz2 (hS1.tr (Sb.i (by decide))) | exact ihA (a + 1) _ true _ (by omega) (by omega) hs3 hm3 (fun e => by cases e) (fun _ => by omega) hz3 (hS1.tr (Sb.i (by decide))) | (exfalso; rw [c91] at c139; cases c139) | (exfalso; simp at c139)
                        · skip
                          refine E_aload_n dX11_laysEnds_133 rfl ?_
                          refine E_getR' (ci := 11) (j := 32) (p := 79) dX11_laysEnds_134 fkX11_62 rfl (by decide) rfl (by decide) (rfl) ?_
                          refine E_iload_n dX11_laysEnds_137 rfl ?_
                          refine E_zaldN dX11_laysEnds_138 rfl (by omega) (by decide) ((by first | exact hz2 k hk2 | exact hz3 k hk2)) ?_
                          refine E_if_eqB (t := 146) dX11_laysEnds_139 (by decide) (fun c139 => ?_) (fun c139 => ?_)
                          · skip
                            refine E_iconst (v := nI 0) dX11_laysEnds_146 rfl ?_
                            refine E_top (show nI 0 = bI false from rfl) ?_
                            refine E_ist_n (i := 1) dX11_laysEnds_147 rfl (by decide) rfl ?_
                            refine E_iincN (b := 1) dX11_laysEnds_148 rfl rfl (by decide) rfl ?_
                            refine E_goto (t := 68) dX11_laysEnds_151 (by decide) ?_
                            first | exact ihA (a + 1) E true _ (by omega) (by omega) hs1 hmo (fun e => by cases e) (fun _ => hb1 c130) hz2 (hS1.tr (Sb.i (by decide))) | exact ihA (a + 1) E false _ (by omega) (by omega) hs1 hmo (fun _ => ⟨(hb0 c130).1, chk_step (hb0 c130).2 hst⟩) (fun e => by cases e) hz2 (hS1.tr (Sb.i (by decide))) | exact ihA (a + 1) _ true _ (by omega) (by omega) hs3 hm3 (fun e => by cases e) (fun _ => by omega) hz3 (hS1.tr (Sb.i (by decide))) | (exfalso; rw [c91] at c139; cases c139) | (exfalso; simp at c139)
                          · skip
                            refine E_iconst (v := nI 1) dX11_laysEnds_142 rfl ?_
                            refine E_goto (t := 147) dX11_laysEnds_143 (by decide) ?_
                            refine E_top (show nI 1 = bI true from rfl) ?_
                            refine E_ist_n (i := 1) dX11_laysEnds_147 rfl (by decide) rfl ?_
                            refine E_iincN (b := 1) dX11_laysEnds_148 rfl rfl (by decide) rfl ?_
                            refine E_goto (t := 68) dX11_laysEnds_151 (by decide) ?_
                            first | exact ihA (a + 1) E true _ (by omega) (by omega) hs1 hmo (fun e => by cases e) (fun _ => hb1 c130) hz2 (hS1.tr (Sb.i (by decide))) | exact ihA (a + 1) E false _ (by omega) (by omega) hs1 hmo (fun _ => ⟨(hb0 c130).1, chk_step (hb0 c130).2 hst⟩) (fun e => by cases e) hz2 (hS1.tr (Sb.i (by decide))) | exact ihA (a + 1) _ true _ (by omega) (by omega) hs3 hm3 (fun e => by cases e) (fun _ => by omega) hz3 (hS1.tr (Sb.i (by decide))) | (exfalso; rw [c91] at c139; cases c139) | (exfalso; simp at c139)
          refine E_iload_n dX11_laysEnds_59 rfl ?_
          refine E_sipush (v := nI 1024) dX11_laysEnds_60 rfl ?_
          refine E_icmp_geN (t := 160) dX11_laysEnds_63 (by decide) (by omega) (by omega) (fun c63 => ?_) (fun c63 => ?_)
          · skip
            refine E_goto (t := 51) dX11_laysEnds_160 (by decide) ?_
            have hk9 : k = 1024 := by omega
            subst hk9
            cases b with
            | false => exact L9 E M2 _ _ hs1 (fun t ht h6 => hmo t ht (hi0 t ht h6)) (hb0 rfl).2 hz1 hS1
            | true => exact ihW E M2 _ _ (by have := hb1 rfl; omega) hs1 (fun t ht h6 => hmo t ht (hi0 t ht h6)) hz1 hS1
          · skip
            refine E_iconst (v := nI 0) dX11_laysEnds_66 rfl ?_
            refine E_ist_n (i := 3) dX11_laysEnds_67 rfl (by decide) rfl ?_
            exact L68 (by omega) (T 61 0 + 1) 0 E b M2 (by omega) (by omega) hs1 hmo hb0 hb1 hz1 hS1
      refine E_iload_n dX11_laysEnds_51 rfl ?_
      refine E_if_eqB (t := 163) dX11_laysEnds_52 (by decide) (fun c52 => ?_) (fun c52 => ?_)
      · skip
        cases c52
      · skip
        refine E_iconst (v := nI 0) dX11_laysEnds_55 rfl ?_
        refine E_top (show nI 0 = bI false from rfl) ?_
        refine E_ist_n (i := 1) dX11_laysEnds_56 rfl (by decide) rfl ?_
        refine E_iconst (v := nI 0) dX11_laysEnds_57 rfl ?_
        refine E_ist_n (i := 2) dX11_laysEnds_58 rfl (by decide) rfl ?_
        exact L59 1025 0 E0 false M1 _ (by omega) (by omega) hs0 (fun t _ h6 => h6) (fun _ => ⟨rfl, fun k' a' b1 b2 b3 => by omega⟩) (fun e => by cases e) hz0 hS0
  have L2 : ∀ (n i : Nat) (M1 : AM), i ≤ 1024 → 1024 < i + n → Sb [79] M M1 → (∀ t, t < i → M1.1 79 t = bI (iniE T D t)) → Ex g qX11_laysEnds (tm g qX11_laysEnds (fun v M' => v = none ∧ Sb [79] M M' ∧ ∃ E, RZ 79 E M' ∧ endPost T D E)) 2 [some (.ref 61), some (.int (nI i)), none, none] [] M1 := by
    intro n
    induction n with
    | zero => intro i M1 h1 h2; exact absurd h2 (by omega)
    | succ n ih =>
      intro i M1 hi hn hS hm
      have hR2 := rm_sb hR hS (by decide)
      have hF2 := rf_sb hF hS (by decide)
      refine E_iload_n dX11_laysEnds_2 rfl ?_
      refine E_sipush (v := nI 1024) dX11_laysEnds_3 rfl ?_
      refine E_icmp_geN (t := 49) dX11_laysEnds_6 (by decide) (by omega) (by omega) (fun c6 => ?_) (fun c6 => ?_)
      · skip
        refine E_iconst (v := nI 1) dX11_laysEnds_49 rfl ?_
        refine E_top (show nI 1 = bI true from rfl) ?_
        refine E_ist_n (i := 1) dX11_laysEnds_50 rfl (by decide) rfl ?_
        refine L51 1025 (iniE T D) M1 _ _ (by omega) (fun k hk h6 => ?_) (fun t _ h6 => h6) (fun t ht => hm t (by omega)) hS
        unfold iniE at h6
        rw [Bool.and_eq_true] at h6
        exact ⟨fun e => by rw [e] at h6; exact absurd h6.1 (by decide), 0, k, rfl, h6.2⟩
      · skip
        refine E_aload_n dX11_laysEnds_9 rfl ?_
        refine E_getR' (ci := 11) (j := 32) (p := 79) dX11_laysEnds_10 fkX11_62 rfl (by decide) rfl (by decide) (rfl) ?_
        refine E_iload_n dX11_laysEnds_13 rfl ?_
        refine E_aload_n dX11_laysEnds_14 rfl ?_
        refine E_getR' (ci := 11) (j := 18) (p := 73) dX11_laysEnds_15 fkX11_44 rfl (by decide) rfl (by decide) (rfl) ?_
        refine E_iload_n dX11_laysEnds_18 rfl ?_
        refine E_ialdN dX11_laysEnds_19 rfl (by omega) (by decide) (hF2 i (by omega)) ?_
        refine E_if_ltO (t := 41) dX11_laysEnds_20 (by decide) (fun d hd => by have := hD _ d hd; omega) (fun c20 => ?_) (fun c20 => ?_)
        · skip
          have hv : iniE T D i = false := by simp [iniE, c20]
          refine E_iconst (v := nI 0) dX11_laysEnds_41 rfl ?_
          refine E_top (show nI 0 = bI false from rfl) ?_
          refine E_zastN dX11_laysEnds_42 rfl (by omega) (by decide) ?_
          refine E_iincN (b := 1) dX11_laysEnds_43 rfl rfl (by decide) rfl ?_
          refine E_goto (t := 2) dX11_laysEnds_46 (by decide) ?_
          refine ih (i + 1) _ (by omega) (by omega) (hS.tr (Sb.i (by decide))) (fun t ht => ?_)
          rw [sI_get]
          by_cases h5 : t = i
          · rw [if_pos ⟨rfl, h5⟩, h5, hv]
          · rw [if_neg (fun e => h5 e.2)]; exact hm t (by omega)
        · skip
          obtain ⟨d, hd⟩ := Option.ne_none_iff_exists'.mp c20
          refine E_aload_n dX11_laysEnds_23 rfl ?_
          refine E_getI' (ci := 11) (j := 2) dX11_laysEnds_24 fkX11_98 rfl (by decide) rfl (by decide) (rm_endings hR2) ?_
          refine E_iload_n dX11_laysEnds_27 rfl ?_
          refine E_bipush (v := nI 64) dX11_laysEnds_28 rfl ?_
          refine E_idivN dX11_laysEnds_30 (by omega) (by decide) (by decide) ?_
          refine E_callS (r := qX11_has) dX11_laysEnds_31 mkX11_94 toX11_has rfl ⟨Nat.le_of_ble_eq_true rfl, Nat.le_of_ble_eq_true rfl, Nat.le_of_ble_eq_true rfl, Nat.le_of_ble_eq_true rfl⟩ (m_has (by omega)) rfl (Nat.le_of_ble_eq_true rfl) ?_
          rintro _ _ ⟨rfl, rfl⟩
          refine E_if_eqB (t := 41) dX11_laysEnds_34 (by decide) (fun c34 => ?_) (fun c34 => ?_)
          · skip
            have hv : iniE T D i = false := by simp [iniE, c34]
            refine E_iconst (v := nI 0) dX11_laysEnds_41 rfl ?_
            refine E_top (show nI 0 = bI false from rfl) ?_
            refine E_zastN dX11_laysEnds_42 rfl (by omega) (by decide) ?_
            refine E_iincN (b := 1) dX11_laysEnds_43 rfl rfl (by decide) rfl ?_
            refine E_goto (t := 2) dX11_laysEnds_46 (by decide) ?_
            refine ih (i + 1) _ (by omega) (by omega) (hS.tr (Sb.i (by decide))) (fun t ht => ?_)
            rw [sI_get]
            by_cases h5 : t = i
            · rw [if_pos ⟨rfl, h5⟩, h5, hv]
            · rw [if_neg (fun e => h5 e.2)]; exact hm t (by omega)
          · skip
            have hv : iniE T D i = true := by simp [iniE, hd, c34]
            refine E_iconst (v := nI 1) dX11_laysEnds_37 rfl ?_
            refine E_goto (t := 42) dX11_laysEnds_38 (by decide) ?_
            refine E_top (show nI 1 = bI true from rfl) ?_
            refine E_zastN dX11_laysEnds_42 rfl (by omega) (by decide) ?_
            refine E_iincN (b := 1) dX11_laysEnds_43 rfl rfl (by decide) rfl ?_
            refine E_goto (t := 2) dX11_laysEnds_46 (by decide) ?_
            refine ih (i + 1) _ (by omega) (by omega) (hS.tr (Sb.i (by decide))) (fun t ht => ?_)
            rw [sI_get]
            by_cases h5 : t = i
            · rw [if_pos ⟨rfl, h5⟩, h5, hv]
            · rw [if_neg (fun e => h5 e.2)]; exact hm t (by omega)
  refine Call_of (ls0 := [some (.ref 61), none, none, none]) rfl rfl (Nat.le_of_ble_eq_true rfl) ?_
  refine E_iconst (v := nI 0) dX11_laysEnds_0 rfl ?_
  refine E_ist_n (i := 1) dX11_laysEnds_1 rfl (by decide) rfl ?_
  exact L2 1025 0 M (by omega) (by omega) Sb.rf (fun t ht => absurd ht (Nat.not_lt_zero t))
end M5
