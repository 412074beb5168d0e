-- the model: line, loops, use, needs, must
def scrM : List Nat := [73, 74, 79, 80, 81, 82, 83, 84]
abbrev RtS (x : Int32) (M : AM) : Option Value → AM → Prop := fun v M' => v = some (.int x) ∧ Sb scrM M M'
theorem Sb.scr {S : List Nat} {M M' : AM} (h1 : Sb S M M') (hs : S.all (fun k => scrM.contains k) = true) : Sb scrM M M' := h1.sub (fun k hk => by
  have := List.all_eq_true.mp hs k hk
  simpa using this)
theorem dle_N {succ : Nat → List Nat} {f N : Nat} : ∀ t d, (bfs succ f N).2 t = some d → d ≤ N := by
  rw [bfs_eq]
  exact fun t d hd => bfN_dle N t d hd
theorem DL_DT {T : TK} : DL (DT T) := by
  unfold DL DT
  exact dle_N
theorem isD_cl {succ : Nat → List Nat} {f : Nat} {D : Nat → Option Nat} (hD : isD succ f D) {k t : Nat} (hk : ¬ D k = none) (ht : t ∈ succ k) : ¬ D t = none := by
  obtain ⟨d, hd⟩ := Option.ne_none_iff_exists'.mp hk
  have h1 : ∃ n, rch succ f n t := ⟨d + 1, k, ((hD k d).mp hd).1, ht⟩
  obtain ⟨n, h2, h3⟩ := pk_least _ h1
  rw [(hD t n).mpr ⟨h2, h3⟩]
  exact fun e => by cases e
theorem DT_isD {T : TK} (hT : WT T) (hB : T 61 13 < 64) : isD (sx0 T) (fst0 T) (DT T) := by
  unfold DT
  exact bfs_isD (fst0_lt hT hB) (sux_lt hT)
noncomputable def canB (T : TK) (k : Nat) : Bool := @decide (canE T k) (Classical.propDecidable _)
theorem canB_iff {T : TK} {k : Nat} : canB T k = true ↔ canE T k := by
  unfold canB
  exact @decide_eq_true_iff _ (Classical.propDecidable _)
theorem lost_eq {T : TK} {D : Nat → Option Nat} {E : Nat → Bool} (hp : endPost T D E) {s : Nat} (hs : s < 1024) : ((D s).isSome && !E s) = ((D s).isSome && !canB T s) := by
  cases hd : D s with
  | none => rfl
  | some d =>
    have h1 := hp s hs
    have h2 := canB_iff (T := T) (k := s)
    have h3 : ¬ D s = none := by rw [hd]; exact fun e => by cases e
    cases he : E s <;> cases hc : canB T s <;> simp_all
def omN (f : Nat → Option Nat) : Nat → Option Nat
  | 0 => none
  | n + 1 => omin (omN f n) (f n)
theorem fewN_om {D : Nat → Option Nat} {b : Nat} : ∀ n, fewN D b n = omN (fun k => D (b + k)) n
  | 0 => rfl
  | n + 1 => by rw [fewN, omN, fewN_om n]
theorem omin_none (x : Option Nat) : omin none x = x := by cases x <;> rfl
theorem omin_assoc (x y z : Option Nat) : omin (omin x y) z = omin x (omin y z) := by
  cases x with
  | none => rw [omin_none, omin_none]
  | some a =>
    cases y with
    | none => rw [omin_none]; rfl
    | some b =>
      cases z with
      | none => rfl
      | some c =>
        show (match (if b < a then some b else some a) with
          | none => some c
          | some e => if c < e then some c else some e) = _
        show _ = (match (if c < b then some c else some b) with
          | none => some a
          | some d => if d < a then some d else some a)
        by_cases h1 : b < a <;> by_cases h2 : c < b <;> simp only [h1, h2, if_true, if_false] <;> by_cases h3 : c < a <;> simp only [h3, if_true, if_false] <;> first | rfl | omega | (exfalso; omega)
theorem omin_spec {x y : Option Nat} {m : Nat} : omin x y = some m ↔ (x = some m ∨ y = some m) ∧ (∀ a, x = some a → m ≤ a) ∧ ∀ a, y = some a → m ≤ a := by
  cases x with
  | none => rw [omin_none]; constructor
            · intro e; exact ⟨Or.inr e, fun a e2 => (by cases e2), fun a e2 => by rw [e] at e2; cases e2; exact Nat.le_refl _⟩
            · rintro ⟨e | e, -, -⟩
              · cases e
              · exact e
  | some a =>
    cases y with
    | none =>
      show some a = some m ↔ _
      constructor
      · intro e; exact ⟨Or.inl e, fun b e2 => by cases e; cases e2; exact Nat.le_refl _, fun b e2 => by cases e2⟩
      · rintro ⟨e | e, -, -⟩
        · exact e
        · cases e
    | some b =>
      show (if b < a then some b else some a) = some m ↔ _
      constructor
      · intro e
        by_cases h1 : b < a
        · rw [if_pos h1] at e
          cases e
          exact ⟨Or.inr rfl, fun c e2 => by cases e2; omega, fun c e2 => by cases e2; exact Nat.le_refl _⟩
        · rw [if_neg h1] at e
          cases e
          exact ⟨Or.inl rfl, fun c e2 => by cases e2; exact Nat.le_refl _, fun c e2 => by cases e2; omega⟩
      · rintro ⟨e, h2, h3⟩
        have h4 := h2 a rfl
        have h5 := h3 b rfl
        by_cases h1 : b < a
        · rw [if_pos h1]
          rcases e with e | e
          · cases e; omega
          · exact e
        · rw [if_neg h1]
          rcases e with e | e
          · exact e
          · cases e
            have h7 : a = m := by omega
            rw [h7]
theorem omin_eqn {x y : Option Nat} : omin x y = none ↔ x = none ∧ y = none := by
  cases x with
  | none => rw [omin_none]; simp
  | some a => cases y with
    | none => simp [omin]
    | some b => by_cases h1 : b < a <;> simp [omin, h1]
theorem omN_spec {f : Nat → Option Nat} {m : Nat} : ∀ {n : Nat}, omN f n = some m ↔ (∃ k, k < n ∧ f k = some m) ∧ ∀ k x, k < n → f k = some x → m ≤ x
  | 0 => by
    constructor
    · intro e; cases e
    · rintro ⟨⟨k, hk, -⟩, -⟩; exact absurd hk (Nat.not_lt_zero k)
  | n + 1 => by
    rw [omN, omin_spec]
    constructor
    · rintro ⟨h1, h2, h3⟩
      refine ⟨?_, fun k x hk hx => ?_⟩
      · rcases h1 with h1 | h1
        · obtain ⟨⟨k, hk, e⟩, -⟩ := (omN_spec (n := n)).mp h1
          exact ⟨k, by omega, e⟩
        · exact ⟨n, by omega, h1⟩
      · by_cases e : k = n
        · exact h3 x (e ▸ hx)
        · cases ho : omN f n with
          | none =>
            exfalso
            have : ∀ j, j ≤ n → omN f j = none → ∀ i, i < j → f i = none := by
              intro j
              induction j with
              | zero => intro _ _ i hi; exact absurd hi (Nat.not_lt_zero i)
              | succ j ih =>
                intro hj e2 i hi
                rw [omN, omin_eqn] at e2
                by_cases e3 : i = j
                · rw [e3]; exact e2.2
                · exact ih (by omega) e2.1 i (by omega)
            rw [this n (Nat.le_refl n) ho k (by omega)] at hx
            cases hx
          | some y =>
            have h4 := ((omN_spec (n := n)).mp ho).2 k x (by omega) hx
            have h5 := h2 y ho
            omega
    · rintro ⟨⟨k, hk, e⟩, h2⟩
      have h3 : ∀ a, omN f n = some a → m ≤ a := by
        intro a ha
        obtain ⟨⟨j, hj, e2⟩, -⟩ := (omN_spec (n := n)).mp ha
        exact h2 j a (by omega) e2
      refine ⟨?_, h3, fun a ha => h2 n a (by omega) ha⟩
      by_cases e2 : k = n
      · exact Or.inr (e2 ▸ e)
      · exact Or.inl ((omN_spec (n := n)).mpr ⟨⟨k, by omega, e⟩, fun j x hj hx => h2 j x (by omega) hx⟩)
theorem omN_none {f : Nat → Option Nat} : ∀ {n : Nat}, omN f n = none ↔ ∀ k, k < n → f k = none
  | 0 => ⟨fun _ k hk => absurd hk (Nat.not_lt_zero k), fun _ => rfl⟩
  | n + 1 => by
    rw [omN, omin_eqn, omN_none]
    constructor
    · rintro ⟨h1, h2⟩ k hk
      by_cases e : k = n
      · rw [e]; exact h2
      · exact h1 k (by omega)
    · intro h1
      exact ⟨fun k hk => h1 k (by omega), h1 n (by omega)⟩
theorem omN_le {f : Nat → Option Nat} {n c : Nat} (hc : ∀ k x, k < n → f k = some x → x ≤ c) {m : Nat} (hm : omN f n = some m) : m ≤ c := by
  obtain ⟨⟨k, hk, e⟩, -⟩ := omN_spec.mp hm
  exact hc k m hk e
noncomputable def mrLine (T : TK) (x w : Int32) : Int32 :=
  if (inI x 0 15 && (T 61 1).testBit x.toInt.toNat) = false then -1000001 else if inI w 0 5 = false then -1000002 else
  match w.toInt.toNat with
  | 0 => nI (cntN (fun k => (DT T (64 * x.toInt.toNat + k)).isSome) 64)
  | 1 => nI (mkR true (DT T) x.toInt.toNat)
  | 2 => nI (mkR false (DT T) x.toInt.toNat)
  | 3 => nI (cntN (fun k => stuF T (DT T) (64 * x.toInt.toNat + k)) 64)
  | 4 => nI (cntN (fun k => (DT T (64 * x.toInt.toNat + k)).isSome && !canB T (64 * x.toInt.toNat + k)) 64)
  | _ => bI ((T 61 2).testBit x.toInt.toNat)
theorem rts {x y : Int32} {M M' : AM} (h1 : y = x) (hS : Sb scrM M M') : RtS y M (some (.int x)) M' := ⟨by rw [h1], hS⟩
theorem nI_tn {j : Nat} (hj : j < 2 ^ 31) : (nI j).toInt.toNat = j := by rw [nI_toInt hj]; rfl
section M6
variable {g : GG} {M : AM} {T : TK} {D : Nat → Option Nat} {E : Nat → Bool}
theorem m_line2 (hR : RM T M) (hB : RB T M) {x w : Int32} : Call g qX11_line_ [.ref 61, .int x, .int w] M (RtS (mrLine T x w) M) := by
  have hT := rm_wt hR
  refine Call_of (ls0 := [some (.ref 61), some (.int x), some (.int w)]) rfl rfl (Nat.le_of_ble_eq_true rfl) ?_
  refine E_aload_n dX11_line__0 rfl ?_
  refine E_iload_n dX11_line__1 rfl ?_
  refine E_callV (r := qX11_isLine) (ci := 11) dX11_line__2 mkX11_250 voX11_isLine rfl rfl rfl ⟨Nat.le_of_ble_eq_true rfl, Nat.le_of_ble_eq_true rfl, Nat.le_of_ble_eq_true rfl, Nat.le_of_ble_eq_true rfl⟩ (m_isLine hR) rfl (Nat.le_of_ble_eq_true rfl) ?_
  rintro _ _ ⟨rfl, rfl⟩
  refine E_if_neB (t := 11) dX11_line__5 (by decide) (fun c5 => ?_) (fun c5 => ?_)
  · skip
    have h5 := c5
    rw [Bool.and_eq_true] at h5
    obtain ⟨l, hl1, hl2, rfl, hl3⟩ := inI_nat h5.1 (by decide)
    rw [nI_tn hl3] at h5
    have hl16 : l < 16 := by omega
    refine E_iload_n dX11_line__11 rfl ?_
    refine E_i2l dX11_line__12 ?_
    refine E_lconst (v := 0) dX11_line__13 rfl ?_
    refine E_ldc2 dX11_line__14 clX11_253 ?_
    refine E_callS (r := qX11_in) dX11_line__17 mkX11_88 toX11_in rfl ⟨Nat.le_of_ble_eq_true rfl, Nat.le_of_ble_eq_true rfl, Nat.le_of_ble_eq_true rfl, Nat.le_of_ble_eq_true rfl⟩ (m_inI) rfl (Nat.le_of_ble_eq_true rfl) ?_
    rintro _ _ ⟨rfl, rfl⟩
    refine E_top (show _ = bI (inI w 0 5) from rfl) ?_
    refine E_if_neB (t := 26) dX11_line__20 (by decide) (fun c20 => ?_) (fun c20 => ?_)
    · skip
      obtain ⟨j, hj1, hj2, rfl, hj3⟩ := inI_nat c20 (by decide)
      refine E_aload_n dX11_line__26 rfl ?_
      refine E_callV (r := qX11_reachesAll) (ci := 11) dX11_line__27 mkX11_255 voX11_reachesAll rfl rfl rfl ⟨Nat.le_of_ble_eq_true rfl, Nat.le_of_ble_eq_true rfl, Nat.le_of_ble_eq_true rfl, Nat.le_of_ble_eq_true rfl⟩ (m_reachesAll hR hB) rfl (Nat.le_of_ble_eq_true rfl) ?_
      rintro _ M1 ⟨rfl, hS1, hq1⟩
      have hR1 := rm_sb hR hS1 (by decide)
      refine E_pop dX11_line__30 rfl ?_
      refine E_aload_n dX11_line__31 rfl ?_
      refine E_callV (r := qX11_laysEnds) (ci := 11) dX11_line__32 mkX11_258 voX11_laysEnds rfl rfl rfl ⟨Nat.le_of_ble_eq_true rfl, Nat.le_of_ble_eq_true rfl, Nat.le_of_ble_eq_true rfl, Nat.le_of_ble_eq_true rfl⟩ (m_laysEnds (D := DT T) hR1 hq1 DL_DT (fun k t _ hk ht => isD_cl (DT_isD hT hB.2) hk ht)) rfl (Nat.le_of_ble_eq_true rfl) ?_
      rintro _ M2 ⟨rfl, hS2, E, hz, hp⟩
      have hR2 := rm_sb hR1 hS2 (by decide)
      have hq2 := rf_sb hq1 hS2 (by decide)
      have hSS : Sb scrM M M2 := (hS1.scr (by decide)).tr (hS2.scr (by decide))
      have hval : mrLine T (nI l) (nI j) = mrLine T (nI l) (nI j) := rfl
      conv at hval => rhs; unfold mrLine
      rw [if_neg (by rw [c5]; decide), if_neg (by rw [c20]; decide), nI_tn hl3, nI_tn hj3] at hval
      refine E_iload_n dX11_line__35 rfl ?_
      rcases (show j = 0 ∨ j = 1 ∨ j = 2 ∨ j = 3 ∨ j = 4 ∨ j = 5 by omega) with rfl | rfl | rfl | rfl | rfl | rfl
      · skip
        refine E_swIn (t := 72) (off := 36) dX11_line__36 (by decide) (by decide) (by decide) (by decide) ?_
        refine E_aload_n dX11_line__72 rfl ?_
        refine E_iload_n dX11_line__73 rfl ?_
        refine E_iconst (v := nI 0) dX11_line__74 rfl ?_
        refine E_callV (r := qX11_statesOf) (ci := 11) dX11_line__75 mkX11_261 voX11_statesOf rfl rfl rfl ⟨Nat.le_of_ble_eq_true rfl, Nat.le_of_ble_eq_true rfl, Nat.le_of_ble_eq_true rfl, Nat.le_of_ble_eq_true rfl⟩ (m_statesOf (w := 0) (E := E) hR2 hq2 DL_DT (fun e => by cases e) hl16 (by decide)) rfl (Nat.le_of_ble_eq_true rfl) ?_
        rintro _ _ ⟨rfl, rfl⟩
        refine E_iret dX11_line__78 rfl ?_
        exact rts (hval.trans (congrArg nI (cntN_cong (fun k _ => by simp [st3])))) hSS
      · skip
        refine E_swIn (t := 79) (off := 43) dX11_line__36 (by decide) (by decide) (by decide) (by decide) ?_
        refine E_aload_n dX11_line__79 rfl ?_
        refine E_iload_n dX11_line__80 rfl ?_
        refine E_iconst (v := nI 1) dX11_line__81 rfl ?_
        refine E_top (show nI 1 = bI true from rfl) ?_
        refine E_callV (r := qX11_marksOf) (ci := 11) dX11_line__82 mkX11_264 voX11_marksOf rfl rfl rfl ⟨Nat.le_of_ble_eq_true rfl, Nat.le_of_ble_eq_true rfl, Nat.le_of_ble_eq_true rfl, Nat.le_of_ble_eq_true rfl⟩ (m_marksOf (b := true) hq2 DL_DT hl16) rfl (Nat.le_of_ble_eq_true rfl) ?_
        rintro _ _ ⟨rfl, rfl⟩
        refine E_iret dX11_line__85 rfl ?_
        exact rts hval hSS
      · skip
        refine E_swIn (t := 86) (off := 50) dX11_line__36 (by decide) (by decide) (by decide) (by decide) ?_
        refine E_aload_n dX11_line__86 rfl ?_
        refine E_iload_n dX11_line__87 rfl ?_
        refine E_iconst (v := nI 0) dX11_line__88 rfl ?_
        refine E_top (show nI 0 = bI false from rfl) ?_
        refine E_callV (r := qX11_marksOf) (ci := 11) dX11_line__89 mkX11_264 voX11_marksOf rfl rfl rfl ⟨Nat.le_of_ble_eq_true rfl, Nat.le_of_ble_eq_true rfl, Nat.le_of_ble_eq_true rfl, Nat.le_of_ble_eq_true rfl⟩ (m_marksOf (b := false) hq2 DL_DT hl16) rfl (Nat.le_of_ble_eq_true rfl) ?_
        rintro _ _ ⟨rfl, rfl⟩
        refine E_iret dX11_line__92 rfl ?_
        exact rts hval hSS
      · skip
        refine E_swIn (t := 93) (off := 57) dX11_line__36 (by decide) (by decide) (by decide) (by decide) ?_
        refine E_aload_n dX11_line__93 rfl ?_
        refine E_iload_n dX11_line__94 rfl ?_
        refine E_iconst (v := nI 1) dX11_line__95 rfl ?_
        refine E_callV (r := qX11_statesOf) (ci := 11) dX11_line__96 mkX11_261 voX11_statesOf rfl rfl rfl ⟨Nat.le_of_ble_eq_true rfl, Nat.le_of_ble_eq_true rfl, Nat.le_of_ble_eq_true rfl, Nat.le_of_ble_eq_true rfl⟩ (m_statesOf (w := 1) (E := E) hR2 hq2 DL_DT (fun e => by cases e) hl16 (by decide)) rfl (Nat.le_of_ble_eq_true rfl) ?_
        rintro _ _ ⟨rfl, rfl⟩
        refine E_iret dX11_line__99 rfl ?_
        exact rts (hval.trans (congrArg nI (cntN_cong (fun k _ => by simp [st3])))) hSS
      · skip
        refine E_swIn (t := 100) (off := 64) dX11_line__36 (by decide) (by decide) (by decide) (by decide) ?_
        refine E_aload_n dX11_line__100 rfl ?_
        refine E_iload_n dX11_line__101 rfl ?_
        refine E_iconst (v := nI 2) dX11_line__102 rfl ?_
        refine E_callV (r := qX11_statesOf) (ci := 11) dX11_line__103 mkX11_261 voX11_statesOf rfl rfl rfl ⟨Nat.le_of_ble_eq_true rfl, Nat.le_of_ble_eq_true rfl, Nat.le_of_ble_eq_true rfl, Nat.le_of_ble_eq_true rfl⟩ (m_statesOf (w := 2) (E := E) hR2 hq2 DL_DT (fun _ => hz) hl16 (by decide)) rfl (Nat.le_of_ble_eq_true rfl) ?_
        rintro _ _ ⟨rfl, rfl⟩
        refine E_iret dX11_line__106 rfl ?_
        exact rts (hval.trans (congrArg nI (cntN_cong (fun k hk => (lost_eq hp (by omega)).symm.trans (by simp [st3]))))) hSS
      · skip
        refine E_swOut (t := 107) dX11_line__36 (by decide) (by decide) ?_
        refine E_aload_n dX11_line__107 rfl ?_
        refine E_getI' (ci := 11) (j := 2) dX11_line__108 fkX11_98 rfl (by decide) rfl (by decide) (rm_endings hR2) ?_
        refine E_iload_n dX11_line__111 rfl ?_
        refine E_callS (r := qX11_has) dX11_line__112 mkX11_94 toX11_has rfl ⟨Nat.le_of_ble_eq_true rfl, Nat.le_of_ble_eq_true rfl, Nat.le_of_ble_eq_true rfl, Nat.le_of_ble_eq_true rfl⟩ (m_has (j := l) (by omega)) rfl (Nat.le_of_ble_eq_true rfl) ?_
        rintro _ _ ⟨rfl, rfl⟩
        refine E_if_eqB (t := 122) dX11_line__115 (by decide) (fun c115 => ?_) (fun c115 => ?_)
        · skip
          refine E_iconst (v := nI 0) dX11_line__122 rfl ?_
          refine E_iret dX11_line__123 rfl ?_
          first | exact rts (hval.trans (nI1_b c115).symm) hSS | exact rts (hval.trans (nI0_b c115).symm) hSS
        · skip
          refine E_iconst (v := nI 1) dX11_line__118 rfl ?_
          refine E_goto (t := 123) dX11_line__119 (by decide) ?_
          refine E_iret dX11_line__123 rfl ?_
          first | exact rts (hval.trans (nI1_b c115).symm) hSS | exact rts (hval.trans (nI0_b c115).symm) hSS
    · skip
      refine E_ldc dX11_line__23 ckX11_131 ?_
      refine E_iret dX11_line__25 rfl ?_
      exact ⟨by unfold mrLine; rw [if_neg (by rw [c5]; decide), if_pos c20], Sb.rf⟩
  · skip
    refine E_ldc dX11_line__8 ckX11_214 ?_
    refine E_iret dX11_line__10 rfl ?_
    exact ⟨by unfold mrLine; rw [if_pos c5], Sb.rf⟩
theorem m_laysReached (hR : RM T M) (hB : RB T M) : Call g qX11_laysReached [.ref 61] M (fun v M' => v = none ∧ Sb [73, 74, 82] M M' ∧ RZ 82 (fun t => (DT T t).isSome) M') := by
  have L : ∀ (n i : Nat) (M1 : AM), i ≤ 1024 → 1024 < i + n → Sb [73, 74, 82] M M1 → RF (DT T) M1 → (∀ t, t < i → M1.1 82 t = bI (DT T t).isSome) → Ex g qX11_laysReached (tm g qX11_laysReached (fun v M' => v = none ∧ Sb [73, 74, 82] M M' ∧ RZ 82 (fun t => (DT T t).isSome) M')) 7 [some (.ref 61), some (.int (nI i))] [] M1 := by
    intro n
    induction n with
    | zero => intro i M1 h1 h2; exact absurd h2 (by omega)
    | succ n ih =>
      intro i M1 hi hn hS hF hm
      refine E_iload_n dX11_laysReached_7 rfl ?_
      refine E_sipush (v := nI 1024) dX11_laysReached_8 rfl ?_
      refine E_icmp_geN (t := 40) dX11_laysReached_11 (by decide) (by omega) (by omega) (fun c11 => ?_) (fun c11 => ?_)
      · skip
        refine E_vret dX11_laysReached_40 rfl ?_
        exact ⟨rfl, hS, fun t ht => hm t (by omega)⟩
      · skip
        refine E_aload_n dX11_laysReached_14 rfl ?_
        refine E_getR' (ci := 11) (j := 35) (p := 82) dX11_laysReached_15 fkX11_71 rfl (by decide) rfl (by decide) (rfl) ?_
        refine E_iload_n dX11_laysReached_18 rfl ?_
        refine E_aload_n dX11_laysReached_19 rfl ?_
        refine E_getR' (ci := 11) (j := 18) (p := 73) dX11_laysReached_20 fkX11_44 rfl (by decide) rfl (by decide) (rfl) ?_
        refine E_iload_n dX11_laysReached_23 rfl ?_
        refine E_ialdN dX11_laysReached_24 rfl (by omega) (by decide) (hF i (by omega)) ?_
        refine E_if_ltO (t := 32) dX11_laysReached_25 (by decide) (fun d hd => by have := DL_DT i d hd; omega) (fun c25 => ?_) (fun c25 => ?_)
        · skip
          have hv : (DT T i).isSome = false := by rw [c25]; rfl
          refine E_iconst (v := nI 0) dX11_laysReached_32 rfl ?_
          refine E_top (show nI 0 = bI false from rfl) ?_
          refine E_zastN dX11_laysReached_33 rfl (by omega) (by decide) ?_
          refine E_iincN (b := 1) dX11_laysReached_34 rfl rfl (by decide) rfl ?_
          refine E_goto (t := 7) dX11_laysReached_37 (by decide) ?_
          refine ih (i + 1) _ (by omega) (by omega) (hS.tr (Sb.i (by decide))) (rf_sb hF (Sb.i (S := [82]) (by decide)) (by decide)) (fun t ht => ?_)
          rw [sI_get]
          by_cases h5 : t = i
          · rw [if_pos ⟨rfl, h5⟩, h5, hv]
          · rw [if_neg (fun e => h5 e.2)]; exact hm t (by omega)
        · skip
          obtain ⟨d, hd⟩ := Option.ne_none_iff_exists'.mp c25
          have hv : (DT T i).isSome = true := by rw [hd]; rfl
          refine E_iconst (v := nI 1) dX11_laysReached_28 rfl ?_
          refine E_goto (t := 33) dX11_laysReached_29 (by decide) ?_
          refine E_top (show nI 1 = bI true from rfl) ?_
          refine E_zastN dX11_laysReached_33 rfl (by omega) (by decide) ?_
          refine E_iincN (b := 1) dX11_laysReached_34 rfl rfl (by decide) rfl ?_
          refine E_goto (t := 7) dX11_laysReached_37 (by decide) ?_
          refine ih (i + 1) _ (by omega) (by omega) (hS.tr (Sb.i (by decide))) (rf_sb hF (Sb.i (S := [82]) (by decide)) (by decide)) (fun t ht => ?_)
          rw [sI_get]
          by_cases h5 : t = i
          · rw [if_pos ⟨rfl, h5⟩, h5, hv]
          · rw [if_neg (fun e => h5 e.2)]; exact hm t (by omega)
  refine Call_of (ls0 := [some (.ref 61), none]) rfl rfl (Nat.le_of_ble_eq_true rfl) ?_
  refine E_aload_n dX11_laysReached_0 rfl ?_
  refine E_callV (r := qX11_reachesAll) (ci := 11) dX11_laysReached_1 mkX11_255 voX11_reachesAll rfl rfl rfl ⟨Nat.le_of_ble_eq_true rfl, Nat.le_of_ble_eq_true rfl, Nat.le_of_ble_eq_true rfl, Nat.le_of_ble_eq_true rfl⟩ (m_reachesAll hR hB) rfl (Nat.le_of_ble_eq_true rfl) ?_
  rintro _ M1 ⟨rfl, hS1, hq1⟩
  refine E_pop dX11_laysReached_4 rfl ?_
  refine E_iconst (v := nI 0) dX11_laysReached_5 rfl ?_
  refine E_ist_n (i := 1) dX11_laysReached_6 rfl (by decide) rfl ?_
  exact L 1025 0 M1 (by omega) (by omega) (hS1.sub (by decide)) hq1 (fun t ht => absurd ht (Nat.not_lt_zero t))
end M6
