-- the class as a whole: what holds between calls
def Spq (p q : Nat) : Prop := (p = 39 ∧ q = 50) ∨ (p = 50 ∧ q = 39)
theorem spq_p {p q : Nat} (h : Spq p q) : Sp p := h.elim (fun h => Or.inl h.1) (fun h => Or.inr h.1)
theorem spq_q {p q : Nat} (h : Spq p q) : Sp q := h.elim (fun h => Or.inr h.2) (fun h => Or.inl h.2)
theorem spq_s {p q : Nat} (h : Spq p q) : Spq q p := h.elim (fun h => Or.inr ⟨h.2, h.1⟩) (fun h => Or.inl ⟨h.2, h.1⟩)
/-- what is fresh -/
def FG (T : TK) (M : AM) : Prop := ∃ gf hf lf pf : Bool, M.1 0 12 = bI gf ∧ M.1 0 13 = bI hf ∧ M.1 0 14 = bI lf ∧ M.1 0 15 = bI pf ∧ (gf = true → GR T M ∧ (hf = true → HP T M) ∧ (lf = true → LoP T M) ∧ (pf = true → PP T M))
/-- all but what is fresh -/
def CB (T : TK) (p q : Nat) (M : AM) : Prop := Spq p q ∧ M.2.2 0 9 = p ∧ M.2.2 0 10 = q ∧ M.1 0 11 = bI (tlk T) ∧ (M.1 1 1 = nI (T 61 21) ∧ (∀ i, i < T 61 21 → M.1 2 i = nI (T 75 i)) ∧ M.1 1 2 = nI (T 61 22)) ∧ CO T M ∧ AC T M ∧ (∃ a b, Rab a b ∧ M.2.2 36 0 = a ∧ M.2.2 36 1 = b) ∧ (tlk T = true → SC T p M ∧ SL T p M ∧ NL T) ∧ (tlk T = false → T 61 0 = 0)
def CX (T : TK) (p q : Nat) (M : AM) : Prop := CB T p q M ∧ FG T M
section CX1
variable {g : GG} {M M' : AM} {T : TK} {p q : Nat}
theorem cb_pq (h : CB T p q M) : Spq p q := h.1
theorem cb_scr (h : CB T p q M) : M.2.2 0 9 = p := h.2.1
theorem cb_spa (h : CB T p q M) : M.2.2 0 10 = q := h.2.2.1
theorem cb_tol (h : CB T p q M) : M.1 0 11 = bI (tlk T) := h.2.2.2.1
theorem cb_siz (h : CB T p q M) : M.1 1 1 = nI (T 61 21) := h.2.2.2.2.1.1
theorem cb_let (h : CB T p q M) : ∀ i, i < T 61 21 → M.1 2 i = nI (T 75 i) := h.2.2.2.2.1.2.1
theorem cb_fau (h : CB T p q M) : M.1 1 2 = nI (T 61 22) := h.2.2.2.2.1.2.2
theorem cb_co (h : CB T p q M) : CO T M := h.2.2.2.2.2.1
theorem cb_ac (h : CB T p q M) : AC T M := h.2.2.2.2.2.2.1
theorem cb_row (h : CB T p q M) : ∃ a b, Rab a b ∧ M.2.2 36 0 = a ∧ M.2.2 36 1 = b := h.2.2.2.2.2.2.2.1
theorem cb_tld (h : CB T p q M) (ht : tlk T = true) : SC T p M ∧ SL T p M ∧ NL T := h.2.2.2.2.2.2.2.2.1 ht
theorem cb_unt (h : CB T p q M) (ht : tlk T = false) : T 61 0 = 0 := h.2.2.2.2.2.2.2.2.2 ht
theorem tlk_n (h : tlk T = true) : T 61 1 ≠ 0 := fun e => by unfold tlk at h; rw [e] at h; cases h
theorem tlk_0 (h : tlk T = false) : T 61 1 = 0 := by
  unfold tlk at h
  rw [Bool.not_eq_false', beq_iff_eq] at h
  exact h
/-- cells that tell nothing between calls -/
def idle : List Nat := [21, 22, 23, 24, 26, 27, 29, 30, 31, 32, 33, 34, 37, 38]
def lowC : List Nat := [9, 10, 11, 12, 13, 14, 15, 16, 17, 18, 19, 20, 21, 22, 23, 24, 25, 26, 27, 28, 29, 30, 31, 32, 33, 34, 35, 37, 38]
theorem co_fr (h : CO T M) (h3 : M'.1 3 = M.1 3) (h4 : M'.1 4 = M.1 4) : CO T M' := by unfold CO at *; rw [h3, h4]; exact h
theorem ac_fr (h : AC T M) (h5 : M'.1 5 = M.1 5) (h6 : M'.1 6 = M.1 6) (h7 : M'.1 7 = M.1 7) (h8 : M'.1 8 = M.1 8) : AC T M' := by unfold AC at *; rw [h5, h6, h7, h8]; exact h
theorem sl_fr (h : SL T p M) (h9 : M'.1 (p + 9) = M.1 (p + 9)) (h10 : M'.1 (p + 10) = M.1 (p + 10)) : SL T p M' := by unfold SL at *; rw [h9, h10]; exact h
/-- what lies from 9 to 35 (but the row counts' references) doesn't matter to CB -/
theorem cb_fr (h : CB T p q M) (hf : ∀ k, k < 9 ∨ k = 36 ∨ (39 ≤ k ∧ k ≤ 60) → M'.1 k = M.1 k ∧ M'.2.2 k = M.2.2 k) : CB T p q M' := by
  obtain ⟨h1, h2, h3, h4, h5, h6, h7, h8, h9, h10⟩ := h
  have hp := sp_39 (spq_p h1)
  have e : ∀ k, k < 9 ∨ k = 36 ∨ (39 ≤ k ∧ k ≤ 60) → M'.1 k = M.1 k := fun k hk => (hf k hk).1
  refine ⟨h1, by rw [(hf 0 (by decide)).2]; exact h2, by rw [(hf 0 (by decide)).2]; exact h3, by rw [e 0 (by decide)]; exact h4, by rw [e 1 (by decide), e 2 (by decide)]; exact h5, co_fr h6 (e 3 (by decide)) (e 4 (by decide)), ac_fr h7 (e 5 (by decide)) (e 6 (by decide)) (e 7 (by decide)) (e 8 (by decide)), by rw [(hf 36 (by decide)).2]; exact h8, fun ht => ?_, h10⟩
  obtain ⟨a, b, c⟩ := h9 ht
  exact ⟨sc_fr a (fun k q1 q2 => e k (by omega)), sl_fr b (e _ (by omega)) (e _ (by omega)), c⟩
theorem fg_fr (h : FG T M) (hf : ∀ k, k = 0 ∨ (9 ≤ k ∧ k ≤ 20) ∨ k = 25 ∨ k = 28 ∨ k = 35 → M'.1 k = M.1 k) : FG T M' := by
  obtain ⟨gf, hf', lf, pf, h1, h2, h3, h4, h5⟩ := h
  have e0 := hf 0 (by decide)
  refine ⟨gf, hf', lf, pf, by rw [e0]; exact h1, by rw [e0]; exact h2, by rw [e0]; exact h3, by rw [e0]; exact h4, fun hg => ?_⟩
  obtain ⟨a, b, c, d⟩ := h5 hg
  refine ⟨⟨g3_fr a.1 (fun c hc => hf c ?_), by rw [hf 15 (by decide)]; exact a.2.1, by rw [hf 19 (by decide)]; exact a.2.2.1, by rw [hf 20 (by decide)]; exact a.2.2.2⟩, fun q => ?_, fun q => ?_, fun q => ?_⟩
  · revert c; decide
  · unfold HP; rw [hf 25 (by decide)]; exact b q
  · unfold LoP; rw [hf 28 (by decide)]; exact c q
  · unfold PP; rw [hf 35 (by decide)]; exact d q
theorem cx_idle (h : CX T p q M) {S : List Nat} (hS : Sb S M M') (hd : ∀ c ∈ S, c ∈ idle) : CX T p q M' := by
  have e : ∀ k, ¬ k ∈ idle → M'.1 k = M.1 k ∧ M'.2.2 k = M.2.2 k := fun k hk => ⟨(hS k (fun q => hk (hd k q))).1, (hS k (fun q => hk (hd k q))).2.2⟩
  have hi : ∀ k ∈ idle, 21 ≤ k ∧ k ≤ 38 ∧ k ≠ 25 ∧ k ≠ 28 ∧ k ≠ 35 ∧ k ≠ 36 := by decide
  exact ⟨cb_fr h.1 (fun k hk => e k (fun q => by have := hi k q; omega)), fg_fr h.2 (fun k hk => (e k (fun q => by have := hi k q; omega)).1)⟩
def F60 (M M' : AM) : Prop := ∀ k, 61 ≤ k → M'.1 k = M.1 k ∧ M'.2.1 k = M.2.1 k ∧ M'.2.2 k = M.2.2 k
theorem F60.rf : F60 M M := fun _ _ => ⟨rfl, rfl, rfl⟩
theorem F60.tr {M1 M2 M3 : AM} (h1 : F60 M1 M2) (h2 : F60 M2 M3) : F60 M1 M3 := fun k hk => ⟨(h2 k hk).1.trans (h1 k hk).1, (h2 k hk).2.1.trans (h1 k hk).2.1, (h2 k hk).2.2.trans (h1 k hk).2.2⟩
theorem F60.s {M1 M2 : AM} {S : List Nat} (h : Sb S M1 M2) (hd : ∀ c ∈ S, c < 61) : F60 M1 M2 := fun k hk => h k (fun q => by have := hd k q; omega)
theorem F60.i {M1 M2 : AM} {k j : Nat} {x : Int32} (h : F60 M1 M2) (hk : k < 61) : F60 M1 (sI M2 k j x) := h.tr (fun i hi => ⟨sI_ne (by omega), rfl, rfl⟩)
theorem F60.r {M1 M2 : AM} {k j x : Nat} (h : F60 M1 M2) (hk : k < 61) : F60 M1 (sR M2 k j x) := h.tr (fun i hi => ⟨rfl, rfl, sR_ne (by omega)⟩)
theorem ms_60 (h : MS T M) (hF : F60 M M') : MS T M' := by
  have e : ∀ k, 61 ≤ k → M'.1 k = M.1 k := fun k hk => (hF k hk).1
  obtain ⟨h1, h2, h3, h4, h5⟩ := h
  refine ⟨rm_cong h1 (fun j _ => by rw [e 61 (by decide)]) (fun i _ => e _ (by omega)), by unfold RB; rw [e 61 (by decide)]; exact h2, by unfold RS; rw [e 61 (by decide), e 71 (by decide)]; exact h3, by unfold RA; rw [e 61 (by decide), e 70 (by decide), e 72 (by decide)]; exact h4, by unfold RX; rw [e 61 (by decide), e 75 (by decide)]; exact h5⟩
/-- a call of the model leaves the other alone -/
theorem cx_61 (h : CX T p q M) {S : List Nat} (hS : Sb S M M') (hd : ∀ c ∈ S, 61 ≤ c) : CX T p q M' := by
  have e : ∀ k, k < 61 → M'.1 k = M.1 k ∧ M'.2.2 k = M.2.2 k := fun k hk => ⟨(hS k (fun q => by have := hd k q; omega)).1, (hS k (fun q => by have := hd k q; omega)).2.2⟩
  exact ⟨cb_fr h.1 (fun k hk => e k (by omega)), fg_fr h.2 (fun k hk => (e k (by omega)).1)⟩
abbrev RtC (x : Int32) (T : TK) (p q : Nat) (M : AM) : Option Value → AM → Prop := fun v M' => v = some (.int x) ∧ CX T p q M' ∧ F60 M M'
theorem rtc {x y : Int32} (h1 : x = y) (hC : CX T p q M') (hF : F60 M M') : RtC y T p q M (some (.int x)) M' := ⟨by rw [h1], hC, hF⟩
theorem i_lt0 {x : Int32} : x < 0 ↔ x.toInt < 0 := by rw [Int32.lt_iff_toInt_lt]; rfl
theorem i_leN {x : Int32} {n : Nat} (hn : n < 2 ^ 31) : nI n ≤ x ↔ (n : Int) ≤ x.toInt := by rw [Int32.le_iff_toInt_le, nI_toInt hn]
theorem i_Nle {x : Int32} {n : Nat} (hn : n < 2 ^ 31) : x ≤ nI n ↔ x.toInt ≤ (n : Int) := by rw [Int32.le_iff_toInt_le, nI_toInt hn]
theorem i_ltN {x : Int32} {n : Nat} (hn : n < 2 ^ 31) : x < nI n ↔ x.toInt < (n : Int) := by rw [Int32.lt_iff_toInt_lt, nI_toInt hn]
theorem i_Nlt {x : Int32} {n : Nat} (hn : n < 2 ^ 31) : nI n < x ↔ (n : Int) < x.toInt := by rw [Int32.lt_iff_toInt_lt, nI_toInt hn]
theorem inI_f {x : Int32} {lo hi : Int} : inI x lo hi = false ↔ x.toInt < lo ∨ hi < x.toInt := by
  unfold inI
  rw [decide_eq_false_iff_not]
  omega
theorem inI_t {x : Int32} {lo hi : Int} : inI x lo hi = true ↔ lo ≤ x.toInt ∧ x.toInt ≤ hi := by
  unfold inI
  rw [decide_eq_true_iff]
end CX1
section CX2
variable {g : GG} {M : AM} {T : TK} {p q : Nat}
theorem c_isLine (hC : CB T p q M) {x : Int32} : Call g qX10_isLine [.ref 0, .int x] M (Rt (bI (isLn T x)) M) := by
  have hs := spq_p (cb_pq hC)
  have hscr := cb_scr hC
  have htol := cb_tol hC
  cases ht : tlk T with
  | false =>
    rw [ht] at htol
    have key : false = isLn T x := by unfold isLn; rw [tlk_0 ht, Nat.zero_testBit, Bool.and_false]
    refine Call_of (ls0 := [some (.ref 0), some (.int x)]) rfl rfl (Nat.le_of_ble_eq_true rfl) ?_
    refine E_aload_n dX10_isLine_0 rfl ?_
    refine E_getI' (ci := 10) (j := 11) dX10_isLine_1 fkX10_96 rfl (by decide) rfl (by decide) (htol) ?_
    refine E_if_eqB (t := 36) dX10_isLine_4 (by decide) (fun c4 => ?_) (fun c4 => ?_)
    · skip
      refine E_iconst (v := nI 0) dX10_isLine_36 rfl ?_
      refine E_top (show nI 0 = bI false from rfl) ?_
      refine E_zret dX10_isLine_37 rfl (bI_01 _) ?_
      exact Rt_b key
    · skip
      cases c4
  | true =>
    rw [ht] at htol
    have hSC := (cb_tld hC ht).1
    have hth : M.1 p 11 = nI (T 61 1) := sc_6 hSC (j := 1) (by decide)
    cases hx : inI x 0 15 with
    | false =>
      have key : false = isLn T x := by unfold isLn; rw [hx]; rfl
      have hx2 := inI_f.mp hx
      refine Call_of (ls0 := [some (.ref 0), some (.int x)]) rfl rfl (Nat.le_of_ble_eq_true rfl) ?_
      refine E_aload_n dX10_isLine_0 rfl ?_
      refine E_getI' (ci := 10) (j := 11) dX10_isLine_1 fkX10_96 rfl (by decide) rfl (by decide) (htol) ?_
      refine E_if_eqB (t := 36) dX10_isLine_4 (by decide) (fun c4 => ?_) (fun c4 => ?_)
      · skip
        cases c4
      · skip
        refine E_iload_n dX10_isLine_7 rfl ?_
        refine E_if_lt (t := 36) dX10_isLine_8 (by decide) (fun c8 => ?_) (fun c8 => ?_)
        · skip
          refine E_iconst (v := nI 0) dX10_isLine_36 rfl ?_
          refine E_top (show nI 0 = bI false from rfl) ?_
          refine E_zret dX10_isLine_37 rfl (bI_01 _) ?_
          exact Rt_b key
        · skip
          refine E_iload_n dX10_isLine_11 rfl ?_
          refine E_bipush (v := nI 16) dX10_isLine_12 rfl ?_
          refine E_icmp_ge (t := 36) dX10_isLine_14 (by decide) (fun c14 => ?_) (fun c14 => ?_)
          · skip
            refine E_iconst (v := nI 0) dX10_isLine_36 rfl ?_
            refine E_top (show nI 0 = bI false from rfl) ?_
            refine E_zret dX10_isLine_37 rfl (bI_01 _) ?_
            exact Rt_b key
          · skip
            exact absurd c14 (by rw [i_leN (by decide)]; rw [i_lt0] at c8; omega)
            skip
    | true =>
      obtain ⟨j, j1, j2, rfl, j3⟩ := inI_nat hx (by decide)
      have key : (T 61 1).testBit j = isLn T (nI j) := by unfold isLn; rw [hx, nI_tn j3]; rfl
      refine Call_of (ls0 := [some (.ref 0), some (.int (nI j))]) rfl rfl (Nat.le_of_ble_eq_true rfl) ?_
      refine E_aload_n dX10_isLine_0 rfl ?_
      refine E_getI' (ci := 10) (j := 11) dX10_isLine_1 fkX10_96 rfl (by decide) rfl (by decide) (htol) ?_
      refine E_if_eqB (t := 36) dX10_isLine_4 (by decide) (fun c4 => ?_) (fun c4 => ?_)
      · skip
        cases c4
      · skip
        refine E_iload_n dX10_isLine_7 rfl ?_
        refine E_if_ltN (t := 36) dX10_isLine_8 (by decide) (by omega) ?_
        refine E_iload_n dX10_isLine_11 rfl ?_
        refine E_bipush (v := nI 16) dX10_isLine_12 rfl ?_
        refine E_icmp_geN (t := 36) dX10_isLine_14 (by decide) (by omega) (by omega) (fun c14 => ?_) (fun c14 => ?_)
        · skip
          exact absurd c14 (by omega)
        · skip
          refine E_aload_n dX10_isLine_17 rfl ?_
          refine E_getM' (ci := 10) (j := 9) (p := p) dX10_isLine_18 fkX10_75 rfl (by decide) rfl (by decide) (hscr) ?_
          refine E_getI' (ci := 8) (j := 11) dX10_isLine_21 fkX10_200 rfl (by decide) (kS hs) (by decide) (hth) ?_
          refine E_iload_n dX10_isLine_24 rfl ?_
          refine E_callS (r := qX10_bit) dX10_isLine_25 mkX10_135 toX10_bit rfl ⟨Nat.le_of_ble_eq_true rfl, Nat.le_of_ble_eq_true rfl, Nat.le_of_ble_eq_true rfl, Nat.le_of_ble_eq_true rfl⟩ (c_bit (by omega)) rfl (Nat.le_of_ble_eq_true rfl) ?_
          rintro _ _ ⟨rfl, rfl⟩
          refine E_iconst (v := nI 1) dX10_isLine_28 rfl ?_
          refine E_icmp_neB (t := 36) dX10_isLine_29 (by decide) (fun c29 => ?_) (fun c29 => ?_)
          · skip
            have key2 : false = isLn T (nI j) := by rw [← key, c29]
            refine E_iconst (v := nI 0) dX10_isLine_36 rfl ?_
            refine E_top (show nI 0 = bI false from rfl) ?_
            refine E_zret dX10_isLine_37 rfl (bI_01 _) ?_
            exact Rt_b key2
          · skip
            have key2 : true = isLn T (nI j) := by rw [← key, c29]
            refine E_iconst (v := nI 1) dX10_isLine_32 rfl ?_
            refine E_goto (t := 37) dX10_isLine_33 (by decide) ?_
            refine E_top (show nI 1 = bI true from rfl) ?_
            refine E_zret dX10_isLine_37 rfl (bI_01 _) ?_
            exact Rt_b key2
theorem c_isAnswer (hC : CB T p q M) (h32 : T 61 0 ≤ 32) {x : Int32} : Call g qX10_isAnswer [.ref 0, .int x] M (Rt (bI (isAn T x)) M) := by
  have hs := spq_p (cb_pq hC)
  have hscr := cb_scr hC
  have htol := cb_tol hC
  cases ht : tlk T with
  | false =>
    rw [ht] at htol
    have key : false = isAn T x := by
      symm
      unfold isAn
      rw [inI_f, cb_unt hC ht]; omega
    refine Call_of (ls0 := [some (.ref 0), some (.int x)]) rfl rfl (Nat.le_of_ble_eq_true rfl) ?_
    refine E_aload_n dX10_isAnswer_0 rfl ?_
    refine E_getI' (ci := 10) (j := 11) dX10_isAnswer_1 fkX10_96 rfl (by decide) rfl (by decide) (htol) ?_
    refine E_if_eqB (t := 26) dX10_isAnswer_4 (by decide) (fun c4 => ?_) (fun c4 => ?_)
    · skip
      refine E_iconst (v := nI 0) dX10_isAnswer_26 rfl ?_
      refine E_top (show nI 0 = bI false from rfl) ?_
      refine E_zret dX10_isAnswer_27 rfl (bI_01 _) ?_
      exact Rt_b key
    · skip
      cases c4
  | true =>
    rw [ht] at htol
    have hSC := (cb_tld hC ht).1
    have hth : M.1 p 10 = nI (T 61 0) := sc_6 hSC (j := 0) (by decide)
    have k1 : x < 0 → false = isAn T x := fun e => by symm; unfold isAn; rw [inI_f]; rw [i_lt0] at e; omega
    have k2 : nI (T 61 0) ≤ x → false = isAn T x := fun e => by symm; unfold isAn; rw [inI_f]; rw [i_leN (by omega)] at e; omega
    have k3 : ¬ x < 0 → ¬ nI (T 61 0) ≤ x → true = isAn T x := fun e1 e2 => by symm; unfold isAn; rw [inI_t]; rw [i_lt0] at e1; rw [i_leN (by omega)] at e2; omega
    refine Call_of (ls0 := [some (.ref 0), some (.int x)]) rfl rfl (Nat.le_of_ble_eq_true rfl) ?_
    refine E_aload_n dX10_isAnswer_0 rfl ?_
    refine E_getI' (ci := 10) (j := 11) dX10_isAnswer_1 fkX10_96 rfl (by decide) rfl (by decide) (htol) ?_
    refine E_if_eqB (t := 26) dX10_isAnswer_4 (by decide) (fun c4 => ?_) (fun c4 => ?_)
    · skip
      cases c4
    · skip
      refine E_iload_n dX10_isAnswer_7 rfl ?_
      refine E_if_lt (t := 26) dX10_isAnswer_8 (by decide) (fun c8 => ?_) (fun c8 => ?_)
      · skip
        have key := k1 c8
        refine E_iconst (v := nI 0) dX10_isAnswer_26 rfl ?_
        refine E_top (show nI 0 = bI false from rfl) ?_
        refine E_zret dX10_isAnswer_27 rfl (bI_01 _) ?_
        exact Rt_b key
      · skip
        refine E_iload_n dX10_isAnswer_11 rfl ?_
        refine E_aload_n dX10_isAnswer_12 rfl ?_
        refine E_getM' (ci := 10) (j := 9) (p := p) dX10_isAnswer_13 fkX10_75 rfl (by decide) rfl (by decide) (hscr) ?_
        refine E_getI' (ci := 8) (j := 10) dX10_isAnswer_16 fkX10_108 rfl (by decide) (kS hs) (by decide) (hth) ?_
        refine E_icmp_ge (t := 26) dX10_isAnswer_19 (by decide) (fun c19 => ?_) (fun c19 => ?_)
        · skip
          have key := k2 c19
          refine E_iconst (v := nI 0) dX10_isAnswer_26 rfl ?_
          refine E_top (show nI 0 = bI false from rfl) ?_
          refine E_zret dX10_isAnswer_27 rfl (bI_01 _) ?_
          exact Rt_b key
        · skip
          have key := k3 c8 c19
          refine E_iconst (v := nI 1) dX10_isAnswer_22 rfl ?_
          refine E_goto (t := 27) dX10_isAnswer_23 (by decide) ?_
          refine E_top (show nI 1 = bI true from rfl) ?_
          refine E_zret dX10_isAnswer_27 rfl (bI_01 _) ?_
          exact Rt_b key
theorem isAn_n {x : Int32} (h : isAn T x = true) (h32 : T 61 0 ≤ 32) : ∃ a, a < T 61 0 ∧ x = nI a := by
  unfold isAn at h
  obtain ⟨j, j1, j2, rfl, j3⟩ := inI_nat h (by decide)
  exact ⟨j, by omega, rfl⟩
theorem isLn_n {x : Int32} (h : isLn T x = true) : ∃ l, l < 16 ∧ x = nI l ∧ (T 61 1).testBit l = true := by
  unfold isLn at h
  rw [Bool.and_eq_true] at h
  obtain ⟨j, j1, j2, rfl, j3⟩ := inI_nat h.1 (by decide)
  exact ⟨j, by omega, rfl, by have := h.2; rw [nI_tn j3] at this; exact this⟩
theorem isAn_t (hC : CB T p q M) {x : Int32} (h : isAn T x = true) : tlk T = true := by
  cases ht : tlk T with
  | true => rfl
  | false =>
    unfold isAn at h
    rw [inI_t, cb_unt hC ht] at h
    omega
theorem isLn_t {x : Int32} (h : isLn T x = true) : tlk T = true := by
  cases ht : tlk T with
  | true => rfl
  | false =>
    unfold isLn at h
    rw [tlk_0 ht, Nat.zero_testBit, Bool.and_false] at h
    cases h
theorem c_isOpenHere (hC : CB T p q M) (ht : tlk T = true) (hh : her T < 1024) {a : Nat} (ha : a < T 61 0) : Call g qX10_isOpenHere [.ref 0, .int (nI a)] M (Rt (bI (opn T a (her T) 0)) M) := by
  have hs := spq_p (cb_pq hC)
  have hscr := cb_scr hC
  have hSC := (cb_tld hC ht).1
  have hCO := cb_co hC
  have cO : Call g qX8_isOpen [.ref p, .int (nI a), .int (nI (herN T (T 61 15) / 64)), .int (nI (herN T (T 61 15) % 64))] M (Rt (bI (opn T a (her T) 0)) M) := by
    have hh2 : herN T (T 61 15) < 1024 := hh
    have := c_isOpen (g := g) hSC ha (l := herN T (T 61 15) / 64) (m := herN T (T 61 15) % 64) (by omega) (by omega)
    rw [show 64 * (herN T (T 61 15) / 64) + herN T (T 61 15) % 64 = herN T (T 61 15) by omega] at this
    exact this
  refine Call_of (ls0 := [some (.ref 0), some (.int (nI a))]) rfl rfl (Nat.le_of_ble_eq_true rfl) ?_
  refine E_aload_n dX10_isOpenHere_0 rfl ?_
  refine E_getM' (ci := 10) (j := 9) (p := p) dX10_isOpenHere_1 fkX10_75 rfl (by decide) rfl (by decide) (hscr) ?_
  refine E_iload_n dX10_isOpenHere_4 rfl ?_
  refine E_aload_n dX10_isOpenHere_5 rfl ?_
  refine E_getR' (ci := 10) (j := 1) (p := 3) dX10_isOpenHere_6 fkX10_19 rfl (by decide) rfl (by decide) (rfl) ?_
  refine E_aload_n dX10_isOpenHere_9 rfl ?_
  refine E_getM' (ci := 10) (j := 9) (p := p) dX10_isOpenHere_10 fkX10_75 rfl (by decide) rfl (by decide) (hscr) ?_
  refine E_callV (r := qX1_lineHere) (ci := 1) dX10_isOpenHere_13 mkX10_128 voX1_lineHere rfl rfl rfl ⟨Nat.le_of_ble_eq_true rfl, Nat.le_of_ble_eq_true rfl, Nat.le_of_ble_eq_true rfl, Nat.le_of_ble_eq_true rfl⟩ (c_lineHere hSC hCO) rfl (Nat.le_of_ble_eq_true rfl) ?_
  rintro _ _ ⟨rfl, rfl⟩
  refine E_aload_n dX10_isOpenHere_16 rfl ?_
  refine E_getR' (ci := 10) (j := 1) (p := 3) dX10_isOpenHere_17 fkX10_19 rfl (by decide) rfl (by decide) (rfl) ?_
  refine E_aload_n dX10_isOpenHere_20 rfl ?_
  refine E_getM' (ci := 10) (j := 9) (p := p) dX10_isOpenHere_21 fkX10_75 rfl (by decide) rfl (by decide) (hscr) ?_
  refine E_callV (r := qX1_marksHere) (ci := 1) dX10_isOpenHere_24 mkX10_190 voX1_marksHere rfl rfl rfl ⟨Nat.le_of_ble_eq_true rfl, Nat.le_of_ble_eq_true rfl, Nat.le_of_ble_eq_true rfl, Nat.le_of_ble_eq_true rfl⟩ (c_marksHere hSC hCO) rfl (Nat.le_of_ble_eq_true rfl) ?_
  rintro _ _ ⟨rfl, rfl⟩
  refine E_callV (r := qX8_isOpen) (ci := 8) dX10_isOpenHere_27 mkX10_320 voX8_isOpen rfl (kS hs) rfl ⟨Nat.le_of_ble_eq_true rfl, Nat.le_of_ble_eq_true rfl, Nat.le_of_ble_eq_true rfl, Nat.le_of_ble_eq_true rfl⟩ (cO) rfl (Nat.le_of_ble_eq_true rfl) ?_
  rintro _ _ ⟨rfl, rfl⟩
  refine E_zret dX10_isOpenHere_30 rfl (bI_01 _) ?_
  exact Rt_b rfl
theorem c_openHere (hC : CB T p q M) (ht : tlk T = true) (hh : her T < 1024) : Call g qX10_openHere [.ref 0] M (Rt (nI (cntN (fun a => opn T a (her T) 0) (T 61 0))) M) := by
  have hs := spq_p (cb_pq hC)
  have hscr := cb_scr hC
  have hSC := (cb_tld hC ht).1
  have h32 := sc_32 hSC
  have L : ∀ (n k : Nat), k ≤ T 61 0 → T 61 0 < k + n → Ex g qX10_openHere (tm g qX10_openHere (Rt (nI (cntN (fun a => opn T a (her T) 0) (T 61 0))) M)) 4 [some (.ref 0), some (.int (nI (cntN (fun a => opn T a (her T) 0) k))), some (.int (nI k))] [] M := by
    intro n
    induction n with
    | zero => intro k h1 h2; exact absurd h2 (by omega)
    | succ n ih =>
      intro k hk hn
      refine E_iload_n dX10_openHere_4 rfl ?_
      refine E_aload_n dX10_openHere_5 rfl ?_
      refine E_getM' (ci := 10) (j := 9) (p := p) dX10_openHere_6 fkX10_75 rfl (by decide) rfl (by decide) (hscr) ?_
      refine E_getI' (ci := 8) (j := 10) dX10_openHere_9 fkX10_108 rfl (by decide) (kS hs) (by decide) (sc_6 hSC (j := 0) (by decide)) ?_
      refine E_icmp_geN (t := 32) dX10_openHere_12 (by decide) (by omega) (by omega) (fun c12 => ?_) (fun c12 => ?_)
      · skip
        refine E_iload_n dX10_openHere_32 rfl ?_
        refine E_iret dX10_openHere_33 rfl ?_
        obtain rfl : k = T 61 0 := by omega
        exact Rt_n rfl
      · skip
        refine E_aload_n dX10_openHere_15 rfl ?_
        refine E_iload_n dX10_openHere_16 rfl ?_
        refine E_callV (r := qX10_isOpenHere) (ci := 10) dX10_openHere_17 mkX10_121 voX10_isOpenHere rfl rfl rfl ⟨Nat.le_of_ble_eq_true rfl, Nat.le_of_ble_eq_true rfl, Nat.le_of_ble_eq_true rfl, Nat.le_of_ble_eq_true rfl⟩ (c_isOpenHere hC ht hh c12) rfl (Nat.le_of_ble_eq_true rfl) ?_
        rintro _ _ ⟨rfl, rfl⟩
        refine E_if_eqB (t := 26) dX10_openHere_20 (by decide) (fun c20 => ?_) (fun c20 => ?_)
        · skip
          have e1 := cntN_f (f := fun a => opn T a (her T) 0) (n := k) c20
          refine E_iincN (b := 1) dX10_openHere_26 rfl rfl (by decide) rfl ?_
          refine E_goto (t := 4) dX10_openHere_29 (by decide) ?_
          rw [← e1]
          exact ih (k + 1) (by omega) (by omega)
        · skip
          have e1 := cntN_t (f := fun a => opn T a (her T) 0) (n := k) c20
          refine E_iincN (b := 1) dX10_openHere_23 rfl rfl (by decide) rfl ?_
          refine E_iincN (b := 1) dX10_openHere_26 rfl rfl (by decide) rfl ?_
          refine E_goto (t := 4) dX10_openHere_29 (by decide) ?_
          rw [← e1]
          exact ih (k + 1) (by omega) (by omega)
  refine Call_of (ls0 := [some (.ref 0), none, none]) rfl rfl (Nat.le_of_ble_eq_true rfl) ?_
  refine E_iconst (v := nI 0) dX10_openHere_0 rfl ?_
  refine E_ist_n (i := 1) dX10_openHere_1 rfl (by decide) rfl ?_
  refine E_iconst (v := nI 0) dX10_openHere_2 rfl ?_
  refine E_ist_n (i := 2) dX10_openHere_3 rfl (by decide) rfl ?_
  exact L (T 61 0 + 1) 0 (Nat.zero_le _) (by omega)
/-- the graph is fresh -/
def CF (T : TK) (p q : Nat) (M : AM) : Prop := CX T p q M ∧ M.1 0 12 = bI true ∧ GR T M
theorem bI_inj {a b : Bool} (h : bI a = bI b) : a = b := by cases a <;> cases b <;> first | rfl | exact absurd h (by decide)
def RfQ (T : TK) (p q : Nat) (M : AM) (v : Option Value) (M' : AM) : Prop := v = none ∧ CF T p q M' ∧ F60 M M'
theorem c_refreshGraph (hC : CX T p q M) (ht : tlk T = true) (hT : WT T) (hB : T 61 13 < 64) : Call g qX10_refreshGraph [.ref 0] M (RfQ T p q M) := by
  have hs := spq_p (cb_pq hC.1)
  have hscr := cb_scr hC.1
  obtain ⟨hSC, hSL, hNL⟩ := cb_tld hC.1 ht
  have hCO := cb_co hC.1
  obtain ⟨gf, hf, lf, pf, h1, h2, h3, h4, h5⟩ := id hC.2
  have K1 : gf = true → RfQ T p q M (none : Option Value) M := fun e => ⟨rfl, ⟨hC, by rw [h1, e], (h5 e).1⟩, F60.rf⟩
  have K2 : ∀ M1, ExQ T M none M1 → RfQ T p q M (none : Option Value) (sI (sI (sI (sI M1 0 12 (bI true)) 0 13 (bI false)) 0 14 (bI false)) 0 15 (bI false)) := fun M1 hE => by
    obtain ⟨-, e1, e2⟩ := hE
    have hb20 : ∀ c ∈ S20, 9 ≤ c ∧ c ≤ 20 := by decide
    have ek : ∀ k, k < 9 ∨ 20 < k → M1.1 k = M.1 k ∧ M1.2.2 k = M.2.2 k := fun k hk => by
      have h := e2 k (fun q => by have := hb20 k q; omega)
      exact ⟨h.1, h.2.2⟩
    have hCB1 : CB T p q M1 := cb_fr hC.1 (fun k hk => ek k (by omega))
    have hGR : GR T (sI (sI (sI (sI M1 0 12 (bI true)) 0 13 (bI false)) 0 14 (bI false)) 0 15 (bI false)) := gr_sb e1 (S := [0]) ((((Sb.i (by decide)).tr (Sb.i (by decide))).tr (Sb.i (by decide))).tr (Sb.i (by decide))) (by decide)
    have hne : ∀ k, k ≠ 0 → (sI (sI (sI (sI M1 0 12 (bI true)) 0 13 (bI false)) 0 14 (bI false)) 0 15 (bI false)).1 k = M1.1 k := fun k hk => by rw [sI_ne hk, sI_ne hk, sI_ne hk, sI_ne hk]
    have hpn := sp_39 hs
    refine ⟨rfl, ⟨⟨⟨hCB1.1, hCB1.2.1, hCB1.2.2.1, ?_, ?_, ?_, ?_, hCB1.2.2.2.2.2.2.2.1, fun ht => ?_, hCB1.2.2.2.2.2.2.2.2.2⟩, ⟨true, false, false, false, ?_, ?_, ?_, ?_, fun _ => ⟨hGR, fun q => (by cases q), fun q => (by cases q), fun q => (by cases q)⟩⟩⟩, ?_, hGR⟩, ?_⟩
    · rw [sI_o (by omega), sI_o (by omega), sI_o (by omega), sI_o (by omega)]; exact hCB1.2.2.2.1
    · rw [hne 1 (by decide), hne 2 (by decide)]; exact hCB1.2.2.2.2.1
    · exact co_fr (cb_co hCB1) (hne 3 (by decide)) (hne 4 (by decide))
    · exact ac_fr (cb_ac hCB1) (hne 5 (by decide)) (hne 6 (by decide)) (hne 7 (by decide)) (hne 8 (by decide))
    · obtain ⟨a, b, c⟩ := cb_tld hCB1 ht
      exact ⟨sc_fr a (fun k q1 q2 => hne k (by omega)), sl_fr b (hne _ (by omega)) (hne _ (by omega)), c⟩
    · rw [sI_o (by omega), sI_o (by omega), sI_o (by omega), sI_s]
    · rw [sI_o (by omega), sI_o (by omega), sI_s]
    · rw [sI_o (by omega), sI_s]
    · rw [sI_s]
    · rw [sI_o (by omega), sI_o (by omega), sI_o (by omega), sI_s]
    · exact (((((F60.s e2 (by decide)).i (by decide)).i (by decide)).i (by decide)).i (by decide))
  refine Call_of (ls0 := [some (.ref 0)]) rfl rfl (Nat.le_of_ble_eq_true rfl) ?_
  refine E_aload_n dX10_refreshGraph_0 rfl ?_
  refine E_getI' (ci := 10) (j := 12) dX10_refreshGraph_1 fkX10_105 rfl (by decide) rfl (by decide) (h1) ?_
  refine E_if_neB (t := 45) dX10_refreshGraph_4 (by decide) (fun c4 => ?_) (fun c4 => ?_)
  · skip
    have key := K1 c4
    refine E_vret dX10_refreshGraph_45 rfl ?_
    exact key
  · skip
    refine E_aload_n dX10_refreshGraph_7 rfl ?_
    refine E_getR' (ci := 10) (j := 3) (p := 9) dX10_refreshGraph_8 fkX10_33 rfl (by decide) rfl (by decide) (rfl) ?_
    refine E_aload_n dX10_refreshGraph_11 rfl ?_
    refine E_getM' (ci := 10) (j := 9) (p := p) dX10_refreshGraph_12 fkX10_75 rfl (by decide) rfl (by decide) (hscr) ?_
    refine E_aload_n dX10_refreshGraph_15 rfl ?_
    refine E_getR' (ci := 10) (j := 1) (p := 3) dX10_refreshGraph_16 fkX10_19 rfl (by decide) rfl (by decide) (rfl) ?_
    refine E_getI' (ci := 1) (j := 2) dX10_refreshGraph_19 fkX10_246 rfl (by decide) rfl (by decide) (hCO.2.2.1) ?_
    refine E_callV (r := qX2_explore) (ci := 2) dX10_refreshGraph_22 mkX10_330 voX2_explore rfl rfl rfl ⟨Nat.le_of_ble_eq_true rfl, Nat.le_of_ble_eq_true rfl, Nat.le_of_ble_eq_true rfl, Nat.le_of_ble_eq_true rfl⟩ (c_explore hT hB hSC hSL) rfl (Nat.le_of_ble_eq_true rfl) ?_
    rintro _ M1 ⟨rfl, hE⟩
    refine E_aload_n dX10_refreshGraph_25 rfl ?_
    refine E_iconst (v := nI 1) dX10_refreshGraph_26 rfl ?_
    refine E_putZ (ci := 10) (j := 12) dX10_refreshGraph_27 fkX10_105 rfl (by decide) rfl (by decide) (Or.inr rfl) ?_
    refine E_aload_n dX10_refreshGraph_30 rfl ?_
    refine E_iconst (v := nI 0) dX10_refreshGraph_31 rfl ?_
    refine E_putZ (ci := 10) (j := 13) dX10_refreshGraph_32 fkX10_334 rfl (by decide) rfl (by decide) (Or.inl rfl) ?_
    refine E_aload_n dX10_refreshGraph_35 rfl ?_
    refine E_iconst (v := nI 0) dX10_refreshGraph_36 rfl ?_
    refine E_putZ (ci := 10) (j := 14) dX10_refreshGraph_37 fkX10_337 rfl (by decide) rfl (by decide) (Or.inl rfl) ?_
    refine E_aload_n dX10_refreshGraph_40 rfl ?_
    refine E_iconst (v := nI 0) dX10_refreshGraph_41 rfl ?_
    refine E_putZ (ci := 10) (j := 15) dX10_refreshGraph_42 fkX10_157 rfl (by decide) rfl (by decide) (Or.inl rfl) ?_
    have key := K2 M1 ⟨rfl, hE⟩
    refine E_vret dX10_refreshGraph_45 rfl ?_
    exact key
end CX2
