-- reading: the grammar as a machine of ten parts; the model's look, wrong, passes, line, isMark
abbrev PS : Type := Nat × Nat × TK
def lnC (c : Nat) : Bool := decide (97 ≤ c ∧ c ≤ 112)
def dgC (c : Nat) : Bool := decide (48 ≤ c ∧ c ≤ 57)
def sMk (c : Nat) : Nat := if 113 ≤ c ∧ c ≤ 118 then 2 ^ (c - 113) else 0
def gMk (c : Nat) : Nat := if 81 ≤ c ∧ c ≤ 86 then 2 ^ (c - 81) else 0
def isMk (c : Nat) : Bool := decide ((113 ≤ c ∧ c ≤ 118) ∨ (81 ≤ c ∧ c ≤ 86))
def nmL (P : TK) (l : Nat) : TK := upT (upT P 61 3 (if P 61 1 = 0 then l else P 61 3)) 61 1 (P 61 1 ||| 2 ^ l)
def adA (P : TK) (l : Nat) : TK := upT (upT (upT (upT (upT (upT (upT P 62 (P 61 0) l) 63 (P 61 0) l) 64 (P 61 0) 0) 65 (P 61 0) 0) 68 (P 61 0) 0) 69 (P 61 0) 0) 61 0 (P 61 0 + 1)
def opA (P : TK) : TK := upT (upT (upT P 66 (3 * (P 61 0 - 1) + P 65 (P 61 0 - 1)) 0) 67 (3 * (P 61 0 - 1) + P 65 (P 61 0 - 1)) 0) 65 (P 61 0 - 1) (P 65 (P 61 0 - 1) + 1)
def orT (P : TK) (k j v : Nat) : TK := upT P k j (P k j ||| v)
def alI (P : TK) : Nat := 3 * (P 61 0 - 1) + P 65 (P 61 0 - 1) - 1
def asM (P : TK) (c : Nat) : TK := orT (orT P 66 (alI P) (sMk c)) 67 (alI P) (gMk c)
def chM (P : TK) (c : Nat) : TK := orT (orT P 68 (P 61 0 - 1) (sMk c)) 69 (P 61 0 - 1) (gMk c)
def pB (f : Nat) (P : TK) : Nat × PS := (f, 0, 0, P)
def pEnd (c l : Nat) (P : TK) : Nat × PS := if c = 59 then (0, 0, l, P) else pB 1 P
def pTen (c l : Nat) (P : TK) : Nat × PS := if c = 33 then (0, 8, l, P) else pEnd c l P
def pAlt (l : Nat) (P : TK) : Nat × PS := if 3 ≤ P 65 (P 61 0 - 1) then pB 2 P else (0, 6, l, opA P)
def pFive (c l : Nat) (P : TK) : Nat × PS := if c = 63 then pAlt l P else pTen c l P
def pAsk (c l : Nat) (P : TK) : Nat × PS := if isMk c = true then (0, 7, l, asM P c) else pB 1 P
def pChg (c l : Nat) (P : TK) : Nat × PS := if isMk c = true then (if (P 68 (P 61 0 - 1) ||| P 69 (P 61 0 - 1)) &&& (sMk c ||| gMk c) = 0 then (0, 9, l, chM P c) else pB 4 P) else pB 1 P
def pS : Nat → Nat → Nat → TK → Nat × PS
  | 0, c, _, P => if lnC c = true then (0, 1, c - 97, nmL P (c - 97)) else pB 1 P
  | 1, c, l, P => if c = 46 then (0, 2, l, orT P 61 2 (2 ^ l)) else if c = 62 then (if 32 ≤ P 61 0 then pB 3 P else (0, 3, l, adA P l)) else pB 1 P
  | 2, c, l, P => pEnd c l P
  | 3, c, l, P => if lnC c = true then (0, 4, l, upT (nmL P (c - 97)) 63 (P 61 0 - 1) (c - 97)) else pB 1 P
  | 4, c, l, P => if dgC c = true then (0, 5, l, upT P 64 (P 61 0 - 1) (c - 48)) else pFive c l P
  | 5, c, l, P => pFive c l P
  | 6, c, l, P => pAsk c l P
  | 7, c, l, P => if isMk c = true then pAsk c l P else if c = 124 then pAlt l P else pTen c l P
  | 8, c, l, P => pChg c l P
  | 9, c, l, P => if c = 59 then (0, 0, l, P) else pChg c l P
  | _, c, l, P => pTen c l P
def pStp (c : Nat) (s : PS) : Nat × PS := pS s.1 c s.2.1 s.2.2
def pRun (T : TK) : Nat → Nat → PS → Nat × Nat × TK
  | 0, p, s => if s.1 = 0 ∧ s.2.2 61 1 ≠ 0 then (0, p, s.2.2) else (1, p, s.2.2)
  | n + 1, p, s => if T 75 p = 32 then pRun T n (p + 1) s else if (pStp (T 75 p) s).1 = 0 then pRun T n (p + 1) (pStp (T 75 p) s).2 else ((pStp (T 75 p) s).1, p, (pStp (T 75 p) s).2.2.2)
def rn (T : TK) (p : Nat) (s : PS) : Nat × Nat × TK := pRun T (T 61 21 - p) p s
section RN
variable {T : TK} {p : Nat} {s s' : PS}
theorem rn_bl (hp : p < T 61 21) (h : T 75 p = 32) : rn T p s = rn T (p + 1) s := by
  unfold rn
  rw [show T 61 21 - p = (T 61 21 - (p + 1)) + 1 by omega, pRun, if_pos h]
theorem rn_ok (hp : p < T 61 21) (h : T 75 p ≠ 32) (e : pStp (T 75 p) s = (0, s')) : rn T p s = rn T (p + 1) s' := by
  unfold rn
  rw [show T 61 21 - p = (T 61 21 - (p + 1)) + 1 by omega, pRun, if_neg h, e, if_pos rfl]
theorem rn_er {f : Nat} (hp : p < T 61 21) (h : T 75 p ≠ 32) (e : pStp (T 75 p) s = (f, s')) (hf : f ≠ 0) : (rn T p s).1 = f ∧ (rn T p s).2.1 = p := by
  unfold rn
  rw [show T 61 21 - p = (T 61 21 - (p + 1)) + 1 by omega, pRun, if_neg h, e, if_neg hf]
  exact ⟨rfl, rfl⟩
theorem rn_en (hp : p = T 61 21) (h : s.1 ≠ 0 ∨ s.2.2 61 1 = 0) : (rn T p s).1 = 1 ∧ (rn T p s).2.1 = p := by
  unfold rn
  rw [show T 61 21 - p = 0 by omega, pRun, if_neg (fun e => h.elim (fun h2 => h2 e.1) (fun h2 => e.2 h2))]
  exact ⟨rfl, rfl⟩
theorem rn_sw (h1 : s.1 ≠ 0) (h2 : s'.1 ≠ 0) (h3 : s.2.2 = s'.2.2) (hp : p ≤ T 61 21) (hb : p < T 61 21 → T 75 p ≠ 32) (e : p < T 61 21 → pStp (T 75 p) s = pStp (T 75 p) s') : rn T p s = rn T p s' := by
  unfold rn
  rcases Nat.lt_or_ge p (T 61 21) with h | h
  · rw [show T 61 21 - p = (T 61 21 - (p + 1)) + 1 by omega, pRun, if_neg (hb h), pRun, if_neg (hb h), e h]
  · rw [show T 61 21 - p = 0 by omega, pRun, if_neg (fun e => h1 e.1), pRun, if_neg (fun e => h2 e.1), h3]
end RN
/-- the fault is found -/
def FL (T : TK) (res : Nat × Nat × TK) (q b : Nat) : Prop := b ≠ 0 ∧ b ≤ 4 ∧ q ≤ T 61 21 ∧ (q < T 61 21 → T 75 q ≠ 32) ∧ res.1 = b ∧ res.2.1 = q
theorem fl_1 {T : TK} {p : Nat} {s : PS} (hp : p ≤ T 61 21) (hb : p < T 61 21 → T 75 p ≠ 32) (h1 : s.1 ≠ 0 ∨ s.2.2 61 1 = 0 ∨ p < T 61 21) (e : p < T 61 21 → pStp (T 75 p) s = pB 1 s.2.2) : FL T (rn T p s) p 1 := by
  rcases Nat.lt_or_ge p (T 61 21) with h | h
  · have := rn_er h (hb h) (e h) (by decide)
    exact ⟨by decide, by decide, hp, hb, this⟩
  · have := rn_en (T := T) (p := p) (s := s) (by omega) (by rcases h1 with h1 | h1 | h1; exact Or.inl h1; exact Or.inr h1; exact absurd h1 (by omega))
    exact ⟨by decide, by decide, hp, hb, this⟩
theorem fl_f {T : TK} {p f : Nat} {s : PS} (hf : f ≠ 0) (hf4 : f ≤ 4) (h : p < T 61 21) (hb : T 75 p ≠ 32) (e : pStp (T 75 p) s = pB f s.2.2) : FL T (rn T p s) p f :=
  ⟨hf, hf4, Nat.le_of_lt h, fun _ => hb, rn_er h hb e hf⟩
def SK (T : TK) (p q : Nat) : Prop := p ≤ q ∧ q ≤ T 61 21 ∧ (q < T 61 21 → T 75 q ≠ 32) ∧ (∀ s, rn T q s = rn T p s) ∧ ((p < T 61 21 → T 75 p ≠ 32) → q = p)
def pChr (T : TK) (q : Nat) : Int32 := if q < T 61 21 then nI (T 75 q) else -1
theorem ch_p {T : TK} {q : Nat} (h : q < T 61 21) : pChr T q = nI (T 75 q) := by unfold pChr; rw [if_pos h]
theorem ch_n {T : TK} {q : Nat} (h : T 61 21 ≤ q) : pChr T q = -1 := by unfold pChr; rw [if_neg (by omega)]
def TX (T : TK) : Prop := T 61 21 ≤ 200 ∧ ∀ i, i < T 61 21 → T 75 i < 256
theorem ch_eq {T : TK} {q c : Nat} (hT : TX T) (hc : c < 2 ^ 31) : pChr T q = nI c ↔ q < T 61 21 ∧ T 75 q = c := by
  rcases Nat.lt_or_ge q (T 61 21) with h | h
  · rw [ch_p h, nI_eq (by have := hT.2 q h; omega) hc]
    exact ⟨fun e => ⟨h, e⟩, fun e => e.2⟩
  · rw [ch_n h]
    exact ⟨fun e => absurd (show nI c < 0 by rw [← e]; decide) (nI_pos hc), fun e => absurd e.1 (by omega)⟩
theorem ch_in {T : TK} {q lo hi : Nat} (hT : TX T) : inI (pChr T q) lo hi = decide (q < T 61 21 ∧ lo ≤ T 75 q ∧ T 75 q ≤ hi) := by
  rcases Nat.lt_or_ge q (T 61 21) with h | h
  · rw [ch_p h, inI_of (by have := hT.2 q h; omega)]
    rw [decide_eq_decide]
    omega
  · rw [ch_n h]
    have h1 : inI (-1) lo hi = false := by
      unfold inI
      rw [decide_eq_false_iff_not]
      have : (-1 : Int32).toInt = -1 := by decide
      rw [this]
      omega
    rw [h1, eq_comm, decide_eq_false_iff_not]
    omega
theorem am_ext {M M' : AM} (h : ∀ a b, M.1 a b = M'.1 a b) (h2 : M.2 = M'.2) : M = M' := Prod.ext (funext fun a => funext fun b => h a b) h2
/-- where the reading is, and its fault -/
def AB (M : AM) (p b : Nat) : AM := sI (sI M 61 23 (nI p)) 61 24 (nI b)
section ABs
variable {M : AM} {p b k j : Nat}
theorem ab_23 : (AB M p b).1 61 23 = nI p := by unfold AB; rw [sI_o (by decide), sI_s]
theorem ab_24 : (AB M p b).1 61 24 = nI b := by unfold AB; rw [sI_s]
theorem ab_o (h1 : ¬ (k = 61 ∧ j = 23)) (h2 : ¬ (k = 61 ∧ j = 24)) : (AB M p b).1 k j = M.1 k j := by unfold AB; rw [sI_o h2, sI_o h1]
theorem ab_k (h1 : k ≠ 61) : (AB M p b).1 k = M.1 k := by unfold AB; rw [sI_ne h1, sI_ne h1]
theorem ab_s23 {p' : Nat} : sI (AB M p b) 61 23 (nI p') = AB M p' b := am_ext (fun x y => by
  simp only [AB, sI_get]
  by_cases h1 : x = 61 ∧ y = 23
  · rw [if_pos h1, if_neg (by omega), if_pos h1]
  · simp only [if_neg h1]) rfl
theorem ab_s24 {b' : Nat} : sI (AB M p b) 61 24 (nI b') = AB M p b' := am_ext (fun x y => by
  simp only [AB, sI_get]
  by_cases h1 : x = 61 ∧ y = 24
  · rw [if_pos h1, if_pos h1]
  · simp only [if_neg h1]) rfl
theorem ab_s {x : Int32} (h1 : ¬ (k = 61 ∧ j = 23)) (h2 : ¬ (k = 61 ∧ j = 24)) : sI (AB M p b) k j x = AB (sI M k j x) p b := am_ext (fun x y => by
  simp only [AB, sI_get]
  by_cases h3 : x = k ∧ y = j
  · rw [if_pos h3, if_neg (by omega), if_neg (by omega), if_pos h3]
  · simp only [if_neg h3]) rfl
theorem ab_rf (h1 : M.1 61 23 = nI p) (h2 : M.1 61 24 = nI b) : M = AB M p b := am_ext (fun x y => by
  simp only [AB, sI_get]
  by_cases h3 : x = 61 ∧ y = 24
  · rw [if_pos h3, h3.1, h3.2, h2]
  · rw [if_neg h3]
    by_cases h4 : x = 61 ∧ y = 23
    · rw [if_pos h4, h4.1, h4.2, h1]
    · rw [if_neg h4]) rfl
end ABs
/-- the text is what it was -/
def RT (T : TK) (M : AM) : Prop := TX T ∧ M.1 61 21 = nI (T 61 21) ∧ ∀ i, i < T 61 21 → M.1 75 i = nI (T 75 i)
section M19
variable {g : GG} {M : AM} {T : TK} {p b : Nat}
abbrev LkP (T : TK) (M : AM) (p b : Nat) : Option Value → AM → Prop := fun v M' => ∃ q, v = some (.int (pChr T q)) ∧ M' = AB M q b ∧ SK T p q
theorem m_look (hX : RT T M) (hp : p ≤ T 61 21) : Call g qX11_look [.ref 61] (AB M p b) (LkP T M p b) := by
  have hsz := hX.1.1
  have L : ∀ (n q : Nat), p ≤ q → q ≤ T 61 21 → T 61 21 < q + n → (∀ s, rn T q s = rn T p s) → ((p < T 61 21 → T 75 p ≠ 32) → q = p) → Ex g qX11_look (tm g qX11_look (LkP T M p b)) 0 [some (.ref 61)] [] (AB M q b) := by
    intro n
    induction n with
    | zero => intro q h1 h2 h3; exact absurd h3 (by omega)
    | succ n ih =>
      intro q hpq hq hn hs he
      refine E_aload_n dX11_look_0 rfl ?_
      refine E_getI' (ci := 11) (j := 23) dX11_look_1 fkX11_136 rfl (by decide) rfl (by decide) (ab_23) ?_
      refine E_aload_n dX11_look_4 rfl ?_
      refine E_getI' (ci := 11) (j := 21) dX11_look_5 fkX11_132 rfl (by decide) rfl (by decide) ((ab_o (by decide) (by decide)).trans hX.2.1) ?_
      refine E_icmp_geN (t := 38) dX11_look_8 (by decide) (by omega) (by omega) (fun c8 => ?_) (fun c8 => ?_)
      · skip
        refine E_aload_n dX11_look_38 rfl ?_
        refine E_getI' (ci := 11) (j := 23) dX11_look_39 fkX11_136 rfl (by decide) rfl (by decide) (ab_23) ?_
        refine E_aload_n dX11_look_42 rfl ?_
        refine E_getI' (ci := 11) (j := 21) dX11_look_43 fkX11_132 rfl (by decide) rfl (by decide) ((ab_o (by decide) (by decide)).trans hX.2.1) ?_
        refine E_icmp_geN (t := 61) dX11_look_46 (by decide) (by omega) (by omega) (fun c46 => ?_) (fun c46 => ?_)
        · skip
          refine E_iconst (v := -1) dX11_look_61 rfl ?_
          refine E_iret dX11_look_62 rfl ?_
          first | exact ⟨q, by rw [ch_p c46], rfl, hpq, hq, fun h => (by first | exact c22 | (exfalso; omega)), hs, he⟩ | exact ⟨q, by rw [ch_n c46], rfl, hpq, hq, fun h => (by exfalso; omega), hs, he⟩
        · skip
          refine E_aload_n dX11_look_49 rfl ?_
          refine E_getR' (ci := 11) (j := 20) (p := 75) dX11_look_50 fkX11_50 rfl (by decide) rfl (by decide) (rfl) ?_
          refine E_aload_n dX11_look_53 rfl ?_
          refine E_getI' (ci := 11) (j := 23) dX11_look_54 fkX11_136 rfl (by decide) rfl (by decide) (ab_23) ?_
          refine E_ialdN dX11_look_57 rfl (by omega) (by decide) ((ab_o (by omega) (by omega)).trans (hX.2.2 q c46)) ?_
          refine E_goto (t := 62) dX11_look_58 (by decide) ?_
          refine E_iret dX11_look_62 rfl ?_
          first | exact ⟨q, by rw [ch_p c46], rfl, hpq, hq, fun h => (by first | exact c22 | (exfalso; omega)), hs, he⟩ | exact ⟨q, by rw [ch_n c46], rfl, hpq, hq, fun h => (by exfalso; omega), hs, he⟩
      · skip
        refine E_aload_n dX11_look_11 rfl ?_
        refine E_getR' (ci := 11) (j := 20) (p := 75) dX11_look_12 fkX11_50 rfl (by decide) rfl (by decide) (rfl) ?_
        refine E_aload_n dX11_look_15 rfl ?_
        refine E_getI' (ci := 11) (j := 23) dX11_look_16 fkX11_136 rfl (by decide) rfl (by decide) (ab_23) ?_
        refine E_ialdN dX11_look_19 rfl (by omega) (by decide) ((ab_o (by omega) (by omega)).trans (hX.2.2 q c8)) ?_
        refine E_bipush (v := nI 32) dX11_look_20 rfl ?_
        refine E_icmp_neN (t := 38) dX11_look_22 (by decide) (by have := hX.1.2 q c8; omega) (by decide) (fun c22 => ?_) (fun c22 => ?_)
        · skip
          refine E_aload_n dX11_look_38 rfl ?_
          refine E_getI' (ci := 11) (j := 23) dX11_look_39 fkX11_136 rfl (by decide) rfl (by decide) (ab_23) ?_
          refine E_aload_n dX11_look_42 rfl ?_
          refine E_getI' (ci := 11) (j := 21) dX11_look_43 fkX11_132 rfl (by decide) rfl (by decide) ((ab_o (by decide) (by decide)).trans hX.2.1) ?_
          refine E_icmp_geN (t := 61) dX11_look_46 (by decide) (by omega) (by omega) (fun c46 => ?_) (fun c46 => ?_)
          · skip
            refine E_iconst (v := -1) dX11_look_61 rfl ?_
            refine E_iret dX11_look_62 rfl ?_
            first | exact ⟨q, by rw [ch_p c46], rfl, hpq, hq, fun h => (by first | exact c22 | (exfalso; omega)), hs, he⟩ | exact ⟨q, by rw [ch_n c46], rfl, hpq, hq, fun h => (by exfalso; omega), hs, he⟩
          · skip
            refine E_aload_n dX11_look_49 rfl ?_
            refine E_getR' (ci := 11) (j := 20) (p := 75) dX11_look_50 fkX11_50 rfl (by decide) rfl (by decide) (rfl) ?_
            refine E_aload_n dX11_look_53 rfl ?_
            refine E_getI' (ci := 11) (j := 23) dX11_look_54 fkX11_136 rfl (by decide) rfl (by decide) (ab_23) ?_
            refine E_ialdN dX11_look_57 rfl (by omega) (by decide) ((ab_o (by omega) (by omega)).trans (hX.2.2 q c46)) ?_
            refine E_goto (t := 62) dX11_look_58 (by decide) ?_
            refine E_iret dX11_look_62 rfl ?_
            first | exact ⟨q, by rw [ch_p c46], rfl, hpq, hq, fun h => (by first | exact c22 | (exfalso; omega)), hs, he⟩ | exact ⟨q, by rw [ch_n c46], rfl, hpq, hq, fun h => (by exfalso; omega), hs, he⟩
        · skip
          refine E_aload_n dX11_look_25 rfl ?_
          refine E_dup dX11_look_26 rfl ?_
          refine E_getI' (ci := 11) (j := 23) dX11_look_27 fkX11_136 rfl (by decide) rfl (by decide) (ab_23) ?_
          refine E_iconst (v := nI 1) dX11_look_30 rfl ?_
          refine E_iaddN dX11_look_31 ?_
          refine E_putI (ci := 11) (j := 23) dX11_look_32 fkX11_136 rfl (by decide) rfl (by decide) ?_
          refine E_mem ab_s23 ?_
          refine E_goto (t := 0) dX11_look_35 (by decide) ?_
          exact ih (q + 1) (by omega) (by omega) (by omega) (fun s => by rw [← rn_bl c8 c22]; exact hs s) (fun h => by have := he h; subst this; exact absurd c22 (h c8))
  refine Call_of (ls0 := [some (.ref 61)]) rfl rfl (Nat.le_of_ble_eq_true rfl) ?_
  exact L (T 61 21 + 1) p (Nat.le_refl _) hp (by omega) (fun s => rfl) (fun _ => rfl)
theorem m_wrong {k : Nat} (hb : b ≤ 4) : Call g qX11_wrong [.ref 61, .int (nI k)] (AB M p b) (fun v M' => v = none ∧ M' = AB M p (if b = 0 then k else b)) := by
  refine Call_of (ls0 := [some (.ref 61), some (.int (nI k))]) rfl rfl (Nat.le_of_ble_eq_true rfl) ?_
  refine E_aload_n dX11_wrong_0 rfl ?_
  refine E_aload_n dX11_wrong_1 rfl ?_
  refine E_getI' (ci := 11) (j := 24) dX11_wrong_2 fkX11_139 rfl (by decide) rfl (by decide) (ab_24) ?_
  refine E_if_neN (t := 12) dX11_wrong_5 (by decide) (by omega) (fun c5 => ?_) (fun c5 => ?_)
  · skip
    refine E_aload_n dX11_wrong_12 rfl ?_
    refine E_getI' (ci := 11) (j := 24) dX11_wrong_13 fkX11_139 rfl (by decide) rfl (by decide) (ab_24) ?_
    refine E_putI (ci := 11) (j := 24) dX11_wrong_16 fkX11_139 rfl (by decide) rfl (by decide) ?_
    refine E_mem ab_s24 ?_
    refine E_vret dX11_wrong_19 rfl ?_
    first | exact ⟨rfl, by rw [if_pos c5]⟩ | exact ⟨rfl, by rw [if_neg (by omega)]⟩
  · skip
    refine E_iload_n dX11_wrong_8 rfl ?_
    refine E_goto (t := 16) dX11_wrong_9 (by decide) ?_
    refine E_putI (ci := 11) (j := 24) dX11_wrong_16 fkX11_139 rfl (by decide) rfl (by decide) ?_
    refine E_mem ab_s24 ?_
    refine E_vret dX11_wrong_19 rfl ?_
    first | exact ⟨rfl, by rw [if_pos c5]⟩ | exact ⟨rfl, by rw [if_neg (by omega)]⟩
def psB (T : TK) (q b c : Nat) : Nat := if b = 0 then (if q < T 61 21 ∧ T 75 q = c then 0 else 1) else b
theorem m_passes (hX : RT T M) (hp : p ≤ T 61 21) {c : Nat} (hc : c < 2 ^ 31) (hb : b ≤ 4) : Call g qX11_passes [.ref 61, .int (nI c)] (AB M p b) (fun v M' => ∃ q, v = none ∧ M' = AB M (if psB T q b c = 0 then q + 1 else q) (psB T q b c) ∧ SK T p q) := by
  have hsz := hX.1.1
  refine Call_of (ls0 := [some (.ref 61), some (.int (nI c))]) rfl rfl (Nat.le_of_ble_eq_true rfl) ?_
  refine E_aload_n dX11_passes_0 rfl ?_
  refine E_callV (r := qX11_look) (ci := 11) dX11_passes_1 mkX11_142 voX11_look rfl rfl rfl ⟨Nat.le_of_ble_eq_true rfl, Nat.le_of_ble_eq_true rfl, Nat.le_of_ble_eq_true rfl, Nat.le_of_ble_eq_true rfl⟩ (m_look hX hp) rfl (Nat.le_of_ble_eq_true rfl) ?_
  rintro _ _ ⟨q, rfl, rfl, hq⟩
  refine E_iload_n dX11_passes_4 rfl ?_
  refine E_icmp_eq (t := 13) dX11_passes_5 (by decide) (fun c5 => ?_) (fun c5 => ?_)
  · skip
    have hps : psB T q b c = b := by unfold psB; rw [if_pos ((ch_eq hX.1 hc).mp c5)]; split <;> omega
    have hps4 : psB T q b c ≤ 4 := by rw [hps]; exact hb
    refine E_mem (show AB M q b = AB M q (psB T q b c) by rw [hps]) ?_
    refine E_aload_n dX11_passes_13 rfl ?_
    refine E_dup dX11_passes_14 rfl ?_
    refine E_getI' (ci := 11) (j := 23) dX11_passes_15 fkX11_136 rfl (by decide) rfl (by decide) (ab_23) ?_
    refine E_aload_n dX11_passes_18 rfl ?_
    refine E_getI' (ci := 11) (j := 24) dX11_passes_19 fkX11_139 rfl (by decide) rfl (by decide) (ab_24) ?_
    refine E_if_neN (t := 29) dX11_passes_22 (by decide) (by omega) (fun c22 => ?_) (fun c22 => ?_)
    · skip
      refine E_iconst (v := nI 0) dX11_passes_29 rfl ?_
      refine E_iaddN dX11_passes_30 ?_
      refine E_putI (ci := 11) (j := 23) dX11_passes_31 fkX11_136 rfl (by decide) rfl (by decide) ?_
      refine E_mem ab_s23 ?_
      refine E_vret dX11_passes_34 rfl ?_
      first | exact ⟨q, rfl, by rw [if_pos c22], hq⟩ | exact ⟨q, rfl, by rw [if_neg (by omega)]; rfl, hq⟩
    · skip
      refine E_iconst (v := nI 1) dX11_passes_25 rfl ?_
      refine E_goto (t := 30) dX11_passes_26 (by decide) ?_
      refine E_iaddN dX11_passes_30 ?_
      refine E_putI (ci := 11) (j := 23) dX11_passes_31 fkX11_136 rfl (by decide) rfl (by decide) ?_
      refine E_mem ab_s23 ?_
      refine E_vret dX11_passes_34 rfl ?_
      first | exact ⟨q, rfl, by rw [if_pos c22], hq⟩ | exact ⟨q, rfl, by rw [if_neg (by omega)]; rfl, hq⟩
  · skip
    have hps : psB T q b c = if b = 0 then 1 else b := by unfold psB; rw [if_neg (fun e => c5 ((ch_eq hX.1 hc).mpr e))]
    have hps4 : psB T q b c ≤ 4 := by rw [hps]; split <;> omega
    refine E_aload_n dX11_passes_8 rfl ?_
    refine E_iconst (v := nI 1) dX11_passes_9 rfl ?_
    refine E_callV (r := qX11_wrong) (ci := 11) dX11_passes_10 mkX11_145 voX11_wrong rfl rfl rfl ⟨Nat.le_of_ble_eq_true rfl, Nat.le_of_ble_eq_true rfl, Nat.le_of_ble_eq_true rfl, Nat.le_of_ble_eq_true rfl⟩ (m_wrong (k := 1) hb) rfl (Nat.le_of_ble_eq_true rfl) ?_
    rintro _ _ ⟨rfl, rfl⟩
    rw [← hps]
    refine E_aload_n dX11_passes_13 rfl ?_
    refine E_dup dX11_passes_14 rfl ?_
    refine E_getI' (ci := 11) (j := 23) dX11_passes_15 fkX11_136 rfl (by decide) rfl (by decide) (ab_23) ?_
    refine E_aload_n dX11_passes_18 rfl ?_
    refine E_getI' (ci := 11) (j := 24) dX11_passes_19 fkX11_139 rfl (by decide) rfl (by decide) (ab_24) ?_
    refine E_if_neN (t := 29) dX11_passes_22 (by decide) (by omega) (fun c22 => ?_) (fun c22 => ?_)
    · skip
      refine E_iconst (v := nI 0) dX11_passes_29 rfl ?_
      refine E_iaddN dX11_passes_30 ?_
      refine E_putI (ci := 11) (j := 23) dX11_passes_31 fkX11_136 rfl (by decide) rfl (by decide) ?_
      refine E_mem ab_s23 ?_
      refine E_vret dX11_passes_34 rfl ?_
      first | exact ⟨q, rfl, by rw [if_pos c22], hq⟩ | exact ⟨q, rfl, by rw [if_neg (by omega)]; rfl, hq⟩
    · skip
      refine E_iconst (v := nI 1) dX11_passes_25 rfl ?_
      refine E_goto (t := 30) dX11_passes_26 (by decide) ?_
      refine E_iaddN dX11_passes_30 ?_
      refine E_putI (ci := 11) (j := 23) dX11_passes_31 fkX11_136 rfl (by decide) rfl (by decide) ?_
      refine E_mem ab_s23 ?_
      refine E_vret dX11_passes_34 rfl ?_
      first | exact ⟨q, rfl, by rw [if_pos c22], hq⟩ | exact ⟨q, rfl, by rw [if_neg (by omega)]; rfl, hq⟩
def lnM (M : AM) (th st c : Nat) : AM := sI (sI M 61 31 (nI (if th = 0 then c else st))) 61 29 (nI (th ||| 2 ^ c))
theorem m_line (hX : RT T M) (hp : p ≤ T 61 21) {th st : Nat} (h29 : M.1 61 29 = nI th) (hth : th < 65536) (h31 : M.1 61 31 = nI st) : Call g qX11_line [.ref 61] (AB M p 0) (fun v M' => ∃ q, SK T p q ∧ ((∃ c, c < 16 ∧ q < T 61 21 ∧ T 75 q = 97 + c ∧ v = some (.int (nI c)) ∧ M' = AB (lnM M th st c) (q + 1) 0) ∨ ((q < T 61 21 → lnC (T 75 q) = false) ∧ v = some (.int (nI 0)) ∧ M' = AB M q 1))) := by
  have hsz := hX.1.1
  have J1 : ∀ q, SK T p q → (q < T 61 21 → lnC (T 75 q) = false) → Ex g qX11_line (tm g qX11_line (fun v M' => ∃ q, SK T p q ∧ ((∃ c, c < 16 ∧ q < T 61 21 ∧ T 75 q = 97 + c ∧ v = some (.int (nI c)) ∧ M' = AB (lnM M th st c) (q + 1) 0) ∨ ((q < T 61 21 → lnC (T 75 q) = false) ∧ v = some (.int (nI 0)) ∧ M' = AB M q 1)))) 24 [some (.ref 61), some (.int (pChr T q))] [] (AB M q 1) := by
    intro q hq hno
    refine E_aload_n dX11_line_24 rfl ?_
    refine E_getI' (ci := 11) (j := 24) dX11_line_25 fkX11_139 rfl (by decide) rfl (by decide) (ab_24) ?_
    refine E_if_leN (t := 33) dX11_line_28 (by decide) (by decide) (fun c28 => ?_) (fun c28 => ?_)
    · skip
      exact absurd c28 (by decide)
    · skip
      refine E_iconst (v := nI 0) dX11_line_31 rfl ?_
      refine E_iret dX11_line_32 rfl ?_
      exact ⟨q, hq, Or.inr ⟨hno, rfl, rfl⟩⟩
  have J2 : ∀ q c, SK T p q → q < T 61 21 → T 75 q = 97 + c → c < 16 → 2 ^ c < 2 ^ 16 → Ex g qX11_line (tm g qX11_line (fun v M' => ∃ q, SK T p q ∧ ((∃ c, c < 16 ∧ q < T 61 21 ∧ T 75 q = 97 + c ∧ v = some (.int (nI c)) ∧ M' = AB (lnM M th st c) (q + 1) 0) ∨ ((q < T 61 21 → lnC (T 75 q) = false) ∧ v = some (.int (nI 0)) ∧ M' = AB M q 1)))) 24 [some (.ref 61), some (.int (nI (97 + c)))] [] (AB M q 0) := by
    intro q c hq h1 hc hc16 hcp
    refine E_aload_n dX11_line_24 rfl ?_
    refine E_getI' (ci := 11) (j := 24) dX11_line_25 fkX11_139 rfl (by decide) rfl (by decide) (ab_24) ?_
    refine E_if_leN (t := 33) dX11_line_28 (by decide) (by decide) (fun c28 => ?_) (fun c28 => ?_)
    · skip
      refine E_aload_n dX11_line_33 rfl ?_
      refine E_dup dX11_line_34 rfl ?_
      refine E_getI' (ci := 11) (j := 23) dX11_line_35 fkX11_136 rfl (by decide) rfl (by decide) (ab_23) ?_
      refine E_iconst (v := nI 1) dX11_line_38 rfl ?_
      refine E_iaddN dX11_line_39 ?_
      refine E_putI (ci := 11) (j := 23) dX11_line_40 fkX11_136 rfl (by decide) rfl (by decide) ?_
      refine E_mem ab_s23 ?_
      refine E_aload_n dX11_line_43 rfl ?_
      refine E_aload_n dX11_line_44 rfl ?_
      refine E_getI' (ci := 11) (j := 29) dX11_line_45 fkX11_153 rfl (by decide) rfl (by decide) ((ab_o (by decide) (by decide)).trans h29) ?_
      refine E_if_neN (t := 58) dX11_line_48 (by decide) (by omega) (fun c48 => ?_) (fun c48 => ?_)
      · skip
        refine E_aload_n dX11_line_58 rfl ?_
        refine E_getI' (ci := 11) (j := 31) dX11_line_59 fkX11_156 rfl (by decide) rfl (by decide) ((ab_o (by decide) (by decide)).trans h31) ?_
        refine E_putI (ci := 11) (j := 31) dX11_line_62 fkX11_156 rfl (by decide) rfl (by decide) ?_
        refine E_mem (ab_s (by decide) (by decide)) ?_
        refine E_aload_n dX11_line_65 rfl ?_
        refine E_dup dX11_line_66 rfl ?_
        refine E_getI' (ci := 11) (j := 29) dX11_line_67 fkX11_153 rfl (by decide) rfl (by decide) ((ab_o (by decide) (by decide)).trans ((sI_o (by decide)).trans h29)) ?_
        refine E_iconst (v := nI 1) dX11_line_70 rfl ?_
        refine E_iload_n dX11_line_71 rfl ?_
        refine E_bipush (v := nI 97) dX11_line_72 rfl ?_
        refine E_isubN dX11_line_74 (by omega) ?_
        rw [Nat.add_sub_cancel_left]
        refine E_ishlN dX11_line_75 (by omega) (by omega) ?_
        rw [Nat.one_mul]
        refine E_iorN dX11_line_76 ?_
        refine E_putI (ci := 11) (j := 29) dX11_line_77 fkX11_153 rfl (by decide) rfl (by decide) ?_
        refine E_mem (ab_s (by decide) (by decide)) ?_
        refine E_iload_n dX11_line_80 rfl ?_
        refine E_bipush (v := nI 97) dX11_line_81 rfl ?_
        refine E_isubN dX11_line_83 (by omega) ?_
        rw [Nat.add_sub_cancel_left]
        refine E_iret dX11_line_84 rfl ?_
        first | exact ⟨q, hq, Or.inl ⟨c, hc16, h1, hc, rfl, by unfold lnM; rw [if_pos c48]⟩⟩ | exact ⟨q, hq, Or.inl ⟨c, hc16, h1, hc, rfl, by unfold lnM; rw [if_neg (by omega)]⟩⟩
      · skip
        refine E_iload_n dX11_line_51 rfl ?_
        refine E_bipush (v := nI 97) dX11_line_52 rfl ?_
        refine E_isubN dX11_line_54 (by omega) ?_
        rw [Nat.add_sub_cancel_left]
        refine E_goto (t := 62) dX11_line_55 (by decide) ?_
        refine E_putI (ci := 11) (j := 31) dX11_line_62 fkX11_156 rfl (by decide) rfl (by decide) ?_
        refine E_mem (ab_s (by decide) (by decide)) ?_
        refine E_aload_n dX11_line_65 rfl ?_
        refine E_dup dX11_line_66 rfl ?_
        refine E_getI' (ci := 11) (j := 29) dX11_line_67 fkX11_153 rfl (by decide) rfl (by decide) ((ab_o (by decide) (by decide)).trans ((sI_o (by decide)).trans h29)) ?_
        refine E_iconst (v := nI 1) dX11_line_70 rfl ?_
        refine E_iload_n dX11_line_71 rfl ?_
        refine E_bipush (v := nI 97) dX11_line_72 rfl ?_
        refine E_isubN dX11_line_74 (by omega) ?_
        rw [Nat.add_sub_cancel_left]
        refine E_ishlN dX11_line_75 (by omega) (by omega) ?_
        rw [Nat.one_mul]
        refine E_iorN dX11_line_76 ?_
        refine E_putI (ci := 11) (j := 29) dX11_line_77 fkX11_153 rfl (by decide) rfl (by decide) ?_
        refine E_mem (ab_s (by decide) (by decide)) ?_
        refine E_iload_n dX11_line_80 rfl ?_
        refine E_bipush (v := nI 97) dX11_line_81 rfl ?_
        refine E_isubN dX11_line_83 (by omega) ?_
        rw [Nat.add_sub_cancel_left]
        refine E_iret dX11_line_84 rfl ?_
        first | exact ⟨q, hq, Or.inl ⟨c, hc16, h1, hc, rfl, by unfold lnM; rw [if_pos c48]⟩⟩ | exact ⟨q, hq, Or.inl ⟨c, hc16, h1, hc, rfl, by unfold lnM; rw [if_neg (by omega)]⟩⟩
    · skip
      exact absurd c28 (by decide)
  refine Call_of (ls0 := [some (.ref 61), none]) rfl rfl (Nat.le_of_ble_eq_true rfl) ?_
  refine E_aload_n dX11_line_0 rfl ?_
  refine E_callV (r := qX11_look) (ci := 11) dX11_line_1 mkX11_142 voX11_look rfl rfl rfl ⟨Nat.le_of_ble_eq_true rfl, Nat.le_of_ble_eq_true rfl, Nat.le_of_ble_eq_true rfl, Nat.le_of_ble_eq_true rfl⟩ (m_look hX hp) rfl (Nat.le_of_ble_eq_true rfl) ?_
  rintro _ _ ⟨q, rfl, rfl, hq⟩
  refine E_ist_n (i := 1) dX11_line_4 rfl (by decide) rfl ?_
  refine E_iload_n dX11_line_5 rfl ?_
  refine E_i2l dX11_line_6 ?_
  refine E_ldc2 dX11_line_7 clX11_149 ?_
  refine E_ldc2 dX11_line_10 clX11_151 ?_
  refine E_callS (r := qX11_in) dX11_line_13 mkX11_88 toX11_in rfl ⟨Nat.le_of_ble_eq_true rfl, Nat.le_of_ble_eq_true rfl, Nat.le_of_ble_eq_true rfl, Nat.le_of_ble_eq_true rfl⟩ (m_inI) rfl (Nat.le_of_ble_eq_true rfl) ?_
  rintro _ _ ⟨rfl, rfl⟩
  refine E_top (show _ = bI (inI (pChr T q) (97 : Nat) (112 : Nat)) from rfl) ?_
  refine E_if_neB (t := 24) dX11_line_16 (by decide) (fun c16 => ?_) (fun c16 => ?_)
  · skip
    obtain ⟨h1, h2, h3⟩ : q < T 61 21 ∧ 97 ≤ T 75 q ∧ T 75 q ≤ 112 := by rw [ch_in hX.1, decide_eq_true_iff] at c16; exact c16
    obtain ⟨c, hc⟩ : ∃ c, T 75 q = 97 + c := ⟨T 75 q - 97, by omega⟩
    have hc16 : c < 16 := by omega
    have hcp : 2 ^ c < 2 ^ 16 := Nat.pow_lt_pow_right (by decide) hc16
    rw [show pChr T q = nI (97 + c) by rw [ch_p h1, hc]]
    first | exact J1 q hq hno | exact J2 q c hq h1 hc hc16 hcp
  · skip
    have hno : q < T 61 21 → lnC (T 75 q) = false := fun h => by rw [ch_in hX.1, decide_eq_false_iff_not] at c16; unfold lnC; rw [decide_eq_false_iff_not]; omega
    refine E_aload_n dX11_line_19 rfl ?_
    refine E_iconst (v := nI 1) dX11_line_20 rfl ?_
    refine E_callV (r := qX11_wrong) (ci := 11) dX11_line_21 mkX11_145 voX11_wrong rfl rfl rfl ⟨Nat.le_of_ble_eq_true rfl, Nat.le_of_ble_eq_true rfl, Nat.le_of_ble_eq_true rfl, Nat.le_of_ble_eq_true rfl⟩ (m_wrong (k := 1) (by decide)) rfl (Nat.le_of_ble_eq_true rfl) ?_
    rintro _ _ ⟨rfl, rfl⟩
    rw [if_pos rfl]
    first | exact J1 q hq hno | exact J2 q c hq h1 hc hc16 hcp
def mkA (T : TK) (q : Nat) : Bool := decide (q < T 61 21) && isMk (T 75 q)
theorem m_isMark (hX : RT T M) (hp : p ≤ T 61 21) : Call g qX11_isMark [.ref 61] (AB M p b) (fun v M' => ∃ q, v = some (.int (bI (mkA T q))) ∧ M' = AB M q b ∧ SK T p q) := by
  have hsz := hX.1.1
  refine Call_of (ls0 := [some (.ref 61)]) rfl rfl (Nat.le_of_ble_eq_true rfl) ?_
  refine E_aload_n dX11_isMark_0 rfl ?_
  refine E_callV (r := qX11_look) (ci := 11) dX11_isMark_1 mkX11_142 voX11_look rfl rfl rfl ⟨Nat.le_of_ble_eq_true rfl, Nat.le_of_ble_eq_true rfl, Nat.le_of_ble_eq_true rfl, Nat.le_of_ble_eq_true rfl⟩ (m_look hX hp) rfl (Nat.le_of_ble_eq_true rfl) ?_
  rintro _ _ ⟨q, rfl, rfl, hq⟩
  refine E_i2l dX11_isMark_4 ?_
  refine E_ldc2 dX11_isMark_5 clX11_159 ?_
  refine E_ldc2 dX11_isMark_8 clX11_161 ?_
  refine E_callS (r := qX11_in) dX11_isMark_11 mkX11_88 toX11_in rfl ⟨Nat.le_of_ble_eq_true rfl, Nat.le_of_ble_eq_true rfl, Nat.le_of_ble_eq_true rfl, Nat.le_of_ble_eq_true rfl⟩ (m_inI) rfl (Nat.le_of_ble_eq_true rfl) ?_
  rintro _ _ ⟨rfl, rfl⟩
  refine E_top (show _ = bI (inI (pChr T q) (113 : Nat) (118 : Nat)) from rfl) ?_
  refine E_if_neB (t := 34) dX11_isMark_14 (by decide) (fun c14 => ?_) (fun c14 => ?_)
  · skip
    have hm : true = mkA T q := by rw [ch_in hX.1, decide_eq_true_iff] at c14; unfold mkA isMk; rw [decide_eq_true c14.1, Bool.true_and, eq_comm, decide_eq_true_iff]; omega
    refine E_iconst (v := nI 1) dX11_isMark_34 rfl ?_
    refine E_goto (t := 39) dX11_isMark_35 (by decide) ?_
    refine E_top (show nI 1 = bI true from rfl) ?_
    refine E_zret dX11_isMark_39 rfl (bI_01 _) ?_
    exact ⟨_, by rw [hm], rfl, by assumption⟩
  · skip
    refine E_aload_n dX11_isMark_17 rfl ?_
    refine E_callV (r := qX11_look) (ci := 11) dX11_isMark_18 mkX11_142 voX11_look rfl rfl rfl ⟨Nat.le_of_ble_eq_true rfl, Nat.le_of_ble_eq_true rfl, Nat.le_of_ble_eq_true rfl, Nat.le_of_ble_eq_true rfl⟩ (m_look hX hq.2.1) rfl (Nat.le_of_ble_eq_true rfl) ?_
    rintro _ _ ⟨q', rfl, rfl, hq'⟩
    obtain rfl : q' = q := hq'.2.2.2.2 hq.2.2.1
    refine E_i2l dX11_isMark_21 ?_
    refine E_ldc2 dX11_isMark_22 clX11_163 ?_
    refine E_ldc2 dX11_isMark_25 clX11_165 ?_
    refine E_callS (r := qX11_in) dX11_isMark_28 mkX11_88 toX11_in rfl ⟨Nat.le_of_ble_eq_true rfl, Nat.le_of_ble_eq_true rfl, Nat.le_of_ble_eq_true rfl, Nat.le_of_ble_eq_true rfl⟩ (m_inI) rfl (Nat.le_of_ble_eq_true rfl) ?_
    rintro _ _ ⟨rfl, rfl⟩
    refine E_top (show _ = bI (inI (pChr T q') (81 : Nat) (86 : Nat)) from rfl) ?_
    refine E_if_eqB (t := 38) dX11_isMark_31 (by decide) (fun c31 => ?_) (fun c31 => ?_)
    · skip
      have hm : false = mkA T q' := by rw [ch_in hX.1, decide_eq_false_iff_not] at c14 c31; unfold mkA isMk; rw [eq_comm, Bool.and_eq_false_iff, decide_eq_false_iff_not, decide_eq_false_iff_not]; omega
      refine E_iconst (v := nI 0) dX11_isMark_38 rfl ?_
      refine E_top (show nI 0 = bI false from rfl) ?_
      refine E_zret dX11_isMark_39 rfl (bI_01 _) ?_
      exact ⟨_, by rw [hm], rfl, by assumption⟩
    · skip
      have hm : true = mkA T q' := by rw [ch_in hX.1, decide_eq_true_iff] at c31; unfold mkA isMk; rw [decide_eq_true c31.1, Bool.true_and, eq_comm, decide_eq_true_iff]; omega
      refine E_iconst (v := nI 1) dX11_isMark_34 rfl ?_
      refine E_goto (t := 39) dX11_isMark_35 (by decide) ?_
      refine E_top (show nI 1 = bI true from rfl) ?_
      refine E_zret dX11_isMark_39 rfl (bI_01 _) ?_
      exact ⟨_, by rw [hm], rfl, by assumption⟩
end M19
