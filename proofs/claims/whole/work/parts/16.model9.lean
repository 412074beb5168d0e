-- the model: least costs
def RO (p : Nat) (D : Nat → Option Nat) (M : AM) : Prop := ∀ t, t < 1024 → M.1 p t = oI (D t)
/-- a row of n answers to k that costs c -/
def crch (T : TK) : Nat → Nat → Nat → Prop
  | 0, k, c => k = fst0 T ∧ c = 0
  | n + 1, k, c => ∃ u a b, crch T n u b ∧ a < T 61 0 ∧ opn T a u 0 = true ∧ nxt T a u = k ∧ c = b + T 64 a
def isC (T : TK) (C : Nat → Option Nat) : Prop := ∀ k c, k < 1024 → (C k = some c ↔ (∃ n, crch T n k c) ∧ ∀ n c', crch T n k c' → c ≤ c')
noncomputable def CT (T : TK) (k : Nat) : Option Nat := @dite _ (∃ c, ∃ n, crch T n k c) (Classical.propDecidable _) (fun hx => some (Classical.choose (pk_least (fun c => ∃ n, crch T n k c) hx))) (fun _ => none)
theorem CT_isC (T : TK) : isC T (CT T) := by
  intro k c _
  unfold CT
  by_cases hx : ∃ c, ∃ n, crch T n k c
  · rw [dif_pos hx]
    obtain ⟨h1, h2⟩ := Classical.choose_spec (pk_least (fun c => ∃ n, crch T n k c) hx)
    generalize Classical.choose (pk_least (fun c => ∃ n, crch T n k c) hx) = z at h1 h2
    constructor
    · intro e
      cases e
      exact ⟨h1, fun n c' hc => Nat.le_of_not_lt (fun hl => h2 c' hl ⟨n, hc⟩)⟩
    · rintro ⟨⟨n, h3⟩, h4⟩
      obtain ⟨m, h5⟩ := h1
      have h6 := h4 m z h5
      have h7 : ¬ c < z := fun hl => h2 c hl ⟨n, h3⟩
      have : z = c := by omega
      rw [this]
  · rw [dif_neg hx]
    constructor
    · intro e; cases e
    · rintro ⟨⟨n, h3⟩, -⟩
      exact absurd ⟨c, n, h3⟩ hx
theorem isC_one {T : TK} {C C' : Nat → Option Nat} (h1 : isC T C) (h2 : isC T C') {k : Nat} (hk : k < 1024) : C k = C' k := by
  cases e1 : C k with
  | none =>
    cases e2 : C' k with
    | none => rfl
    | some c => rw [(h1 k c hk).mpr ((h2 k c hk).mp e2)] at e1; cases e1
  | some c => exact ((h2 k c hk).mpr ((h1 k c hk).mp e1)).symm
def smN (f : Nat → Nat) : Nat → Nat
  | 0 => 0
  | n + 1 => smN f n + f n
theorem smN_cong {f h : Nat → Nat} : ∀ {n : Nat}, (∀ t, t < n → f t = h t) → smN f n = smN h n
  | 0, _ => rfl
  | n + 1, e => by rw [smN, smN, smN_cong (fun t ht => e t (by omega)), e n (by omega)]
theorem smN_lt {f h : Nat → Nat} {k : Nat} (hk : f k < h k) : ∀ {n : Nat}, k < n → (∀ t, t ≠ k → f t = h t) → smN f n < smN h n
  | 0, e, _ => absurd e (Nat.not_lt_zero k)
  | n + 1, e, hq => by
    rw [smN, smN]
    by_cases h1 : n = k
    · rw [smN_cong (f := f) (h := h) (fun t ht => hq t (by omega)), h1]
      omega
    · have := smN_lt hk (n := n) (by omega) hq
      rw [hq n h1]
      omega
theorem smN_le {f : Nat → Nat} {c : Nat} (hc : ∀ t, f t ≤ c) : ∀ n, smN f n ≤ n * c
  | 0 => Nat.zero_le _
  | n + 1 => by
    have h1 := smN_le hc n
    have h2 := hc n
    rw [smN, Nat.succ_mul]
    omega
/-- how much is left to be told -/
def wgt (C : Nat → Option Nat) : Nat := smN (fun t => match C t with
  | none => 9300
  | some c => c) 1024
def upO (C : Nat → Option Nat) (k v : Nat) : Nat → Option Nat := fun t => if t = k then some v else C t
theorem wgt_up {C : Nat → Option Nat} {k v : Nat} (hk : k < 1024) (hv : v < 9300) (h1 : ∀ c, C k = some c → v < c) : wgt (upO C k v) < wgt C := by
  unfold wgt
  refine smN_lt (k := k) ?_ hk (fun t ht => by unfold upO; rw [if_neg ht])
  unfold upO
  rw [if_pos rfl]
  cases hc : C k with
  | none => exact hv
  | some c => exact h1 c hc
def sndC (T : TK) (C : Nat → Option Nat) : Prop := (∀ k c, k < 1024 → C k = some c → (∃ n, crch T n k c) ∧ c ≤ 9 * cntN (fun t => (C t).isSome) 1024 - 9) ∧ C (fst0 T) = some 0
theorem cnt_up {C : Nat → Option Nat} {k v : Nat} (hk : k < 1024) : cntN (fun t => (upO C k v t).isSome) 1024 = cntN (fun t => (C t).isSome) 1024 + (if (C k).isSome then 0 else 1) := by
  cases hc : C k with
  | none =>
    have h1 : cntN (fun t => if t = k then true else (C t).isSome) 1024 = cntN (fun t => (C t).isSome) 1024 + 1 := cntN_up (by rw [hc]; rfl) hk
    rw [← show cntN (fun t => if t = k then true else (C t).isSome) 1024 = cntN (fun t => (upO C k v t).isSome) 1024 from cntN_cong (fun t _ => by unfold upO; by_cases e : t = k <;> simp [e]), h1]
    simp
  | some c =>
    have h1 : cntN (fun t => (upO C k v t).isSome) 1024 = cntN (fun t => (C t).isSome) 1024 := cntN_cong (fun t _ => by
      unfold upO
      by_cases e : t = k
      · rw [if_pos e, e, hc]; rfl
      · rw [if_neg e])
    rw [h1]
    simp
theorem sndC_up {T : TK} {C : Nat → Option Nat} {k a c : Nat} (hT : WT T) (hs : sndC T C) (hk : k < 1024) (ha : a < T 61 0) (hc : C k = some c) (ho : opn T a k 0 = true) (h1 : ∀ e, C (nxt T a k) = some e → c + T 64 a < e) : sndC T (upO C (nxt T a k) (c + T 64 a)) := by
  have hn := nxt_lt hT (s := k) ha
  have hco := (wt_a hT ha).2.2.1
  obtain ⟨⟨m, hm⟩, hb⟩ := hs.1 k c hk hc
  have hcn := cnt_up (C := C) (v := c + T 64 a) hn
  have hpos : 0 < cntN (fun t => (C t).isSome) 1024 := by
    have h9 : cntN (fun t => if t = k then true else false) 1024 = cntN (fun _ => false) 1024 + 1 := cntN_up (f := fun _ => false) rfl hk
    have h8 : cntN (fun t => if t = k then true else false) 1024 ≤ cntN (fun t => (C t).isSome) 1024 := cntN_mono (fun t _ e => by
      by_cases e2 : t = k
      · rw [e2, hc]; rfl
      · rw [if_neg e2] at e; cases e)
    omega
  refine ⟨fun t e ht he => ?_, ?_⟩
  · unfold upO at he
    by_cases e2 : t = nxt T a k
    · rw [if_pos e2] at he
      cases he
      refine ⟨⟨m + 1, k, a, c, hm, ha, ho, e2.symm, rfl⟩, ?_⟩
      rw [hcn]
      cases hh : C (nxt T a k) with
      | none => simp only [Option.isSome_none, Bool.false_eq_true, if_false]; omega
      | some z =>
        have h6 := h1 z hh
        have h7 := (hs.1 _ z hn hh).2
        simp only [Option.isSome_some, if_true]
        omega
    · rw [if_neg e2] at he
      obtain ⟨h6, h7⟩ := hs.1 t e ht he
      refine ⟨h6, ?_⟩
      rw [hcn]
      omega
  · unfold upO
    by_cases e2 : fst0 T = nxt T a k
    · have h6 := h1 0 (by rw [← e2]; exact hs.2)
      omega
    · rw [if_neg e2]; exact hs.2
def chkC (T : TK) (C : Nat → Option Nat) (k a : Nat) : Prop := ∀ k' a' c, k' < 1024 → a' < T 61 0 → (k' < k ∨ (k' = k ∧ a' < a)) → C k' = some c → opn T a' k' 0 = true → ∃ c', C (nxt T a' k') = some c' ∧ c' ≤ c + T 64 a'
theorem isC_of {T : TK} {C : Nat → Option Nat} (hT : WT T) (hB : T 61 13 < 64) (hs : sndC T C) (hk : chkC T C 1024 0) : isC T C := by
  have key : ∀ n k c, crch T n k c → k < 1024 ∧ ∃ c', C k = some c' ∧ c' ≤ c := by
    intro n
    induction n with
    | zero =>
      rintro k c ⟨rfl, rfl⟩
      exact ⟨fst0_lt hT hB, 0, hs.2, Nat.le_refl 0⟩
    | succ n ih =>
      rintro k c ⟨u, a, b, h1, h2, h3, rfl, rfl⟩
      obtain ⟨h4, c1, h5, h6⟩ := ih u b h1
      obtain ⟨c2, h7, h8⟩ := hk u a c1 h4 h2 (Or.inl h4) h5 h3
      exact ⟨nxt_lt hT h2, c2, h7, by omega⟩
  intro k c hk2
  constructor
  · intro e
    refine ⟨(hs.1 k c hk2 e).1, fun n c' hc => ?_⟩
    obtain ⟨-, c2, h1, h2⟩ := key n k c' hc
    rw [e] at h1
    cases h1
    exact h2
  · rintro ⟨⟨n, h1⟩, h2⟩
    obtain ⟨-, c2, h3, h4⟩ := key n k c h1
    obtain ⟨⟨m, h5⟩, -⟩ := hs.1 k c2 hk2 h3
    have h6 := h2 m c2 h5
    have : c2 = c := by omega
    rw [← this]; exact h3
theorem RO_up {C : Nat → Option Nat} {M : AM} {p k v : Nat} (hE : RO p C M) : RO p (upO C k v) (sI M p k (nI v)) := by
  intro t ht
  unfold upO
  rw [sI_get]
  by_cases h1 : t = k
  · rw [if_pos ⟨rfl, h1⟩, if_pos h1]; rfl
  · rw [if_neg (fun e => h1 e.2), if_neg h1]
    exact hE t ht
theorem RO_same {C : Nat → Option Nat} {M : AM} {p k : Nat} (hE : RO p C M) : RO p C (sI M p k (oI (C k))) := by
  intro t ht
  rw [sI_get]
  by_cases h1 : t = k
  · rw [if_pos ⟨rfl, h1⟩, h1]
  · rw [if_neg (fun e => h1 e.2)]
    exact hE t ht
theorem chkC_next {T : TK} {C : Nat → Option Nat} {k a : Nat} (h1 : chkC T C k a) (h2 : T 61 0 ≤ a ∨ C k = none) : chkC T C (k + 1) 0 := by
  intro k' a' c b1 b2 b3 b4 b5
  by_cases hk : k' = k
  · subst hk
    rcases h2 with h2 | h2
    · exact h1 k' a' c b1 b2 (Or.inr ⟨rfl, by omega⟩) b4 b5
    · rw [h2] at b4; cases b4
  · exact h1 k' a' c b1 b2 (Or.inl (by omega)) b4 b5
theorem chkC_step {T : TK} {C : Nat → Option Nat} {k a : Nat} (h1 : chkC T C k a) (h2 : opn T a k 0 = false ∨ ∀ c, C k = some c → ∃ e, C (nxt T a k) = some e ∧ e ≤ c + T 64 a) : chkC T C k (a + 1) := by
  intro k' a' c b1 b2 b3 b4 b5
  by_cases hk : k' = k ∧ a' = a
  · obtain ⟨rfl, rfl⟩ := hk
    rcases h2 with h2 | h2
    · rw [h2] at b5; cases b5
    · exact h2 c b4
  · exact h1 k' a' c b1 b2 (by omega) b4 b5
theorem omN_cong {f h : Nat → Option Nat} : ∀ {n : Nat}, (∀ t, t < n → f t = h t) → omN f n = omN h n
  | 0, _ => rfl
  | n + 1, e => by rw [omN, omN, omN_cong (fun t ht => e t (by omega)), e n (by omega)]
section M9
variable {g : GG} {M : AM} {T : TK}
theorem m_cheapest (hR : RM T M) (hB : RB T M) {l : Nat} (hl : l < 16) : Call g qX11_cheapest [.ref 61, .int (nI l)] M (fun v M' => v = some (.int (oI (omN (fun i => CT T (64 * l + i)) 64))) ∧ Sb [80] M M') := by
  have h32 := rm_32 hR
  have hT := rm_wt hR
  have hf0 := fst0_lt hT hB.2
  have hbd : ∀ {C : Nat → Option Nat}, sndC T C → ∀ t c, t < 1024 → C t = some c → c ≤ 9216 := by
    intro C hs t c ht hc
    have h1 := (hs.1 t c ht hc).2
    have h2 := cntN_le (fun t => (C t).isSome) 1024
    omega
  have L205 : ∀ (C : Nat → Option Nat), isC T C → (∀ t c, t < 1024 → C t = some c → c ≤ 9216) → ∀ (n k : Nat) (M1 : AM) (y5 y6 : Option Value), k ≤ 64 → 64 < k + n → RO 80 C M1 → Sb [80] M M1 → Ex g qX11_cheapest (tm g qX11_cheapest (fun v M' => v = some (.int (oI (omN (fun i => CT T (64 * l + i)) 64))) ∧ Sb [80] M M')) 205 [some (.ref 61), some (.int (nI l)), some (.int (bI false)), some (.int (oI (omN (fun i => C (64 * l + i)) k))), some (.int (nI (64 * l + k))), y5, y6] [] M1 := by
    intro C hC hcb n
    induction n with
    | zero => intro k M1 y5 y6 h1 h2; exact absurd h2 (by omega)
    | succ n ih =>
      intro k M1 y5 y6 hk hn hO hS
      have hac : ∀ m, omN (fun i => C (64 * l + i)) k = some m → m ≤ 9216 := fun m hm => omN_le (fun i x hi hx => hcb _ x (by omega) hx) hm
      refine E_iload dX11_cheapest_205 rfl ?_
      refine E_bipush (v := nI 64) dX11_cheapest_207 rfl ?_
      refine E_iload_n dX11_cheapest_209 rfl ?_
      refine E_imulN dX11_cheapest_210 ?_
      refine E_bipush (v := nI 64) dX11_cheapest_211 rfl ?_
      refine E_iaddN dX11_cheapest_213 ?_
      refine E_icmp_geN (t := 260) dX11_cheapest_214 (by decide) (by omega) (by omega) (fun c214 => ?_) (fun c214 => ?_)
      · skip
        refine E_iload_n dX11_cheapest_260 rfl ?_
        refine E_iret dX11_cheapest_261 rfl ?_
        exact ⟨by rw [show k = 64 by omega, omN_cong (fun i hi => isC_one hC (CT_isC T) (by omega))], hS⟩
      · skip
        refine E_aload_n dX11_cheapest_217 rfl ?_
        refine E_getR' (ci := 11) (j := 33) (p := 80) dX11_cheapest_218 fkX11_65 rfl (by decide) rfl (by decide) (rfl) ?_
        refine E_iload dX11_cheapest_221 rfl ?_
        refine E_ialdN dX11_cheapest_223 rfl (by omega) (by decide) (hO _ (by omega)) ?_
        refine E_if_ltO (t := 252) dX11_cheapest_224 (by decide) (fun d hd => by have := hcb _ d (by omega) hd; omega) (fun c224 => ?_) (fun c224 => ?_)
        · skip
          have hw : omN (fun i => C (64 * l + i)) (k + 1) = omN (fun i => C (64 * l + i)) k := by rw [omN, c224]; rfl
          refine E_iload_n dX11_cheapest_252 rfl ?_
          refine E_ist_n (i := 3) dX11_cheapest_253 rfl (by decide) rfl ?_
          refine E_iincN (b := 1) dX11_cheapest_254 rfl rfl (by decide) rfl ?_
          refine E_goto (t := 205) dX11_cheapest_257 (by decide) ?_
          have hnx := ih (k + 1) M1 y5 y6 (by omega) (by omega) hO hS
          rw [hw] at hnx
          exact hnx
        · skip
          obtain ⟨d, hd⟩ := Option.ne_none_iff_exists'.mp c224
          have hdb := hcb _ d (by omega) hd
          refine E_iload_n dX11_cheapest_227 rfl ?_
          refine E_if_ltO (t := 242) dX11_cheapest_228 (by decide) (fun d hd => by have := hac d hd; omega) (fun c228 => ?_) (fun c228 => ?_)
          · skip
            have hw : omN (fun i => C (64 * l + i)) (k + 1) = some d := by rw [omN, c228, omin_none, hd]
            refine E_aload_n dX11_cheapest_242 rfl ?_
            refine E_getR' (ci := 11) (j := 33) (p := 80) dX11_cheapest_243 fkX11_65 rfl (by decide) rfl (by decide) (rfl) ?_
            refine E_iload dX11_cheapest_246 rfl ?_
            refine E_ialdN dX11_cheapest_248 rfl (by omega) (by decide) ((by rw [hO _ (by omega), hd, oI_s])) ?_
            refine E_goto (t := 253) dX11_cheapest_249 (by decide) ?_
            refine E_ist_n (i := 3) dX11_cheapest_253 rfl (by decide) rfl ?_
            refine E_iincN (b := 1) dX11_cheapest_254 rfl rfl (by decide) rfl ?_
            refine E_goto (t := 205) dX11_cheapest_257 (by decide) ?_
            have hnx := ih (k + 1) M1 y5 y6 (by omega) (by omega) hO hS
            rw [hw] at hnx
            exact hnx
          · skip
            obtain ⟨e, he⟩ := Option.ne_none_iff_exists'.mp c228
            refine E_aload_n dX11_cheapest_231 rfl ?_
            refine E_getR' (ci := 11) (j := 33) (p := 80) dX11_cheapest_232 fkX11_65 rfl (by decide) rfl (by decide) (rfl) ?_
            refine E_iload dX11_cheapest_235 rfl ?_
            refine E_ialdN dX11_cheapest_237 rfl (by omega) (by decide) ((by rw [hO _ (by omega), hd, oI_s])) ?_
            rw [he]
            refine E_iload_n dX11_cheapest_238 rfl ?_
            refine E_icmp_geN (t := 252) dX11_cheapest_239 (by decide) (by omega) (by have := hac e he; omega) (fun c239 => ?_) (fun c239 => ?_)
            · skip
              have hw : omN (fun i => C (64 * l + i)) (k + 1) = some e := by rw [omN, hd, he]; show (if d < e then some d else some e) = _; rw [if_neg (by omega)]
              refine E_iload_n dX11_cheapest_252 rfl ?_
              refine E_ist_n (i := 3) dX11_cheapest_253 rfl (by decide) rfl ?_
              refine E_iincN (b := 1) dX11_cheapest_254 rfl rfl (by decide) rfl ?_
              refine E_goto (t := 205) dX11_cheapest_257 (by decide) ?_
              have hnx := ih (k + 1) M1 y5 y6 (by omega) (by omega) hO hS
              rw [hw] at hnx
              exact hnx
            · skip
              have hw : omN (fun i => C (64 * l + i)) (k + 1) = some d := by rw [omN, hd, he]; show (if d < e then some d else some e) = _; rw [if_pos c239]
              refine E_aload_n dX11_cheapest_242 rfl ?_
              refine E_getR' (ci := 11) (j := 33) (p := 80) dX11_cheapest_243 fkX11_65 rfl (by decide) rfl (by decide) (rfl) ?_
              refine E_iload dX11_cheapest_246 rfl ?_
              refine E_ialdN dX11_cheapest_248 rfl (by omega) (by decide) ((by rw [hO _ (by omega), hd, oI_s])) ?_
              refine E_goto (t := 253) dX11_cheapest_249 (by decide) ?_
              refine E_ist_n (i := 3) dX11_cheapest_253 rfl (by decide) rfl ?_
              refine E_iincN (b := 1) dX11_cheapest_254 rfl rfl (by decide) rfl ?_
              refine E_goto (t := 205) dX11_cheapest_257 (by decide) ?_
              have hnx := ih (k + 1) M1 y5 y6 (by omega) (by omega) hO hS
              rw [hw] at hnx
              exact hnx
  have L9 : ∀ (C : Nat → Option Nat) (M1 : AM) (y3 y4 y5 y6 : Option Value), sndC T C → chkC T C 1024 0 → RO 80 C M1 → Sb [80] M M1 → Ex g qX11_cheapest (tm g qX11_cheapest (fun v M' => v = some (.int (oI (omN (fun i => CT T (64 * l + i)) 64))) ∧ Sb [80] M M')) 34 [some (.ref 61), some (.int (nI l)), some (.int (bI false)), y3, y4, y5, y6] [] M1 := by
    intro C M1 y3 y4 y5 y6 h1 h2 h3 h4
    refine E_iload_n dX11_cheapest_34 rfl ?_
    refine E_if_eqB (t := 197) dX11_cheapest_35 (by decide) (fun c35 => ?_) (fun c35 => ?_)
    · skip
      refine E_iconst (v := -1) dX11_cheapest_197 rfl ?_
      refine E_ist_n (i := 3) dX11_cheapest_198 rfl (by decide) rfl ?_
      refine E_bipush (v := nI 64) dX11_cheapest_199 rfl ?_
      refine E_iload_n dX11_cheapest_201 rfl ?_
      refine E_imulN dX11_cheapest_202 ?_
      refine E_istore dX11_cheapest_203 (by decide) rfl ?_
      exact L205 C (isC_of hT hB.2 h1 h2) (hbd h1) 65 0 M1 _ _ (by omega) (by omega) h3 h4
    · skip
      cases c35
  have L34 : ∀ (n : Nat) (C0 : Nat → Option Nat) (M1 : AM) (y3 y4 y5 y6 : Option Value), wgt C0 < n → sndC T C0 → RO 80 C0 M1 → Sb [80] M M1 → Ex g qX11_cheapest (tm g qX11_cheapest (fun v M' => v = some (.int (oI (omN (fun i => CT T (64 * l + i)) 64))) ∧ Sb [80] M M')) 34 [some (.ref 61), some (.int (nI l)), some (.int (bI true)), y3, y4, y5, y6] [] M1 := by
    intro n
    induction n with
    | zero => intro C0 M1 y3 y4 y5 y6 h1; exact absurd h1 (Nat.not_lt_zero _)
    | succ n ihW =>
      intro C0 M1 y3 y4 y5 y6 hn hs0 hz0 hS0
      have L42 : ∀ (m k : Nat) (C : Nat → Option Nat) (b : Bool) (M2 : AM) (y4 y5 y6 : Option Value), k ≤ 1024 → 1024 < k + m → sndC T C → (b = false → C = C0 ∧ chkC T C k 0) → (b = true → wgt C < wgt C0) → RO 80 C M2 → Sb [80] M M2 → Ex g qX11_cheapest (tm g qX11_cheapest (fun v M' => v = some (.int (oI (omN (fun i => CT T (64 * l + i)) 64))) ∧ Sb [80] M M')) 42 [some (.ref 61), some (.int (nI l)), some (.int (bI b)), some (.int (nI k)), y4, y5, y6] [] M2 := by
        intro m
        induction m with
        | zero => intro k C b M2 y4 y5 y6 h1 h2; exact absurd h2 (by omega)
        | succ m ihK =>
          intro k C b M2 y4 y5 y6 hk hm hs1 hb0 hb1 hz1 hS1
          have L52 : k < 1024 → ∀ (j a : Nat) (C : Nat → Option Nat) (b : Bool) (M2 : AM) (y5 y6 : Option Value), a ≤ T 61 0 → T 61 0 < a + j → sndC T C → (b = false → C = C0 ∧ chkC T C k a) → (b = true → wgt C < wgt C0) → RO 80 C M2 → Sb [80] M M2 → Ex g qX11_cheapest (tm g qX11_cheapest (fun v M' => v = some (.int (oI (omN (fun i => CT T (64 * l + i)) 64))) ∧ Sb [80] M M')) 52 [some (.ref 61), some (.int (nI l)), some (.int (bI b)), some (.int (nI k)), some (.int (nI a)), y5, y6] [] M2 := by
            intro hk2 j
            induction j with
            | zero => intro a C b M2 y5 y6 h1 h2; exact absurd h2 (by omega)
            | succ j ihA =>
              intro a C b M2 y5 y6 ha hj hs1 hb0 hb1 hz1 hS1
              have hR2 := rm_sb hR hS1 (by decide)
              have J : ∀ (v : Bool) (c : Nat), a < T 61 0 → C k = some c → (v = true → opn T a k 0 = true ∧ ∀ e, C (nxt T a k) = some e → c + T 64 a < e) → (v = false → opn T a k 0 = false ∨ ∀ c, C k = some c → ∃ e, C (nxt T a k) = some e ∧ e ≤ c + T 64 a) → Ex g qX11_cheapest (tm g qX11_cheapest (fun v M' => v = some (.int (oI (omN (fun i => CT T (64 * l + i)) 64))) ∧ Sb [80] M M')) 129 [some (.ref 61), some (.int (nI l)), some (.int (bI b)), some (.int (nI k)), some (.int (nI a)), some (.int (nI (nxt T a k))), y6] [.int (bI v)] M2 := by
                intro v c ham hc hv1 hv0
                have hnl := nxt_lt hT (s := k) ham
                have hcb := hbd hs1 k c hk2 hc
                have hco := (wt_a hT ham).2.2.1
                refine E_istore dX11_cheapest_129 (by decide) rfl ?_
                refine E_aload_n dX11_cheapest_131 rfl ?_
                refine E_getR' (ci := 11) (j := 33) (p := 80) dX11_cheapest_132 fkX11_65 rfl (by decide) rfl (by decide) (rfl) ?_
                refine E_iload dX11_cheapest_135 rfl ?_
                refine E_iload dX11_cheapest_137 rfl ?_
                refine E_if_eqB (t := 159) dX11_cheapest_139 (by decide) (fun c139 => ?_) (fun c139 => ?_)
                · skip
                  have hz2 : RO 80 C (sI M2 80 (nxt T a k) (oI (C (nxt T a k)))) := RO_same hz1
                  refine E_aload_n dX11_cheapest_159 rfl ?_
                  refine E_getR' (ci := 11) (j := 33) (p := 80) dX11_cheapest_160 fkX11_65 rfl (by decide) rfl (by decide) (rfl) ?_
                  refine E_iload dX11_cheapest_163 rfl ?_
                  refine E_ialdN dX11_cheapest_165 rfl (by omega) (by decide) (hz1 _ hnl) ?_
                  refine E_iastN dX11_cheapest_166 rfl (by omega) (by decide) ?_
                  refine E_iload_n dX11_cheapest_167 rfl ?_
                  refine E_if_neB (t := 176) dX11_cheapest_168 (by decide) (fun c168 => ?_) (fun c168 => ?_)
                  · skip
                    refine E_iconst (v := nI 1) dX11_cheapest_176 rfl ?_
                    refine E_goto (t := 181) dX11_cheapest_177 (by decide) ?_
                    refine E_top (show nI 1 = bI true from rfl) ?_
                    refine E_ist_n (i := 2) dX11_cheapest_181 rfl (by decide) rfl ?_
                    refine E_iincN (b := 1) dX11_cheapest_182 rfl rfl (by decide) rfl ?_
                    refine E_goto (t := 52) dX11_cheapest_185 (by decide) ?_
                    first | exact ihA (a + 1) C true _ _ _ (by omega) (by omega) hs1 (fun e => by cases e) (fun _ => hb1 c168) hz2 (hS1.tr (Sb.i (by decide))) | exact ihA (a + 1) C false _ _ _ (by omega) (by omega) hs1 (fun _ => ⟨(hb0 c168).1, chkC_step (hb0 c168).2 (hv0 c139)⟩) (fun e => by cases e) hz2 (hS1.tr (Sb.i (by decide))) | exact ihA (a + 1) _ true _ _ _ (by omega) (by omega) hs3 (fun e => by cases e) (fun _ => by cases b with | false => rw [← (hb0 rfl).1]; exact hw3 | true => have := hb1 rfl; omega) hz3 (hS1.tr (Sb.i (by decide))) | (exfalso; rw [c139] at c173; cases c173)
                  · skip
                    refine E_iload dX11_cheapest_171 rfl ?_
                    refine E_if_eqB (t := 180) dX11_cheapest_173 (by decide) (fun c173 => ?_) (fun c173 => ?_)
                    · skip
                      refine E_iconst (v := nI 0) dX11_cheapest_180 rfl ?_
                      refine E_top (show nI 0 = bI false from rfl) ?_
                      refine E_ist_n (i := 2) dX11_cheapest_181 rfl (by decide) rfl ?_
                      refine E_iincN (b := 1) dX11_cheapest_182 rfl rfl (by decide) rfl ?_
                      refine E_goto (t := 52) dX11_cheapest_185 (by decide) ?_
                      first | exact ihA (a + 1) C true _ _ _ (by omega) (by omega) hs1 (fun e => by cases e) (fun _ => hb1 c168) hz2 (hS1.tr (Sb.i (by decide))) | exact ihA (a + 1) C false _ _ _ (by omega) (by omega) hs1 (fun _ => ⟨(hb0 c168).1, chkC_step (hb0 c168).2 (hv0 c139)⟩) (fun e => by cases e) hz2 (hS1.tr (Sb.i (by decide))) | exact ihA (a + 1) _ true _ _ _ (by omega) (by omega) hs3 (fun e => by cases e) (fun _ => by cases b with | false => rw [← (hb0 rfl).1]; exact hw3 | true => have := hb1 rfl; omega) hz3 (hS1.tr (Sb.i (by decide))) | (exfalso; rw [c139] at c173; cases c173)
                    · skip
                      refine E_iconst (v := nI 1) dX11_cheapest_176 rfl ?_
                      refine E_goto (t := 181) dX11_cheapest_177 (by decide) ?_
                      refine E_top (show nI 1 = bI true from rfl) ?_
                      refine E_ist_n (i := 2) dX11_cheapest_181 rfl (by decide) rfl ?_
                      refine E_iincN (b := 1) dX11_cheapest_182 rfl rfl (by decide) rfl ?_
                      refine E_goto (t := 52) dX11_cheapest_185 (by decide) ?_
                      first | exact ihA (a + 1) C true _ _ _ (by omega) (by omega) hs1 (fun e => by cases e) (fun _ => hb1 c168) hz2 (hS1.tr (Sb.i (by decide))) | exact ihA (a + 1) C false _ _ _ (by omega) (by omega) hs1 (fun _ => ⟨(hb0 c168).1, chkC_step (hb0 c168).2 (hv0 c139)⟩) (fun e => by cases e) hz2 (hS1.tr (Sb.i (by decide))) | exact ihA (a + 1) _ true _ _ _ (by omega) (by omega) hs3 (fun e => by cases e) (fun _ => by cases b with | false => rw [← (hb0 rfl).1]; exact hw3 | true => have := hb1 rfl; omega) hz3 (hS1.tr (Sb.i (by decide))) | (exfalso; rw [c139] at c173; cases c173)
                · skip
                  have hz3 : RO 80 (upO C (nxt T a k) (c + T 64 a)) (sI M2 80 (nxt T a k) (nI (c + T 64 a))) := RO_up hz1
                  have hs3 := sndC_up hT hs1 hk2 ham hc (hv1 c139).1 (hv1 c139).2
                  have hw3 := wgt_up (C := C) (v := c + T 64 a) hnl (by omega) (hv1 c139).2
                  refine E_aload_n dX11_cheapest_142 rfl ?_
                  refine E_getR' (ci := 11) (j := 33) (p := 80) dX11_cheapest_143 fkX11_65 rfl (by decide) rfl (by decide) (rfl) ?_
                  refine E_iload_n dX11_cheapest_146 rfl ?_
                  refine E_ialdN dX11_cheapest_147 rfl (by omega) (by decide) ((by rw [hz1 k hk2, hc, oI_s])) ?_
                  refine E_aload_n dX11_cheapest_148 rfl ?_
                  refine E_getR' (ci := 11) (j := 6) (p := 64) dX11_cheapest_149 fkX11_16 rfl (by decide) rfl (by decide) (rfl) ?_
                  refine E_iload dX11_cheapest_152 rfl ?_
                  refine E_ialdN dX11_cheapest_154 rfl (by omega) (by decide) (rm_cost hR2 ham) ?_
                  refine E_iaddN dX11_cheapest_155 ?_
                  refine E_goto (t := 166) dX11_cheapest_156 (by decide) ?_
                  refine E_iastN dX11_cheapest_166 rfl (by omega) (by decide) ?_
                  refine E_iload_n dX11_cheapest_167 rfl ?_
                  refine E_if_neB (t := 176) dX11_cheapest_168 (by decide) (fun c168 => ?_) (fun c168 => ?_)
                  · skip
                    refine E_iconst (v := nI 1) dX11_cheapest_176 rfl ?_
                    refine E_goto (t := 181) dX11_cheapest_177 (by decide) ?_
                    refine E_top (show nI 1 = bI true from rfl) ?_
                    refine E_ist_n (i := 2) dX11_cheapest_181 rfl (by decide) rfl ?_
                    refine E_iincN (b := 1) dX11_cheapest_182 rfl rfl (by decide) rfl ?_
                    refine E_goto (t := 52) dX11_cheapest_185 (by decide) ?_
                    first | exact ihA (a + 1) C true _ _ _ (by omega) (by omega) hs1 (fun e => by cases e) (fun _ => hb1 c168) hz2 (hS1.tr (Sb.i (by decide))) | exact ihA (a + 1) C false _ _ _ (by omega) (by omega) hs1 (fun _ => ⟨(hb0 c168).1, chkC_step (hb0 c168).2 (hv0 c139)⟩) (fun e => by cases e) hz2 (hS1.tr (Sb.i (by decide))) | exact ihA (a + 1) _ true _ _ _ (by omega) (by omega) hs3 (fun e => by cases e) (fun _ => by cases b with | false => rw [← (hb0 rfl).1]; exact hw3 | true => have := hb1 rfl; omega) hz3 (hS1.tr (Sb.i (by decide))) | (exfalso; rw [c139] at c173; cases c173)
                  · skip
                    refine E_iload dX11_cheapest_171 rfl ?_
                    refine E_if_eqB (t := 180) dX11_cheapest_173 (by decide) (fun c173 => ?_) (fun c173 => ?_)
                    · skip
                      refine E_iconst (v := nI 0) dX11_cheapest_180 rfl ?_
                      refine E_top (show nI 0 = bI false from rfl) ?_
                      refine E_ist_n (i := 2) dX11_cheapest_181 rfl (by decide) rfl ?_
                      refine E_iincN (b := 1) dX11_cheapest_182 rfl rfl (by decide) rfl ?_
                      refine E_goto (t := 52) dX11_cheapest_185 (by decide) ?_
                      first | exact ihA (a + 1) C true _ _ _ (by omega) (by omega) hs1 (fun e => by cases e) (fun _ => hb1 c168) hz2 (hS1.tr (Sb.i (by decide))) | exact ihA (a + 1) C false _ _ _ (by omega) (by omega) hs1 (fun _ => ⟨(hb0 c168).1, chkC_step (hb0 c168).2 (hv0 c139)⟩) (fun e => by cases e) hz2 (hS1.tr (Sb.i (by decide))) | exact ihA (a + 1) _ true _ _ _ (by omega) (by omega) hs3 (fun e => by cases e) (fun _ => by cases b with | false => rw [← (hb0 rfl).1]; exact hw3 | true => have := hb1 rfl; omega) hz3 (hS1.tr (Sb.i (by decide))) | (exfalso; rw [c139] at c173; cases c173)
                    · skip
                      refine E_iconst (v := nI 1) dX11_cheapest_176 rfl ?_
                      refine E_goto (t := 181) dX11_cheapest_177 (by decide) ?_
                      refine E_top (show nI 1 = bI true from rfl) ?_
                      refine E_ist_n (i := 2) dX11_cheapest_181 rfl (by decide) rfl ?_
                      refine E_iincN (b := 1) dX11_cheapest_182 rfl rfl (by decide) rfl ?_
                      refine E_goto (t := 52) dX11_cheapest_185 (by decide) ?_
                      first | exact ihA (a + 1) C true _ _ _ (by omega) (by omega) hs1 (fun e => by cases e) (fun _ => hb1 c168) hz2 (hS1.tr (Sb.i (by decide))) | exact ihA (a + 1) C false _ _ _ (by omega) (by omega) hs1 (fun _ => ⟨(hb0 c168).1, chkC_step (hb0 c168).2 (hv0 c139)⟩) (fun e => by cases e) hz2 (hS1.tr (Sb.i (by decide))) | exact ihA (a + 1) _ true _ _ _ (by omega) (by omega) hs3 (fun e => by cases e) (fun _ => by cases b with | false => rw [← (hb0 rfl).1]; exact hw3 | true => have := hb1 rfl; omega) hz3 (hS1.tr (Sb.i (by decide))) | (exfalso; rw [c139] at c173; cases c173)
              refine E_iload dX11_cheapest_52 rfl ?_
              refine E_aload_n dX11_cheapest_54 rfl ?_
              refine E_getI' (ci := 11) (j := 0) dX11_cheapest_55 fkX11_85 rfl (by decide) rfl (by decide) (rm_many hR2) ?_
              refine E_icmp_geN (t := 188) dX11_cheapest_58 (by decide) (by omega) (by omega) (fun c58 => ?_) (fun c58 => ?_)
              · skip
                have hnx : b = false → C = C0 ∧ chkC T C (k + 1) 0 := fun e => ⟨(hb0 e).1, chkC_next (hb0 e).2 (Or.inl c58)⟩
                refine E_iincN (b := 1) dX11_cheapest_188 rfl rfl (by decide) rfl ?_
                refine E_goto (t := 42) dX11_cheapest_191 (by decide) ?_
                exact ihK (k + 1) C b M2 _ _ _ (by omega) (by omega) hs1 hnx hb1 hz1 hS1
              · skip
                refine E_aload_n dX11_cheapest_61 rfl ?_
                refine E_getR' (ci := 11) (j := 33) (p := 80) dX11_cheapest_62 fkX11_65 rfl (by decide) rfl (by decide) (rfl) ?_
                refine E_iload_n dX11_cheapest_65 rfl ?_
                refine E_ialdN dX11_cheapest_66 rfl (by omega) (by decide) (hz1 k hk2) ?_
                refine E_if_ltO (t := 188) dX11_cheapest_67 (by decide) (fun d hd => by have := hbd hs1 k d hk2 hd; omega) (fun c67 => ?_) (fun c67 => ?_)
                · skip
                  have hnx : b = false → C = C0 ∧ chkC T C (k + 1) 0 := fun e => ⟨(hb0 e).1, chkC_next (hb0 e).2 (Or.inr c67)⟩
                  refine E_iincN (b := 1) dX11_cheapest_188 rfl rfl (by decide) rfl ?_
                  refine E_goto (t := 42) dX11_cheapest_191 (by decide) ?_
                  exact ihK (k + 1) C b M2 _ _ _ (by omega) (by omega) hs1 hnx hb1 hz1 hS1
                · skip
                  obtain ⟨c, hc⟩ := Option.ne_none_iff_exists'.mp c67
                  have hcb := hbd hs1 k c hk2 hc
                  have hnl := nxt_lt hT (s := k) c58
                  have hco := (wt_a hT c58).2.2.1
                  refine E_aload_n dX11_cheapest_70 rfl ?_
                  refine E_iload dX11_cheapest_71 rfl ?_
                  refine E_iload_n dX11_cheapest_73 rfl ?_
                  refine E_callV (r := qX11_next) (ci := 11) dX11_cheapest_74 mkX11_108 voX11_next rfl rfl rfl ⟨Nat.le_of_ble_eq_true rfl, Nat.le_of_ble_eq_true rfl, Nat.le_of_ble_eq_true rfl, Nat.le_of_ble_eq_true rfl⟩ (m_next hR2 c58 hk2) rfl (Nat.le_of_ble_eq_true rfl) ?_
                  rintro _ _ ⟨rfl, rfl⟩
                  refine E_istore dX11_cheapest_77 (by decide) rfl ?_
                  refine E_aload_n dX11_cheapest_79 rfl ?_
                  refine E_iload dX11_cheapest_80 rfl ?_
                  refine E_iload_n dX11_cheapest_82 rfl ?_
                  refine E_iconst (v := -1) dX11_cheapest_83 rfl ?_
                  refine E_callV (r := qX11_isOpen) (ci := 11) dX11_cheapest_84 mkX11_105 voX11_isOpen rfl rfl rfl ⟨Nat.le_of_ble_eq_true rfl, Nat.le_of_ble_eq_true rfl, Nat.le_of_ble_eq_true rfl, Nat.le_of_ble_eq_true rfl⟩ (m_isOpen0 hR2 c58 hk2) rfl (Nat.le_of_ble_eq_true rfl) ?_
                  rintro _ _ ⟨rfl, rfl⟩
                  refine E_if_eqB (t := 128) dX11_cheapest_87 (by decide) (fun c87 => ?_) (fun c87 => ?_)
                  · skip
                    refine E_iconst (v := nI 0) dX11_cheapest_128 rfl ?_
                    exact J false c c58 hc (fun e => by cases e) (fun _ => Or.inl c87)
                    skip
                  · skip
                    refine E_aload_n dX11_cheapest_90 rfl ?_
                    refine E_getR' (ci := 11) (j := 33) (p := 80) dX11_cheapest_91 fkX11_65 rfl (by decide) rfl (by decide) (rfl) ?_
                    refine E_iload dX11_cheapest_94 rfl ?_
                    refine E_ialdN dX11_cheapest_96 rfl (by omega) (by decide) (hz1 _ hnl) ?_
                    refine E_if_ltO (t := 124) dX11_cheapest_97 (by decide) (fun d hd => by have := hbd hs1 _ d hnl hd; omega) (fun c97 => ?_) (fun c97 => ?_)
                    · skip
                      refine E_iconst (v := nI 1) dX11_cheapest_124 rfl ?_
                      refine E_goto (t := 129) dX11_cheapest_125 (by decide) ?_
                      exact J true c c58 hc (fun _ => ⟨c87, fun e he => by rw [c97] at he; cases he⟩) (fun e => by cases e)
                      skip
                    · skip
                      obtain ⟨e, he⟩ := Option.ne_none_iff_exists'.mp c97
                      have heb := hbd hs1 _ e hnl he
                      refine E_aload_n dX11_cheapest_100 rfl ?_
                      refine E_getR' (ci := 11) (j := 33) (p := 80) dX11_cheapest_101 fkX11_65 rfl (by decide) rfl (by decide) (rfl) ?_
                      refine E_iload dX11_cheapest_104 rfl ?_
                      refine E_ialdN dX11_cheapest_106 rfl (by omega) (by decide) ((by rw [hz1 _ hnl, he, oI_s])) ?_
                      refine E_aload_n dX11_cheapest_107 rfl ?_
                      refine E_getR' (ci := 11) (j := 33) (p := 80) dX11_cheapest_108 fkX11_65 rfl (by decide) rfl (by decide) (rfl) ?_
                      refine E_iload_n dX11_cheapest_111 rfl ?_
                      refine E_ialdN dX11_cheapest_112 rfl (by omega) (by decide) ((by rw [hz1 k hk2, hc, oI_s])) ?_
                      refine E_aload_n dX11_cheapest_113 rfl ?_
                      refine E_getR' (ci := 11) (j := 6) (p := 64) dX11_cheapest_114 fkX11_16 rfl (by decide) rfl (by decide) (rfl) ?_
                      refine E_iload dX11_cheapest_117 rfl ?_
                      refine E_ialdN dX11_cheapest_119 rfl (by omega) (by decide) (rm_cost hR2 c58) ?_
                      refine E_iaddN dX11_cheapest_120 ?_
                      refine E_icmp_leN (t := 128) dX11_cheapest_121 (by decide) (by omega) (by omega) (fun c121 => ?_) (fun c121 => ?_)
                      · skip
                        refine E_iconst (v := nI 0) dX11_cheapest_128 rfl ?_
                        exact J false c c58 hc (fun e => by cases e) (fun _ => Or.inr (fun c' hc' => ⟨e, he, by rw [hc] at hc'; cases hc'; exact c121⟩))
                        skip
                      · skip
                        refine E_iconst (v := nI 1) dX11_cheapest_124 rfl ?_
                        refine E_goto (t := 129) dX11_cheapest_125 (by decide) ?_
                        exact J true c c58 hc (fun _ => ⟨c87, fun e' he' => by rw [he] at he'; cases he'; exact c121⟩) (fun e => by cases e)
                        skip
          refine E_iload_n dX11_cheapest_42 rfl ?_
          refine E_sipush (v := nI 1024) dX11_cheapest_43 rfl ?_
          refine E_icmp_geN (t := 194) dX11_cheapest_46 (by decide) (by omega) (by omega) (fun c46 => ?_) (fun c46 => ?_)
          · skip
            refine E_goto (t := 34) dX11_cheapest_194 (by decide) ?_
            have hk9 : k = 1024 := by omega
            subst hk9
            cases b with
            | false => exact L9 C M2 _ _ _ _ hs1 (hb0 rfl).2 hz1 hS1
            | true => exact ihW C M2 _ _ _ _ (by have := hb1 rfl; omega) hs1 hz1 hS1
          · skip
            refine E_iconst (v := nI 0) dX11_cheapest_49 rfl ?_
            refine E_istore dX11_cheapest_50 (by decide) rfl ?_
            exact L52 (by omega) (T 61 0 + 1) 0 C b M2 _ _ (by omega) (by omega) hs1 hb0 hb1 hz1 hS1
      refine E_iload_n dX11_cheapest_34 rfl ?_
      refine E_if_eqB (t := 197) dX11_cheapest_35 (by decide) (fun c35 => ?_) (fun c35 => ?_)
      · skip
        cases c35
      · skip
        refine E_iconst (v := nI 0) dX11_cheapest_38 rfl ?_
        refine E_top (show nI 0 = bI false from rfl) ?_
        refine E_ist_n (i := 2) dX11_cheapest_39 rfl (by decide) rfl ?_
        refine E_iconst (v := nI 0) dX11_cheapest_40 rfl ?_
        refine E_ist_n (i := 3) dX11_cheapest_41 rfl (by decide) rfl ?_
        exact L42 1025 0 C0 false M1 _ _ _ (by omega) (by omega) hs0 (fun _ => ⟨rfl, fun k' a' c b1 b2 b3 => by omega⟩) (fun e => by cases e) hz0 hS0
  have L2 : ∀ (n i : Nat) (M1 : AM), i ≤ 1024 → 1024 < i + n → Sb [80] M M1 → (∀ t, t < i → M1.1 80 t = -1) → Ex g qX11_cheapest (tm g qX11_cheapest (fun v M' => v = some (.int (oI (omN (fun i => CT T (64 * l + i)) 64))) ∧ Sb [80] M M')) 2 [some (.ref 61), some (.int (nI l)), some (.int (nI i)), none, none, none, none] [] M1 := by
    intro n
    induction n with
    | zero => intro i M1 h1 h2; exact absurd h2 (by omega)
    | succ n ih =>
      intro i M1 hi hn hS hm
      have hR1 := rm_sb hR hS (by decide)
      have hB1 : RB T M1 := ⟨by rw [(hS 61 (by decide)).1]; exact hB.1, hB.2⟩
      refine E_iload_n dX11_cheapest_2 rfl ?_
      refine E_sipush (v := nI 1024) dX11_cheapest_3 rfl ?_
      refine E_icmp_geN (t := 22) dX11_cheapest_6 (by decide) (by omega) (by omega) (fun c6 => ?_) (fun c6 => ?_)
      · skip
        refine E_aload_n dX11_cheapest_22 rfl ?_
        refine E_getR' (ci := 11) (j := 33) (p := 80) dX11_cheapest_23 fkX11_65 rfl (by decide) rfl (by decide) (rfl) ?_
        refine E_aload_n dX11_cheapest_26 rfl ?_
        refine E_callV (r := qX11_first) (ci := 11) dX11_cheapest_27 mkX11_118 voX11_first rfl rfl rfl ⟨Nat.le_of_ble_eq_true rfl, Nat.le_of_ble_eq_true rfl, Nat.le_of_ble_eq_true rfl, Nat.le_of_ble_eq_true rfl⟩ (m_first hR1 hB1) rfl (Nat.le_of_ble_eq_true rfl) ?_
        rintro _ _ ⟨rfl, rfl⟩
        refine E_iconst (v := nI 0) dX11_cheapest_30 rfl ?_
        refine E_iastN dX11_cheapest_31 rfl (by omega) (by decide) ?_
        refine E_iconst (v := nI 1) dX11_cheapest_32 rfl ?_
        refine E_top (show nI 1 = bI true from rfl) ?_
        refine E_ist_n (i := 2) dX11_cheapest_33 rfl (by decide) rfl ?_
        refine L34 (1024 * 9300 + 1) (upO (fun _ => none) (fst0 T) 0) _ _ _ _ _ ?_ ⟨fun k c hk hc => ?_, by unfold upO; rw [if_pos rfl]⟩ (fun t ht => ?_) (hS.tr (Sb.i (by decide)))
        · unfold wgt; refine Nat.lt_succ_of_le (smN_le (fun t => ?_) 1024); unfold upO; by_cases e : t = fst0 T <;> simp [e]
        · unfold upO at hc
          by_cases e : k = fst0 T
          · rw [if_pos e] at hc; cases hc; exact ⟨⟨0, e, rfl⟩, Nat.zero_le _⟩
          · rw [if_neg e] at hc; cases hc
        · rw [sI_get]; unfold upO
          by_cases e : t = fst0 T
          · rw [if_pos ⟨rfl, e⟩, if_pos e]; rfl
          · rw [if_neg (fun e2 => e e2.2), if_neg e]; exact hm t (by omega)
      · skip
        refine E_aload_n dX11_cheapest_9 rfl ?_
        refine E_getR' (ci := 11) (j := 33) (p := 80) dX11_cheapest_10 fkX11_65 rfl (by decide) rfl (by decide) (rfl) ?_
        refine E_iload_n dX11_cheapest_13 rfl ?_
        refine E_iconst (v := -1) dX11_cheapest_14 rfl ?_
        refine E_iastN dX11_cheapest_15 rfl (by omega) (by decide) ?_
        refine E_iincN (b := 1) dX11_cheapest_16 rfl rfl (by decide) rfl ?_
        refine E_goto (t := 2) dX11_cheapest_19 (by decide) ?_
        exact ih (i + 1) _ (by omega) (by omega) (hS.tr (Sb.i (by decide))) (fun t ht => by rw [sI_get]; by_cases h5 : t = i; rw [if_pos ⟨rfl, h5⟩]; rw [if_neg (fun e => h5 e.2)]; exact hm t (by omega))
  refine Call_of (ls0 := [some (.ref 61), some (.int (nI l)), none, none, none, none, none]) rfl rfl (Nat.le_of_ble_eq_true rfl) ?_
  refine E_iconst (v := nI 0) dX11_cheapest_0 rfl ?_
  refine E_ist_n (i := 2) dX11_cheapest_1 rfl (by decide) rfl ?_
  exact L2 1025 0 M (by omega) (by omega) Sb.rf (fun t ht => absurd ht (Nat.not_lt_zero t))
noncomputable def mrLeast (T : TK) (x w : Int32) : Int32 := if isLn T x = false then -1000001 else if inI w 0 1 = false then -1000002 else if w = nI 1 then oI (omN (fun i => CT T (64 * x.toInt.toNat + i)) 64) else oI (fewN (DT T) (64 * x.toInt.toNat) 64)
theorem m_least (hR : RM T M) (hB : RB T M) {x w : Int32} : Call g qX11_least [.ref 61, .int x, .int w] M (RtS (mrLeast T x w) M) := by
  refine Call_of (ls0 := [some (.ref 61), some (.int x), some (.int w)]) rfl rfl (Nat.le_of_ble_eq_true rfl) ?_
  refine E_aload_n dX11_least_0 rfl ?_
  refine E_iload_n dX11_least_1 rfl ?_
  refine E_callV (r := qX11_isLine) (ci := 11) dX11_least_2 mkX11_250 voX11_isLine rfl rfl rfl ⟨Nat.le_of_ble_eq_true rfl, Nat.le_of_ble_eq_true rfl, Nat.le_of_ble_eq_true rfl, Nat.le_of_ble_eq_true rfl⟩ (m_isLine hR) rfl (Nat.le_of_ble_eq_true rfl) ?_
  rintro _ _ ⟨rfl, rfl⟩
  refine E_if_neB (t := 11) dX11_least_5 (by decide) (fun c5 => ?_) (fun c5 => ?_)
  · skip
    have h5 := c5
    rw [Bool.and_eq_true] at h5
    obtain ⟨l, hl1, hl2, rfl, hl3⟩ := inI_nat h5.1 (by decide)
    have hil : isLn T (nI l) = true := c5
    refine E_iload_n dX11_least_11 rfl ?_
    refine E_i2l dX11_least_12 ?_
    refine E_lconst (v := 0) dX11_least_13 rfl ?_
    refine E_lconst (v := 1) dX11_least_14 rfl ?_
    refine E_callS (r := qX11_in) dX11_least_15 mkX11_88 toX11_in rfl ⟨Nat.le_of_ble_eq_true rfl, Nat.le_of_ble_eq_true rfl, Nat.le_of_ble_eq_true rfl, Nat.le_of_ble_eq_true rfl⟩ (m_inI) rfl (Nat.le_of_ble_eq_true rfl) ?_
    rintro _ _ ⟨rfl, rfl⟩
    refine E_top (show _ = bI (inI w 0 1) from rfl) ?_
    refine E_if_neB (t := 24) dX11_least_18 (by decide) (fun c18 => ?_) (fun c18 => ?_)
    · skip
      refine E_iload_n dX11_least_24 rfl ?_
      refine E_iconst (v := nI 1) dX11_least_25 rfl ?_
      refine E_icmp_ne (t := 35) dX11_least_26 (by decide) (fun c26 => ?_) (fun c26 => ?_)
      · skip
        refine E_aload_n dX11_least_35 rfl ?_
        refine E_callV (r := qX11_reachesAll) (ci := 11) dX11_least_36 mkX11_255 voX11_reachesAll rfl rfl rfl ⟨Nat.le_of_ble_eq_true rfl, Nat.le_of_ble_eq_true rfl, Nat.le_of_ble_eq_true rfl, Nat.le_of_ble_eq_true rfl⟩ (m_reachesAll hR hB) rfl (Nat.le_of_ble_eq_true rfl) ?_
        rintro _ M1 ⟨rfl, hS1, hq1⟩
        refine E_pop dX11_least_39 rfl ?_
        refine E_aload_n dX11_least_40 rfl ?_
        refine E_iload_n dX11_least_41 rfl ?_
        refine E_callV (r := qX11_fewest) (ci := 11) dX11_least_42 mkX11_271 voX11_fewest rfl rfl rfl ⟨Nat.le_of_ble_eq_true rfl, Nat.le_of_ble_eq_true rfl, Nat.le_of_ble_eq_true rfl, Nat.le_of_ble_eq_true rfl⟩ (m_fewest hq1 DL_DT (l := l) (by omega)) rfl (Nat.le_of_ble_eq_true rfl) ?_
        rintro _ _ ⟨rfl, rfl⟩
        refine E_iret dX11_least_45 rfl ?_
        exact ⟨by unfold mrLeast; rw [if_neg (by rw [hil]; decide), if_neg (by rw [c18]; decide), if_neg c26, nI_tn hl3], hS1.scr (by decide)⟩
      · skip
        refine E_aload_n dX11_least_29 rfl ?_
        refine E_iload_n dX11_least_30 rfl ?_
        refine E_callV (r := qX11_cheapest) (ci := 11) dX11_least_31 mkX11_268 voX11_cheapest rfl rfl rfl ⟨Nat.le_of_ble_eq_true rfl, Nat.le_of_ble_eq_true rfl, Nat.le_of_ble_eq_true rfl, Nat.le_of_ble_eq_true rfl⟩ (m_cheapest hR hB (l := l) (by omega)) rfl (Nat.le_of_ble_eq_true rfl) ?_
        rintro _ M1 ⟨rfl, hS1⟩
        refine E_iret dX11_least_34 rfl ?_
        exact ⟨by unfold mrLeast; rw [if_neg (by rw [hil]; decide), if_neg (by rw [c18]; decide), if_pos c26, nI_tn hl3], hS1.scr (by decide)⟩
    · skip
      refine E_ldc dX11_least_21 ckX11_131 ?_
      refine E_iret dX11_least_23 rfl ?_
      exact ⟨by unfold mrLeast; rw [if_neg (by rw [hil]; decide), if_pos c18], Sb.rf⟩
  · skip
    refine E_ldc dX11_least_8 ckX11_214 ?_
    refine E_iret dX11_least_10 rfl ?_
    exact ⟨by unfold mrLeast; rw [if_pos (show isLn T x = false from c5)], Sb.rf⟩
end M9
