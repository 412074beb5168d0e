-- the class's searches: queue
theorem gr_sb {T : TK} {M M' : AM} {S : List Nat} (h : GR T M) (hS : Sb S M M') (hd : ∀ c ∈ S, c < 9 ∨ 20 < c) : GR T M' := by
  have e : ∀ c, 9 ≤ c → c ≤ 20 → M'.1 c = M.1 c := fun c h1 h2 => (hS c (fun hc => by have := hd c hc; omega)).1
  refine ⟨g3_fr h.1 (fun c hc => e c ?_ ?_), by rw [e 15 (by decide) (by decide)]; exact h.2.1, by rw [e 19 (by decide) (by decide)]; exact h.2.2.1, by rw [e 20 (by decide) (by decide)]; exact h.2.2.2⟩
  · revert c; decide
  · revert c; decide
def Sq (σ : BS) (M : AM) : Prop := (∀ t, t < 1024 → M.1 23 t = oI (σ.2 t)) ∧ (∀ i, i < σ.1.length → M.1 22 i = nI (σ.1.getD i 0)) ∧ M.1 21 2 = nI σ.1.length
def dB (σ : BS) : Prop := ∀ u e, σ.2 u = some e → e < 5000
theorem sq_vis {σ : BS} {M : AM} {d t : Nat} (hq : Sq σ M) (hn : σ.2 t = none) : Sq (vis d σ t) (sI (sI (sI M 23 t (nI d)) 22 σ.1.length (nI t)) 21 2 (nI (σ.1.length + 1))) := by
  have e1 : (vis d σ t).1 = σ.1 ++ [t] := by unfold vis; rw [if_pos hn]
  have e2 : ∀ u, (vis d σ t).2 u = if u = t then some d else σ.2 u := fun u => by unfold vis; rw [if_pos hn]
  refine ⟨fun u hu => ?_, fun i hi => ?_, ?_⟩
  · rw [e2 u, sI_o (by omega), sI_o (by omega)]
    by_cases h1 : u = t
    · rw [if_pos h1, h1, sI_s]; rfl
    · rw [if_neg h1, sI_o (fun h => h1 h.2)]; exact hq.1 u hu
  · rw [e1] at hi ⊢
    rw [sI_o (by omega), gd_app hi]
    by_cases h1 : i = σ.1.length
    · rw [if_pos h1, h1, sI_s]
    · rw [if_neg h1, sI_o (fun h => h1 h.2), sI_o (by omega)]
      rw [List.length_append] at hi
      have h2 : [t].length = 1 := rfl
      exact hq.2.1 i (by omega)
  · rw [sI_s, e1, List.length_append]; rfl
theorem sq_fr {σ : BS} {M M' : AM} {S : List Nat} (h : Sq σ M) (hS : Sb S M M') (hd : ∀ c ∈ S, c ≠ 21 ∧ c ≠ 22 ∧ c ≠ 23) : Sq σ M' := by
  have e : ∀ c, c = 21 ∨ c = 22 ∨ c = 23 → M'.1 c = M.1 c := fun c h1 => (hS c (fun hc => by have := hd c hc; omega)).1
  exact ⟨by rw [e 23 (by decide)]; exact h.1, by rw [e 22 (by decide)]; exact h.2.1, by rw [e 21 (by decide)]; exact h.2.2⟩
noncomputable def slP (T : TK) (ok : Nat → Bool) (i : Nat) : Nat → List Nat
  | 0 => []
  | j + 1 => slP T ok i j ++ (if ok (fO T i + j) = true then [mT T (fO T i + j)] else [])
noncomputable def sP (T : TK) (ok : Nat → Bool) (i : Nat) : List Nat := slP T ok i (fO T (i + 1) - fO T i)
theorem slP_m {T : TK} {ok : Nat → Bool} {i t : Nat} : ∀ {j : Nat}, t ∈ slP T ok i j ↔ ∃ x, x < j ∧ ok (fO T i + x) = true ∧ mT T (fO T i + x) = t
  | 0 => ⟨fun h => by simp [slP] at h, fun ⟨x, hx, _⟩ => absurd hx (Nat.not_lt_zero x)⟩
  | j + 1 => by
    rw [slP, List.mem_append, slP_m]
    constructor
    · rintro (⟨x, h1, h2⟩ | h)
      · exact ⟨x, by omega, h2⟩
      · by_cases e : ok (fO T i + j) = true
        · rw [if_pos e, List.mem_singleton] at h
          exact ⟨j, by omega, e, h.symm⟩
        · rw [if_neg e] at h; cases h
    · rintro ⟨x, h1, h2, h3⟩
      by_cases e : x = j
      · subst e
        exact Or.inr (by rw [if_pos h2, List.mem_singleton]; exact h3.symm)
      · exact Or.inl ⟨x, by omega, h2, h3⟩
theorem sP_m {T : TK} {ok : Nat → Bool} {i t : Nat} : t ∈ sP T ok i ↔ ∃ m, fO T i ≤ m ∧ m < fO T (i + 1) ∧ ok m = true ∧ mT T m = t := by
  unfold sP
  rw [slP_m]
  constructor
  · rintro ⟨x, h1, h2, h3⟩; exact ⟨fO T i + x, by omega, by omega, h2, h3⟩
  · rintro ⟨m, h1, h2, h3, h4⟩
    exact ⟨m - fO T i, by omega, by rw [show fO T i + (m - fO T i) = m by omega]; exact h3, by rw [show fO T i + (m - fO T i) = m by omega]; exact h4⟩
theorem sP_lt {T : TK} (hT : WT T) (hB : T 61 13 < 64) {ok : Nat → Bool} : ∀ s t, s < LTn T → t ∈ sP T ok s → t < LTn T := fun s t hs ht => by
  obtain ⟨m, h1, h2, -, h4⟩ := sP_m.mp ht
  rw [← h4]
  exact (mv_ok hT hB (mv_sl hs h1 h2).2).2.2.2.2.2.1
noncomputable def sgP (T : TK) (ok : Nat → Bool) (σ : BS) (i j : Nat) : BS := (slP T ok i j).foldl (vis (dOf σ i + 1)) σ
theorem sgP_y {T : TK} {ok : Nat → Bool} {σ : BS} {i j : Nat} (h : ok (fO T i + j) = true) : sgP T ok σ i (j + 1) = vis (dOf σ i + 1) (sgP T ok σ i j) (mT T (fO T i + j)) := by
  unfold sgP
  rw [slP, if_pos h, List.foldl_append]; rfl
theorem sgP_n {T : TK} {ok : Nat → Bool} {σ : BS} {i j : Nat} (h : ok (fO T i + j) = false) : sgP T ok σ i (j + 1) = sgP T ok σ i j := by
  unfold sgP
  rw [slP, if_neg (by rw [h]; decide), List.append_nil]
theorem sgP_inv {T : TK} (hT : WT T) (hB : T 61 13 < 64) {ok : Nat → Bool} {σ : BS} {i j : Nat} (hi : i < LTn T) (hj : j ≤ fO T (i + 1) - fO T i) (h : bInv (LTn T) σ) : bInv (LTn T) (sgP T ok σ i j) := by
  unfold sgP
  refine bInv_fold _ h (fun t ht => ?_)
  obtain ⟨x, h1, h2, h3⟩ := slP_m.mp ht
  rw [← h3]
  exact (mv_ok hT hB (mv_sl hi (show fO T i ≤ fO T i + x by omega) (by omega)).2).2.2.2.2.2.1
theorem sgP_dB {T : TK} {ok : Nat → Bool} {f k i j : Nat} (hk : k ≤ 2000) : dB (sgP T ok (bfN (sP T ok) f k) i j) := fun u e he => by
  have h0 := bfN_dle (succ := sP T ok) (f := f) k
  have := fold_dle (c := k + 1) (d := dOf (bfN (sP T ok) f k) i + 1) (slP T ok i j) (fun u e he => by have := h0 u e he; omega) (by have := dOf_le h0 (s := i); omega) u e he
  omega
theorem bf_1 {T : TK} {ok : Nat → Bool} {f k s : Nat} (h : (bfN (sP T ok) f k).1[k]? = some s) : bfN (sP T ok) f (k + 1) = sgP T ok (bfN (sP T ok) f k) s (fO T (s + 1) - fO T s) := by
  rw [bfN, h]; rfl
section H1
variable {g : GG} {M : AM} {T : TK}
theorem c_enq {σ : BS} {N t d : Nat} (hI : bInv N σ) (hN : N ≤ 1024) (ht : t < N) (hq : Sq σ M) (hd : dB σ) : Call g qX9_enqueue [.ref 21, .int (nI t), .int (nI d)] M (fun v M' => v = none ∧ Sq (vis d σ t) M' ∧ Sb [21, 22, 23] M M') := by
  have h23 := hq.1 t (by omega)
  have hob : ∀ e, σ.2 t = some e → e < 2 ^ 31 := fun e he => by have := hd t e he; omega
  have hl : σ.2 t = none → σ.1.length < 1024 := fun e => by
    have h1 := bInv_vis (d := d) hI ht
    have h2 := nodup_len N _ h1.1 h1.2.2
    have e1 : (vis d σ t).1 = σ.1 ++ [t] := by unfold vis; rw [if_pos e]
    rw [e1, List.length_append] at h2
    have h3 : [t].length = 1 := rfl
    omega
  have q1 : (sI M 23 t (nI d)).1 21 2 = nI σ.1.length := by rw [sI_o (by omega)]; exact hq.2.2
  have q2 : (sI (sI M 23 t (nI d)) 22 σ.1.length (nI t)).1 21 2 = nI σ.1.length := by rw [sI_o (by omega)]; exact q1
  have k1 : ¬ σ.2 t = none → (fun v M' => v = none ∧ Sq (vis d σ t) M' ∧ Sb [21, 22, 23] M M') (none : Option Value) M := fun e => ⟨rfl, by unfold vis; rw [if_neg e]; exact hq, Sb.rf⟩
  have k2 : σ.2 t = none → (fun v M' => v = none ∧ Sq (vis d σ t) M' ∧ Sb [21, 22, 23] M M') (none : Option Value) (sI (sI (sI M 23 t (nI d)) 22 σ.1.length (nI t)) 21 2 (nI (σ.1.length + 1))) := fun e => ⟨rfl, sq_vis hq e, ((Sb.i (by decide)).tr (Sb.i (by decide))).tr (Sb.i (by decide))⟩
  refine Call_of (ls0 := [some (.ref 21), some (.int (nI t)), some (.int (nI d))]) rfl rfl (Nat.le_of_ble_eq_true rfl) ?_
  refine E_aload_n dX9_enqueue_0 rfl ?_
  refine E_getR' (ci := 9) (j := 1) (p := 23) dX9_enqueue_1 fkX9_15 rfl (by decide) rfl (by decide) (rfl) ?_
  refine E_iload_n dX9_enqueue_4 rfl ?_
  refine E_ialdN dX9_enqueue_5 rfl (by omega) (by decide) (h23) ?_
  refine E_iconst (v := -1) dX9_enqueue_6 rfl ?_
  refine E_icmp_neO (t := 47) dX9_enqueue_7 (by decide) hob (fun c7 => ?_) (fun c7 => ?_)
  · skip
    have key := k1 c7
    refine E_vret dX9_enqueue_47 rfl ?_
    exact key
  · skip
    have hlt := hl c7
    have key := k2 c7
    refine E_aload_n dX9_enqueue_10 rfl ?_
    refine E_getI' (ci := 9) (j := 2) dX9_enqueue_11 fkX9_24 rfl (by decide) rfl (by decide) (hq.2.2) ?_
    refine E_sipush (v := nI 1024) dX9_enqueue_14 rfl ?_
    refine E_icmp_geN (t := 47) dX9_enqueue_17 (by decide) (by omega) (by omega) (fun c17 => ?_) (fun c17 => ?_)
    · skip
      exact absurd hlt (by omega)
    · skip
      refine E_aload_n dX9_enqueue_20 rfl ?_
      refine E_getR' (ci := 9) (j := 1) (p := 23) dX9_enqueue_21 fkX9_15 rfl (by decide) rfl (by decide) (rfl) ?_
      refine E_iload_n dX9_enqueue_24 rfl ?_
      refine E_iload_n dX9_enqueue_25 rfl ?_
      refine E_iastN dX9_enqueue_26 rfl (by omega) (by decide) ?_
      refine E_aload_n dX9_enqueue_27 rfl ?_
      refine E_getR' (ci := 9) (j := 0) (p := 22) dX9_enqueue_28 fkX9_9 rfl (by decide) rfl (by decide) (rfl) ?_
      refine E_aload_n dX9_enqueue_31 rfl ?_
      refine E_getI' (ci := 9) (j := 2) dX9_enqueue_32 fkX9_24 rfl (by decide) rfl (by decide) (q1) ?_
      refine E_iload_n dX9_enqueue_35 rfl ?_
      refine E_iastN dX9_enqueue_36 rfl hlt (by decide) ?_
      refine E_aload_n dX9_enqueue_37 rfl ?_
      refine E_dup dX9_enqueue_38 rfl ?_
      refine E_getI' (ci := 9) (j := 2) dX9_enqueue_39 fkX9_24 rfl (by decide) rfl (by decide) (q2) ?_
      refine E_iconst (v := nI 1) dX9_enqueue_42 rfl ?_
      refine E_iaddN dX9_enqueue_43 ?_
      refine E_putI (ci := 9) (j := 2) dX9_enqueue_44 fkX9_24 rfl (by decide) rfl (by decide) ?_
      refine E_vret dX9_enqueue_47 rfl ?_
      exact key
theorem c_startAt {f : Nat} (hf : f < 1024) : Call g qX9_startAt [.ref 21, .int (nI f)] M (fun v M' => v = none ∧ Sq (bf0 f) M' ∧ Sb [21, 22, 23] M M') := by
  have e0 : vis 0 (([], fun _ => none) : BS) f = bf0 f := by unfold vis bf0; rw [if_pos rfl]; rfl
  have hI : bInv 1024 (([], fun _ => none) : BS) := ⟨List.nodup_nil, fun t => ⟨fun h => absurd h List.not_mem_nil, fun h => absurd rfl h⟩, fun t ht => absurd ht List.not_mem_nil⟩
  have hq : Sq (([], fun _ => none) : BS) (sI (flM M 23 1024 (-1)) 21 2 (nI 0)) := ⟨fun t ht => by rw [sI_ne (by decide), flM_in ht]; rfl, fun i hi => absurd hi (Nat.not_lt_zero i), sI_s⟩
  have hS : Sb [21, 22, 23] M (sI (flM M 23 1024 (-1)) 21 2 (nI 0)) := (flM_sb (by decide)).tr (Sb.i (by decide))
  refine Call_of (ls0 := [some (.ref 21), some (.int (nI f))]) rfl rfl (Nat.le_of_ble_eq_true rfl) ?_
  refine E_aload_n dX9_startAt_0 rfl ?_
  refine E_getR' (ci := 9) (j := 1) (p := 23) dX9_startAt_1 fkX9_15 rfl (by decide) rfl (by decide) (rfl) ?_
  refine E_iconst (v := -1) dX9_startAt_4 rfl ?_
  refine E_callS (r := qJ7_fill_53178) dX9_startAt_5 mkX9_18 toJ7_fill_53178 rfl ⟨Nat.le_of_ble_eq_true rfl, Nat.le_of_ble_eq_true rfl, Nat.le_of_ble_eq_true rfl, Nat.le_of_ble_eq_true rfl⟩ (c_fill rfl (by decide)) rfl (Nat.le_of_ble_eq_true rfl) ?_
  rintro _ _ ⟨rfl, rfl⟩
  refine E_aload_n dX9_startAt_8 rfl ?_
  refine E_iconst (v := nI 0) dX9_startAt_9 rfl ?_
  refine E_putI (ci := 9) (j := 2) dX9_startAt_10 fkX9_24 rfl (by decide) rfl (by decide) ?_
  refine E_aload_n dX9_startAt_13 rfl ?_
  refine E_iload_n dX9_startAt_14 rfl ?_
  refine E_iconst (v := nI 0) dX9_startAt_15 rfl ?_
  refine E_callV (r := qX9_enqueue) (ci := 9) dX9_startAt_16 mkX9_28 voX9_enqueue rfl rfl rfl ⟨Nat.le_of_ble_eq_true rfl, Nat.le_of_ble_eq_true rfl, Nat.le_of_ble_eq_true rfl, Nat.le_of_ble_eq_true rfl⟩ (c_enq (d := 0) hI (Nat.le_refl _) hf hq (fun u e he => by cases he)) rfl (Nat.le_of_ble_eq_true rfl) ?_
  rintro _ M2 ⟨rfl, h1, h2⟩
  refine E_vret dX9_startAt_19 rfl ?_
  exact ⟨rfl, by rw [← e0]; exact h1, hS.tr h2⟩
end H1
