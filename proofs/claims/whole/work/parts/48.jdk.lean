-- the JDK's own: fill, min, max, bitCount; arraycopy
def flM (M : AM) (k n : Nat) (x : Int32) : AM := (fun a b => if a = k ∧ b < n then x else M.1 a b, M.2)
def flL (M : AM) (k n : Nat) (x : Int64) : AM := (M.1, fun a b => if a = k ∧ b < n then x else M.2.1 a b, M.2.2)
theorem flM_in {M : AM} {k n j : Nat} {x : Int32} (h : j < n) : (flM M k n x).1 k j = x := by show (if k = k ∧ j < n then x else _) = x; rw [if_pos ⟨rfl, h⟩]
theorem flM_ne {M : AM} {k n i : Nat} {x : Int32} (h : i ≠ k) : (flM M k n x).1 i = M.1 i := by funext b; show (if i = k ∧ b < n then x else _) = _; rw [if_neg (fun e => h e.1)]
theorem flM_0 {M : AM} {k : Nat} {x : Int32} : flM M k 0 x = M := am_ext (fun a b => by show (if a = k ∧ b < 0 then x else _) = _; rw [if_neg (by omega)]) rfl
theorem flM_s {M : AM} {k i : Nat} {x : Int32} : sI (flM M k i x) k i x = flM M k (i + 1) x := am_ext (fun a b => by
  show (if a = k ∧ b = i then x else if a = k ∧ b < i then x else M.1 a b) = if a = k ∧ b < i + 1 then x else M.1 a b
  by_cases e1 : a = k
  · by_cases e2 : b = i
    · rw [if_pos ⟨e1, e2⟩, if_pos ⟨e1, by omega⟩]
    · rw [if_neg (fun e => e2 e.2)]
      by_cases e3 : b < i
      · rw [if_pos ⟨e1, e3⟩, if_pos ⟨e1, by omega⟩]
      · rw [if_neg (fun e => e3 e.2), if_neg (fun e => by omega)]
  · rw [if_neg (fun e => e1 e.1), if_neg (fun e => e1 e.1), if_neg (fun e => e1 e.1)]) rfl
theorem flM_sb {M : AM} {k n : Nat} {x : Int32} {S : List Nat} (h : k ∈ S) : Sb S M (flM M k n x) := fun i hi => ⟨flM_ne (fun e => hi (e ▸ h)), rfl, rfl⟩
theorem flL_in {M : AM} {k n j : Nat} {x : Int64} (h : j < n) : (flL M k n x).2.1 k j = x := by show (if k = k ∧ j < n then x else _) = x; rw [if_pos ⟨rfl, h⟩]
theorem flL_ne {M : AM} {k n i : Nat} {x : Int64} (h : i ≠ k) : (flL M k n x).2.1 i = M.2.1 i := by funext b; show (if i = k ∧ b < n then x else _) = _; rw [if_neg (fun e => h e.1)]
theorem flL_0 {M : AM} {k : Nat} {x : Int64} : flL M k 0 x = M := Prod.ext rfl (Prod.ext (funext fun a => funext fun b => by show (if a = k ∧ b < 0 then x else _) = _; rw [if_neg (by omega)]) rfl)
theorem flL_s {M : AM} {k i : Nat} {x : Int64} : sL (flL M k i x) k i x = flL M k (i + 1) x := Prod.ext rfl (Prod.ext (funext fun a => funext fun b => by
  show (if a = k ∧ b = i then x else if a = k ∧ b < i then x else M.2.1 a b) = if a = k ∧ b < i + 1 then x else M.2.1 a b
  by_cases e1 : a = k
  · by_cases e2 : b = i
    · rw [if_pos ⟨e1, e2⟩, if_pos ⟨e1, by omega⟩]
    · rw [if_neg (fun e => e2 e.2)]
      by_cases e3 : b < i
      · rw [if_pos ⟨e1, e3⟩, if_pos ⟨e1, by omega⟩]
      · rw [if_neg (fun e => e3 e.2), if_neg (fun e => by omega)]
  · rw [if_neg (fun e => e1 e.1), if_neg (fun e => e1 e.1), if_neg (fun e => e1 e.1)]) rfl)
theorem flL_sb {M : AM} {k n : Nat} {x : Int64} {S : List Nat} (h : k ∈ S) : Sb S M (flL M k n x) := fun i hi => ⟨rfl, flL_ne (fun e => hi (e ▸ h)), rfl⟩
section J1
variable {g : GG} {q : MI} {τ : TT} {pc : Nat} {ls : List (Option Value)} {st : List Value} {M : AM}
theorem E_ldcw {idx : Nat} {v : Int32} (d : decode (fC q) pc = .ok (.ldc_w idx, 3)) (hc : Cond.constant (fY q).cls idx v ∈ tbG)
    (k : Ex g q τ (pc + 3) ls (.int v :: st) M) : Ex g q τ pc ls st M :=
  fun p e s m args below meth c H locs a hF hX hW hl => lv_ldcw hF.1 hF.2.1 hF.2.2.2.2.1 (hF.2.2.2.2.2.1 _ hc) d (k p e s m args below meth c H locs a hF hX hW hl)
theorem shu31 : ∀ n, n < 32 → (((nI n).toUInt32 &&& Int32.toUInt32 31).toBitVec % 32).toNat = n := by decide +kernel
theorem nI_ushr {a k : Nat} (ha : a < 2 ^ 32) (hk : k < 32) : ((nI a).toUInt32 >>> ((nI k).toUInt32 &&& Int32.toUInt32 31)).toInt32 = nI (a / 2 ^ k) := i32_ext (by
  show (nI a).toBitVec >>> (((nI k).toUInt32 &&& Int32.toUInt32 31).toBitVec % 32) = (nI (a / 2 ^ k)).toBitVec
  apply BitVec.eq_of_toNat_eq
  rw [BitVec.ushiftRight_eq', shu31 k hk, BitVec.toNat_ushiftRight, nI_bv, nI_bv, BitVec.toNat_ofNat, BitVec.toNat_ofNat, Nat.mod_eq_of_lt ha, Nat.shiftRight_eq_div_pow, Nat.mod_eq_of_lt (Nat.lt_of_le_of_lt (Nat.div_le_self _ _) ha)])
theorem E_iushrN {a b : Nat} (d : decode (fC q) pc = .ok (.iushr, 1)) (ha : a < 2 ^ 32) (hb : b < 32) (k : Ex g q τ (pc + 1) ls (.int (nI (a / 2 ^ b)) :: st) M) : Ex g q τ pc ls (.int (nI b) :: .int (nI a) :: st) M := E_iushr d (E_top (nI_ushr ha hb) k)
def cpM (M : AM) (k n : Nat) : AM := (fun a b => if a = k ∧ b < n then M.1 k (b + 1) else M.1 a b, M.2)
theorem cpM_ne {M : AM} {k n i : Nat} (h : i ≠ k) : (cpM M k n).1 i = M.1 i := by funext b; show (if i = k ∧ b < n then _ else _) = _; rw [if_neg (fun e => h e.1)]
theorem cpM_in {M : AM} {k n j : Nat} (h : j < n) : (cpM M k n).1 k j = M.1 k (j + 1) := by show (if k = k ∧ j < n then _ else _) = _; rw [if_pos ⟨rfl, h⟩]
theorem E_copy {idx i n N : Nat} (d : decode (fC q) pc = .ok (.invokestatic idx, 3)) (hl0 : Cond.methodLink (fY q).cls idx arraycopyName ∈ tbG) (hk : kd i = (1, N)) (hn : 1 + n ≤ N) (hN : N < 2 ^ 31) (hf : 1 ≤ τ.1.frames) (hlo : catS (gA g) st + 18 ≤ τ.1.locals)
    (k : Ex g q τ (pc + 3) ls st (cpM M i n)) : Ex g q τ pc ls (.int (nI n) :: .int (nI 0) :: .ref i :: .int (nI 1) :: .ref i :: st) M := by
  intro p e s m args below meth c H locs a hF hX hW hl
  have hts := hF.2.2.2.2.2.1
  have hc1 : (nI 1).toNatClampNeg = 1 := nI_clamp (by decide)
  have hc0 : (nI 0).toNatClampNeg = 0 := nI_clamp (by decide)
  have hcn : (nI n).toNatClampNeg = n := nI_clamp (by omega)
  have nn : ∀ z : Nat, z < 2 ^ 31 → ¬ nI z < 0 := fun z hz h => by
    have := Int32.lt_iff_toInt_lt.mp h
    rw [nI_toInt hz] at this
    have h0 : (0 : Int32).toInt = 0 := rfl
    omega
  refine va_copyi hF.1 hF.2.1 (hF.2.2.2.1.trans hl.1.symm) hF.2.2.2.2.1 (hts _ hl0) (hts _ cpNa) (hts _ cpSt) (hts _ cpIn) hF.2.2.2.2.2.2.2.2.2 hW.1 (cw_D hF.2.2.2.2.2.2.2.2.1 M) hW.2 i i 0 0 (ty := .int) (by rw [cw_get g M (kd_lt hk (by decide)), cc_i hk]) (by rw [cw_get g M (kd_lt hk (by decide)), cc_i hk]) rfl rfl rfl (sp := nI 1) (dp := nI 0) (n := nI n) (nn 1 (by decide)) (nn 0 (by decide)) (nn n (by omega)) (by rw [hc1, hcn]; exact hn) (by rw [hc0, hcn]; omega) (fun _ _ => rfl) hf (show catS (gA g) st + (5 + 2 + 11) ≤ _ from hlo) d (fun H1 locs1 hP hD hS => ?_)
  have e1 : (cw g M).set i (gA g i, .inl (g.2.2.2.1.1, N, .inl (va_cpy (M.1 i) (M.1 i) (nI 1).toNatClampNeg (nI 0).toNatClampNeg (nI n).toNatClampNeg))) = cw g (cpM M i n) := by
    refine cw_ne (kd_lt hk (by decide)) ?_ (fun j hj => cc_ne (cpM_ne hj) rfl rfl)
    rw [cc_i hk, hc1, hc0, hcn]
    congr 4
    funext b
    show (if 0 ≤ b ∧ b < 0 + n then M.1 i (1 + (b - 0)) else M.1 i b) = if i = i ∧ b < n then M.1 i (b + 1) else M.1 i b
    by_cases e : b < n
    · rw [if_pos ⟨Nat.zero_le _, by omega⟩, if_pos ⟨rfl, e⟩, Nat.sub_zero, Nat.add_comm]
    · rw [if_neg (by omega), if_neg (fun h => e h.2)]
  rw [e1] at hP
  exact k p e s m args below meth c H1 locs1 a hF hX ⟨hP, hS⟩ hl
theorem mxC : Cond.code Lib.Math.max.name Lib.Math.max.code 2 (some .int) ∈ tbG := wcJ9_max_7cf53
theorem mnC : Cond.code Lib.Math.min.name Lib.Math.min.code 2 (some .int) ∈ tbG := wcJ9_min_7cf53
theorem E_mmax {idx a b : Nat} (d : decode (fC q) pc = .ok (.invokestatic idx, 3)) (hl0 : Cond.methodLink (fY q).cls idx yJ9_max_7cf53 ∈ tbG) (ha : a < 2 ^ 31) (hb : b < 2 ^ 31) (hf : 1 ≤ τ.1.frames) (hlo : catS (gA g) st + 13 ≤ τ.1.locals) (hc : τ.2.1 ≤ τ.1.cells) (hs : τ.2.2.1 ≤ τ.1.slots)
    (k : Ex g q τ (pc + 3) ls (.int (nI (max a b)) :: st) M) : Ex g q τ pc ls (.int (nI b) :: .int (nI a) :: st) M := by
  intro p e s m args below meth c H locs aa hF hX hW hl
  have hts := hF.2.2.2.2.2.1
  have e1 : (if nI a < nI b then nI b else nI a) = nI (max a b) := by
    by_cases h : a < b
    · rw [if_pos ((nI_ltI ha hb).mpr h), Nat.max_eq_right (by omega)]
    · rw [if_neg (fun e => h ((nI_ltI ha hb).mp e)), Nat.max_eq_left (by omega)]
  refine va_mmax hF.1 hF.2.1 (hF.2.2.2.1.trans hl.1.symm) hF.2.2.2.2.1 (hts _ hl0) (hts _ toJ9_max_7cf53.2.1) (hts _ toJ9_max_7cf53.2.2.1) (hts _ mxC) hf hlo hc hs d ?_
  rw [e1]
  exact k p e s m args below meth c H locs aa hF hX hW hl
theorem E_mmin {idx a b : Nat} (d : decode (fC q) pc = .ok (.invokestatic idx, 3)) (hl0 : Cond.methodLink (fY q).cls idx yJ9_min_7cf53 ∈ tbG) (ha : a < 2 ^ 31) (hb : b < 2 ^ 31) (hf : 1 ≤ τ.1.frames) (hlo : catS (gA g) st + 13 ≤ τ.1.locals) (hc : τ.2.1 ≤ τ.1.cells) (hs : τ.2.2.1 ≤ τ.1.slots)
    (k : Ex g q τ (pc + 3) ls (.int (nI (min a b)) :: st) M) : Ex g q τ pc ls (.int (nI b) :: .int (nI a) :: st) M := by
  intro p e s m args below meth c H locs aa hF hX hW hl
  have hts := hF.2.2.2.2.2.1
  have e1 : (if nI b < nI a then nI b else nI a) = nI (min a b) := by
    by_cases h : b < a
    · rw [if_pos ((nI_ltI hb ha).mpr h), Nat.min_eq_right (by omega)]
    · rw [if_neg (fun e => h ((nI_ltI hb ha).mp e)), Nat.min_eq_left (by omega)]
  refine va_mmin hF.1 hF.2.1 (hF.2.2.2.1.trans hl.1.symm) hF.2.2.2.2.1 (hts _ hl0) (hts _ toJ9_min_7cf53.2.1) (hts _ toJ9_min_7cf53.2.2.1) (hts _ mnC) hf hlo hc hs d ?_
  rw [e1]
  exact k p e s m args below meth c H locs aa hF hX hW hl
end J1
section J2
variable {g : GG} {M : AM}
theorem c_fill {k N : Nat} {x : Int32} (hk : kd k = (1, N)) (hN : N < 2 ^ 31) : Call g qJ7_fill_53178 [.ref k, .int x] M (fun v M' => v = none ∧ M' = flM M k N x) := by
  have L : ∀ (n i : Nat), i ≤ N → N < i + n → Ex g qJ7_fill_53178 (tm g qJ7_fill_53178 (fun v M' => v = none ∧ M' = flM M k N x)) 5 [some (.ref k), some (.int x), some (.int (nI i)), some (.int (nI N))] [] (flM M k i x) := by
    intro n
    induction n with
    | zero => intro i h1 h2; exact absurd h2 (by omega)
    | succ n ih =>
      intro i h1 h2
      refine E_iload_n dJ7_fill_53178_5 rfl ?_
      refine E_iload_n dJ7_fill_53178_6 rfl ?_
      refine E_icmp_geN (t := 20) dJ7_fill_53178_7 (by decide) (by omega) (by omega) (fun c7 => ?_) (fun c7 => ?_)
      · skip
        refine E_vret dJ7_fill_53178_20 rfl ?_
        obtain rfl : i = N := by omega
        exact ⟨rfl, rfl⟩
      · skip
        refine E_aload_n dJ7_fill_53178_10 rfl ?_
        refine E_iload_n dJ7_fill_53178_11 rfl ?_
        refine E_iload_n dJ7_fill_53178_12 rfl ?_
        refine E_iastN dJ7_fill_53178_13 hk (by omega) hN ?_
        refine E_iincN (b := 1) dJ7_fill_53178_14 rfl rfl (by decide) rfl ?_
        refine E_goto (t := 5) dJ7_fill_53178_17 (by decide) ?_
        exact E_mem flM_s (ih (i + 1) (by omega) (by omega))
  refine Call_of (ls0 := [some (.ref k), some (.int x), none, none]) rfl rfl (Nat.le_of_ble_eq_true rfl) ?_
  refine E_iconst (v := nI 0) dJ7_fill_53178_0 rfl ?_
  refine E_ist_n (i := 2) dJ7_fill_53178_1 rfl (by decide) rfl ?_
  refine E_aload_n dJ7_fill_53178_2 rfl ?_
  refine E_alen (t := 0) (v := nI N) dJ7_fill_53178_3 hk (by decide) rfl ?_
  refine E_ist_n (i := 3) dJ7_fill_53178_4 rfl (by decide) rfl ?_
  exact E_mem flM_0.symm (L (N + 1) 0 (Nat.zero_le _) (by omega))
theorem c_fillZ {k N : Nat} (hk : kd k = (2, N)) (hN : N < 2 ^ 31) : Call g qX4_clear [.ref k] M (fun v M' => v = none ∧ M' = flM M k N (bI false)) := by
  have L : ∀ (n i : Nat), i ≤ N → N < i + n → Ex g qX4_clear (tm g qX4_clear (fun v M' => v = none ∧ M' = flM M k N (bI false))) 2 [some (.ref k), some (.int (nI i))] [] (flM M k i (bI false)) := by
    intro n
    induction n with
    | zero => intro i h1 h2; exact absurd h2 (by omega)
    | succ n ih =>
      intro i h1 h2
      refine E_iload_n dX4_clear_2 rfl ?_
      refine E_aload_n dX4_clear_3 rfl ?_
      refine E_alen (t := 1) (v := nI N) dX4_clear_4 hk (by decide) rfl ?_
      refine E_icmp_geN (t := 18) dX4_clear_5 (by decide) (by omega) (by omega) (fun c5 => ?_) (fun c5 => ?_)
      · skip
        refine E_vret dX4_clear_18 rfl ?_
        obtain rfl : i = N := by omega
        exact ⟨rfl, rfl⟩
      · skip
        refine E_aload_n dX4_clear_8 rfl ?_
        refine E_iload_n dX4_clear_9 rfl ?_
        refine E_iconst (v := nI 0) dX4_clear_10 rfl ?_
        refine E_top (show nI 0 = bI false from rfl) ?_
        refine E_zastN dX4_clear_11 hk (by omega) hN ?_
        refine E_iincN (b := 1) dX4_clear_12 rfl rfl (by decide) rfl ?_
        refine E_goto (t := 2) dX4_clear_15 (by decide) ?_
        exact E_mem flM_s (ih (i + 1) (by omega) (by omega))
  refine Call_of (ls0 := [some (.ref k), none]) rfl rfl (Nat.le_of_ble_eq_true rfl) ?_
  refine E_iconst (v := nI 0) dX4_clear_0 rfl ?_
  refine E_ist_n (i := 1) dX4_clear_1 rfl (by decide) rfl ?_
  exact E_mem flM_0.symm (L (N + 1) 0 (Nat.zero_le _) (by omega))
theorem c_fillL {k N : Nat} {x : Int64} (hk : kd k = (3, N)) (hN : N < 2 ^ 31) : Call g qJ7_fill_d0a16 [.ref k, .long x] M (fun v M' => v = none ∧ M' = flL M k N x) := by
  have L : ∀ (n i : Nat), i ≤ N → N < i + n → Ex g qJ7_fill_d0a16 (tm g qJ7_fill_d0a16 (fun v M' => v = none ∧ M' = flL M k N x)) 6 [some (.ref k), some (.long x), none, some (.int (nI i)), some (.int (nI N))] [] (flL M k i x) := by
    intro n
    induction n with
    | zero => intro i h1 h2; exact absurd h2 (by omega)
    | succ n ih =>
      intro i h1 h2
      refine E_iload_n dJ7_fill_d0a16_6 rfl ?_
      refine E_iload dJ7_fill_d0a16_7 rfl ?_
      refine E_icmp_geN (t := 22) dJ7_fill_d0a16_9 (by decide) (by omega) (by omega) (fun c9 => ?_) (fun c9 => ?_)
      · skip
        refine E_vret dJ7_fill_d0a16_22 rfl ?_
        obtain rfl : i = N := by omega
        exact ⟨rfl, rfl⟩
      · skip
        refine E_aload_n dJ7_fill_d0a16_12 rfl ?_
        refine E_iload_n dJ7_fill_d0a16_13 rfl ?_
        refine E_lload_n dJ7_fill_d0a16_14 rfl ?_
        refine E_lastN dJ7_fill_d0a16_15 hk (by omega) hN ?_
        refine E_iincN (b := 1) dJ7_fill_d0a16_16 rfl rfl (by decide) rfl ?_
        refine E_goto (t := 6) dJ7_fill_d0a16_19 (by decide) ?_
        exact E_mem flL_s (ih (i + 1) (by omega) (by omega))
  refine Call_of (ls0 := [some (.ref k), some (.long x), none, none, none]) rfl rfl (Nat.le_of_ble_eq_true rfl) ?_
  refine E_iconst (v := nI 0) dJ7_fill_d0a16_0 rfl ?_
  refine E_ist_n (i := 3) dJ7_fill_d0a16_1 rfl (by decide) rfl ?_
  refine E_aload_n dJ7_fill_d0a16_2 rfl ?_
  refine E_alen (t := 2) (v := nI N) dJ7_fill_d0a16_3 hk (by decide) rfl ?_
  refine E_istore dJ7_fill_d0a16_4 (by decide) rfl ?_
  exact E_mem flL_0.symm (L (N + 1) 0 (Nat.zero_le _) (by omega))
end J2
