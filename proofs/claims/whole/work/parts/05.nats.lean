-- ints that are natural numbers, booleans, numbers or none; the rules over them
def bI (b : Bool) : Int32 := if b then 1 else 0
def oI (o : Option Nat) : Int32 := match o with
  | none => -1
  | some d => nI d
theorem bI_t : bI true = 1 := rfl
theorem bI_f : bI false = 0 := rfl
theorem bI_01 (b : Bool) : bI b = 0 ∨ bI b = 1 := by cases b <;> simp [bI]
theorem bI_nI (b : Bool) : bI b = nI b.toNat := by cases b <;> rfl
theorem oI_n : oI none = -1 := rfl
theorem oI_s (d : Nat) : oI (some d) = nI d := rfl
theorem nI_bv (n : Nat) : (nI n).toBitVec = BitVec.ofNat 32 n := rfl
theorem i32_ext {x y : Int32} (h : x.toBitVec = y.toBitVec) : x = y := Int32.toBitVec_inj.mp h
theorem nI_and (a b : Nat) : nI a &&& nI b = nI (a &&& b) := i32_ext (by
  rw [Int32.toBitVec_and, nI_bv, nI_bv, nI_bv]
  apply BitVec.eq_of_getLsbD_eq
  intro i hi
  simp [BitVec.getLsbD_ofNat, Nat.testBit_and, hi])
theorem nI_or (a b : Nat) : nI a ||| nI b = nI (a ||| b) := i32_ext (by
  rw [Int32.toBitVec_or, nI_bv, nI_bv, nI_bv]
  apply BitVec.eq_of_getLsbD_eq
  intro i hi
  simp [BitVec.getLsbD_ofNat, Nat.testBit_or, hi])
/-- a without what is in b -/
def ndf (a b : Nat) : Nat := a ^^^ (a &&& b)
theorem ndf_bit (a b i : Nat) : (ndf a b).testBit i = (a.testBit i && !b.testBit i) := by
  unfold ndf
  rw [Nat.testBit_xor, Nat.testBit_and]
  cases a.testBit i <;> cases b.testBit i <;> rfl
theorem nI_andC (a b : Nat) : nI a &&& (nI b ^^^ -1) = nI (ndf a b) := i32_ext (by
  rw [Int32.toBitVec_and, Int32.toBitVec_xor, nI_bv, nI_bv, nI_bv]
  apply BitVec.eq_of_getLsbD_eq
  intro i hi
  have hm : (-1 : Int32).toBitVec = BitVec.allOnes 32 := by decide
  rw [hm, BitVec.getLsbD_and, BitVec.getLsbD_xor, BitVec.getLsbD_ofNat, BitVec.getLsbD_ofNat, BitVec.getLsbD_ofNat, BitVec.getLsbD_allOnes, ndf_bit]
  simp [hi])
theorem nI_Cand (a b : Nat) : (nI b ^^^ -1) &&& nI a = nI (ndf a b) := by
  rw [← nI_andC]
  exact i32_ext (by rw [Int32.toBitVec_and, Int32.toBitVec_and, BitVec.and_comm])
theorem sh31 : ∀ n, n < 32 → ((nI n &&& 31).toBitVec.smod 32).toNat = n := by decide +kernel
theorem nI_shr {a k : Nat} (ha : a < 2 ^ 31) (hk : k < 32) : nI a >>> (nI k &&& 31) = nI (a / 2 ^ k) := pk_shrN ha _ k (sh31 k hk)
theorem nI_shl {a k : Nat} (hk : k < 32) (h : a * 2 ^ k < 2 ^ 32) : nI a <<< (nI k &&& 31) = nI (a * 2 ^ k) := pk_shlN _ k (sh31 k hk) h
theorem nI_1lit : (1 : Int32) = nI 1 := rfl
/-- the bit of a set of 32 -/
theorem nI_bit {a k : Nat} (hk : k < 32) : (nI a >>> (nI k &&& 31)) &&& nI 1 = bI (a.testBit k) := by
  apply i32_ext
  apply BitVec.eq_of_getLsbD_eq
  intro i hi
  have h1 : (nI a >>> (nI k &&& 31)).toBitVec = (BitVec.ofNat 32 a).sshiftRight k := by
    rw [Int32.toBitVec_shiftRight, nI_bv]
    show BitVec.sshiftRight' _ _ = _
    rw [BitVec.sshiftRight', sh31 k hk]
  rw [Int32.toBitVec_and, h1, BitVec.getLsbD_and, nI_bv, BitVec.getLsbD_ofNat, BitVec.getLsbD_sshiftRight]
  rcases Nat.eq_zero_or_pos i with h0 | h0
  · subst h0
    rw [show k + 0 = k from rfl, if_pos hk, BitVec.getLsbD_ofNat]
    cases h : a.testBit k <;> simp [bI, hk]
  · have : Nat.testBit 1 i = false := by
      cases i with
      | zero => omega
      | succ i => simp [Nat.testBit_succ]
    rw [this]
    cases h : a.testBit k
    · simp [bI]
    · simp only [bI, if_true, Bool.and_false]
      symm
      show (BitVec.ofNat 32 1).getLsbD i = false
      rw [BitVec.getLsbD_ofNat, this, Bool.and_false]
section EN
variable {g : GG} {q : MI} {τ : TT} {pc : Nat} {ls : List (Option Value)} {st : List Value} {M : AM}
/-- another name for what stands on top -/
theorem E_top {x y : Int32} (h : x = y) (k : Ex g q τ pc ls (.int y :: st) M) : Ex g q τ pc ls (.int x :: st) M := h ▸ k
theorem E_topl {x y : Int64} (h : x = y) (k : Ex g q τ pc ls (.long y :: st) M) : Ex g q τ pc ls (.long x :: st) M := h ▸ k
theorem E_mem {M' : AM} (h : M = M') (k : Ex g q τ pc ls st M') : Ex g q τ pc ls st M := h ▸ k
theorem E_iaddN {a b : Nat} (d : decode (fC q) pc = .ok (.iadd, 1)) (k : Ex g q τ (pc + 1) ls (.int (nI (a + b)) :: st) M) : Ex g q τ pc ls (.int (nI b) :: .int (nI a) :: st) M := E_iadd d (E_top (nI_add a b) k)
theorem E_isubN {a b : Nat} (d : decode (fC q) pc = .ok (.isub, 1)) (h : b ≤ a) (k : Ex g q τ (pc + 1) ls (.int (nI (a - b)) :: st) M) : Ex g q τ pc ls (.int (nI b) :: .int (nI a) :: st) M := E_isub d (E_top (pk_sub h) k)
theorem E_imulN {a b : Nat} (d : decode (fC q) pc = .ok (.imul, 1)) (k : Ex g q τ (pc + 1) ls (.int (nI (a * b)) :: st) M) : Ex g q τ pc ls (.int (nI b) :: .int (nI a) :: st) M := E_imul d (E_top (pk_mul a b) k)
theorem E_idivN {a b : Nat} (d : decode (fC q) pc = .ok (.idiv, 1)) (ha : a < 2 ^ 31) (h0 : 0 < b) (hb : b < 2 ^ 31) (k : Ex g q τ (pc + 1) ls (.int (nI (a / b)) :: st) M) : Ex g q τ pc ls (.int (nI b) :: .int (nI a) :: st) M := E_idiv d (nI_ne0 h0 hb) (E_top (pk_div ha h0 hb) k)
theorem E_iremN {a b : Nat} (d : decode (fC q) pc = .ok (.irem, 1)) (ha : a < 2 ^ 31) (h0 : 0 < b) (hb : b < 2 ^ 31) (k : Ex g q τ (pc + 1) ls (.int (nI (a % b)) :: st) M) : Ex g q τ pc ls (.int (nI b) :: .int (nI a) :: st) M := E_irem d (nI_ne0 h0 hb) (E_top (pk_rem ha h0 hb) k)
theorem E_iandN {a b : Nat} (d : decode (fC q) pc = .ok (.iand, 1)) (k : Ex g q τ (pc + 1) ls (.int (nI (a &&& b)) :: st) M) : Ex g q τ pc ls (.int (nI b) :: .int (nI a) :: st) M := E_iand d (E_top (nI_and a b) k)
theorem E_iorN {a b : Nat} (d : decode (fC q) pc = .ok (.ior, 1)) (k : Ex g q τ (pc + 1) ls (.int (nI (a ||| b)) :: st) M) : Ex g q τ pc ls (.int (nI b) :: .int (nI a) :: st) M := E_ior d (E_top (nI_or a b) k)
theorem E_iandNC {a b : Nat} (d : decode (fC q) pc = .ok (.iand, 1)) (k : Ex g q τ (pc + 1) ls (.int (nI (ndf a b)) :: st) M) : Ex g q τ pc ls (.int (nI b ^^^ -1) :: .int (nI a) :: st) M := E_iand d (E_top (nI_andC a b) k)
theorem E_iandCN {a b : Nat} (d : decode (fC q) pc = .ok (.iand, 1)) (k : Ex g q τ (pc + 1) ls (.int (nI (ndf a b)) :: st) M) : Ex g q τ pc ls (.int (nI a) :: .int (nI b ^^^ -1) :: st) M := E_iand d (E_top (nI_Cand a b) k)
theorem E_ishlN {a b : Nat} (d : decode (fC q) pc = .ok (.ishl, 1)) (hb : b < 32) (h : a * 2 ^ b < 2 ^ 32) (k : Ex g q τ (pc + 1) ls (.int (nI (a * 2 ^ b)) :: st) M) : Ex g q τ pc ls (.int (nI b) :: .int (nI a) :: st) M := E_ishl d (E_top (nI_shl hb h) k)
theorem E_iincN {i a b : Nat} {n : Int} (d : decode (fC q) pc = .ok (.iinc i n, 3)) (hl0 : ls[i]? = some (some (.int (nI a)))) (hv : Int32.ofInt n = nI b) (hi : i < fL q) (ho : okl ls i = true)
    (k : Ex g q τ (pc + 3) (ls.set i (some (.int (nI (a + b))))) st M) : Ex g q τ pc ls st M := E_iinc d hl0 hv hi ho (by rw [nI_add]; exact k)
/-- one less -/
theorem E_idecN {i a : Nat} {n : Int} (d : decode (fC q) pc = .ok (.iinc i n, 3)) (hl0 : ls[i]? = some (some (.int (nI a)))) (hv : Int32.ofInt n = -1) (h : 0 < a) (hi : i < fL q) (ho : okl ls i = true)
    (k : Ex g q τ (pc + 3) (ls.set i (some (.int (nI (a - 1))))) st M) : Ex g q τ pc ls st M := E_iinc d hl0 hv hi ho (by
      have : nI a + -1 = nI (a - 1) := sb_m1 h
      rw [this]; exact k)
theorem E_getI' {idx ci j i : Nat} {C : String} {T : u_T} {N : Nat} {x : Int32} (d : decode (fC q) pc = .ok (.getfield idx, 3)) (hf : Cond.fieldLink (fY q).cls idx (T j).1 (T j).2.1 (T j).2.2.1 ∈ tbG) (hc : clss[ci]? = some (C, T, N)) (hj : j < nf ci) (hk : kd i = (0, ci)) (ht : ft ci j < 2) (hM : M.1 i j = x)
    (k : Ex g q τ (pc + 3) ls (.int x :: st) M) : Ex g q τ pc ls (.ref i :: st) M := E_getI d hf hc hj hk ht (E_top hM k)
theorem E_getR' {idx ci j i p : Nat} {C : String} {T : u_T} {N : Nat} (d : decode (fC q) pc = .ok (.getfield idx, 3)) (hf : Cond.fieldLink (fY q).cls idx (T j).1 (T j).2.1 (T j).2.2.1 ∈ tbG) (hc : clss[ci]? = some (C, T, N)) (hj : j < nf ci) (hk : kd i = (0, ci)) (ht : ft ci j = 2) (hp : sr i j = p)
    (k : Ex g q τ (pc + 3) ls (.ref p :: st) M) : Ex g q τ pc ls (.ref i :: st) M := E_getR d hf hc hj hk ht (hp ▸ k)
theorem E_getM' {idx ci j i p : Nat} {C : String} {T : u_T} {N : Nat} (d : decode (fC q) pc = .ok (.getfield idx, 3)) (hf : Cond.fieldLink (fY q).cls idx (T j).1 (T j).2.1 (T j).2.2.1 ∈ tbG) (hc : clss[ci]? = some (C, T, N)) (hj : j < nf ci) (hk : kd i = (0, ci)) (ht : ft ci j = 3) (hp : M.2.2 i j = p)
    (k : Ex g q τ (pc + 3) ls (.ref p :: st) M) : Ex g q τ pc ls (.ref i :: st) M := E_getM d hf hc hj hk ht (hp ▸ k)
theorem E_ialdN {i n a : Nat} {x : Int32} (d : decode (fC q) pc = .ok (.iaload, 1)) (hk : kd i = (1, n)) (ha : a < n) (hn : n < 2 ^ 31) (hM : M.1 i a = x) (k : Ex g q τ (pc + 1) ls (.int x :: st) M) : Ex g q τ pc ls (.int (nI a) :: .ref i :: st) M :=
  E_iald d hk (vp_in_nI ha hn) (E_top (by rw [nI_clamp (Nat.lt_trans ha hn)]; exact hM) k)
theorem E_zaldN {i n a : Nat} {x : Int32} (d : decode (fC q) pc = .ok (.baload, 1)) (hk : kd i = (2, n)) (ha : a < n) (hn : n < 2 ^ 31) (hM : M.1 i a = x) (k : Ex g q τ (pc + 1) ls (.int x :: st) M) : Ex g q τ pc ls (.int (nI a) :: .ref i :: st) M :=
  E_zald d hk (vp_in_nI ha hn) (E_top (by rw [nI_clamp (Nat.lt_trans ha hn)]; exact hM) k)
theorem E_laldN {i n a : Nat} {x : Int64} (d : decode (fC q) pc = .ok (.laload, 1)) (hk : kd i = (3, n)) (ha : a < n) (hn : n < 2 ^ 31) (hM : M.2.1 i a = x) (k : Ex g q τ (pc + 1) ls (.long x :: st) M) : Ex g q τ pc ls (.int (nI a) :: .ref i :: st) M :=
  E_lald d hk (vp_in_nI ha hn) (E_topl (by rw [nI_clamp (Nat.lt_trans ha hn)]; exact hM) k)
theorem E_iastN {i n a : Nat} {v : Int32} (d : decode (fC q) pc = .ok (.iastore, 1)) (hk : kd i = (1, n)) (ha : a < n) (hn : n < 2 ^ 31) (k : Ex g q τ (pc + 1) ls st (sI M i a v)) : Ex g q τ pc ls (.int v :: .int (nI a) :: .ref i :: st) M :=
  E_iast d hk (vp_in_nI ha hn) (by rw [nI_clamp (Nat.lt_trans ha hn)]; exact k)
theorem E_zastN {i n a : Nat} {b : Bool} (d : decode (fC q) pc = .ok (.bastore, 1)) (hk : kd i = (2, n)) (ha : a < n) (hn : n < 2 ^ 31) (k : Ex g q τ (pc + 1) ls st (sI M i a (bI b))) : Ex g q τ pc ls (.int (bI b) :: .int (nI a) :: .ref i :: st) M :=
  E_zast d hk (vp_in_nI ha hn) (by rw [nI_clamp (Nat.lt_trans ha hn), show bI b &&& 1 = bI b by cases b <;> rfl]; exact k)
theorem E_lastN {i n a : Nat} {v : Int64} (d : decode (fC q) pc = .ok (.lastore, 1)) (hk : kd i = (3, n)) (ha : a < n) (hn : n < 2 ^ 31) (k : Ex g q τ (pc + 1) ls st (sL M i a v)) : Ex g q τ pc ls (.long v :: .int (nI a) :: .ref i :: st) M :=
  E_last d hk (vp_in_nI ha hn) (by rw [nI_clamp (Nat.lt_trans ha hn)]; exact k)
theorem E_icmp_eqN {a b : Nat} {off : Int} {t : Nat} (d : decode (fC q) pc = .ok (.if_icmp .eq off, 3)) (ht : (pc : Int) + off = (t : Int)) (ha : a < 2 ^ 31) (hb : b < 2 ^ 31) (kt : a = b → Ex g q τ t ls st M) (kf : ¬ a = b → Ex g q τ (pc + 3) ls st M) : Ex g q τ pc ls (.int (nI b) :: .int (nI a) :: st) M :=
  E_icmp_eq d ht (fun h => kt ((nI_eq ha hb).mp h)) (fun h => kf (fun e => h (by rw [e])))
theorem E_icmp_neN {a b : Nat} {off : Int} {t : Nat} (d : decode (fC q) pc = .ok (.if_icmp .ne off, 3)) (ht : (pc : Int) + off = (t : Int)) (ha : a < 2 ^ 31) (hb : b < 2 ^ 31) (kt : ¬ a = b → Ex g q τ t ls st M) (kf : a = b → Ex g q τ (pc + 3) ls st M) : Ex g q τ pc ls (.int (nI b) :: .int (nI a) :: st) M :=
  E_icmp_ne d ht (fun h => kt (fun e => h (by rw [e]))) (fun h => kf ((nI_eq ha hb).mp h))
theorem E_icmp_ltN {a b : Nat} {off : Int} {t : Nat} (d : decode (fC q) pc = .ok (.if_icmp .lt off, 3)) (ht : (pc : Int) + off = (t : Int)) (ha : a < 2 ^ 31) (hb : b < 2 ^ 31) (kt : a < b → Ex g q τ t ls st M) (kf : b ≤ a → Ex g q τ (pc + 3) ls st M) : Ex g q τ pc ls (.int (nI b) :: .int (nI a) :: st) M :=
  E_icmp_lt d ht (fun h => kt ((nI_ltI ha hb).mp h)) (fun h => kf (Nat.le_of_not_lt (fun e => h ((nI_ltI ha hb).mpr e))))
theorem E_icmp_geN {a b : Nat} {off : Int} {t : Nat} (d : decode (fC q) pc = .ok (.if_icmp .ge off, 3)) (ht : (pc : Int) + off = (t : Int)) (ha : a < 2 ^ 31) (hb : b < 2 ^ 31) (kt : b ≤ a → Ex g q τ t ls st M) (kf : a < b → Ex g q τ (pc + 3) ls st M) : Ex g q τ pc ls (.int (nI b) :: .int (nI a) :: st) M :=
  E_icmp_ge d ht (fun h => kt ((nI_leI hb ha).mp h)) (fun h => kf (Nat.lt_of_not_le (fun e => h ((nI_leI hb ha).mpr e))))
theorem E_icmp_gtN {a b : Nat} {off : Int} {t : Nat} (d : decode (fC q) pc = .ok (.if_icmp .gt off, 3)) (ht : (pc : Int) + off = (t : Int)) (ha : a < 2 ^ 31) (hb : b < 2 ^ 31) (kt : b < a → Ex g q τ t ls st M) (kf : a ≤ b → Ex g q τ (pc + 3) ls st M) : Ex g q τ pc ls (.int (nI b) :: .int (nI a) :: st) M :=
  E_icmp_gt d ht (fun h => kt ((nI_ltI hb ha).mp h)) (fun h => kf (Nat.le_of_not_lt (fun e => h ((nI_ltI hb ha).mpr e))))
theorem E_icmp_leN {a b : Nat} {off : Int} {t : Nat} (d : decode (fC q) pc = .ok (.if_icmp .le off, 3)) (ht : (pc : Int) + off = (t : Int)) (ha : a < 2 ^ 31) (hb : b < 2 ^ 31) (kt : a ≤ b → Ex g q τ t ls st M) (kf : b < a → Ex g q τ (pc + 3) ls st M) : Ex g q τ pc ls (.int (nI b) :: .int (nI a) :: st) M :=
  E_icmp_le d ht (fun h => kt ((nI_leI ha hb).mp h)) (fun h => kf (Nat.lt_of_not_le (fun e => h ((nI_leI ha hb).mpr e))))
theorem E_if_eqB {b : Bool} {off : Int} {t : Nat} (d : decode (fC q) pc = .ok (.ifCond .eq off, 3)) (ht : (pc : Int) + off = (t : Int)) (kt : b = false → Ex g q τ t ls st M) (kf : b = true → Ex g q τ (pc + 3) ls st M) : Ex g q τ pc ls (.int (bI b) :: st) M :=
  E_if_eq d ht (fun h => kt (by cases b <;> simp [bI] at h ⊢)) (fun h => kf (by cases b <;> simp [bI] at h ⊢))
theorem E_if_neB {b : Bool} {off : Int} {t : Nat} (d : decode (fC q) pc = .ok (.ifCond .ne off, 3)) (ht : (pc : Int) + off = (t : Int)) (kt : b = true → Ex g q τ t ls st M) (kf : b = false → Ex g q τ (pc + 3) ls st M) : Ex g q τ pc ls (.int (bI b) :: st) M :=
  E_if_ne d ht (fun h => kt (by cases b <;> simp [bI] at h ⊢)) (fun h => kf (by cases b <;> simp [bI] at h ⊢))
theorem E_if_eqN {a : Nat} {off : Int} {t : Nat} (d : decode (fC q) pc = .ok (.ifCond .eq off, 3)) (ht : (pc : Int) + off = (t : Int)) (ha : a < 2 ^ 31) (kt : a = 0 → Ex g q τ t ls st M) (kf : 0 < a → Ex g q τ (pc + 3) ls st M) : Ex g q τ pc ls (.int (nI a) :: st) M :=
  E_if_eq d ht (fun h => kt (by rcases Nat.eq_zero_or_pos a with e | e; exact e; exact absurd h (nI_ne0 e ha))) (fun h => kf (by rcases Nat.eq_zero_or_pos a with e | e; exact absurd (by rw [e]; rfl) h; exact e))
theorem E_if_neN {a : Nat} {off : Int} {t : Nat} (d : decode (fC q) pc = .ok (.ifCond .ne off, 3)) (ht : (pc : Int) + off = (t : Int)) (ha : a < 2 ^ 31) (kt : 0 < a → Ex g q τ t ls st M) (kf : a = 0 → Ex g q τ (pc + 3) ls st M) : Ex g q τ pc ls (.int (nI a) :: st) M :=
  E_if_ne d ht (fun h => kt (by rcases Nat.eq_zero_or_pos a with e | e; exact absurd (by rw [e]; rfl) h; exact e)) (fun h => kf (by rcases Nat.eq_zero_or_pos a with e | e; exact e; exact absurd h (nI_ne0 e ha)))
theorem E_if_leN {a : Nat} {off : Int} {t : Nat} (d : decode (fC q) pc = .ok (.ifCond .le off, 3)) (ht : (pc : Int) + off = (t : Int)) (ha : a < 2 ^ 31) (kt : a = 0 → Ex g q τ t ls st M) (kf : 0 < a → Ex g q τ (pc + 3) ls st M) : Ex g q τ pc ls (.int (nI a) :: st) M :=
  E_if_le d ht (fun h => kt (by rcases Nat.eq_zero_or_pos a with e | e; exact e; exact absurd h (nI_nle e ha))) (fun h => kf (by rcases Nat.eq_zero_or_pos a with e | e; exact absurd (by rw [e]; decide) h; exact e))
theorem E_if_gtN {a : Nat} {off : Int} {t : Nat} (d : decode (fC q) pc = .ok (.ifCond .gt off, 3)) (ht : (pc : Int) + off = (t : Int)) (ha : a < 2 ^ 31) (kt : 0 < a → Ex g q τ t ls st M) (kf : a = 0 → Ex g q τ (pc + 3) ls st M) : Ex g q τ pc ls (.int (nI a) :: st) M :=
  E_if_gt d ht (fun h => kt (by rcases Nat.eq_zero_or_pos a with e | e; exact absurd h (by rw [e]; decide); exact e)) (fun h => kf (by rcases Nat.eq_zero_or_pos a with e | e; exact e; exact absurd (by have := (nI_ltI (a := 0) (b := a) (by decide) ha).mpr e; exact this) h))
theorem E_if_ltN {a : Nat} {off : Int} {t : Nat} (d : decode (fC q) pc = .ok (.ifCond .lt off, 3)) (ht : (pc : Int) + off = (t : Int)) (ha : a < 2 ^ 31) (kf : Ex g q τ (pc + 3) ls st M) : Ex g q τ pc ls (.int (nI a) :: st) M :=
  E_if_lt d ht (fun h => absurd h (nI_pos ha)) (fun _ => kf)
theorem E_if_geN {a : Nat} {off : Int} {t : Nat} (d : decode (fC q) pc = .ok (.ifCond .ge off, 3)) (ht : (pc : Int) + off = (t : Int)) (ha : a < 2 ^ 31) (kt : Ex g q τ t ls st M) : Ex g q τ pc ls (.int (nI a) :: st) M :=
  E_if_ge d ht (fun _ => kt) (fun h => absurd (nI_pos' ha) h)
theorem oI_lt {o : Option Nat} (ho : ∀ d, o = some d → d < 2 ^ 31) : oI o < 0 ↔ o = none := by
  cases o with
  | none => exact ⟨fun _ => rfl, fun _ => by decide⟩
  | some d => exact ⟨fun h => absurd h (nI_pos (ho d rfl)), fun h => by cases h⟩
theorem oI_m1 {o : Option Nat} (ho : ∀ d, o = some d → d < 2 ^ 31) : oI o = -1 ↔ o = none := by
  cases o with
  | none => exact ⟨fun _ => rfl, fun _ => rfl⟩
  | some d =>
    refine ⟨fun h => absurd (show nI d < 0 by rw [show nI d = -1 from h]; decide) (nI_pos (ho d rfl)), fun h => by cases h⟩
theorem oI_ge {o : Option Nat} (ho : ∀ d, o = some d → d < 2 ^ 31) : 0 ≤ oI o ↔ ¬ o = none := by
  cases o with
  | none => exact ⟨fun h => absurd h (by decide), fun h => absurd rfl h⟩
  | some d => exact ⟨fun _ h => (by cases h), fun _ => nI_pos' (ho d rfl)⟩
theorem E_if_ltO {o : Option Nat} {off : Int} {t : Nat} (d : decode (fC q) pc = .ok (.ifCond .lt off, 3)) (ht : (pc : Int) + off = (t : Int)) (ho : ∀ d, o = some d → d < 2 ^ 31) (kt : o = none → Ex g q τ t ls st M) (kf : ¬ o = none → Ex g q τ (pc + 3) ls st M) : Ex g q τ pc ls (.int (oI o) :: st) M :=
  E_if_lt d ht (fun h => kt ((oI_lt ho).mp h)) (fun h => kf (fun e => h ((oI_lt ho).mpr e)))
theorem E_if_geO {o : Option Nat} {off : Int} {t : Nat} (d : decode (fC q) pc = .ok (.ifCond .ge off, 3)) (ht : (pc : Int) + off = (t : Int)) (ho : ∀ d, o = some d → d < 2 ^ 31) (kt : ¬ o = none → Ex g q τ t ls st M) (kf : o = none → Ex g q τ (pc + 3) ls st M) : Ex g q τ pc ls (.int (oI o) :: st) M :=
  E_if_ge d ht (fun h => kt ((oI_ge ho).mp h)) (fun h => kf (by cases o with
    | none => rfl
    | some d => exact absurd ((oI_ge ho).mpr (by simp)) h))
theorem E_icmp_eqO {o : Option Nat} {off : Int} {t : Nat} (d : decode (fC q) pc = .ok (.if_icmp .eq off, 3)) (ht : (pc : Int) + off = (t : Int)) (ho : ∀ d, o = some d → d < 2 ^ 31) (kt : o = none → Ex g q τ t ls st M) (kf : ¬ o = none → Ex g q τ (pc + 3) ls st M) : Ex g q τ pc ls (.int (-1) :: .int (oI o) :: st) M :=
  E_icmp_eq d ht (fun h => kt ((oI_m1 ho).mp h)) (fun h => kf (fun e => h ((oI_m1 ho).mpr e)))
theorem E_icmp_neO {o : Option Nat} {off : Int} {t : Nat} (d : decode (fC q) pc = .ok (.if_icmp .ne off, 3)) (ht : (pc : Int) + off = (t : Int)) (ho : ∀ d, o = some d → d < 2 ^ 31) (kt : ¬ o = none → Ex g q τ t ls st M) (kf : o = none → Ex g q τ (pc + 3) ls st M) : Ex g q τ pc ls (.int (-1) :: .int (oI o) :: st) M :=
  E_icmp_ne d ht (fun h => kt (fun e => h ((oI_m1 ho).mpr e))) (fun h => kf ((oI_m1 ho).mp h))
end EN
