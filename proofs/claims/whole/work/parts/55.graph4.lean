-- the class's graph: the moves from a place
theorem bl_at {T : TK} {l j a : Nat} (h : (blL T l (T 61 0))[j]? = some a) : ∀ n, l < n → (blN T n)[(blN T l).length + j]? = some a
  | 0, hn => absurd hn (Nat.not_lt_zero l)
  | n + 1, hn => by
    rw [blN]
    by_cases e : l = n
    · subst e
      rw [List.getElem?_append_right (Nat.le_add_right _ _), Nat.add_sub_cancel_left]; exact h
    · have := bl_at h n (by omega)
      rw [List.getElem?_append_left (List.getElem?_eq_some_iff.mp this).1]; exact this
theorem sc_fr {T : TK} {p : Nat} {M M' : AM} (h : SC T p M) (hf : ∀ k, p ≤ k → k ≤ p + 8 → M'.1 k = M.1 k) : SC T p M' := ⟨h.1, fun k j hd => by
  obtain ⟨h1, h2, h3⟩ := h.2.1 k j hd
  refine ⟨h1, h2, ?_⟩
  have : p ≤ (aS p k j).1 ∧ (aS p k j).1 ≤ p + 8 := by unfold aS; split <;> dsimp only <;> omega
  rw [hf _ this.1 this.2]; exact h3, h.2.2.1, by rw [hf p (Nat.le_refl _) (by omega)]; exact h.2.2.2⟩
theorem sp_39 {p : Nat} (h : Sp p) : 39 ≤ p ∧ p ≤ 50 := by rcases h with e | e <;> omega
theorem sc_lo {T : TK} {p : Nat} {M M' : AM} {S : List Nat} (h : SC T p M) (hS : Sb S M M') (hd : ∀ k ∈ S, k < 39) : SC T p M' := sc_fr h (fun k h1 _ => (hS k (fun hk => by have := hd k hk; have := (sp_39 h.1).1; omega)).1)
theorem sl_lo {T : TK} {p : Nat} {M M' : AM} {S : List Nat} (hs : Sp p) (h : SL T p M) (hS : Sb S M M') (hd : ∀ k ∈ S, k < 39) : SL T p M' := by
  have e : ∀ k, 39 ≤ k → M'.1 k = M.1 k := fun k hk => (hS k (fun hk2 => by have := hd k hk2; omega)).1
  have := (sp_39 hs).1
  exact ⟨fun l hl => by rw [e _ (by omega)]; exact h.1 l hl, fun i hi => by rw [e _ (by omega)]; exact h.2 i hi⟩
theorem gs_fr {T : TK} {n : Nat} {M M' : AM} (h : GS T n M) (h9 : M'.1 9 11 = M.1 9 11) (h10 : M'.1 10 = M.1 10) (h11 : M'.1 11 = M.1 11) (h12 : M'.1 12 = M.1 12) (h14 : M'.1 14 = M.1 14) : GS T n M' := ⟨by rw [h9]; exact h.1, by rw [h10, h12]; exact h.2.1, by rw [h11]; exact h.2.2.1, by rw [h14]; exact h.2.2.2⟩
def GV (T : TK) (n mc : Nat) (M : AM) : Prop := ∀ i, 0 < i → i < n → ∃ m, m < mc ∧ M.1 13 i = nI m ∧ mT T m = i ∧ ∀ m', m' < m → mT T m' < i
def GMv (T : TK) (mc : Nat) (M : AM) : Prop := ∀ m, m < mc → M.1 16 m = nI (mF T m) ∧ M.1 17 m = nI (mT T m) ∧ M.1 18 m = nI (mA T m)
def G3 (T : TK) (n mc : Nat) (M : AM) : Prop := GS T n M ∧ M.1 9 12 = nI mc ∧ GMv T mc M ∧ GV T n mc M ∧ ∀ m, m < mc → mT T m < n
theorem g3_up {T : TK} {n mc k a t : Nat} {M : AM} (h1 : GS T n M) (h3 : GMv T mc M) (h4 : GV T n (mc + 1) M) (h5 : ∀ m, m < mc + 1 → mT T m < n) (ek : mF T mc = k) (ea : mA T mc = a) (et : mT T mc = t) : G3 T n (mc + 1) (sI (sI (sI (sI M 16 mc (nI k)) 17 mc (nI t)) 18 mc (nI a)) 9 12 (nI (mc + 1))) := by
  have ne : ∀ c, c ≠ 9 → c ≠ 16 → c ≠ 17 → c ≠ 18 → (sI (sI (sI (sI M 16 mc (nI k)) 17 mc (nI t)) 18 mc (nI a)) 9 12 (nI (mc + 1))).1 c = M.1 c := fun c e1 e2 e3 e4 => by rw [sI_ne e1, sI_ne e4, sI_ne e3, sI_ne e2]
  refine ⟨gs_fr h1 ?_ (ne 10 (by decide) (by decide) (by decide) (by decide)) (ne 11 (by decide) (by decide) (by decide) (by decide)) (ne 12 (by decide) (by decide) (by decide) (by decide)) (ne 14 (by decide) (by decide) (by decide) (by decide)), sI_s, fun m hm => ?_, fun i hi hn => ?_, h5⟩
  · rw [sI_o (by omega), sI_o (by omega), sI_o (by omega), sI_o (by omega)]
  · by_cases e : m = mc
    · subst e
      rw [ek, ea, et]
      refine ⟨?_, ?_, ?_⟩
      · rw [sI_o (by omega), sI_o (by omega), sI_o (by omega), sI_s]
      · rw [sI_o (by omega), sI_o (by omega), sI_s]
      · rw [sI_o (by omega), sI_s]
    · obtain ⟨e1, e2, e3⟩ := h3 m (by omega)
      refine ⟨?_, ?_, ?_⟩
      · rw [sI_o (by omega), sI_o (by omega), sI_o (by omega), sI_o (by omega)]; exact e1
      · rw [sI_o (by omega), sI_o (by omega), sI_o (by omega), sI_o (by omega)]; exact e2
      · rw [sI_o (by omega), sI_o (by omega), sI_o (by omega), sI_o (by omega)]; exact e3
  · rw [ne 13 (by decide) (by decide) (by decide) (by decide)]; exact h4 i hi hn
def S9 : List Nat := [9, 10, 11, 12, 13, 14, 16, 17, 18]
section G4
variable {g : GG} {M : AM} {T : TK} {p k : Nat}
def AmQ (T : TK) (k : Nat) (M : AM) (v : Option Value) (M' : AM) : Prop := v = none ∧ G3 T (bfN (sx0 T) (fst0 T) (k + 1)).1.length (fO T (k + 1)) M' ∧ Sb S9 M M'
set_option maxRecDepth 8000 in
theorem am_41 {Q : Option Value → AM → Prop} {mc n a t : Nat} {M2 : AM} (hk : k < 1024) (hmc : mc < 2048) (ht : t < 1024) (ek : mF T mc = k) (ea : mA T mc = a) (h1 : GS T n M2) (h2 : M2.1 9 12 = nI mc) (h3 : GMv T mc M2) (h4 : GV T n (mc + 1) M2) (h5 : ∀ m, m < mc + 1 → mT T m < n) (h6 : M2.1 11 t = nI (mT T mc)) (hS : Sb S9 M M2)
    (nx : ∀ M6, G3 T n (mc + 1) M6 → Sb S9 M M6 → Q none M6) : Ex g qX2_addMove (tm g qX2_addMove Q) 41 [some (.ref 9), some (.int (nI k)), some (.int (nI a)), some (.int (nI t))] [] M2 := by
  have q2 : (sI M2 16 mc (nI k)).1 9 12 = nI mc := by rw [sI_o (by omega)]; exact h2
  have q3 : (sI M2 16 mc (nI k)).1 11 t = nI (mT T mc) := by rw [sI_o (by omega)]; exact h6
  have q4 : (sI (sI M2 16 mc (nI k)) 17 mc (nI (mT T mc))).1 9 12 = nI mc := by rw [sI_o (by omega)]; exact q2
  have q5 : (sI (sI (sI M2 16 mc (nI k)) 17 mc (nI (mT T mc))) 18 mc (nI a)).1 9 12 = nI mc := by rw [sI_o (by omega)]; exact q4
  have key := nx _ (g3_up h1 h3 h4 h5 ek ea rfl) ((((hS.tr (Sb.i (by decide))).tr (Sb.i (by decide))).tr (Sb.i (by decide))).tr (Sb.i (by decide)))
  refine E_aload_n dX2_addMove_41 rfl ?_
  refine E_getR' (ci := 2) (j := 6) (p := 16) dX2_addMove_42 fkX2_30 rfl (by decide) rfl (by decide) (rfl) ?_
  refine E_aload_n dX2_addMove_45 rfl ?_
  refine E_getI' (ci := 2) (j := 12) dX2_addMove_46 fkX2_55 rfl (by decide) rfl (by decide) (h2) ?_
  refine E_iload_n dX2_addMove_49 rfl ?_
  refine E_iastN dX2_addMove_50 rfl (by omega) (by decide) ?_
  refine E_aload_n dX2_addMove_51 rfl ?_
  refine E_getR' (ci := 2) (j := 7) (p := 17) dX2_addMove_52 fkX2_33 rfl (by decide) rfl (by decide) (rfl) ?_
  refine E_aload_n dX2_addMove_55 rfl ?_
  refine E_getI' (ci := 2) (j := 12) dX2_addMove_56 fkX2_55 rfl (by decide) rfl (by decide) (q2) ?_
  refine E_aload_n dX2_addMove_59 rfl ?_
  refine E_getR' (ci := 2) (j := 1) (p := 11) dX2_addMove_60 fkX2_15 rfl (by decide) rfl (by decide) (rfl) ?_
  refine E_iload_n dX2_addMove_63 rfl ?_
  refine E_ialdN dX2_addMove_64 rfl (by omega) (by decide) (q3) ?_
  refine E_iastN dX2_addMove_65 rfl (by omega) (by decide) ?_
  refine E_aload_n dX2_addMove_66 rfl ?_
  refine E_getR' (ci := 2) (j := 8) (p := 18) dX2_addMove_67 fkX2_36 rfl (by decide) rfl (by decide) (rfl) ?_
  refine E_aload_n dX2_addMove_70 rfl ?_
  refine E_getI' (ci := 2) (j := 12) dX2_addMove_71 fkX2_55 rfl (by decide) rfl (by decide) (q4) ?_
  refine E_iload_n dX2_addMove_74 rfl ?_
  refine E_iastN dX2_addMove_75 rfl (by omega) (by decide) ?_
  refine E_aload_n dX2_addMove_76 rfl ?_
  refine E_dup dX2_addMove_77 rfl ?_
  refine E_getI' (ci := 2) (j := 12) dX2_addMove_78 fkX2_55 rfl (by decide) rfl (by decide) (q5) ?_
  refine E_iconst (v := nI 1) dX2_addMove_81 rfl ?_
  refine E_iaddN dX2_addMove_82 ?_
  refine E_putI (ci := 2) (j := 12) dX2_addMove_83 fkX2_55 rfl (by decide) rfl (by decide) ?_
  refine E_vret dX2_addMove_86 rfl ?_
  exact key
/-- one move more -/
def AvQ (T : TK) (k j : Nat) (M : AM) (v : Option Value) (M' : AM) : Prop := v = none ∧ G3 T (sgj T k (j + 1)).1.length (fO T k + (Aj T k (j + 1)).length) M' ∧ Sb S9 M M'
set_option maxRecDepth 8000 in
theorem am_V (hT : WT T) (hB : T 61 13 < 64) (hk : k < LTn T) {j a : Nat} {M1 : AM} (ha : (Lk T k)[j]? = some a) (ho : opn T a (Qn T k) 0 = true) (hG : G3 T (sgj T k j).1.length (fO T k + (Aj T k j).length) M1) : Call g qX2_addMove [.ref 9, .int (nI k), .int (nI a), .int (nI (nxt T a (Qn T k)))] M1 (AvQ T k j M1) := by
  have hk2 : k < 1024 := Nat.lt_of_lt_of_le hk (q_le hT hB)
  have ham : a < T 61 0 := (blL_m.mp (List.mem_of_getElem? ha)).1
  have ht := nxt_lt hT ham (s := Qn T k)
  have hpl := hG.1.2.2.1 _ ht
  have hob : ∀ e, fdN (fun i => Qn T i == nxt T a (Qn T k)) (sgj T k j).1.length = some e → e < 2 ^ 31 := fun e he => by
    have h1 := fdN_le he
    have h2 := (sj_get hT hB hk h1).2
    have h3 := q_le hT hB
    omega
  have hmc : fO T k + (Aj T k j).length < 2048 := by
    obtain ⟨m1, m2, m3, m4⟩ := sj_mv hk ha ho
    have m5 := mN_le hT hB
    omega
  have KO : ¬ fdN (fun i => Qn T i == nxt T a (Qn T k)) (sgj T k j).1.length = none → Ex g qX2_addMove (tm g qX2_addMove (AvQ T k j M1)) 41 [some (.ref 9), some (.int (nI k)), some (.int (nI a)), some (.int (nI (nxt T a (Qn T k))))] [] M1 := fun hne => by
    obtain ⟨m1, m2, m3, m4⟩ := sj_mv hk ha ho
    have m5 := mN_le hT hB
    have hl := sj_old ha ho (fun e => hne ((sj_fd hT hB hk).mpr e))
    obtain ⟨i0, hi0⟩ := Option.ne_none_iff_exists'.mp hne
    obtain ⟨f1, f2, f3⟩ := fdN_some.mp hi0
    have fq := (sj_get hT hB hk f1).2
    have e1 : plT T (nxt T a (Qn T k)) = i0 := by rw [← (beq_iff_eq.mp f2)]; exact pl_Qn hT hB fq
    have e2 : mT T (fO T k + (Aj T k j).length) = i0 := by unfold mT; rw [m2, m3]; exact e1
    refine am_41 hk2 (by omega) ht m2 m3 hG.1 hG.2.1 hG.2.2.1 (fun i h1 h2 => ?_) (fun m hm => ?_) (by rw [hpl, hi0, e2]; rfl) Sb.rf (fun M6 g1 g2 => ⟨rfl, by rw [hl, m1]; exact g1, g2⟩)
    · obtain ⟨m, h3, h4⟩ := hG.2.2.2.1 i h1 h2
      exact ⟨m, by omega, h4⟩
    · by_cases e : m = fO T k + (Aj T k j).length
      · rw [e, e2]; exact f1
      · exact hG.2.2.2.2 m (by omega)
  have KW : fdN (fun i => Qn T i == nxt T a (Qn T k)) (sgj T k j).1.length = none → ∀ M2, AdQ T (sgj T k j).1.length (nI (fO T k + (Aj T k j).length)) M1 (some (.int (bI true))) M2 → Ex g qX2_addMove (tm g qX2_addMove (AvQ T k j M1)) 41 [some (.ref 9), some (.int (nI k)), some (.int (nI a)), some (.int (nI (nxt T a (Qn T k))))] [] M2 := fun hne M2 hA => by
    obtain ⟨m1, m2, m3, m4⟩ := sj_mv hk ha ho
    have m5 := mN_le hT hB
    obtain ⟨n1, n2, n3, n4⟩ := sj_new hT hB hk ha ho ((sj_fd hT hB hk).mp hne)
    obtain ⟨-, a1, a2, a3, a4, a5⟩ := hA
    have e1 : plT T (nxt T a (Qn T k)) = (sgj T k j).1.length := by rw [← n3]; exact pl_Qn hT hB n2
    have e2 : mT T (fO T k + (Aj T k j).length) = (sgj T k j).1.length := by unfold mT; rw [m2, m3]; exact e1
    have e3 : fdN (fun i => Qn T i == nxt T a (Qn T k)) ((sgj T k j).1.length + 1) = some (sgj T k j).1.length := by
      rw [fdN_s, hne]
      dsimp only
      rw [if_pos (by rw [n3]; exact beq_self_eq_true _)]
    have c16 : ∀ c, c = 16 ∨ c = 17 ∨ c = 18 → M2.1 c = M1.1 c := fun c hc => (a5 c (by rcases hc with e | e | e <;> subst e <;> decide)).1
    refine am_41 hk2 (by omega) ht m2 m3 a1 (a4.trans hG.2.1) (fun m hm => ?_) (fun i h1 h2 => ?_) (fun m hm => ?_) (by rw [a1.2.2.1 _ ht, e3, e2]; rfl) (a5.sub (by decide)) (fun M6 g1 g2 => ⟨rfl, by rw [n1, m1]; exact g1, g2⟩)
    · rw [c16 16 (by omega), c16 17 (by omega), c16 18 (by omega)]; exact hG.2.2.1 m hm
    · by_cases e : i = (sgj T k j).1.length
      · subst e
        exact ⟨_, by omega, a2, e2, hG.2.2.2.2⟩
      · obtain ⟨m, h3, h4⟩ := hG.2.2.2.1 i h1 (by omega)
        exact ⟨m, by omega, by rw [a3 i e]; exact h4⟩
    · by_cases e : m = fO T k + (Aj T k j).length
      · rw [e, e2]; omega
      · have := hG.2.2.2.2 m (by omega); omega
  have hdk : M1.1 12 k = nI (dQ T k) := (hG.1.2.1 k (by
    have h1 := (q_end hT hB).2 k hk
    have h2 : (bfN (sx0 T) (fst0 T) k).1.length ≤ (sgj T k j).1.length := fold_len _
    omega)).2
  have cA : fdN (fun i => Qn T i == nxt T a (Qn T k)) (sgj T k j).1.length = none → Call g qX2_admit [.ref 9, .int (nI (nxt T a (Qn T k))), .int (nI (dQ T k + 1)), .int (nI (fO T k + (Aj T k j).length))] M1 (AdQ T (sgj T k j).1.length (nI (fO T k + (Aj T k j).length)) M1) := fun hne => by
    obtain ⟨n1, n2, n3, n4⟩ := sj_new hT hB hk ha ho ((sj_fd hT hB hk).mp hne)
    have n5 := q_le hT hB
    exact c_admit hG.1 (by omega) ht n3 n4 (fun i hi => by have := fdN_none.mp hne i hi; rw [beq_eq_false_iff_ne] at this; exact this)
  refine Call_of (ls0 := [some (.ref 9), some (.int (nI k)), some (.int (nI a)), some (.int (nI (nxt T a (Qn T k))))]) rfl rfl (Nat.le_of_ble_eq_true rfl) ?_
  refine E_aload_n dX2_addMove_0 rfl ?_
  refine E_getI' (ci := 2) (j := 12) dX2_addMove_1 fkX2_55 rfl (by decide) rfl (by decide) (hG.2.1) ?_
  refine E_sipush (v := nI 2048) dX2_addMove_4 rfl ?_
  refine E_icmp_geN (t := 40) dX2_addMove_7 (by decide) (by omega) (by omega) (fun c7 => ?_) (fun c7 => ?_)
  · skip
    exact absurd hmc (by omega)
  · skip
    refine E_aload_n dX2_addMove_10 rfl ?_
    refine E_getR' (ci := 2) (j := 1) (p := 11) dX2_addMove_11 fkX2_15 rfl (by decide) rfl (by decide) (rfl) ?_
    refine E_iload_n dX2_addMove_14 rfl ?_
    refine E_ialdN dX2_addMove_15 rfl ht (by decide) (hpl) ?_
    refine E_iconst (v := -1) dX2_addMove_16 rfl ?_
    refine E_icmp_neO (t := 41) dX2_addMove_17 (by decide) hob (fun c17 => ?_) (fun c17 => ?_)
    · skip
      have key := KO c17
      exact key
    · skip
      refine E_aload_n dX2_addMove_20 rfl ?_
      refine E_iload_n dX2_addMove_21 rfl ?_
      refine E_aload_n dX2_addMove_22 rfl ?_
      refine E_getR' (ci := 2) (j := 2) (p := 12) dX2_addMove_23 fkX2_18 rfl (by decide) rfl (by decide) (rfl) ?_
      refine E_iload_n dX2_addMove_26 rfl ?_
      refine E_ialdN dX2_addMove_27 rfl (by omega) (by decide) (hdk) ?_
      refine E_iconst (v := nI 1) dX2_addMove_28 rfl ?_
      refine E_iaddN dX2_addMove_29 ?_
      refine E_aload_n dX2_addMove_30 rfl ?_
      refine E_getI' (ci := 2) (j := 12) dX2_addMove_31 fkX2_55 rfl (by decide) rfl (by decide) (hG.2.1) ?_
      refine E_callV (r := qX2_admit) (ci := 2) dX2_addMove_34 mkX2_63 voX2_admit rfl rfl rfl ⟨Nat.le_of_ble_eq_true rfl, Nat.le_of_ble_eq_true rfl, Nat.le_of_ble_eq_true rfl, Nat.le_of_ble_eq_true rfl⟩ (cA c17) rfl (Nat.le_of_ble_eq_true rfl) ?_
      rintro _ M2 ⟨rfl, hA⟩
      have key := KW c17 M2 ⟨rfl, hA⟩
      refine E_if_neB (t := 41) dX2_addMove_37 (by decide) (fun c37 => ?_) (fun c37 => ?_)
      · skip
        exact key
      · skip
        exact absurd c37 (by decide)
set_option maxRecDepth 8000 in
theorem am_L (hs : Sp p) (hT : WT T) (hB : T 61 13 < 64) (hSC : SC T p M) (hSL : SL T p M) (hk : k < LTn T) : ∀ (n j : Nat) (M1 : AM) (y6 : Option Value), j ≤ (Lk T k).length → (Lk T k).length < j + n → G3 T (sgj T k j).1.length (fO T k + (Aj T k j).length) M1 → Sb S9 M M1 → Ex g qX2_addMovesFrom (tm g qX2_addMovesFrom (AmQ T k M)) 21 [some (.ref 9), some (.int (nI k)), some (.ref p), some (.int (nI (Qn T k / 64))), some (.int (nI (Qn T k % 64))), some (.int (nI ((blN T (Qn T k / 64)).length + j))), y6] [] M1 := by
  have hq := Qn_lt hT hB hk
  have hk2 : k < 1024 := Nat.lt_of_lt_of_le hk (q_le hT hB)
  have hl16 : Qn T k / 64 < 16 := by omega
  have hsk : 64 * (Qn T k / 64) + Qn T k % 64 = Qn T k := by omega
  have h32 := hT.1
  have hLl : (blN T (Qn T k / 64 + 1)).length = (blN T (Qn T k / 64)).length + (Lk T k).length := by rw [blN, List.length_append]; rfl
  have hb32 : (blN T (Qn T k / 64 + 1)).length ≤ T 61 0 := by rw [blN]; exact bl_len (Nat.le_refl _)
  have hS9 : ∀ c ∈ S9, c < 39 := by decide
  intro n
  induction n with
  | zero => intro j M1 y6 h1 h2; exact absurd h2 (by omega)
  | succ n ih =>
    intro j M1 y6 hj hn hG hS
    have hSC1 := sc_lo hSC hS hS9
    have hSL1 := sl_lo hs hSL hS hS9
    have hup : M1.1 (p + 10) (Qn T k / 64 + 1) = nI ((blN T (Qn T k / 64)).length + (Lk T k).length) := by rw [← hLl]; exact hSL1.1 _ (by omega)
    have KE : j = (Lk T k).length → AmQ T k M (none : Option Value) M1 := fun e => by
      subst e
      rw [Aj_end, sj_end hT hB hk] at hG
      exact ⟨rfl, hG, hS⟩
    by_cases hjl : j < (Lk T k).length
    · obtain ⟨a, ha⟩ : ∃ a, (Lk T k)[j]? = some a := ⟨_, List.getElem?_eq_getElem hjl⟩
      have hby : M1.1 (p + 9) ((blN T (Qn T k / 64)).length + j) = nI a := by
        have h1 := bl_at (T := T) (l := Qn T k / 64) ha 16 hl16
        rw [hSL1.2 _ (List.getElem?_eq_some_iff.mp h1).1, List.getD_eq_getElem?_getD, h1]; rfl
      have ham : a < T 61 0 := (blL_m.mp (List.mem_of_getElem? ha)).1
      have cO : Call g qX8_isOpen [.ref p, .int (nI a), .int (nI (Qn T k / 64)), .int (nI (Qn T k % 64))] M1 (Rt (bI (opn T a (Qn T k) 0)) M1) := by
        have := c_isOpen (g := g) hSC1 ham hl16 (m := Qn T k % 64) (by omega)
        rw [hsk] at this; exact this
      have cN : Call g qX8_stateBehind [.ref p, .int (nI a), .int (nI (Qn T k % 64))] M1 (Rt (nI (nxt T a (Qn T k))) M1) := by
        have := c_stateBehind (g := g) hSC1 (l := Qn T k / 64) ham (m := Qn T k % 64) (by omega)
        rw [hsk] at this; exact this
      have KN : opn T a (Qn T k) 0 = false → ∀ y6, Ex g qX2_addMovesFrom (tm g qX2_addMovesFrom (AmQ T k M)) 21 [some (.ref 9), some (.int (nI k)), some (.ref p), some (.int (nI (Qn T k / 64))), some (.int (nI (Qn T k % 64))), some (.int (nI ((blN T (Qn T k / 64)).length + j + 1))), y6] [] M1 := fun e y6 => by
        obtain ⟨e1, e2⟩ := sj_n ha (by rw [e]; decide)
        exact ih (j + 1) M1 y6 (by omega) (by omega) (by rw [e1, e2]; exact hG) hS
      refine E_iload dX2_addMovesFrom_21 rfl ?_
      refine E_aload_n dX2_addMovesFrom_23 rfl ?_
      refine E_getR' (ci := 8) (j := 9) (p := p+10) dX2_addMovesFrom_24 fkX2_81 rfl (by decide) (kS hs) (by decide) ((srS hs) 9 (by decide)) ?_
      refine E_iload_n dX2_addMovesFrom_27 rfl ?_
      refine E_iconst (v := nI 1) dX2_addMovesFrom_28 rfl ?_
      refine E_iaddN dX2_addMovesFrom_29 ?_
      refine E_ialdN dX2_addMovesFrom_30 (kp10 hs) (by omega) (by decide) (hup) ?_
      refine E_icmp_geN (t := 76) dX2_addMovesFrom_31 (by decide) (by omega) (by omega) (fun c31 => ?_) (fun c31 => ?_)
      · skip
        exact absurd c31 (by omega)
      · skip
        refine E_aload_n dX2_addMovesFrom_34 rfl ?_
        refine E_getR' (ci := 8) (j := 8) (p := p+9) dX2_addMovesFrom_35 fkX2_84 rfl (by decide) (kS hs) (by decide) ((srS hs) 8 (by decide)) ?_
        refine E_iload dX2_addMovesFrom_38 rfl ?_
        refine E_ialdN dX2_addMovesFrom_40 (kp9 hs) (by omega) (by decide) (hby) ?_
        refine E_istore dX2_addMovesFrom_41 (by decide) rfl ?_
        refine E_aload_n dX2_addMovesFrom_43 rfl ?_
        refine E_iload dX2_addMovesFrom_44 rfl ?_
        refine E_iload_n dX2_addMovesFrom_46 rfl ?_
        refine E_iload dX2_addMovesFrom_47 rfl ?_
        refine E_callV (r := qX8_isOpen) (ci := 8) dX2_addMovesFrom_49 mkX2_87 voX8_isOpen rfl (kS hs) rfl ⟨Nat.le_of_ble_eq_true rfl, Nat.le_of_ble_eq_true rfl, Nat.le_of_ble_eq_true rfl, Nat.le_of_ble_eq_true rfl⟩ (cO) rfl (Nat.le_of_ble_eq_true rfl) ?_
        rintro _ _ ⟨rfl, rfl⟩
        refine E_if_eqB (t := 70) dX2_addMovesFrom_52 (by decide) (fun c52 => ?_) (fun c52 => ?_)
        · skip
          have key := KN c52
          refine E_iincN (b := 1) dX2_addMovesFrom_70 rfl rfl (by decide) rfl ?_
          refine E_goto (t := 21) dX2_addMovesFrom_73 (by decide) ?_
          exact key _
        · skip
          refine E_aload_n dX2_addMovesFrom_55 rfl ?_
          refine E_iload_n dX2_addMovesFrom_56 rfl ?_
          refine E_iload dX2_addMovesFrom_57 rfl ?_
          refine E_aload_n dX2_addMovesFrom_59 rfl ?_
          refine E_iload dX2_addMovesFrom_60 rfl ?_
          refine E_iload dX2_addMovesFrom_62 rfl ?_
          refine E_callV (r := qX8_stateBehind) (ci := 8) dX2_addMovesFrom_64 mkX2_90 voX8_stateBehind rfl (kS hs) rfl ⟨Nat.le_of_ble_eq_true rfl, Nat.le_of_ble_eq_true rfl, Nat.le_of_ble_eq_true rfl, Nat.le_of_ble_eq_true rfl⟩ (cN) rfl (Nat.le_of_ble_eq_true rfl) ?_
          rintro _ _ ⟨rfl, rfl⟩
          refine E_callV (r := qX2_addMove) (ci := 2) dX2_addMovesFrom_67 mkX2_94 voX2_addMove rfl rfl rfl ⟨Nat.le_of_ble_eq_true rfl, Nat.le_of_ble_eq_true rfl, Nat.le_of_ble_eq_true rfl, Nat.le_of_ble_eq_true rfl⟩ (am_V hT hB hk ha c52 hG) rfl (Nat.le_of_ble_eq_true rfl) ?_
          rintro _ M2 ⟨rfl, g1, g2⟩
          have key : ∀ y6, Ex g qX2_addMovesFrom (tm g qX2_addMovesFrom (AmQ T k M)) 21 [some (.ref 9), some (.int (nI k)), some (.ref p), some (.int (nI (Qn T k / 64))), some (.int (nI (Qn T k % 64))), some (.int (nI ((blN T (Qn T k / 64)).length + j + 1))), y6] [] M2 := fun y6 => ih (j + 1) M2 y6 (by omega) (by omega) g1 (hS.tr g2)
          refine E_iincN (b := 1) dX2_addMovesFrom_70 rfl rfl (by decide) rfl ?_
          refine E_goto (t := 21) dX2_addMovesFrom_73 (by decide) ?_
          exact key _
    · have hje : j = (Lk T k).length := by omega
      have key := KE hje
      refine E_iload dX2_addMovesFrom_21 rfl ?_
      refine E_aload_n dX2_addMovesFrom_23 rfl ?_
      refine E_getR' (ci := 8) (j := 9) (p := p+10) dX2_addMovesFrom_24 fkX2_81 rfl (by decide) (kS hs) (by decide) ((srS hs) 9 (by decide)) ?_
      refine E_iload_n dX2_addMovesFrom_27 rfl ?_
      refine E_iconst (v := nI 1) dX2_addMovesFrom_28 rfl ?_
      refine E_iaddN dX2_addMovesFrom_29 ?_
      refine E_ialdN dX2_addMovesFrom_30 (kp10 hs) (by omega) (by decide) (hup) ?_
      refine E_icmp_geN (t := 76) dX2_addMovesFrom_31 (by decide) (by omega) (by omega) (fun c31 => ?_) (fun c31 => ?_)
      · skip
        refine E_vret dX2_addMovesFrom_76 rfl ?_
        exact key
      · skip
        exact absurd c31 (by omega)
theorem c_addMoves (hs : Sp p) (hT : WT T) (hB : T 61 13 < 64) (hSC : SC T p M) (hSL : SL T p M) (hk : k < LTn T) (hG : G3 T (bfN (sx0 T) (fst0 T) k).1.length (fO T k) M) : Call g qX2_addMovesFrom [.ref 9, .int (nI k), .ref p] M (AmQ T k M) := by
  have hk2 : k < 1024 := Nat.lt_of_lt_of_le hk (q_le hT hB)
  have hq := Qn_lt hT hB hk
  have hst : M.1 10 k = nI (Qn T k) := (hG.1.2.1 k ((q_end hT hB).2 k hk)).1
  have hfl : M.1 (p + 10) (Qn T k / 64) = nI (blN T (Qn T k / 64)).length := hSL.1 _ (by omega)
  have key := am_L (g := g) hs hT hB hSC hSL hk ((Lk T k).length + 1) 0 M none (Nat.zero_le _) (by omega) hG Sb.rf
  refine Call_of (ls0 := [some (.ref 9), some (.int (nI k)), some (.ref p), none, none, none, none]) rfl rfl (Nat.le_of_ble_eq_true rfl) ?_
  refine E_aload_n dX2_addMovesFrom_0 rfl ?_
  refine E_iload_n dX2_addMovesFrom_1 rfl ?_
  refine E_callV (r := qX2_lineAt) (ci := 2) dX2_addMovesFrom_2 mkX2_74 voX2_lineAt rfl rfl rfl ⟨Nat.le_of_ble_eq_true rfl, Nat.le_of_ble_eq_true rfl, Nat.le_of_ble_eq_true rfl, Nat.le_of_ble_eq_true rfl⟩ (c_lineAt hst hk2 hq) rfl (Nat.le_of_ble_eq_true rfl) ?_
  rintro _ _ ⟨rfl, rfl⟩
  refine E_ist_n (i := 3) dX2_addMovesFrom_5 rfl (by decide) rfl ?_
  refine E_aload_n dX2_addMovesFrom_6 rfl ?_
  refine E_iload_n dX2_addMovesFrom_7 rfl ?_
  refine E_callV (r := qX2_marksAt) (ci := 2) dX2_addMovesFrom_8 mkX2_78 voX2_marksAt rfl rfl rfl ⟨Nat.le_of_ble_eq_true rfl, Nat.le_of_ble_eq_true rfl, Nat.le_of_ble_eq_true rfl, Nat.le_of_ble_eq_true rfl⟩ (c_marksAt hst hk2 hq) rfl (Nat.le_of_ble_eq_true rfl) ?_
  rintro _ _ ⟨rfl, rfl⟩
  refine E_istore dX2_addMovesFrom_11 (by decide) rfl ?_
  refine E_aload_n dX2_addMovesFrom_13 rfl ?_
  refine E_getR' (ci := 8) (j := 9) (p := p+10) dX2_addMovesFrom_14 fkX2_81 rfl (by decide) (kS hs) (by decide) ((srS hs) 9 (by decide)) ?_
  refine E_iload_n dX2_addMovesFrom_17 rfl ?_
  refine E_ialdN dX2_addMovesFrom_18 (kp10 hs) (by omega) (by decide) (hfl) ?_
  refine E_istore dX2_addMovesFrom_19 (by decide) rfl ?_
  exact key
end G4
