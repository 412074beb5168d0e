-- the class's searches: the shortest loop
abbrev okT : Nat → Bool := fun _ => true
section H3
variable {g : GG} {M : AM} {T : TK} {f k : Nat}
/-- none of the first k of the row leads back: what leads back is no nearer than place k -/
theorem bl_min (hT : WT T) (hB : T 61 13 < 64) (hf : f < LTn T) (hk : k < (bfN (sP T okT) f k).1.length) {s : Nat} (hs : (bfN (sP T okT) f k).1[k]? = some s) (hno : ∀ i t, i < k → (bfN (sP T okT) f k).1[i]? = some t → ¬ f ∈ sP T okT t) {n u : Nat} (h1 : rch (sP T okT) f n u) (h2 : f ∈ sP T okT u) : dOf (bfN (sP T okT) f k) s ≤ n := by
  obtain ⟨K, hK, hl, hj⟩ := bfN_end hf (sP_lt (ok := okT) hT hB)
  have hkK : k ≤ K := Nat.le_of_not_lt (fun e => by
    have := bfN_stop (succ := sP T okT) (f := f) (k := K) (by omega) (k - K)
    rw [show K + (k - K) = k by omega] at this
    rw [this, hl] at hk
    omega)
  have hD := bfs_isD (succ := sP T okT) hf (sP_lt hT hB)
  rw [bfs_at hK (by omega)] at hD
  have hM := bMid_N hf (sP_lt (ok := okT) hT hB) K (by omega)
  have hI := bp_inv (ok := okT) hT hB hf K
  have hget : ∀ i, i < (bfN (sP T okT) f k).1.length → (bfN (sP T okT) f K).1[i]? = (bfN (sP T okT) f k).1[i]? := fun i hi => by
    have := bfN_get hi (K - k)
    rw [show k + (K - k) = K by omega] at this
    exact this
  obtain ⟨n0, m1, m2⟩ := pk_least _ (show ∃ n, rch (sP T okT) f n u from ⟨n, h1⟩)
  have hDu := (hD u n0).mpr ⟨m1, m2⟩
  have hn0 : n0 ≤ n := Nat.le_of_not_lt (fun e => m2 n e h1)
  obtain ⟨iu, hiu⟩ := List.getElem?_of_mem ((hI.2.1 u).mpr (by rw [hDu]; exact fun e => by cases e))
  have hge : k ≤ iu := Nat.le_of_not_lt (fun e => by
    rw [hget iu (by omega)] at hiu
    exact hno iu u e hiu h2)
  have h3 := hM.2.1 k iu s u hge (by rw [hget k hk]; exact hs) hiu
  have hds : dOf (bfN (sP T okT) f K) s = dOf (bfN (sP T okT) f k) s := by
    obtain ⟨s2, e1, -, e3⟩ := bp_at (ok := okT) hT hB hf hk
    rw [hs] at e1
    cases e1
    have := bfN_pre e3 (K - k)
    rw [show k + (K - k) = K by omega] at this
    show ((bfN (sP T okT) f K).2 s).getD 0 = _
    rw [this]; rfl
  have hdu : dOf (bfN (sP T okT) f K) u = n0 := by
    show ((bfN (sP T okT) f K).2 u).getD 0 = n0
    rw [hDu]; rfl
  omega
def LpQ (T : TK) (f bd : Nat) (M : AM) (v : Option Value) (M' : AM) : Prop := ∃ r, v = some (.int (nI r)) ∧ r ≤ bd ∧ (r < bd → 0 < r ∧ rch (sP T okT) f r f) ∧ (∀ c, 0 < c → rch (sP T okT) f c f → r ≤ c) ∧ Sb [21, 22, 23] M M'
theorem sl_I (hT : WT T) (hB : T 61 13 < 64) (h : GR T M) {bd k s : Nat} (hf : f < LTn T) (hs : s < LTn T) (hk : k ≤ 1024)
    (nx : ∀ M2 y, ¬ f ∈ sP T okT s → Sq (sgP T okT (bfN (sP T okT) f k) s (fO T (s + 1) - fO T s)) M2 → Sb [21, 22, 23] M M2 → Ex g qX9_shortestLoop (tm g qX9_shortestLoop (LpQ T f bd M)) 8 [some (.ref 21), some (.ref 9), some (.int (nI f)), some (.int (nI bd)), some (.int (nI (k + 1))), some (.int (nI s)), some (.int (nI (dOf (bfN (sP T okT) f k) s + 1))), y] [] M2)
    (fin : f ∈ sP T okT s → ∀ M2, Sb [21, 22, 23] M M2 → LpQ T f bd M (some (.int (nI (dOf (bfN (sP T okT) f k) s + 1)))) M2) : ∀ (n j : Nat) (M2 : AM), j ≤ fO T (s + 1) - fO T s → fO T (s + 1) - fO T s < j + n → (∀ x, x < j → mT T (fO T s + x) ≠ f) → Sq (sgP T okT (bfN (sP T okT) f k) s j) M2 → Sb [21, 22, 23] M M2 → Ex g qX9_shortestLoop (tm g qX9_shortestLoop (LpQ T f bd M)) 62 [some (.ref 21), some (.ref 9), some (.int (nI f)), some (.int (nI bd)), some (.int (nI k)), some (.int (nI s)), some (.int (nI (dOf (bfN (sP T okT) f k) s + 1))), some (.int (nI (fO T s + j)))] [] M2 := by
  have hL := q_le hT hB
  have hN := mN_le hT hB
  have hmono := fO_le (T := T) (show s ≤ s + 1 by omega)
  have hmx := fO_le (T := T) (show s + 1 ≤ LTn T from hs)
  have hmN : fO T (LTn T) = mN T := rfl
  intro n
  induction n with
  | zero => intro j M2 h1 h2; exact absurd h2 (by omega)
  | succ n ih =>
    intro j M2 hj hn hno hq hS
    have hG := gr_sb h hS (by decide)
    have hm : j < fO T (s + 1) - fO T s → fO T s + j < mN T := fun e => (mv_sl hs (show fO T s ≤ fO T s + j by omega) (by omega)).2
    have hmt : j < fO T (s + 1) - fO T s → mT T (fO T s + j) < LTn T := fun e => (mv_ok hT hB (hm e)).2.2.2.2.2.1
    have hI := sgP_inv (ok := okT) (j := j) hT hB hs hj (bp_inv (ok := okT) hT hB hf k)
    have hdb : dB (sgP T okT (bfN (sP T okT) f k) s j) := sgP_dB (by omega)
    have KR : j < fO T (s + 1) - fO T s → mT T (fO T s + j) = f → LpQ T f bd M (some (.int (nI (dOf (bfN (sP T okT) f k) s + 1)))) M2 := fun e1 e2 => fin (sP_m.mpr ⟨fO T s + j, by omega, by omega, rfl, e2⟩) M2 hS
    have KY : j < fO T (s + 1) - fO T s → ¬ mT T (fO T s + j) = f → ∀ M3, Sq (vis (dOf (bfN (sP T okT) f k) s + 1) (sgP T okT (bfN (sP T okT) f k) s j) (mT T (fO T s + j))) M3 → Sb [21, 22, 23] M2 M3 → Ex g qX9_shortestLoop (tm g qX9_shortestLoop (LpQ T f bd M)) 62 [some (.ref 21), some (.ref 9), some (.int (nI f)), some (.int (nI bd)), some (.int (nI k)), some (.int (nI s)), some (.int (nI (dOf (bfN (sP T okT) f k) s + 1))), some (.int (nI (fO T s + j + 1)))] [] M3 := fun e1 e2 M3 g1 g2 => ih (j + 1) M3 (by omega) (by omega) (fun x hx => by
      by_cases e : x = j
      · rw [e]; exact e2
      · exact hno x (by omega)) (by rw [sgP_y rfl]; exact g1) (hS.tr g2)
    have KE : j = fO T (s + 1) - fO T s → Ex g qX9_shortestLoop (tm g qX9_shortestLoop (LpQ T f bd M)) 8 [some (.ref 21), some (.ref 9), some (.int (nI f)), some (.int (nI bd)), some (.int (nI (k + 1))), some (.int (nI s)), some (.int (nI (dOf (bfN (sP T okT) f k) s + 1))), some (.int (nI (fO T s + j)))] [] M2 := fun e => nx M2 _ (fun e2 => by
      obtain ⟨m, m1, m2, -, m4⟩ := sP_m.mp e2
      exact hno (m - fO T s) (by omega) (by rw [show fO T s + (m - fO T s) = m by omega]; exact m4)) (by rw [← e]; exact hq) hS
    refine E_iload dX9_shortestLoop_62 rfl ?_
    refine E_aload_n dX9_shortestLoop_64 rfl ?_
    refine E_getR' (ci := 2) (j := 5) (p := 15) dX9_shortestLoop_65 fkX9_42 rfl (by decide) rfl (by decide) (rfl) ?_
    refine E_iload dX9_shortestLoop_68 rfl ?_
    refine E_iconst (v := nI 1) dX9_shortestLoop_70 rfl ?_
    refine E_iaddN dX9_shortestLoop_71 ?_
    refine E_ialdN dX9_shortestLoop_72 rfl (by omega) (by decide) (gr_fo hG (show s + 1 ≤ LTn T from hs)) ?_
    refine E_icmp_geN (t := 109) dX9_shortestLoop_73 (by decide) (by omega) (by omega) (fun c73 => ?_) (fun c73 => ?_)
    · skip
      have key := KE (by omega)
      refine E_iincN (b := 1) dX9_shortestLoop_109 rfl rfl (by decide) rfl ?_
      refine E_goto (t := 8) dX9_shortestLoop_112 (by decide) ?_
      exact key
    · skip
      have hjl : j < fO T (s + 1) - fO T s := by omega
      refine E_aload_n dX9_shortestLoop_76 rfl ?_
      refine E_getR' (ci := 2) (j := 7) (p := 17) dX9_shortestLoop_77 fkX9_52 rfl (by decide) rfl (by decide) (rfl) ?_
      refine E_iload dX9_shortestLoop_80 rfl ?_
      refine E_ialdN dX9_shortestLoop_82 rfl (by have := hm hjl; omega) (by decide) (gr_mt hG (hm hjl)) ?_
      refine E_iload_n dX9_shortestLoop_83 rfl ?_
      refine E_icmp_neN (t := 90) dX9_shortestLoop_84 (by decide) (by have := hmt hjl; omega) (by omega) (fun c84 => ?_) (fun c84 => ?_)
      · skip
        refine E_aload_n dX9_shortestLoop_90 rfl ?_
        refine E_aload_n dX9_shortestLoop_91 rfl ?_
        refine E_getR' (ci := 2) (j := 7) (p := 17) dX9_shortestLoop_92 fkX9_52 rfl (by decide) rfl (by decide) (rfl) ?_
        refine E_iload dX9_shortestLoop_95 rfl ?_
        refine E_ialdN dX9_shortestLoop_97 rfl (by have := hm hjl; omega) (by decide) (gr_mt hG (hm hjl)) ?_
        refine E_iload dX9_shortestLoop_98 rfl ?_
        refine E_callV (r := qX9_enqueue) (ci := 9) dX9_shortestLoop_100 mkX9_28 voX9_enqueue rfl rfl rfl ⟨Nat.le_of_ble_eq_true rfl, Nat.le_of_ble_eq_true rfl, Nat.le_of_ble_eq_true rfl, Nat.le_of_ble_eq_true rfl⟩ (c_enq hI hL (hmt hjl) hq hdb) rfl (Nat.le_of_ble_eq_true rfl) ?_
        rintro _ M3 ⟨rfl, g1, g2⟩
        have key := KY hjl c84 M3 g1 g2
        refine E_iincN (b := 1) dX9_shortestLoop_103 rfl rfl (by decide) rfl ?_
        refine E_goto (t := 62) dX9_shortestLoop_106 (by decide) ?_
        exact key
      · skip
        refine E_iload dX9_shortestLoop_87 rfl ?_
        refine E_iret dX9_shortestLoop_89 rfl ?_
        exact KR hjl c84
theorem c_shortestLoop (hT : WT T) (hB : T 61 13 < 64) (h : GR T M) {bd : Nat} (hf : f < LTn T) (hbd : bd < 5000) : Call g qX9_shortestLoop [.ref 21, .ref 9, .int (nI f), .int (nI bd)] M (LpQ T f bd M) := by
  have hL := q_le hT hB
  have LO : ∀ (n k : Nat) (M1 : AM) (y5 y6 y7 : Option Value), k ≤ LTn T → LTn T < k + n → k ≤ (bfN (sP T okT) f k).1.length → Sq (bfN (sP T okT) f k) M1 → Sb [21, 22, 23] M M1 → (∀ i s, i < k → (bfN (sP T okT) f k).1[i]? = some s → ¬ f ∈ sP T okT s) → Ex g qX9_shortestLoop (tm g qX9_shortestLoop (LpQ T f bd M)) 8 [some (.ref 21), some (.ref 9), some (.int (nI f)), some (.int (nI bd)), some (.int (nI k)), y5, y6, y7] [] M1 := by
    intro n
    induction n with
    | zero => intro k M1 y5 y6 y7 h1 h2; exact absurd h2 (by omega)
    | succ n ih =>
      intro k M1 y5 y6 y7 hk hn hkl hq hS hno
      have hG := gr_sb h hS (by decide)
      have hbl := bp_len (ok := okT) hT hB hf k
      have KF : (bfN (sP T okT) f k).1.length ≤ k → LpQ T f bd M (some (.int (nI bd))) M1 := fun e => ⟨bd, rfl, Nat.le_refl _, fun e => absurd e (Nat.lt_irrefl _), fun c hc hr => by
        cases c with
        | zero => exact absurd hc (Nat.lt_irrefl 0)
        | succ c =>
          obtain ⟨u, h1, h2⟩ := hr
          have h3 := bp_cl hT hB hf e hk h1
          obtain ⟨j, hj⟩ := List.getElem?_of_mem h3
          have hj2 := (List.getElem?_eq_some_iff.mp hj).1
          exact absurd h2 (hno j u (by omega) hj), hS⟩
      by_cases hlt : k < (bfN (sP T okT) f k).1.length
      · obtain ⟨s, hs1, hs2, hs3⟩ := bp_at hT hB hf hlt
        have hq22 : M1.1 22 k = nI s := by rw [hq.2.1 k hlt, getD_of hs1]
        have hq23 : M1.1 23 s = nI (dOf (bfN (sP T okT) f k) s) := by rw [hq.1 s (by omega), hs3]; rfl
        have hdd : dOf (bfN (sP T okT) f k) s ≤ k := dOf_le (bfN_dle k)
        have hmin : ∀ c, 0 < c → rch (sP T okT) f c f → dOf (bfN (sP T okT) f k) s + 1 ≤ c := fun c hc hr => by
          cases c with
          | zero => exact absurd hc (Nat.lt_irrefl 0)
          | succ c =>
            obtain ⟨u, h1, h2⟩ := hr
            have := bl_min hT hB hf hlt hs1 hno h1 h2
            omega
        have KB : bd ≤ dOf (bfN (sP T okT) f k) s + 1 → LpQ T f bd M (some (.int (nI bd))) M1 := fun e => ⟨bd, rfl, Nat.le_refl _, fun e => absurd e (Nat.lt_irrefl _), fun c hc hr => Nat.le_trans e (hmin c hc hr), hS⟩
        have KI : dOf (bfN (sP T okT) f k) s + 1 < bd → Ex g qX9_shortestLoop (tm g qX9_shortestLoop (LpQ T f bd M)) 62 [some (.ref 21), some (.ref 9), some (.int (nI f)), some (.int (nI bd)), some (.int (nI k)), some (.int (nI s)), some (.int (nI (dOf (bfN (sP T okT) f k) s + 1))), some (.int (nI (fO T s)))] [] M1 := fun e => sl_I hT hB h hf hs2 (by omega) (fun M2 y g0 g1 g2 => by
            refine ih (k + 1) M2 _ _ y (by omega) (by omega) ?_ (by rw [bf_1 hs1]; exact g1) g2 (fun i t hi ht => ?_)
            · have := bfN_glen (succ := sP T okT) (f := f) k 1
              omega
            · have h1 := bp_nx hkl (show i ≤ k by omega) (by omega) ht
              by_cases e2 : i = k
              · subst e2
                rw [hs1] at h1
                rw [← Option.some.inj h1]; exact g0
              · exact hno i t (by omega) h1) (fun g0 M2 g2 => ⟨_, rfl, by omega, fun _ => ⟨by omega, ⟨s, bp_snd hT hB hf hkl hs3, g0⟩⟩, hmin, g2⟩) (fO T (s + 1) - fO T s + 1) 0 M1 (Nat.zero_le _) (by omega) (fun x hx => absurd hx (Nat.not_lt_zero x)) hq hS
        refine E_iload dX9_shortestLoop_8 rfl ?_
        refine E_sipush (v := nI 1024) dX9_shortestLoop_10 rfl ?_
        refine E_icmp_geN (t := 115) dX9_shortestLoop_13 (by decide) (by omega) (by omega) (fun c13 => ?_) (fun c13 => ?_)
        · skip
          exact absurd c13 (by omega)
        · skip
          refine E_iload dX9_shortestLoop_16 rfl ?_
          refine E_aload_n dX9_shortestLoop_18 rfl ?_
          refine E_getI' (ci := 9) (j := 2) dX9_shortestLoop_19 fkX9_24 rfl (by decide) rfl (by decide) (hq.2.2) ?_
          refine E_icmp_geN (t := 115) dX9_shortestLoop_22 (by decide) (by omega) (by omega) (fun c22 => ?_) (fun c22 => ?_)
          · skip
            exact absurd c22 (by omega)
          · skip
            refine E_aload_n dX9_shortestLoop_25 rfl ?_
            refine E_getR' (ci := 9) (j := 0) (p := 22) dX9_shortestLoop_26 fkX9_9 rfl (by decide) rfl (by decide) (rfl) ?_
            refine E_iload dX9_shortestLoop_29 rfl ?_
            refine E_ialdN dX9_shortestLoop_31 rfl (by omega) (by decide) (hq22) ?_
            refine E_istore dX9_shortestLoop_32 (by decide) rfl ?_
            refine E_aload_n dX9_shortestLoop_34 rfl ?_
            refine E_getR' (ci := 9) (j := 1) (p := 23) dX9_shortestLoop_35 fkX9_15 rfl (by decide) rfl (by decide) (rfl) ?_
            refine E_iload dX9_shortestLoop_38 rfl ?_
            refine E_ialdN dX9_shortestLoop_40 rfl (by omega) (by decide) (hq23) ?_
            refine E_iconst (v := nI 1) dX9_shortestLoop_41 rfl ?_
            refine E_iaddN dX9_shortestLoop_42 ?_
            refine E_istore dX9_shortestLoop_43 (by decide) rfl ?_
            refine E_iload dX9_shortestLoop_45 rfl ?_
            refine E_iload_n dX9_shortestLoop_47 rfl ?_
            refine E_icmp_ltN (t := 53) dX9_shortestLoop_48 (by decide) (by omega) (by omega) (fun c48 => ?_) (fun c48 => ?_)
            · skip
              refine E_aload_n dX9_shortestLoop_53 rfl ?_
              refine E_getR' (ci := 2) (j := 5) (p := 15) dX9_shortestLoop_54 fkX9_42 rfl (by decide) rfl (by decide) (rfl) ?_
              refine E_iload dX9_shortestLoop_57 rfl ?_
              refine E_ialdN dX9_shortestLoop_59 rfl (by omega) (by decide) (gr_fo hG (show s ≤ LTn T by omega)) ?_
              refine E_istore dX9_shortestLoop_60 (by decide) rfl ?_
              exact KI c48
            · skip
              refine E_iload_n dX9_shortestLoop_51 rfl ?_
              refine E_iret dX9_shortestLoop_52 rfl ?_
              exact KB c48
      · have key := KF (by omega)
        refine E_iload dX9_shortestLoop_8 rfl ?_
        refine E_sipush (v := nI 1024) dX9_shortestLoop_10 rfl ?_
        refine E_icmp_geN (t := 115) dX9_shortestLoop_13 (by decide) (by omega) (by omega) (fun c13 => ?_) (fun c13 => ?_)
        · skip
          refine E_iload_n dX9_shortestLoop_115 rfl ?_
          refine E_iret dX9_shortestLoop_116 rfl ?_
          exact key
        · skip
          refine E_iload dX9_shortestLoop_16 rfl ?_
          refine E_aload_n dX9_shortestLoop_18 rfl ?_
          refine E_getI' (ci := 9) (j := 2) dX9_shortestLoop_19 fkX9_24 rfl (by decide) rfl (by decide) (hq.2.2) ?_
          refine E_icmp_geN (t := 115) dX9_shortestLoop_22 (by decide) (by omega) (by omega) (fun c22 => ?_) (fun c22 => ?_)
          · skip
            refine E_iload_n dX9_shortestLoop_115 rfl ?_
            refine E_iret dX9_shortestLoop_116 rfl ?_
            exact key
          · skip
            exact absurd c22 (by omega)
  refine Call_of (ls0 := [some (.ref 21), some (.ref 9), some (.int (nI f)), some (.int (nI bd)), none, none, none, none]) rfl rfl (Nat.le_of_ble_eq_true rfl) ?_
  refine E_aload_n dX9_shortestLoop_0 rfl ?_
  refine E_iload_n dX9_shortestLoop_1 rfl ?_
  refine E_callV (r := qX9_startAt) (ci := 9) dX9_shortestLoop_2 mkX9_32 voX9_startAt rfl rfl rfl ⟨Nat.le_of_ble_eq_true rfl, Nat.le_of_ble_eq_true rfl, Nat.le_of_ble_eq_true rfl, Nat.le_of_ble_eq_true rfl⟩ (c_startAt (by omega)) rfl (Nat.le_of_ble_eq_true rfl) ?_
  rintro _ M1 ⟨rfl, h1, h2⟩
  refine E_iconst (v := nI 0) dX9_shortestLoop_5 rfl ?_
  refine E_istore dX9_shortestLoop_6 (by decide) rfl ?_
  exact LO (LTn T + 1) 0 M1 none none none (Nat.zero_le _) (by omega) (Nat.zero_le _) h1 h2 (fun i s hi => absurd hi (Nat.not_lt_zero i))
end H3
