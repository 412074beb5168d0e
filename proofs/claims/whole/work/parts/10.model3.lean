-- the model's search: what it lays is the pure search
theorem vis_dle {c d t : Nat} {σ : BS} (hc : ∀ u e, σ.2 u = some e → e ≤ c) (hd : d ≤ c) : ∀ u e, (vis d σ t).2 u = some e → e ≤ c := by
  intro u e he
  unfold vis at he
  by_cases h1 : σ.2 t = none
  · rw [if_pos h1] at he
    dsimp only at he
    by_cases h2 : u = t
    · rw [if_pos h2] at he
      cases he
      exact hd
    · rw [if_neg h2] at he
      exact hc u e he
  · rw [if_neg h1] at he
    exact hc u e he
theorem fold_dle {c d : Nat} : ∀ (l : List Nat) {σ : BS}, (∀ u e, σ.2 u = some e → e ≤ c) → d ≤ c → ∀ u e, (l.foldl (vis d) σ).2 u = some e → e ≤ c
  | [], _, hc, _ => hc
  | _ :: l, _, hc, hd => fold_dle l (vis_dle hc hd) hd
theorem dOf_le {c s : Nat} {σ : BS} (hc : ∀ u e, σ.2 u = some e → e ≤ c) : dOf σ s ≤ c := by
  unfold dOf
  cases he : σ.2 s with
  | none => exact Nat.zero_le c
  | some e => exact hc s e he
theorem bfN_dle {succ : Nat → List Nat} {f : Nat} : ∀ k u e, (bfN succ f k).2 u = some e → e ≤ k
  | 0, u, e, he => by
    have h1 : (if u = f then some 0 else none) = some e := he
    by_cases h2 : u = f
    · rw [if_pos h2] at h1
      cases h1
      exact Nat.le_refl 0
    · rw [if_neg h2] at h1
      cases h1
  | k + 1, u, e, he => by
    have ih := bfN_dle (succ := succ) (f := f) k
    rw [bfN] at he
    split at he
    · exact Nat.le_succ_of_le (ih u e he)
    · exact fold_dle _ (fun u e he => Nat.le_succ_of_le (ih u e he)) (Nat.succ_le_succ (dOf_le ih)) u e he
def okA (T : TK) (but un : Option Nat) (a : Nat) : Bool := !(but == some a) && (match un with
  | none => true
  | some m => !((T 68 a).testBit m))
def sxF (T : TK) (but un w : Option Nat) (s a : Nat) : Option Nat := if okA T but un a && opn T a s (ou w) then some (nxt T a s) else none
def sux (T : TK) (but un w : Option Nat) (s : Nat) : List Nat := (List.range (T 61 0)).filterMap (sxF T but un w s)
theorem sux_mem {T : TK} {but un w : Option Nat} {s t : Nat} : t ∈ sux T but un w s ↔ ∃ a, a < T 61 0 ∧ okA T but un a = true ∧ opn T a s (ou w) = true ∧ nxt T a s = t := by
  unfold sux
  rw [List.mem_filterMap]
  constructor
  · rintro ⟨a, h1, h2⟩
    unfold sxF at h2
    by_cases h3 : (okA T but un a && opn T a s (ou w)) = true
    · rw [if_pos h3] at h2
      rw [Bool.and_eq_true] at h3
      exact ⟨a, List.mem_range.mp h1, h3.1, h3.2, Option.some.inj h2⟩
    · rw [if_neg h3] at h2
      cases h2
  · rintro ⟨a, h1, h2, h3, h4⟩
    refine ⟨a, List.mem_range.mpr h1, ?_⟩
    unfold sxF
    rw [if_pos (by rw [h2, h3]; rfl), h4]
theorem sux_lt {T : TK} (hT : WT T) {but un w : Option Nat} : ∀ s t, s < 1024 → t ∈ sux T but un w s → t < 1024 := by
  intro s t _ ht
  obtain ⟨a, h1, -, -, h4⟩ := sux_mem.mp ht
  rw [← h4]
  exact nxt_lt hT h1
/-- far and queue hold the search's state -/
def Rq (σ : BS) (M : AM) : Prop := (∀ t, t < 1024 → M.1 73 t = oI (σ.2 t)) ∧ ∀ i, i < σ.1.length → M.1 74 i = nI (σ.1.getD i 0)
theorem getD_of {l : List Nat} {k s : Nat} (h1 : l[k]? = some s) : l.getD k 0 = s := by rw [List.getD_eq_getElem?_getD, h1]; rfl
theorem rng_fm {F : Nat → Option Nat} (a : Nat) : (List.range (a + 1)).filterMap F = (List.range a).filterMap F ++ (F a).toList := by
  rw [List.range_succ, List.filterMap_append]
  congr 1
theorem Rq_vis {σ : BS} {M : AM} {d t : Nat} (hI : bInv 1024 σ) (hq : Rq σ M) (ht : t < 1024) (hn : σ.2 t = none) : Rq (vis d σ t) (sI (sI M 73 t (nI d)) 74 σ.1.length (nI t)) := by
  have e1 : (vis d σ t).1 = σ.1 ++ [t] := by unfold vis; rw [if_pos hn]
  have e2 : ∀ u, (vis d σ t).2 u = if u = t then some d else σ.2 u := fun u => by unfold vis; rw [if_pos hn]
  refine ⟨fun u hu => ?_, fun i hi => ?_⟩
  · rw [e2 u, sI_get, if_neg (by omega), sI_get]
    by_cases h1 : u = t
    · rw [if_pos ⟨rfl, h1⟩, if_pos h1]; rfl
    · rw [if_neg (fun e => h1 e.2), if_neg h1]
      exact hq.1 u hu
  · rw [e1] at hi ⊢
    rw [sI_get]
    by_cases h1 : i = σ.1.length
    · rw [if_pos ⟨rfl, h1⟩, h1]
      simp
    · rw [if_neg (fun e => h1 e.2), sI_get, if_neg (by omega)]
      have h2 : i < σ.1.length := by
        rw [List.length_append] at hi
        have : [t].length = 1 := rfl
        omega
      rw [hq.2 i h2, List.getD_eq_getElem?_getD, List.getD_eq_getElem?_getD, List.getElem?_append_left h2]
section M3
variable {g : GG} {M : AM} {T : TK}
theorem m_reaches (hR : RM T M) {f : Nat} {but un w : Option Nat} (hf : f < 1024) (hbut : ∀ m, but = some m → m < 32) (hun : ∀ m, un = some m → m < 6) (hw : ∀ m, w = some m → m < 6) : Call g qX11_reaches [.ref 61, .int (nI f), .int (oI but), .int (oI un), .int (oI w)] M (fun v M' => v = some (.int (nI (bfs (sux T but un w) f 1024).1.length)) ∧ Sb [73, 74] M M' ∧ ∀ t, t < 1024 → M'.1 73 t = oI ((bfs (sux T but un w) f 1024).2 t)) := by
  have h32 := rm_32 hR
  have hsx := sux_lt (rm_wt hR) (but := but) (un := un) (w := w)
  have LO : ∀ (n k : Nat) (M1 : AM) (y7 y8 y9 y10 : Option Value), k ≤ (bfN (sux T but un w) f k).1.length → 1024 < k + n → Sb [73, 74] M M1 → Rq (bfN (sux T but un w) f k) M1 → Ex g qX11_reaches (tm g qX11_reaches (fun v M' => v = some (.int (nI (bfs (sux T but un w) f 1024).1.length)) ∧ Sb [73, 74] M M' ∧ ∀ t, t < 1024 → M'.1 73 t = oI ((bfs (sux T but un w) f 1024).2 t))) 45 [some (.ref 61), some (.int (nI f)), some (.int (oI but)), some (.int (oI un)), some (.int (oI w)), some (.int (nI (bfN (sux T but un w) f k).1.length)), some (.int (nI k)), y7, y8, y9, y10] [] M1 := by
    intro n
    induction n with
    | zero => intro k M1 y7 y8 y9 y10 h1 h2; exact absurd (bfN_len hf hsx k) (by omega)
    | succ n ihO =>
      intro k M1 y7 y8 y9 y10 hk hn hS hq
      have hl := bfN_len hf hsx k
      have hI := bInv_N hf hsx k
      have LI : ∀ s, (bfN (sux T but un w) f k).1[k]? = some s → ∀ (m a : Nat) (σ' : BS) (M2 : AM) (z9 z10 : Option Value), σ' = ((List.range a).filterMap (sxF T but un w s)).foldl (vis (dOf (bfN (sux T but un w) f k) s + 1)) (bfN (sux T but un w) f k) → a ≤ T 61 0 → T 61 0 < a + m → Sb [73, 74] M M2 → Rq σ' M2 → Ex g qX11_reaches (tm g qX11_reaches (fun v M' => v = some (.int (nI (bfs (sux T but un w) f 1024).1.length)) ∧ Sb [73, 74] M M' ∧ ∀ t, t < 1024 → M'.1 73 t = oI ((bfs (sux T but un w) f 1024).2 t))) 64 [some (.ref 61), some (.int (nI f)), some (.int (oI but)), some (.int (oI un)), some (.int (oI w)), some (.int (nI σ'.1.length)), some (.int (nI k)), some (.int (nI s)), some (.int (nI a)), z9, z10] [] M2 := by
        intro s hs m
        have hs24 : s < 1024 := hI.2.2 s (List.mem_of_getElem? hs)
        have hsv : ¬ (bfN (sux T but un w) f k).2 s = none := (hI.2.1 s).mp (List.mem_of_getElem? hs)
        have hsd : (bfN (sux T but un w) f k).2 s = some (dOf (bfN (sux T but un w) f k) s) := by
          unfold dOf
          cases hh : (bfN (sux T but un w) f k).2 s with
          | none => exact absurd hh hsv
          | some e => rfl
        have hdk := dOf_le (s := s) (bfN_dle (succ := sux T but un w) (f := f) k)
        have hkl := (List.getElem?_eq_some_iff.mp hs).1
        induction m with
        | zero => intro a σ' M2 z9 z10 _ h1 h2; exact absurd h2 (by omega)
        | succ m ihI =>
          intro a σ' M2 z9 z10 hσ ha hm hS2 hq2
          have hR2 := rm_sb hR hS2 (by decide)
          have hll : ∀ t ∈ (List.range a).filterMap (sxF T but un w s), t < 1024 := by
            intro t ht
            obtain ⟨b, hb1, hb2⟩ := List.mem_filterMap.mp ht
            unfold sxF at hb2
            by_cases h3 : (okA T but un b && opn T b s (ou w)) = true
            · rw [if_pos h3] at hb2
              cases hb2
              exact nxt_lt (rm_wt hR) (by have := List.mem_range.mp hb1; omega)
            · rw [if_neg h3] at hb2
              cases hb2
          have hI2 : bInv 1024 σ' := by rw [hσ]; exact bInv_fold _ hI hll
          have hl2 := nodup_len 1024 _ hI2.1 hI2.2.2
          have hds : σ'.2 s = some (dOf (bfN (sux T but un w) f k) s) := by rw [hσ]; exact fold_pre _ hsd
          have hdl : ∀ u e, σ'.2 u = some e → e ≤ k + 1 := by
            rw [hσ]
            exact fold_dle _ (fun u e he => Nat.le_succ_of_le (bfN_dle k u e he)) (by omega)
          have hkl2 : k < σ'.1.length := by rw [hσ]; exact Nat.lt_of_lt_of_le hkl (fold_len _)
          have J : a < T 61 0 → Ex g qX11_reaches (tm g qX11_reaches (fun v M' => v = some (.int (nI (bfs (sux T but un w) f 1024).1.length)) ∧ Sb [73, 74] M M' ∧ ∀ t, t < 1024 → M'.1 73 t = oI ((bfs (sux T but un w) f 1024).2 t))) 115 [some (.ref 61), some (.int (nI f)), some (.int (oI but)), some (.int (oI un)), some (.int (oI w)), some (.int (nI σ'.1.length)), some (.int (nI k)), some (.int (nI s)), some (.int (nI a)), z9, z10] [.int (bI (okA T but un a && opn T a s (ou w)))] M2 := by
            intro c70
            have hnx := nxt_lt (rm_wt hR) (s := s) c70
            refine E_istore dX11_reaches_115 (by decide) rfl ?_
            refine E_aload_n dX11_reaches_117 rfl ?_
            refine E_iload dX11_reaches_118 rfl ?_
            refine E_iload dX11_reaches_120 rfl ?_
            refine E_callV (r := qX11_next) (ci := 11) dX11_reaches_122 mkX11_108 voX11_next rfl rfl rfl ⟨Nat.le_of_ble_eq_true rfl, Nat.le_of_ble_eq_true rfl, Nat.le_of_ble_eq_true rfl, Nat.le_of_ble_eq_true rfl⟩ (m_next hR2 c70 hs24) rfl (Nat.le_of_ble_eq_true rfl) ?_
            rintro _ _ ⟨rfl, rfl⟩
            refine E_istore dX11_reaches_125 (by decide) rfl ?_
            refine E_iload dX11_reaches_127 rfl ?_
            refine E_if_eqB (t := 170) dX11_reaches_129 (by decide) (fun c129 => ?_) (fun c129 => ?_)
            · skip
              have hF : sxF T but un w s a = none := by unfold sxF; rw [c129]; rfl
              refine E_iincN (b := 1) dX11_reaches_170 rfl rfl (by decide) rfl ?_
              refine E_goto (t := 64) dX11_reaches_173 (by decide) ?_
              first | exact ihI (a + 1) σ' M2 _ _ (by rw [rng_fm, hF, Option.toList, List.append_nil]; exact hσ) (by omega) (by omega) hS2 hq2 | exact ihI (a + 1) σ' M2 _ _ (by rw [rng_fm, hF, List.foldl_append, ← hσ]; exact hv) (by omega) (by omega) hS2 hq2 | exact (hv ▸ ihI (a + 1) (vis (dOf (bfN (sux T but un w) f k) s + 1) σ' (nxt T a s)) _ _ _ (by rw [rng_fm, hF, List.foldl_append, ← hσ]; rfl) (by omega) (by omega) ((hS2.tr (Sb.i (by decide))).tr (Sb.i (by decide))) (Rq_vis hI2 hq2 hnx c139))
            · skip
              have hF : sxF T but un w s a = some (nxt T a s) := by unfold sxF; rw [c129]; rfl
              refine E_aload_n dX11_reaches_132 rfl ?_
              refine E_getR' (ci := 11) (j := 18) (p := 73) dX11_reaches_133 fkX11_44 rfl (by decide) rfl (by decide) (rfl) ?_
              refine E_iload dX11_reaches_136 rfl ?_
              refine E_ialdN dX11_reaches_138 rfl (by omega) (by decide) (hq2.1 _ hnx) ?_
              refine E_if_geO (t := 170) dX11_reaches_139 (by decide) (fun d hd => by have := hdl _ d hd; omega) (fun c139 => ?_) (fun c139 => ?_)
              · skip
                have hv : σ' = vis (dOf (bfN (sux T but un w) f k) s + 1) σ' (nxt T a s) := by unfold vis; rw [if_neg c139]
                refine E_iincN (b := 1) dX11_reaches_170 rfl rfl (by decide) rfl ?_
                refine E_goto (t := 64) dX11_reaches_173 (by decide) ?_
                first | exact ihI (a + 1) σ' M2 _ _ (by rw [rng_fm, hF, Option.toList, List.append_nil]; exact hσ) (by omega) (by omega) hS2 hq2 | exact ihI (a + 1) σ' M2 _ _ (by rw [rng_fm, hF, List.foldl_append, ← hσ]; exact hv) (by omega) (by omega) hS2 hq2 | exact (hv ▸ ihI (a + 1) (vis (dOf (bfN (sux T but un w) f k) s + 1) σ' (nxt T a s)) _ _ _ (by rw [rng_fm, hF, List.foldl_append, ← hσ]; rfl) (by omega) (by omega) ((hS2.tr (Sb.i (by decide))).tr (Sb.i (by decide))) (Rq_vis hI2 hq2 hnx c139))
              · skip
                have hv : (vis (dOf (bfN (sux T but un w) f k) s + 1) σ' (nxt T a s)).1.length = σ'.1.length + 1 := by unfold vis; rw [if_pos c139]; simp
                refine E_aload_n dX11_reaches_142 rfl ?_
                refine E_getR' (ci := 11) (j := 18) (p := 73) dX11_reaches_143 fkX11_44 rfl (by decide) rfl (by decide) (rfl) ?_
                refine E_iload dX11_reaches_146 rfl ?_
                refine E_aload_n dX11_reaches_148 rfl ?_
                refine E_getR' (ci := 11) (j := 18) (p := 73) dX11_reaches_149 fkX11_44 rfl (by decide) rfl (by decide) (rfl) ?_
                refine E_iload dX11_reaches_152 rfl ?_
                refine E_ialdN dX11_reaches_154 rfl (by omega) (by decide) ((by rw [hq2.1 s hs24, hds, oI_s])) ?_
                refine E_iconst (v := nI 1) dX11_reaches_155 rfl ?_
                refine E_iaddN dX11_reaches_156 ?_
                refine E_iastN dX11_reaches_157 rfl (by omega) (by decide) ?_
                refine E_aload_n dX11_reaches_158 rfl ?_
                refine E_getR' (ci := 11) (j := 19) (p := 74) dX11_reaches_159 fkX11_47 rfl (by decide) rfl (by decide) (rfl) ?_
                refine E_iload dX11_reaches_162 rfl ?_
                refine E_iload dX11_reaches_164 rfl ?_
                refine E_iastN dX11_reaches_166 rfl (by have h5 := nodup_len 1024 _ (bInv_vis (d := 0) (t := nxt T a s) hI2 hnx).1 (bInv_vis (d := 0) hI2 hnx).2.2; unfold vis at h5; rw [if_pos c139] at h5; rw [List.length_append] at h5; have : [nxt T a s].length = 1 := rfl; omega) (by decide) ?_
                refine E_iincN (b := 1) dX11_reaches_167 rfl rfl (by decide) rfl ?_
                refine E_iincN (b := 1) dX11_reaches_170 rfl rfl (by decide) rfl ?_
                refine E_goto (t := 64) dX11_reaches_173 (by decide) ?_
                first | exact ihI (a + 1) σ' M2 _ _ (by rw [rng_fm, hF, Option.toList, List.append_nil]; exact hσ) (by omega) (by omega) hS2 hq2 | exact ihI (a + 1) σ' M2 _ _ (by rw [rng_fm, hF, List.foldl_append, ← hσ]; exact hv) (by omega) (by omega) hS2 hq2 | exact (hv ▸ ihI (a + 1) (vis (dOf (bfN (sux T but un w) f k) s + 1) σ' (nxt T a s)) _ _ _ (by rw [rng_fm, hF, List.foldl_append, ← hσ]; rfl) (by omega) (by omega) ((hS2.tr (Sb.i (by decide))).tr (Sb.i (by decide))) (Rq_vis hI2 hq2 hnx c139))
          refine E_iload dX11_reaches_64 rfl ?_
          refine E_aload_n dX11_reaches_66 rfl ?_
          refine E_getI' (ci := 11) (j := 0) dX11_reaches_67 fkX11_85 rfl (by decide) rfl (by decide) (rm_many hR2) ?_
          refine E_icmp_geN (t := 176) dX11_reaches_70 (by decide) (by omega) (by omega) (fun c70 => ?_) (fun c70 => ?_)
          · skip
            have ha2 : a = T 61 0 := by omega
            have hB : bfN (sux T but un w) f (k + 1) = σ' := by rw [hσ, ha2, bfN, hs]; rfl
            refine E_iincN (b := 1) dX11_reaches_176 rfl rfl (by decide) rfl ?_
            refine E_goto (t := 45) dX11_reaches_179 (by decide) ?_
            rw [← hB] at hkl2 hq2 ⊢
            exact ihO (k + 1) M2 _ _ _ _ (by omega) (by omega) hS2 hq2
          · skip
            refine E_iload dX11_reaches_73 rfl ?_
            refine E_iload_n dX11_reaches_75 rfl ?_
            refine E_icmp_eqNO (t := 114) dX11_reaches_76 (by decide) (by omega) (fun d hd => by have := hbut d hd; omega) (fun c76 => ?_) (fun c76 => ?_)
            · skip
              refine E_iconst (v := nI 0) dX11_reaches_114 rfl ?_
              refine E_top ?_ (J c70)
              first | (apply nI0_b; simp [okA, c76]; done) | (apply nI0_b; simp [okA, c94]; done) | (apply nI0_b; simp [c107]; done) | (apply nI1_b; simp [okA, c76, c80, c107]; done) | (apply nI1_b; simp [okA, c76, c94, c107]; done)
            · skip
              refine E_iload_n dX11_reaches_79 rfl ?_
              refine E_if_ltO (t := 97) dX11_reaches_80 (by decide) (fun d hd => by have := hun d hd; omega) (fun c80 => ?_) (fun c80 => ?_)
              · skip
                refine E_aload_n dX11_reaches_97 rfl ?_
                refine E_iload dX11_reaches_98 rfl ?_
                refine E_iload dX11_reaches_100 rfl ?_
                refine E_iload dX11_reaches_102 rfl ?_
                refine E_callV (r := qX11_isOpen) (ci := 11) dX11_reaches_104 mkX11_105 voX11_isOpen rfl rfl rfl ⟨Nat.le_of_ble_eq_true rfl, Nat.le_of_ble_eq_true rfl, Nat.le_of_ble_eq_true rfl, Nat.le_of_ble_eq_true rfl⟩ (m_isOpen hR2 c70 hs24 hw) rfl (Nat.le_of_ble_eq_true rfl) ?_
                rintro _ _ ⟨rfl, rfl⟩
                refine E_if_eqB (t := 114) dX11_reaches_107 (by decide) (fun c107 => ?_) (fun c107 => ?_)
                · skip
                  refine E_iconst (v := nI 0) dX11_reaches_114 rfl ?_
                  refine E_top ?_ (J c70)
                  first | (apply nI0_b; simp [okA, c76]; done) | (apply nI0_b; simp [okA, c94]; done) | (apply nI0_b; simp [c107]; done) | (apply nI1_b; simp [okA, c76, c80, c107]; done) | (apply nI1_b; simp [okA, c76, c94, c107]; done)
                · skip
                  refine E_iconst (v := nI 1) dX11_reaches_110 rfl ?_
                  refine E_goto (t := 115) dX11_reaches_111 (by decide) ?_
                  refine E_top ?_ (J c70)
                  first | (apply nI0_b; simp [okA, c76]; done) | (apply nI0_b; simp [okA, c94]; done) | (apply nI0_b; simp [c107]; done) | (apply nI1_b; simp [okA, c76, c80, c107]; done) | (apply nI1_b; simp [okA, c76, c94, c107]; done)
              · skip
                obtain ⟨mu, hmu⟩ := Option.ne_none_iff_exists'.mp c80
                have hmu6 := hun mu hmu
                subst hmu
                refine E_aload_n dX11_reaches_83 rfl ?_
                refine E_getR' (ci := 11) (j := 10) (p := 68) dX11_reaches_84 fkX11_28 rfl (by decide) rfl (by decide) (rfl) ?_
                refine E_iload dX11_reaches_87 rfl ?_
                refine E_ialdN dX11_reaches_89 rfl (by omega) (by decide) (rm_lays hR2 c70) ?_
                refine E_iload_n dX11_reaches_90 rfl ?_
                refine E_callS (r := qX11_has) dX11_reaches_91 mkX11_94 toX11_has rfl ⟨Nat.le_of_ble_eq_true rfl, Nat.le_of_ble_eq_true rfl, Nat.le_of_ble_eq_true rfl, Nat.le_of_ble_eq_true rfl⟩ (m_has (j := mu) (by omega)) rfl (Nat.le_of_ble_eq_true rfl) ?_
                rintro _ _ ⟨rfl, rfl⟩
                refine E_if_neB (t := 114) dX11_reaches_94 (by decide) (fun c94 => ?_) (fun c94 => ?_)
                · skip
                  refine E_iconst (v := nI 0) dX11_reaches_114 rfl ?_
                  refine E_top ?_ (J c70)
                  first | (apply nI0_b; simp [okA, c76]; done) | (apply nI0_b; simp [okA, c94]; done) | (apply nI0_b; simp [c107]; done) | (apply nI1_b; simp [okA, c76, c80, c107]; done) | (apply nI1_b; simp [okA, c76, c94, c107]; done)
                · skip
                  refine E_aload_n dX11_reaches_97 rfl ?_
                  refine E_iload dX11_reaches_98 rfl ?_
                  refine E_iload dX11_reaches_100 rfl ?_
                  refine E_iload dX11_reaches_102 rfl ?_
                  refine E_callV (r := qX11_isOpen) (ci := 11) dX11_reaches_104 mkX11_105 voX11_isOpen rfl rfl rfl ⟨Nat.le_of_ble_eq_true rfl, Nat.le_of_ble_eq_true rfl, Nat.le_of_ble_eq_true rfl, Nat.le_of_ble_eq_true rfl⟩ (m_isOpen hR2 c70 hs24 hw) rfl (Nat.le_of_ble_eq_true rfl) ?_
                  rintro _ _ ⟨rfl, rfl⟩
                  refine E_if_eqB (t := 114) dX11_reaches_107 (by decide) (fun c107 => ?_) (fun c107 => ?_)
                  · skip
                    refine E_iconst (v := nI 0) dX11_reaches_114 rfl ?_
                    refine E_top ?_ (J c70)
                    first | (apply nI0_b; simp [okA, c76]; done) | (apply nI0_b; simp [okA, c94]; done) | (apply nI0_b; simp [c107]; done) | (apply nI1_b; simp [okA, c76, c80, c107]; done) | (apply nI1_b; simp [okA, c76, c94, c107]; done)
                  · skip
                    refine E_iconst (v := nI 1) dX11_reaches_110 rfl ?_
                    refine E_goto (t := 115) dX11_reaches_111 (by decide) ?_
                    refine E_top ?_ (J c70)
                    first | (apply nI0_b; simp [okA, c76]; done) | (apply nI0_b; simp [okA, c94]; done) | (apply nI0_b; simp [c107]; done) | (apply nI1_b; simp [okA, c76, c80, c107]; done) | (apply nI1_b; simp [okA, c76, c94, c107]; done)
      refine E_iload dX11_reaches_45 rfl ?_
      refine E_iload dX11_reaches_47 rfl ?_
      refine E_icmp_geN (t := 182) dX11_reaches_49 (by decide) (by omega) (by omega) (fun c49 => ?_) (fun c49 => ?_)
      · skip
        refine E_iload dX11_reaches_182 rfl ?_
        refine E_iret dX11_reaches_184 rfl ?_
        have hb : bfs (sux T but un w) f 1024 = bfN (sux T but un w) f k := bfs_at (by omega) c49
        exact ⟨by rw [hb], hS, fun t ht => by rw [hb]; exact hq.1 t ht⟩
      · skip
        obtain ⟨s, hs⟩ : ∃ s, (bfN (sux T but un w) f k).1[k]? = some s := ⟨_, List.getElem?_eq_getElem c49⟩
        refine E_aload_n dX11_reaches_52 rfl ?_
        refine E_getR' (ci := 11) (j := 19) (p := 74) dX11_reaches_53 fkX11_47 rfl (by decide) rfl (by decide) (rfl) ?_
        refine E_iload dX11_reaches_56 rfl ?_
        refine E_ialdN dX11_reaches_58 rfl (by omega) (by decide) ((by rw [hq.2 k c49, getD_of hs])) ?_
        refine E_istore dX11_reaches_59 (by decide) rfl ?_
        refine E_iconst (v := nI 0) dX11_reaches_61 rfl ?_
        refine E_istore dX11_reaches_62 (by decide) rfl ?_
        exact LI s hs (T 61 0 + 1) 0 _ M1 _ _ rfl (by omega) (by omega) hS hq
  have L1 : ∀ (n i : Nat) (M1 : AM) (y6 y7 y8 y9 y10 : Option Value), i ≤ 1024 → 1024 < i + n → Sb [73, 74] M M1 → (∀ t, t < i → M1.1 73 t = -1) → Ex g qX11_reaches (tm g qX11_reaches (fun v M' => v = some (.int (nI (bfs (sux T but un w) f 1024).1.length)) ∧ Sb [73, 74] M M' ∧ ∀ t, t < 1024 → M'.1 73 t = oI ((bfs (sux T but un w) f 1024).2 t))) 3 [some (.ref 61), some (.int (nI f)), some (.int (oI but)), some (.int (oI un)), some (.int (oI w)), some (.int (nI i)), y6, y7, y8, y9, y10] [] M1 := by
    intro n
    induction n with
    | zero => intro i M1 y6 y7 y8 y9 y10 h1 h2; exact absurd h2 (by omega)
    | succ n ih =>
      intro i M1 y6 y7 y8 y9 y10 hi hn hS hm
      refine E_iload dX11_reaches_3 rfl ?_
      refine E_sipush (v := nI 1024) dX11_reaches_5 rfl ?_
      refine E_icmp_geN (t := 25) dX11_reaches_8 (by decide) (by omega) (by omega) (fun c8 => ?_) (fun c8 => ?_)
      · skip
        refine E_aload_n dX11_reaches_25 rfl ?_
        refine E_getR' (ci := 11) (j := 18) (p := 73) dX11_reaches_26 fkX11_44 rfl (by decide) rfl (by decide) (rfl) ?_
        refine E_iload_n dX11_reaches_29 rfl ?_
        refine E_iconst (v := nI 0) dX11_reaches_30 rfl ?_
        refine E_iastN dX11_reaches_31 rfl (by omega) (by decide) ?_
        refine E_aload_n dX11_reaches_32 rfl ?_
        refine E_getR' (ci := 11) (j := 19) (p := 74) dX11_reaches_33 fkX11_47 rfl (by decide) rfl (by decide) (rfl) ?_
        refine E_iconst (v := nI 0) dX11_reaches_36 rfl ?_
        refine E_iload_n dX11_reaches_37 rfl ?_
        refine E_iastN dX11_reaches_38 rfl (by omega) (by decide) ?_
        refine E_iconst (v := nI 1) dX11_reaches_39 rfl ?_
        refine E_istore dX11_reaches_40 (by decide) rfl ?_
        refine E_iconst (v := nI 0) dX11_reaches_42 rfl ?_
        refine E_istore dX11_reaches_43 (by decide) rfl ?_
        refine LO 1025 0 _ _ _ _ _ (Nat.zero_le _) (by omega) ((hS.tr (Sb.i (by decide))).tr (Sb.i (by decide))) ⟨fun t ht => ?_, fun j hj => ?_⟩
        · rw [sI_get, if_neg (by omega), sI_get]; show _ = oI (if t = f then some 0 else none); by_cases h5 : t = f; rw [if_pos ⟨rfl, h5⟩, if_pos h5]; rfl; rw [if_neg (fun e => h5 e.2), if_neg h5]; exact hm t (by omega)
        · have h6 : j < 1 := hj; have h7 : j = 0 := by omega
          rw [sI_get, h7, if_pos ⟨rfl, rfl⟩]; rfl
      · skip
        refine E_aload_n dX11_reaches_11 rfl ?_
        refine E_getR' (ci := 11) (j := 18) (p := 73) dX11_reaches_12 fkX11_44 rfl (by decide) rfl (by decide) (rfl) ?_
        refine E_iload dX11_reaches_15 rfl ?_
        refine E_iconst (v := -1) dX11_reaches_17 rfl ?_
        refine E_iastN dX11_reaches_18 rfl (by omega) (by decide) ?_
        refine E_iincN (b := 1) dX11_reaches_19 rfl rfl (by decide) rfl ?_
        refine E_goto (t := 3) dX11_reaches_22 (by decide) ?_
        exact ih (i + 1) _ _ _ _ _ _ (by omega) (by omega) (hS.tr (Sb.i (by decide))) (fun t ht => by rw [sI_get]; by_cases h5 : t = i; rw [if_pos ⟨rfl, h5⟩]; rw [if_neg (fun e => h5 e.2)]; exact hm t (by omega))
  refine Call_of (ls0 := [some (.ref 61), some (.int (nI f)), some (.int (oI but)), some (.int (oI un)), some (.int (oI w)), none, none, none, none, none, none]) rfl rfl (Nat.le_of_ble_eq_true rfl) ?_
  refine E_iconst (v := nI 0) dX11_reaches_0 rfl ?_
  refine E_istore dX11_reaches_1 (by decide) rfl ?_
  exact L1 1025 0 M _ _ _ _ _ (by omega) (by omega) Sb.rf (fun t ht => absurd ht (Nat.not_lt_zero t))
end M3
