-- the model: readsAnswer
section ADs
variable {P : TK} {l : Nat}
theorem ad_m : adA P l 61 0 = P 61 0 + 1 := by unfold adA; rw [upT_at]
theorem ad_6 {j : Nat} (hj : j ≠ 0) : adA P l 61 j = P 61 j := by unfold adA; rw [upT_ne (fun e => hj e.2), upT_ne (by omega), upT_ne (by omega), upT_ne (by omega), upT_ne (by omega), upT_ne (by omega), upT_ne (by omega)]
theorem ad_o {k j : Nat} (hj : j ≠ P 61 0) (hk : k ≠ 61) : adA P l k j = P k j := by unfold adA; rw [upT_ne (fun e => hk e.1), upT_ne (fun e => hj e.2), upT_ne (fun e => hj e.2), upT_ne (fun e => hj e.2), upT_ne (fun e => hj e.2), upT_ne (fun e => hj e.2), upT_ne (fun e => hj e.2)]
theorem ad_r {k j : Nat} (hk : k = 66 ∨ k = 67 ∨ k = 70) : adA P l k j = P k j := by unfold adA; rw [upT_ne (by omega), upT_ne (by omega), upT_ne (by omega), upT_ne (by omega), upT_ne (by omega), upT_ne (by omega), upT_ne (by omega)]
theorem ad_62 : adA P l 62 (P 61 0) = l := by unfold adA; rw [upT_ne (by omega), upT_ne (by omega), upT_ne (by omega), upT_ne (by omega), upT_ne (by omega), upT_ne (by omega), upT_at]
theorem ad_63 : adA P l 63 (P 61 0) = l := by unfold adA; rw [upT_ne (by omega), upT_ne (by omega), upT_ne (by omega), upT_ne (by omega), upT_ne (by omega), upT_at]
theorem ad_z {k : Nat} (hk : k = 64 ∨ k = 65 ∨ k = 68 ∨ k = 69) : adA P l k (P 61 0) = 0 := by
  unfold adA
  rcases hk with e | e | e | e <;> subst e
  · rw [upT_ne (by omega), upT_ne (by omega), upT_ne (by omega), upT_ne (by omega), upT_at]
  · rw [upT_ne (by omega), upT_ne (by omega), upT_ne (by omega), upT_at]
  · rw [upT_ne (by omega), upT_ne (by omega), upT_at]
  · rw [upT_ne (by omega), upT_at]
/-- an answer more: what must stand where -/
theorem rp_ad {A : Nat → Nat → Nat × Nat} {M M' : AM} {D' : Nat → Nat → Prop} (h : RPd A (dom P) P M) (hD : ∀ k j, D' k j → dom (adA P l) k j) (ho : ∀ k j, dom P k j → ¬ (k = 61 ∧ j = 0) → M'.1 (A k j).1 (A k j).2 = M.1 (A k j).1 (A k j).2) (h0 : M'.1 (A 61 0).1 (A 61 0).2 = nI (P 61 0 + 1)) (h2 : M'.1 (A 62 (P 61 0)).1 (A 62 (P 61 0)).2 = nI l) (h3 : D' 63 (P 61 0) → M'.1 (A 63 (P 61 0)).1 (A 63 (P 61 0)).2 = nI l) (hz : ∀ k, k = 64 ∨ k = 65 ∨ k = 68 ∨ k = 69 → M'.1 (A k (P 61 0)).1 (A k (P 61 0)).2 = nI 0) : RPd A D' (adA P l) M' := by
  intro k j hd
  have hdm := hD k j hd
  refine ⟨(dom_b hdm).1, (dom_b hdm).2, ?_⟩
  have old : dom P k j → ¬ (k = 61 ∧ j = 0) → adA P l k j = P k j → M'.1 (A k j).1 (A k j).2 = nI (adA P l k j) := fun h1 h2 h3 => by rw [ho k j h1 h2, h3]; exact (h k j h1).2.2
  unfold dom at hdm
  rw [ad_m] at hdm
  rcases hdm with ⟨e, hj⟩ | ⟨hk, hj⟩ | ⟨hk, a, r, h5, h6, h7⟩
  · subst e
    by_cases e0 : j = 0
    · subst e0; rw [h0, ad_m]
    · exact old (Or.inl ⟨rfl, hj⟩) (fun e => e0 e.2) (ad_6 e0)
  · by_cases e : j = P 61 0
    · subst e
      rcases (show k = 62 ∨ k = 63 ∨ (k = 64 ∨ k = 65 ∨ k = 68 ∨ k = 69) by omega) with e | e | e
      · subst e; rw [h2, ad_62]
      · subst e; rw [h3 hd, ad_63]
      · rw [hz k e, ad_z e]
    · exact old (Or.inr (Or.inl ⟨hk, by omega⟩)) (by omega) (ad_o e (by omega))
  · by_cases e : a = P 61 0
    · rw [e, ad_z (by omega)] at h6; exact absurd h6 (by omega)
    · rw [ad_o e (by decide)] at h6
      exact old (Or.inr (Or.inr ⟨hk, a, r, by omega, h6, h7⟩)) (by omega) (ad_r (by omega))
end ADs
section M23
variable {g : GG} {M : AM} {T P : TK} {p l : Nat}
set_option maxRecDepth 8000 in
theorem m_readsAnswer (hX : RT T M) (hP : RPm P M) (hl : l < 16) (hp : p < T 61 21) (hc : T 75 p = 62) (hth : P 61 1 ≠ 0) : Call g qX11_readsAnswer [.ref 61, .int (nI l)] (AB M p 0) (PO T (rn T p (1, l, P)) 2 l (fun P' q => p ≤ q ∧ (q < T 61 21 → T 75 q ≠ 32) ∧ P' 61 1 ≠ 0) M) := by
  have hsz := hX.1.1
  have h32 : P 61 0 ≤ 32 := hP.2.1.1
  have h28 : M.1 61 28 = nI (P 61 0) := (hP.1 61 0 (Or.inl ⟨rfl, by decide⟩)).2.2
  have h29 : M.1 61 29 = nI (P 61 1) := (hP.1 61 1 (Or.inl ⟨rfl, by decide⟩)).2.2
  have h31 : M.1 61 31 = nI (P 61 3) := (hP.1 61 3 (Or.inl ⟨rfl, by decide⟩)).2.2
  have J188 : ∀ (M1 : AM) (q b : Nat) (y3 : Option Value), PF M M1 → FL T (rn T p (1, l, P)) q b → Ex g qX11_readsAnswer (tm g qX11_readsAnswer (PO T (rn T p (1, l, P)) 2 l (fun P' q => p ≤ q ∧ (q < T 61 21 → T 75 q ≠ 32) ∧ P' 61 1 ≠ 0) M)) 167 [some (.ref 61), some (.int (nI l)), some (.int (nI (P 61 0))), y3] [] (AB M1 q b) := by
    intro M1 q b y3 hF hL
    have hb4 := hL.2.1
    refine E_aload_n dX11_readsAnswer_167 rfl ?_
    refine E_getI' (ci := 11) (j := 24) dX11_readsAnswer_168 fkX11_139 rfl (by decide) rfl (by decide) (ab_24) ?_
    refine E_if_neN (t := 188) dX11_readsAnswer_171 (by decide) (by omega) (fun c171 => ?_) (fun c171 => ?_)
    · skip
      refine E_vret dX11_readsAnswer_188 rfl ?_
      exact ⟨rfl, _, q, b, rfl, hF, Or.inr hL⟩
    · skip
      exact absurd c171 hL.1
  have J167 : ∀ (M1 : AM) (P1 : TK) (q : Nat) (y3 : Option Value), PF M M1 → RPm P1 M1 → P1 61 0 = P 61 0 + 1 → P1 61 1 ≠ 0 → p ≤ q → q ≤ T 61 21 → rn T q (10, l, P1) = (rn T p (1, l, P)) → Ex g qX11_readsAnswer (tm g qX11_readsAnswer (PO T (rn T p (1, l, P)) 2 l (fun P' q => p ≤ q ∧ (q < T 61 21 → T 75 q ≠ 32) ∧ P' 61 1 ≠ 0) M)) 167 [some (.ref 61), some (.int (nI l)), some (.int (nI (P 61 0))), y3] [] (AB M1 q 0) := by
    intro M1 P1 q0 y3 hF hP1 hm1 hth1 hpq hq hrn
    have hX1 := rt_pf hX hF
    have K1 : ∀ (q : Nat) (M2 : AM) (q3 b3 : Nat), SK T q0 q → PF M1 M2 → ((b3 = 0 ∧ q3 ≤ T 61 21 ∧ ∃ P2, RPm P2 M2 ∧ rn T q3 (2, l, P2) = rn T q (10, l, P1) ∧ q ≤ q3 ∧ (q3 < T 61 21 → T 75 q3 ≠ 32) ∧ P2 61 1 = P1 61 1) ∨ FL T (rn T q (10, l, P1)) q3 b3) → (PO T (rn T p (1, l, P)) 2 l (fun P' q => p ≤ q ∧ (q < T 61 21 → T 75 q ≠ 32) ∧ P' 61 1 ≠ 0) M) none (AB M2 q3 b3) := by
      intro q M2 q3 b3 hk hF2 hr2
      rw [hk.2.2.2.1, hrn] at hr2
      rcases hr2 with ⟨rfl, h1, P2, h2, h3, h4, h5, h6⟩ | hL
      · exact ⟨rfl, M2, q3, 0, rfl, hF.tr hF2, Or.inl ⟨rfl, h1, P2, h2, h3, by have := hk.1; omega, h5, by rw [h6]; exact hth1⟩⟩
      · exact ⟨rfl, M2, q3, b3, rfl, hF.tr hF2, Or.inr hL⟩
    have K2 : ∀ (q : Nat), SK T q0 q → ¬ (q < T 61 21 ∧ T 75 q = 33) → (PO T (rn T p (1, l, P)) 2 l (fun P' q => p ≤ q ∧ (q < T 61 21 → T 75 q ≠ 32) ∧ P' 61 1 ≠ 0) M) none (AB M1 q 0) := by
      intro q hk hno
      refine ⟨rfl, M1, q, 0, rfl, hF, Or.inl ⟨rfl, hk.2.1, P1, hP1, ?_, by have := hk.1; omega, hk.2.2.1, hth1⟩⟩
      rw [← hrn, ← hk.2.2.2.1]
      refine rn_sw (show (2 : Nat) ≠ 0 by decide) (show (10 : Nat) ≠ 0 by decide) rfl hk.2.1 hk.2.2.1 (fun h => ?_)
      show pEnd (T 75 q) l P1 = pTen (T 75 q) l P1
      unfold pTen
      rw [if_neg (fun e => hno ⟨h, e⟩)]
    refine E_aload_n dX11_readsAnswer_167 rfl ?_
    refine E_getI' (ci := 11) (j := 24) dX11_readsAnswer_168 fkX11_139 rfl (by decide) rfl (by decide) (ab_24) ?_
    refine E_if_neN (t := 188) dX11_readsAnswer_171 (by decide) (by decide) (fun c171 => ?_) (fun c171 => ?_)
    · skip
      exact absurd c171 (by decide)
    · skip
      refine E_aload_n dX11_readsAnswer_174 rfl ?_
      refine E_callV (r := qX11_look) (ci := 11) dX11_readsAnswer_175 mkX11_142 voX11_look rfl rfl rfl ⟨Nat.le_of_ble_eq_true rfl, Nat.le_of_ble_eq_true rfl, Nat.le_of_ble_eq_true rfl, Nat.le_of_ble_eq_true rfl⟩ (m_look hX1 hq) rfl (Nat.le_of_ble_eq_true rfl) ?_
      rintro _ _ ⟨q, rfl, rfl, hk⟩
      refine E_bipush (v := nI 33) dX11_readsAnswer_178 rfl ?_
      refine E_icmp_ne (t := 188) dX11_readsAnswer_180 (by decide) (fun c180 => ?_) (fun c180 => ?_)
      · skip
        have hno : ¬ (q < T 61 21 ∧ T 75 q = 33) := fun e => c180 ((ch_eq hX.1 (by decide)).mpr e)
        refine E_vret dX11_readsAnswer_188 rfl ?_
        first | exact K1 q M2 q3 b3 hk hF2 hr2 | exact K2 q hk hno
      · skip
        obtain ⟨hqs, hqc⟩ := (ch_eq hX.1 (by decide)).mp c180
        refine E_aload_n dX11_readsAnswer_183 rfl ?_
        refine E_iload_n dX11_readsAnswer_184 rfl ?_
        refine E_callV (r := qX11_readsEffect) (ci := 11) dX11_readsAnswer_185 mkX11_190 voX11_readsEffect rfl rfl rfl ⟨Nat.le_of_ble_eq_true rfl, Nat.le_of_ble_eq_true rfl, Nat.le_of_ble_eq_true rfl, Nat.le_of_ble_eq_true rfl⟩ (m_readsEffect (lc := l) hX1 hP1 hm1 hqs hqc) rfl (Nat.le_of_ble_eq_true rfl) ?_
        rintro _ _ ⟨rfl, M2, q3, b3, rfl, hF2, hr2⟩
        refine E_vret dX11_readsAnswer_188 rfl ?_
        first | exact K1 q M2 q3 b3 hk hF2 hr2 | exact K2 q hk hno
  have J146b : ∀ (M1 : AM) (q b : Nat) (y3 : Option Value), PF M M1 → FL T (rn T p (1, l, P)) q b → Ex g qX11_readsAnswer (tm g qX11_readsAnswer (PO T (rn T p (1, l, P)) 2 l (fun P' q => p ≤ q ∧ (q < T 61 21 → T 75 q ≠ 32) ∧ P' 61 1 ≠ 0) M)) 146 [some (.ref 61), some (.int (nI l)), some (.int (nI (P 61 0))), y3] [] (AB M1 q b) := by
    intro M1 q b y3 hF hL
    have hb4 := hL.2.1
    refine E_aload_n dX11_readsAnswer_146 rfl ?_
    refine E_getI' (ci := 11) (j := 24) dX11_readsAnswer_147 fkX11_139 rfl (by decide) rfl (by decide) (ab_24) ?_
    refine E_if_neN (t := 167) dX11_readsAnswer_150 (by decide) (by omega) (fun c150 => ?_) (fun c150 => ?_)
    · skip
      exact J188 M1 q b _ hF hL
    · skip
      exact absurd c150 hL.1
  have J146 : ∀ (M1 : AM) (P1 : TK) (q : Nat) (y3 : Option Value), PF M M1 → RPm P1 M1 → P1 61 0 = P 61 0 + 1 → P1 65 (P 61 0) = 0 → P1 61 1 ≠ 0 → p ≤ q → q ≤ T 61 21 → rn T q (5, l, P1) = (rn T p (1, l, P)) → Ex g qX11_readsAnswer (tm g qX11_readsAnswer (PO T (rn T p (1, l, P)) 2 l (fun P' q => p ≤ q ∧ (q < T 61 21 → T 75 q ≠ 32) ∧ P' 61 1 ≠ 0) M)) 146 [some (.ref 61), some (.int (nI l)), some (.int (nI (P 61 0))), y3] [] (AB M1 q 0) := by
    intro M1 P1 q0 y3 hF hP1 hm1 h65 hth1 hpq hq hrn
    have hX1 := rt_pf hX hF
    have K1 : ∀ (q : Nat) (M2 : AM) (q3 b3 : Nat), SK T q0 q → PF M1 M2 → ((b3 = 0 ∧ q3 ≤ T 61 21 ∧ ∃ P2, RPm P2 M2 ∧ rn T q3 (10, l, P2) = rn T q (5, l, P1) ∧ P2 61 0 = P 61 0 + 1 ∧ q ≤ q3 ∧ (q3 < T 61 21 → T 75 q3 ≠ 32) ∧ P2 61 1 = P1 61 1) ∨ FL T (rn T q (5, l, P1)) q3 b3) → Ex g qX11_readsAnswer (tm g qX11_readsAnswer (PO T (rn T p (1, l, P)) 2 l (fun P' q => p ≤ q ∧ (q < T 61 21 → T 75 q ≠ 32) ∧ P' 61 1 ≠ 0) M)) 167 [some (.ref 61), some (.int (nI l)), some (.int (nI (P 61 0))), y3] [] (AB M2 q3 b3) := by
      intro q M2 q3 b3 hk hF2 hr2
      rw [hk.2.2.2.1, hrn] at hr2
      rcases hr2 with ⟨rfl, h1, P2, h2, h3, h4, h5, h6, h7⟩ | hL
      · exact J167 M2 P2 q3 _ (hF.tr hF2) h2 h4 (by rw [h7]; exact hth1) (by have := hk.1; omega) h1 h3
      · exact J188 M2 q3 b3 _ (hF.tr hF2) hL
    have K2 : ∀ (q : Nat), SK T q0 q → ¬ (q < T 61 21 ∧ T 75 q = 63) → Ex g qX11_readsAnswer (tm g qX11_readsAnswer (PO T (rn T p (1, l, P)) 2 l (fun P' q => p ≤ q ∧ (q < T 61 21 → T 75 q ≠ 32) ∧ P' 61 1 ≠ 0) M)) 167 [some (.ref 61), some (.int (nI l)), some (.int (nI (P 61 0))), y3] [] (AB M1 q 0) := by
      intro q hk hno
      refine J167 M1 P1 q _ hF hP1 hm1 hth1 (by have := hk.1; omega) hk.2.1 ?_
      rw [← hrn, ← hk.2.2.2.1]
      refine rn_sw (show (10 : Nat) ≠ 0 by decide) (show (5 : Nat) ≠ 0 by decide) rfl hk.2.1 hk.2.2.1 (fun h => ?_)
      show pTen (T 75 q) l P1 = pFive (T 75 q) l P1
      unfold pFive
      rw [if_neg (fun e => hno ⟨h, e⟩)]
    refine E_aload_n dX11_readsAnswer_146 rfl ?_
    refine E_getI' (ci := 11) (j := 24) dX11_readsAnswer_147 fkX11_139 rfl (by decide) rfl (by decide) (ab_24) ?_
    refine E_if_neN (t := 167) dX11_readsAnswer_150 (by decide) (by decide) (fun c150 => ?_) (fun c150 => ?_)
    · skip
      exact absurd c150 (by decide)
    · skip
      refine E_aload_n dX11_readsAnswer_153 rfl ?_
      refine E_callV (r := qX11_look) (ci := 11) dX11_readsAnswer_154 mkX11_142 voX11_look rfl rfl rfl ⟨Nat.le_of_ble_eq_true rfl, Nat.le_of_ble_eq_true rfl, Nat.le_of_ble_eq_true rfl, Nat.le_of_ble_eq_true rfl⟩ (m_look hX1 hq) rfl (Nat.le_of_ble_eq_true rfl) ?_
      rintro _ _ ⟨q, rfl, rfl, hk⟩
      refine E_bipush (v := nI 63) dX11_readsAnswer_157 rfl ?_
      refine E_icmp_ne (t := 167) dX11_readsAnswer_159 (by decide) (fun c159 => ?_) (fun c159 => ?_)
      · skip
        have hno : ¬ (q < T 61 21 ∧ T 75 q = 63) := fun e => c159 ((ch_eq hX.1 (by decide)).mpr e)
        first | exact K1 q M2 q3 b3 hk hF2 hr2 | exact K2 q hk hno
      · skip
        obtain ⟨hqs, hqc⟩ := (ch_eq hX.1 (by decide)).mp c159
        refine E_aload_n dX11_readsAnswer_162 rfl ?_
        refine E_iload_n dX11_readsAnswer_163 rfl ?_
        refine E_callV (r := qX11_readsGuard) (ci := 11) dX11_readsAnswer_164 mkX11_187 voX11_readsGuard rfl rfl rfl ⟨Nat.le_of_ble_eq_true rfl, Nat.le_of_ble_eq_true rfl, Nat.le_of_ble_eq_true rfl, Nat.le_of_ble_eq_true rfl⟩ (m_readsGuard (lc := l) hX1 hP1 hm1 h65 hqs hqc) rfl (Nat.le_of_ble_eq_true rfl) ?_
        rintro _ _ ⟨rfl, M2, q3, b3, rfl, hF2, hr2⟩
        first | exact K1 q M2 q3 b3 hk hF2 hr2 | exact K2 q hk hno
  have J94b : ∀ (M1 : AM) (q b : Nat) (y3 : Option Value), PF M M1 → FL T (rn T p (1, l, P)) q b → Ex g qX11_readsAnswer (tm g qX11_readsAnswer (PO T (rn T p (1, l, P)) 2 l (fun P' q => p ≤ q ∧ (q < T 61 21 → T 75 q ≠ 32) ∧ P' 61 1 ≠ 0) M)) 94 [some (.ref 61), some (.int (nI l)), some (.int (nI (P 61 0))), y3] [] (AB M1 q b) := by
    intro M1 q b y3 hF hL
    have hb4 := hL.2.1
    refine E_aload_n dX11_readsAnswer_94 rfl ?_
    refine E_getI' (ci := 11) (j := 24) dX11_readsAnswer_95 fkX11_139 rfl (by decide) rfl (by decide) (ab_24) ?_
    refine E_if_neN (t := 146) dX11_readsAnswer_98 (by decide) (by omega) (fun c98 => ?_) (fun c98 => ?_)
    · skip
      exact J146b M1 q b _ hF hL
    · skip
      exact absurd c98 hL.1
  have J94 : P 61 0 < 32 → ∀ (M1 : AM) (P1 : TK) (q : Nat) (y3 : Option Value), PF M M1 → RPm P1 M1 → P1 61 0 = P 61 0 + 1 → P1 65 (P 61 0) = 0 → P1 61 1 ≠ 0 → p ≤ q → q ≤ T 61 21 → rn T q (4, l, P1) = (rn T p (1, l, P)) → Ex g qX11_readsAnswer (tm g qX11_readsAnswer (PO T (rn T p (1, l, P)) 2 l (fun P' q => p ≤ q ∧ (q < T 61 21 → T 75 q ≠ 32) ∧ P' 61 1 ≠ 0) M)) 94 [some (.ref 61), some (.int (nI l)), some (.int (nI (P 61 0))), y3] [] (AB M1 q 0) := by
    intro hm32 M1 P1 q0 y3 hF hP1 hm1 h65 hth1 hpq hq hrn
    have hX1 := rt_pf hX hF
    have K1 : ∀ (q : Nat), SK T q0 q → q < T 61 21 → 48 ≤ T 75 q → T 75 q ≤ 57 → Ex g qX11_readsAnswer (tm g qX11_readsAnswer (PO T (rn T p (1, l, P)) 2 l (fun P' q => p ≤ q ∧ (q < T 61 21 → T 75 q ≠ 32) ∧ P' 61 1 ≠ 0) M)) 146 [some (.ref 61), some (.int (nI l)), some (.int (nI (P 61 0))), y3] [] (AB (sI M1 76 (6 * P 61 0 + 2) (nI (T 75 q - 48))) (q + 1) 0) := by
      intro q hk hqs h1 h2
      have hst : pStp (T 75 q) (4, l, P1) = (0, 5, l, upT P1 64 (P 61 0) (T 75 q - 48)) := by
        show (if dgC (T 75 q) = true then (0, 5, l, upT P1 64 (P1 61 0 - 1) (T 75 q - 48)) else _) = _
        rw [if_pos (by unfold dgC; rw [decide_eq_true_iff]; exact ⟨h1, h2⟩), hm1, Nat.add_sub_cancel]
      have hrn2 := rn_ok hqs (hk.2.2.1 hqs) hst
      rw [hk.2.2.2.1, hrn] at hrn2
      refine J146 _ (upT P1 64 (P 61 0) (T 75 q - 48)) (q + 1) _ (hF.i (by omega)) ⟨rp_set aM_inj hP1.1 (by decide) (by decide) (by omega) (by decide), wt_set hP1.2.1 (by decide) (by decide) (by decide) (by omega) (by omega) (fun _ => by omega) (by omega) (by omega) (by omega) (by omega), fun b => by rw [upT_ne (by omega)]; exact hP1.2.2 b⟩ (by rw [upT_ne (by omega)]; exact hm1) (by rw [upT_ne (by omega)]; exact h65) (by rw [upT_ne (by omega)]; exact hth1) (by have := hk.1; omega) (by omega) hrn2.symm
    have K2 : ∀ (q : Nat), SK T q0 q → ¬ (q < T 61 21 ∧ 48 ≤ T 75 q ∧ T 75 q ≤ 57) → Ex g qX11_readsAnswer (tm g qX11_readsAnswer (PO T (rn T p (1, l, P)) 2 l (fun P' q => p ≤ q ∧ (q < T 61 21 → T 75 q ≠ 32) ∧ P' 61 1 ≠ 0) M)) 146 [some (.ref 61), some (.int (nI l)), some (.int (nI (P 61 0))), y3] [] (AB M1 q 0) := by
      intro q hk hno
      refine J146 M1 P1 q _ hF hP1 hm1 h65 hth1 (by have := hk.1; omega) hk.2.1 ?_
      rw [← hrn, ← hk.2.2.2.1]
      refine rn_sw (show (5 : Nat) ≠ 0 by decide) (show (4 : Nat) ≠ 0 by decide) rfl hk.2.1 hk.2.2.1 (fun h => ?_)
      show pFive (T 75 q) l P1 = (if dgC (T 75 q) = true then _ else pFive (T 75 q) l P1)
      rw [if_neg (by unfold dgC; rw [decide_eq_true_iff]; exact fun e => hno ⟨h, e⟩)]
    refine E_aload_n dX11_readsAnswer_94 rfl ?_
    refine E_getI' (ci := 11) (j := 24) dX11_readsAnswer_95 fkX11_139 rfl (by decide) rfl (by decide) (ab_24) ?_
    refine E_if_neN (t := 146) dX11_readsAnswer_98 (by decide) (by decide) (fun c98 => ?_) (fun c98 => ?_)
    · skip
      exact absurd c98 (by decide)
    · skip
      refine E_aload_n dX11_readsAnswer_101 rfl ?_
      refine E_callV (r := qX11_look) (ci := 11) dX11_readsAnswer_102 mkX11_142 voX11_look rfl rfl rfl ⟨Nat.le_of_ble_eq_true rfl, Nat.le_of_ble_eq_true rfl, Nat.le_of_ble_eq_true rfl, Nat.le_of_ble_eq_true rfl⟩ (m_look hX1 hq) rfl (Nat.le_of_ble_eq_true rfl) ?_
      rintro _ _ ⟨q, rfl, rfl, hk⟩
      refine E_i2l dX11_readsAnswer_105 ?_
      refine E_ldc2 dX11_readsAnswer_106 clX11_183 ?_
      refine E_ldc2 dX11_readsAnswer_109 clX11_185 ?_
      refine E_callS (r := qX11_in) dX11_readsAnswer_112 mkX11_88 toX11_in rfl ⟨Nat.le_of_ble_eq_true rfl, Nat.le_of_ble_eq_true rfl, Nat.le_of_ble_eq_true rfl, Nat.le_of_ble_eq_true rfl⟩ (m_inI) rfl (Nat.le_of_ble_eq_true rfl) ?_
      rintro _ _ ⟨rfl, rfl⟩
      refine E_top (show _ = bI (inI (pChr T q) (48 : Nat) (57 : Nat)) from rfl) ?_
      refine E_if_eqB (t := 146) dX11_readsAnswer_115 (by decide) (fun c115 => ?_) (fun c115 => ?_)
      · skip
        rw [ch_in hX.1, decide_eq_false_iff_not] at c115
        first | exact K1 q hk c115.1 c115.2.1 c115.2.2 | exact K2 q hk c115
      · skip
        rw [ch_in hX.1, decide_eq_true_iff] at c115
        refine E_aload_n dX11_readsAnswer_118 rfl ?_
        refine E_getR' (ci := 11) (j := 25) (p := 76) dX11_readsAnswer_119 fkX11_53 rfl (by decide) rfl (by decide) (rfl) ?_
        refine E_bipush (v := nI 6) dX11_readsAnswer_122 rfl ?_
        refine E_iload_n dX11_readsAnswer_124 rfl ?_
        refine E_imulN dX11_readsAnswer_125 ?_
        refine E_iconst (v := nI 2) dX11_readsAnswer_126 rfl ?_
        refine E_iaddN dX11_readsAnswer_127 ?_
        refine E_aload_n dX11_readsAnswer_128 rfl ?_
        refine E_callV (r := qX11_look) (ci := 11) dX11_readsAnswer_129 mkX11_142 voX11_look rfl rfl rfl ⟨Nat.le_of_ble_eq_true rfl, Nat.le_of_ble_eq_true rfl, Nat.le_of_ble_eq_true rfl, Nat.le_of_ble_eq_true rfl⟩ (m_look hX1 hk.2.1) rfl (Nat.le_of_ble_eq_true rfl) ?_
        rintro _ _ ⟨q', rfl, rfl, hq'⟩
        obtain rfl : q = q' := (hq'.2.2.2.2 hk.2.2.1).symm
        rw [ch_p c115.1]
        refine E_bipush (v := nI 48) dX11_readsAnswer_132 rfl ?_
        refine E_isubN dX11_readsAnswer_134 (by omega) ?_
        refine E_iastN dX11_readsAnswer_135 rfl (by omega) (by decide) ?_
        refine E_mem (ab_s (by omega) (by omega)) ?_
        refine E_aload_n dX11_readsAnswer_136 rfl ?_
        refine E_dup dX11_readsAnswer_137 rfl ?_
        refine E_getI' (ci := 11) (j := 23) dX11_readsAnswer_138 fkX11_136 rfl (by decide) rfl (by decide) (ab_23) ?_
        refine E_iconst (v := nI 1) dX11_readsAnswer_141 rfl ?_
        refine E_iaddN dX11_readsAnswer_142 ?_
        refine E_putI (ci := 11) (j := 23) dX11_readsAnswer_143 fkX11_136 rfl (by decide) rfl (by decide) ?_
        refine E_mem ab_s23 ?_
        first | exact K1 q hk c115.1 c115.2.1 c115.2.2 | exact K2 q hk c115
  have L45 : P 61 0 < 32 → ∀ (n k : Nat) (M1 : AM), k ≤ 6 → 6 < k + n → PF M M1 → M1.1 61 28 = nI (P 61 0 + 1) → (∀ i j, ¬ (i = 61 ∧ j = 28) → ¬ (i = 76 ∧ 6 * P 61 0 ≤ j) → M1.1 i j = M.1 i j) → (∀ i, i < k → M1.1 76 (6 * P 61 0 + i) = nI 0) → Ex g qX11_readsAnswer (tm g qX11_readsAnswer (PO T (rn T p (1, l, P)) 2 l (fun P' q => p ≤ q ∧ (q < T 61 21 → T 75 q ≠ 32) ∧ P' 61 1 ≠ 0) M)) 45 [some (.ref 61), some (.int (nI l)), some (.int (nI (P 61 0))), some (.int (nI k))] [] (AB M1 (p + 1) 0) := by
    intro hm32 n
    induction n with
    | zero => intro k M1 h1 h2; exact absurd h2 (by omega)
    | succ n ih =>
      intro k M1 hk hn hF hm28 hold hz
      have hX1 := rt_pf hX hF
      have hst : pStp (T 75 p) (1, l, P) = (0, 3, l, adA P l) := by
        show (if T 75 p = 46 then _ else if T 75 p = 62 then (if 32 ≤ P 61 0 then _ else (0, 3, l, adA P l)) else _) = _
        rw [if_neg (by omega), if_pos hc, if_neg (by omega)]
      have hrn : rn T (p + 1) (3, l, adA P l) = (rn T p (1, l, P)) := (rn_ok hp (by omega) hst).symm
      have kok : 6 ≤ k → ∀ (q c : Nat) (y : Option Value), SK T (p + 1) q → c < 16 → q < T 61 21 → T 75 q = 97 + c → Ex g qX11_readsAnswer (tm g qX11_readsAnswer (PO T (rn T p (1, l, P)) 2 l (fun P' q => p ≤ q ∧ (q < T 61 21 → T 75 q ≠ 32) ∧ P' 61 1 ≠ 0) M)) 94 [some (.ref 61), some (.int (nI l)), some (.int (nI (P 61 0))), y] [] (AB (sI (lnM (sI M1 76 (6 * P 61 0) (nI l)) (adA P l 61 1) (adA P l 61 3) c) 76 (6 * P 61 0 + 1) (nI c)) (q + 1) 0) := by
        intro hk6 q c y hq hc16 hqs hqc
        have hst2 : pStp (T 75 q) (3, l, adA P l) = (0, 4, l, upT (nmL (adA P l) c) 63 (P 61 0) c) := by
          show (if lnC (T 75 q) = true then (0, 4, l, upT (nmL (adA P l) (T 75 q - 97)) 63 (adA P l 61 0 - 1) (T 75 q - 97)) else _) = _
          rw [if_pos (by unfold lnC; rw [decide_eq_true_iff]; omega), hqc, Nat.add_sub_cancel_left, ad_m, Nat.add_sub_cancel]
        have hrn2 := rn_ok hqs (hq.2.2.1 hqs) hst2
        rw [hq.2.2.2.1, hrn] at hrn2
        have hd : RPd aM (fun k j => dom (adA P l) k j ∧ ¬ (k = 63 ∧ j = P 61 0)) (adA P l) (sI M1 76 (6 * P 61 0) (nI l)) := by
          refine rp_ad hP.1 (fun k j h => h.1) (fun k j h1 h2 => ?_) ?_ ?_ (fun h => absurd ⟨rfl, rfl⟩ h.2) (fun k hk => ?_)
          · have hb := dom_b h1
            have ha : ¬ ((aM k j).1 = 76 ∧ 6 * P 61 0 ≤ (aM k j).2) ∧ ¬ ((aM k j).1 = 61 ∧ (aM k j).2 = 28) := by
              unfold dom at h1
              unfold aM
              rcases h1 with ⟨e, h1⟩ | ⟨e, h1⟩ | ⟨e, -⟩
              · subst e; simp; omega
              · rw [if_neg (by omega), if_neg (by omega), if_neg (by omega)]; split <;> simp <;> omega
              · rcases e with e | e <;> subst e <;> simp
            rw [sI_o (fun e => ha.1 ⟨e.1, by omega⟩)]
            exact hold _ _ ha.2 ha.1
          · show (sI M1 76 (6 * P 61 0) (nI l)).1 61 28 = _
            rw [sI_o (by omega)]; exact hm28
          · show (sI M1 76 (6 * P 61 0) (nI l)).1 76 (6 * P 61 0 + 0) = _
            rw [Nat.add_zero, sI_s]
          · have : (aM k (P 61 0)).1 = 76 ∧ ∃ i, 0 < i ∧ i < 6 ∧ (aM k (P 61 0)).2 = 6 * P 61 0 + i := by
              rcases hk with e | e | e | e <;> subst e
              · exact ⟨rfl, 2, by decide, by decide, rfl⟩
              · exact ⟨rfl, 3, by decide, by decide, rfl⟩
              · exact ⟨rfl, 4, by decide, by decide, rfl⟩
              · exact ⟨rfl, 5, by decide, by decide, rfl⟩
            obtain ⟨e1, i, e2, e3, e4⟩ := this
            rw [e1, e4, sI_o (by omega)]
            exact hz i (by omega)
        have hd2 := rp_up aM_inj (rp_up aM_inj (rp_up aM_inj hd (k := 61) (j := 3) (v := if adA P l 61 1 = 0 then c else adA P l 61 3) (by decide) (by decide)) (k := 61) (j := 1) (v := adA P l 61 1 ||| 2 ^ c) (by decide) (by decide)) (k := 63) (j := P 61 0) (v := c) (by decide) (by decide)
        have hw := wt_adA hP.2.1 hm32 hl hP.2.2
        have e1 : upT (nmL (adA P l) c) 63 (P 61 0) c 61 1 = P 61 1 ||| 2 ^ c := by unfold nmL; rw [upT_ne (by omega), upT_at, ad_6 (by decide)]
        refine J94 hm32 _ (upT (nmL (adA P l) c) 63 (P 61 0) c) (q + 1) _ ((((hF.i (by omega)).i (by omega)).i (by omega)).i (by omega)) ⟨rp_sub hd2 (fun k j h => ?_), wt_set (wt_nmL hw hc16) (by decide) (by decide) (by decide) (by omega) (fun _ => hc16) (by omega) (by omega) (by omega) (by omega) (by omega), fun b => ?_⟩ ?_ ?_ ?_ (by have := hq.1; omega) (by omega) hrn2.symm
        · by_cases e : k = 63 ∧ j = P 61 0
          · exact Or.inr e
          · have h5 := dom_up (by omega) (by decide) (dom_up (by omega) (by decide) (dom_up (by omega) (by decide) h))
            exact Or.inl (Or.inl (Or.inl ⟨h5, e⟩))
        · unfold nmL
          rw [upT_ne (by omega), upT_ne (by omega), upT_ne (by omega), ad_r (by omega)]
          exact hP.2.2 b
        · unfold nmL
          rw [upT_ne (by omega), upT_ne (by omega), upT_ne (by omega), ad_m]
        · unfold nmL
          rw [upT_ne (by omega), upT_ne (by omega), upT_ne (by omega), ad_z (by omega)]
        · rw [e1]
          intro e
          have := Nat.or_eq_zero_iff.mp e
          exact hth this.1
      have kbad : ∀ (q : Nat) (y : Option Value), SK T (p + 1) q → (q < T 61 21 → lnC (T 75 q) = false) → Ex g qX11_readsAnswer (tm g qX11_readsAnswer (PO T (rn T p (1, l, P)) 2 l (fun P' q => p ≤ q ∧ (q < T 61 21 → T 75 q ≠ 32) ∧ P' 61 1 ≠ 0) M)) 94 [some (.ref 61), some (.int (nI l)), some (.int (nI (P 61 0))), y] [] (AB (sI (sI M1 76 (6 * P 61 0) (nI l)) 76 (6 * P 61 0 + 1) (nI 0)) q 1) := by
        intro q y hq hno
        refine J94b _ q 1 _ ((hF.i (by omega)).i (by omega)) ?_
        rw [← hrn, ← hq.2.2.2.1]
        refine fl_1 hq.2.1 hq.2.2.1 (Or.inl (show (3 : Nat) ≠ 0 by decide)) (fun h => ?_)
        show (if lnC (T 75 q) = true then _ else pB 1 (adA P l)) = _
        rw [hno h]
        rfl
      refine E_iload_n dX11_readsAnswer_45 rfl ?_
      refine E_bipush (v := nI 6) dX11_readsAnswer_46 rfl ?_
      refine E_icmp_geN (t := 69) dX11_readsAnswer_48 (by decide) (by omega) (by omega) (fun c48 => ?_) (fun c48 => ?_)
      · skip
        have hX2 := rt_pf hX (hF.i (k := 76) (j := 6 * P 61 0) (x := nI l) (by omega))
        have i29 : (sI M1 76 (6 * P 61 0) (nI l)).1 61 29 = nI (adA P l 61 1) := by rw [sI_o (by omega), hold _ _ (by omega) (by omega), ad_6 (by decide)]; exact h29
        have i31 : (sI M1 76 (6 * P 61 0) (nI l)).1 61 31 = nI (adA P l 61 3) := by rw [sI_o (by omega), hold _ _ (by omega) (by omega), ad_6 (by decide)]; exact h31
        refine E_aload_n dX11_readsAnswer_69 rfl ?_
        refine E_getR' (ci := 11) (j := 25) (p := 76) dX11_readsAnswer_70 fkX11_53 rfl (by decide) rfl (by decide) (rfl) ?_
        refine E_bipush (v := nI 6) dX11_readsAnswer_73 rfl ?_
        refine E_iload_n dX11_readsAnswer_75 rfl ?_
        refine E_imulN dX11_readsAnswer_76 ?_
        refine E_iload_n dX11_readsAnswer_77 rfl ?_
        refine E_iastN dX11_readsAnswer_78 rfl (by omega) (by decide) ?_
        refine E_mem (ab_s (by omega) (by omega)) ?_
        refine E_aload_n dX11_readsAnswer_79 rfl ?_
        refine E_getR' (ci := 11) (j := 25) (p := 76) dX11_readsAnswer_80 fkX11_53 rfl (by decide) rfl (by decide) (rfl) ?_
        refine E_bipush (v := nI 6) dX11_readsAnswer_83 rfl ?_
        refine E_iload_n dX11_readsAnswer_85 rfl ?_
        refine E_imulN dX11_readsAnswer_86 ?_
        refine E_iconst (v := nI 1) dX11_readsAnswer_87 rfl ?_
        refine E_iaddN dX11_readsAnswer_88 ?_
        refine E_aload_n dX11_readsAnswer_89 rfl ?_
        refine E_callV (r := qX11_line) (ci := 11) dX11_readsAnswer_90 mkX11_180 voX11_line rfl rfl rfl ⟨Nat.le_of_ble_eq_true rfl, Nat.le_of_ble_eq_true rfl, Nat.le_of_ble_eq_true rfl, Nat.le_of_ble_eq_true rfl⟩ (m_line hX2 (by omega) i29 (by rw [ad_6 (by decide)]; exact hP.2.1.2.1) i31) rfl (Nat.le_of_ble_eq_true rfl) ?_
        rintro _ _ ⟨q, hq, ⟨c, hc16, hqs, hqc, rfl, rfl⟩ | ⟨hno, rfl, rfl⟩⟩
        · refine E_iastN dX11_readsAnswer_93 rfl (by omega) (by decide) ?_
          refine E_mem (ab_s (by omega) (by omega)) ?_
          exact kok c48 q c _ hq hc16 hqs hqc
        · refine E_iastN dX11_readsAnswer_93 rfl (by omega) (by decide) ?_
          refine E_mem (ab_s (by omega) (by omega)) ?_
          exact kbad q _ hq hno
      · skip
        refine E_aload_n dX11_readsAnswer_51 rfl ?_
        refine E_getR' (ci := 11) (j := 25) (p := 76) dX11_readsAnswer_52 fkX11_53 rfl (by decide) rfl (by decide) (rfl) ?_
        refine E_bipush (v := nI 6) dX11_readsAnswer_55 rfl ?_
        refine E_iload_n dX11_readsAnswer_57 rfl ?_
        refine E_imulN dX11_readsAnswer_58 ?_
        refine E_iload_n dX11_readsAnswer_59 rfl ?_
        refine E_iaddN dX11_readsAnswer_60 ?_
        refine E_iconst (v := nI 0) dX11_readsAnswer_61 rfl ?_
        refine E_iastN dX11_readsAnswer_62 rfl (by omega) (by decide) ?_
        refine E_mem (ab_s (by omega) (by omega)) ?_
        refine E_iincN (b := 1) dX11_readsAnswer_63 rfl rfl (by decide) rfl ?_
        refine E_goto (t := 45) dX11_readsAnswer_66 (by decide) ?_
        refine ih (k + 1) _ (by omega) (by omega) (hF.i (by omega)) (by rw [sI_o (by omega)]; exact hm28) (fun i j h1 h2 => by rw [sI_o (by omega)]; exact hold i j h1 h2) (fun i hi => ?_)
        by_cases e : i = k
        · rw [e, sI_s]
        · rw [sI_o (by omega)]; exact hz i (by omega)
  have J14b : P 61 0 < 32 → Ex g qX11_readsAnswer (tm g qX11_readsAnswer (PO T (rn T p (1, l, P)) 2 l (fun P' q => p ≤ q ∧ (q < T 61 21 → T 75 q ≠ 32) ∧ P' 61 1 ≠ 0) M)) 14 [some (.ref 61), some (.int (nI l)), none, none] [] (AB M p 0) := by
    intro hm32
    have hps : AB M (if psB T p 0 62 = 0 then p + 1 else p) (psB T p 0 62) = AB M (p + 1) 0 := by
      have : psB T p 0 62 = 0 := by unfold psB; rw [if_pos rfl, if_pos ⟨hp, hc⟩]
      rw [this]; rfl
    refine E_aload_n dX11_readsAnswer_14 rfl ?_
    refine E_bipush (v := nI 62) dX11_readsAnswer_15 rfl ?_
    refine E_callV (r := qX11_passes) (ci := 11) dX11_readsAnswer_17 mkX11_171 voX11_passes rfl rfl rfl ⟨Nat.le_of_ble_eq_true rfl, Nat.le_of_ble_eq_true rfl, Nat.le_of_ble_eq_true rfl, Nat.le_of_ble_eq_true rfl⟩ (m_passes hX (Nat.le_of_lt hp) (c := 62) (by decide) (by decide)) rfl (Nat.le_of_ble_eq_true rfl) ?_
    rintro _ _ ⟨q2, rfl, rfl, hk2⟩
    obtain rfl : p = q2 := (hk2.2.2.2.2 (fun _ => by rw [hc]; decide)).symm
    refine E_mem hps ?_
    refine E_aload_n dX11_readsAnswer_20 rfl ?_
    refine E_getI' (ci := 11) (j := 24) dX11_readsAnswer_21 fkX11_139 rfl (by decide) rfl (by decide) (ab_24) ?_
    refine E_if_leN (t := 28) dX11_readsAnswer_24 (by decide) (by decide) (fun c24 => ?_) (fun c24 => ?_)
    · skip
      refine E_aload_n dX11_readsAnswer_28 rfl ?_
      refine E_getI' (ci := 11) (j := 28) dX11_readsAnswer_29 fkX11_177 rfl (by decide) rfl (by decide) ((ab_o (by decide) (by decide)).trans h28) ?_
      refine E_ist_n (i := 2) dX11_readsAnswer_32 rfl (by decide) rfl ?_
      refine E_aload_n dX11_readsAnswer_33 rfl ?_
      refine E_dup dX11_readsAnswer_34 rfl ?_
      refine E_getI' (ci := 11) (j := 28) dX11_readsAnswer_35 fkX11_177 rfl (by decide) rfl (by decide) ((ab_o (by decide) (by decide)).trans h28) ?_
      refine E_iconst (v := nI 1) dX11_readsAnswer_38 rfl ?_
      refine E_iaddN dX11_readsAnswer_39 ?_
      refine E_putI (ci := 11) (j := 28) dX11_readsAnswer_40 fkX11_177 rfl (by decide) rfl (by decide) ?_
      refine E_mem (ab_s (by omega) (by omega)) ?_
      refine E_iconst (v := nI 0) dX11_readsAnswer_43 rfl ?_
      refine E_ist_n (i := 3) dX11_readsAnswer_44 rfl (by decide) rfl ?_
      exact L45 hm32 7 0 _ (by decide) (by decide) (PF.rf.i (by omega)) sI_s (fun i j h1 h2 => sI_o h1) (fun i hi => absurd hi (Nat.not_lt_zero i))
    · skip
      exact absurd c24 (by decide)
  have J14a : P 61 0 = 32 → Ex g qX11_readsAnswer (tm g qX11_readsAnswer (PO T (rn T p (1, l, P)) 2 l (fun P' q => p ≤ q ∧ (q < T 61 21 → T 75 q ≠ 32) ∧ P' 61 1 ≠ 0) M)) 14 [some (.ref 61), some (.int (nI l)), none, none] [] (AB M p 3) := by
    intro hm32
    refine E_aload_n dX11_readsAnswer_14 rfl ?_
    refine E_bipush (v := nI 62) dX11_readsAnswer_15 rfl ?_
    refine E_callV (r := qX11_passes) (ci := 11) dX11_readsAnswer_17 mkX11_171 voX11_passes rfl rfl rfl ⟨Nat.le_of_ble_eq_true rfl, Nat.le_of_ble_eq_true rfl, Nat.le_of_ble_eq_true rfl, Nat.le_of_ble_eq_true rfl⟩ (m_passes hX (Nat.le_of_lt hp) (c := 62) (by decide) (by decide)) rfl (Nat.le_of_ble_eq_true rfl) ?_
    rintro _ _ ⟨q2, rfl, rfl, hk2⟩
    obtain rfl : p = q2 := (hk2.2.2.2.2 (fun _ => by rw [hc]; decide)).symm
    refine E_mem (show _ = AB M p 3 from rfl) ?_
    refine E_aload_n dX11_readsAnswer_20 rfl ?_
    refine E_getI' (ci := 11) (j := 24) dX11_readsAnswer_21 fkX11_139 rfl (by decide) rfl (by decide) (ab_24) ?_
    refine E_if_leN (t := 28) dX11_readsAnswer_24 (by decide) (by decide) (fun c24 => ?_) (fun c24 => ?_)
    · skip
      exact absurd c24 (by decide)
    · skip
      refine E_vret dX11_readsAnswer_27 rfl ?_
      refine ⟨rfl, _, p, 3, rfl, PF.rf, Or.inr (fl_f (by decide) (by decide) hp (by omega) ?_)⟩
      show (if T 75 p = 46 then _ else if T 75 p = 62 then (if 32 ≤ P 61 0 then pB 3 P else _) else _) = _
      rw [if_neg (by omega), if_pos hc, if_pos (by omega)]
  refine Call_of (ls0 := [some (.ref 61), some (.int (nI l)), none, none]) rfl rfl (Nat.le_of_ble_eq_true rfl) ?_
  refine E_aload_n dX11_readsAnswer_0 rfl ?_
  refine E_getI' (ci := 11) (j := 28) dX11_readsAnswer_1 fkX11_177 rfl (by decide) rfl (by decide) ((ab_o (by decide) (by decide)).trans h28) ?_
  refine E_bipush (v := nI 32) dX11_readsAnswer_4 rfl ?_
  refine E_icmp_neN (t := 14) dX11_readsAnswer_6 (by decide) (by omega) (by omega) (fun c6 => ?_) (fun c6 => ?_)
  · skip
    first | exact J14a c6 | exact J14b (by omega)
  · skip
    refine E_aload_n dX11_readsAnswer_9 rfl ?_
    refine E_iconst (v := nI 3) dX11_readsAnswer_10 rfl ?_
    refine E_callV (r := qX11_wrong) (ci := 11) dX11_readsAnswer_11 mkX11_145 voX11_wrong rfl rfl rfl ⟨Nat.le_of_ble_eq_true rfl, Nat.le_of_ble_eq_true rfl, Nat.le_of_ble_eq_true rfl, Nat.le_of_ble_eq_true rfl⟩ (m_wrong (k := 3) (by decide)) rfl (Nat.le_of_ble_eq_true rfl) ?_
    rintro _ _ ⟨rfl, rfl⟩
    rw [if_pos rfl]
    first | exact J14a c6 | exact J14b (by omega)
end M23
