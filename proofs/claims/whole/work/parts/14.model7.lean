-- the model: loops, use, needs, must
def lpH (T : TK) (D : Nat → Option Nat) (s k a : Nat) : Option Nat := if (opn T a k 0 && nxt T a k == s) = true then (D k).map (· + 1) else none
def lpG (T : TK) (D : Nat → Option Nat) (s k : Nat) : Option Nat := omN (lpH T D s k) (T 61 0)
noncomputable def DS (T : TK) (s : Nat) : Nat → Option Nat := (bfs (sx0 T) s 1024).2
/-- the fewest answers from a state to itself -/
noncomputable def lpS (T : TK) (s : Nat) : Option Nat := omN (lpG T (DS T s) s) 1024
noncomputable def lnL (T : TK) (l : Nat) : Option Nat := omN (fun k => if (DT T (64 * l + k)).isSome = true then lpS T (64 * l + k) else none) 64
theorem DL_DS {T : TK} {s : Nat} : DL (DS T s) := by
  unfold DL DS
  exact dle_N
theorem lpH_le {T : TK} {D : Nat → Option Nat} (hD : DL D) {s k a m : Nat} (hm : lpH T D s k a = some m) : m ≤ 1025 := by
  unfold lpH at hm
  split at hm
  · cases hd : D k with
    | none => rw [hd] at hm; cases hm
    | some d =>
      rw [hd] at hm
      cases hm
      have := hD k d hd
      show d + 1 ≤ 1025
      omega
  · cases hm
theorem lpG_le {T : TK} {D : Nat → Option Nat} (hD : DL D) {s k m : Nat} (hm : lpG T D s k = some m) : m ≤ 1025 := omN_le (fun _ _ _ hx => lpH_le hD hx) hm
theorem lpS_le {T : TK} {s m : Nat} (hm : lpS T s = some m) : m ≤ 1025 := omN_le (fun _ _ _ hx => lpG_le DL_DS hx) hm
theorem omin_le {x y : Option Nat} {c : Nat} (hx : ∀ m, x = some m → m ≤ c) (hy : ∀ m, y = some m → m ≤ c) : ∀ m, omin x y = some m → m ≤ c := by
  intro m hm
  rcases (omin_spec.mp hm).1 with e | e
  · exact hx m e
  · exact hy m e
section M7
variable {g : GG} {M : AM} {T : TK} {D : Nat → Option Nat}
theorem m_loopOf (hR : RM T M) {s : Nat} (hs : s < 1024) : Call g qX11_loopOf [.ref 61, .int (nI s)] M (fun v M' => v = some (.int (oI (lpS T s))) ∧ Sb [73, 74] M M') := by
  have h32 := rm_32 hR
  have hT := rm_wt hR
  have h9 : ∀ (K m : Nat), (none : Option Nat) = some m → m < K := fun _ _ e => by cases e
  have L13 : ∀ (n k : Nat) (M1 : AM) (y4 y5 : Option Value), k ≤ 1024 → 1024 < k + n → Sb [73, 74] M M1 → RF (DS T s) M1 → Ex g qX11_loopOf (tm g qX11_loopOf (fun v M' => v = some (.int (oI (lpS T s))) ∧ Sb [73, 74] M M')) 13 [some (.ref 61), some (.int (nI s)), some (.int (oI (omN (lpG T (DS T s) s) k))), some (.int (nI k)), y4, y5] [] M1 := by
    intro n
    induction n with
    | zero => intro k M1 y4 y5 h1 h2; exact absurd h2 (by omega)
    | succ n ihK =>
      intro k M1 y4 y5 hk hn hS hF
      have hR1 := rm_sb hR hS (by decide)
      have hok : ∀ m, omN (lpG T (DS T s) s) k = some m → m ≤ 1025 := fun m hm => omN_le (fun _ _ _ hx => lpG_le DL_DS hx) hm
      have L23 : k < 1024 → ∀ (j a : Nat) (y5 : Option Value), a ≤ T 61 0 → T 61 0 < a + j → Ex g qX11_loopOf (tm g qX11_loopOf (fun v M' => v = some (.int (oI (lpS T s))) ∧ Sb [73, 74] M M')) 23 [some (.ref 61), some (.int (nI s)), some (.int (oI (omin (omN (lpG T (DS T s) s) k) (omN (lpH T (DS T s) s k) a)))), some (.int (nI k)), some (.int (nI a)), y5] [] M1 := by
        intro hk2 j
        induction j with
        | zero => intro a y5 h1 h2; exact absurd h2 (by omega)
        | succ j ihA =>
          intro a y5 ha hj
          have hoa : ∀ m, omN (lpH T (DS T s) s k) a = some m → m ≤ 1025 := fun m hm => omN_le (fun _ _ _ hx => lpH_le DL_DS hx) hm
          have hac := omin_le hok hoa
          have hst : omin (omN (lpG T (DS T s) s) k) (omN (lpH T (DS T s) s k) (a + 1)) = omin (omin (omN (lpG T (DS T s) s) k) (omN (lpH T (DS T s) s k) a)) (lpH T (DS T s) s k a) := by rw [omN, omin_assoc]
          refine E_iload dX11_loopOf_23 rfl ?_
          refine E_aload_n dX11_loopOf_25 rfl ?_
          refine E_getI' (ci := 11) (j := 0) dX11_loopOf_26 fkX11_85 rfl (by decide) rfl (by decide) (rm_many hR1) ?_
          refine E_icmp_geN (t := 110) dX11_loopOf_29 (by decide) (by omega) (by omega) (fun c29 => ?_) (fun c29 => ?_)
          · skip
            have hgk : omN (lpG T (DS T s) s) (k + 1) = omin (omN (lpG T (DS T s) s) k) (omN (lpH T (DS T s) s k) a) := by rw [omN]; unfold lpG; rw [show a = T 61 0 by omega]
            refine E_iincN (b := 1) dX11_loopOf_110 rfl rfl (by decide) rfl ?_
            refine E_goto (t := 13) dX11_loopOf_113 (by decide) ?_
            have hnx := ihK (k + 1) M1 (some (.int (nI a))) y5 (by omega) (by omega) hS hF
            rw [hgk] at hnx
            exact hnx
          · skip
            refine E_aload_n dX11_loopOf_32 rfl ?_
            refine E_getR' (ci := 11) (j := 18) (p := 73) dX11_loopOf_33 fkX11_44 rfl (by decide) rfl (by decide) (rfl) ?_
            refine E_iload_n dX11_loopOf_36 rfl ?_
            refine E_ialdN dX11_loopOf_37 rfl (by omega) (by decide) (hF k hk2) ?_
            refine E_if_ltO (t := 110) dX11_loopOf_38 (by decide) (fun d hd => by have := DL_DS k d hd; omega) (fun c38 => ?_) (fun c38 => ?_)
            · skip
              have hno : ∀ i, lpH T (DS T s) s k i = none := fun i => by unfold lpH; rw [c38]; split <;> rfl
              have hgk : omN (lpG T (DS T s) s) (k + 1) = omin (omN (lpG T (DS T s) s) k) (omN (lpH T (DS T s) s k) a) := by rw [omN]; unfold lpG; rw [omN_none.mpr (fun i _ => hno i), omN_none.mpr (fun i _ => hno i)]
              refine E_iincN (b := 1) dX11_loopOf_110 rfl rfl (by decide) rfl ?_
              refine E_goto (t := 13) dX11_loopOf_113 (by decide) ?_
              have hnx := ihK (k + 1) M1 (some (.int (nI a))) y5 (by omega) (by omega) hS hF
              rw [hgk] at hnx
              exact hnx
            · skip
              obtain ⟨d, hd⟩ := Option.ne_none_iff_exists'.mp c38
              have hd24 := DL_DS k d hd
              refine E_aload_n dX11_loopOf_41 rfl ?_
              refine E_iload dX11_loopOf_42 rfl ?_
              refine E_iload_n dX11_loopOf_44 rfl ?_
              refine E_iconst (v := -1) dX11_loopOf_45 rfl ?_
              refine E_callV (r := qX11_isOpen) (ci := 11) dX11_loopOf_46 mkX11_105 voX11_isOpen rfl rfl rfl ⟨Nat.le_of_ble_eq_true rfl, Nat.le_of_ble_eq_true rfl, Nat.le_of_ble_eq_true rfl, Nat.le_of_ble_eq_true rfl⟩ (m_isOpen0 hR1 c29 hk2) rfl (Nat.le_of_ble_eq_true rfl) ?_
              rintro _ _ ⟨rfl, rfl⟩
              refine E_if_eqB (t := 83) dX11_loopOf_49 (by decide) (fun c49 => ?_) (fun c49 => ?_)
              · skip
                have hv : lpH T (DS T s) s k a = none := by unfold lpH; rw [if_neg (by rw [c49]; simp)]
                refine E_iconst (v := nI 0) dX11_loopOf_83 rfl ?_
                refine E_top (show nI 0 = bI false from rfl) ?_
                refine E_istore dX11_loopOf_84 (by decide) rfl ?_
                refine E_iload dX11_loopOf_86 rfl ?_
                refine E_if_eqB (t := 102) dX11_loopOf_88 (by decide) (fun c88 => ?_) (fun c88 => ?_)
                · skip
                  refine E_iload_n dX11_loopOf_102 rfl ?_
                  refine E_ist_n (i := 2) dX11_loopOf_103 rfl (by decide) rfl ?_
                  refine E_iincN (b := 1) dX11_loopOf_104 rfl rfl (by decide) rfl ?_
                  refine E_goto (t := 23) dX11_loopOf_107 (by decide) ?_
                  have hnx := ihA (a + 1) (some (.int (bI true))) (by omega) (by omega)
                  have hnx0 := ihA (a + 1) (some (.int (bI false))) (by omega) (by omega)
                  rw [hst, hv] at hnx hnx0
                  first | exact hnx0 | (rw [hw] at hnx hnx0; first | exact hnx | exact hnx0) | (exfalso; simp at c88; done)
                · skip
                  refine E_aload_n dX11_loopOf_91 rfl ?_
                  refine E_getR' (ci := 11) (j := 18) (p := 73) dX11_loopOf_92 fkX11_44 rfl (by decide) rfl (by decide) (rfl) ?_
                  refine E_iload_n dX11_loopOf_95 rfl ?_
                  refine E_ialdN dX11_loopOf_96 rfl (by omega) (by decide) ((by rw [hF k hk2, hd, oI_s])) ?_
                  refine E_iconst (v := nI 1) dX11_loopOf_97 rfl ?_
                  refine E_iaddN dX11_loopOf_98 ?_
                  refine E_goto (t := 103) dX11_loopOf_99 (by decide) ?_
                  refine E_ist_n (i := 2) dX11_loopOf_103 rfl (by decide) rfl ?_
                  refine E_iincN (b := 1) dX11_loopOf_104 rfl rfl (by decide) rfl ?_
                  refine E_goto (t := 23) dX11_loopOf_107 (by decide) ?_
                  have hnx := ihA (a + 1) (some (.int (bI true))) (by omega) (by omega)
                  have hnx0 := ihA (a + 1) (some (.int (bI false))) (by omega) (by omega)
                  rw [hst, hv] at hnx hnx0
                  first | exact hnx0 | (rw [hw] at hnx hnx0; first | exact hnx | exact hnx0) | (exfalso; simp at c88; done)
              · skip
                refine E_aload_n dX11_loopOf_52 rfl ?_
                refine E_iload dX11_loopOf_53 rfl ?_
                refine E_iload_n dX11_loopOf_55 rfl ?_
                refine E_callV (r := qX11_next) (ci := 11) dX11_loopOf_56 mkX11_108 voX11_next rfl rfl rfl ⟨Nat.le_of_ble_eq_true rfl, Nat.le_of_ble_eq_true rfl, Nat.le_of_ble_eq_true rfl, Nat.le_of_ble_eq_true rfl⟩ (m_next hR1 c29 hk2) rfl (Nat.le_of_ble_eq_true rfl) ?_
                rintro _ _ ⟨rfl, rfl⟩
                refine E_iload_n dX11_loopOf_59 rfl ?_
                refine E_icmp_neN (t := 83) dX11_loopOf_60 (by decide) (by have := nxt_lt hT (s := k) c29; omega) (by omega) (fun c60 => ?_) (fun c60 => ?_)
                · skip
                  have hv : lpH T (DS T s) s k a = none := by unfold lpH; rw [if_neg (by rw [Bool.and_eq_true]; exact fun h7 => c60 (by simpa using h7.2))]
                  refine E_iconst (v := nI 0) dX11_loopOf_83 rfl ?_
                  refine E_top (show nI 0 = bI false from rfl) ?_
                  refine E_istore dX11_loopOf_84 (by decide) rfl ?_
                  refine E_iload dX11_loopOf_86 rfl ?_
                  refine E_if_eqB (t := 102) dX11_loopOf_88 (by decide) (fun c88 => ?_) (fun c88 => ?_)
                  · skip
                    refine E_iload_n dX11_loopOf_102 rfl ?_
                    refine E_ist_n (i := 2) dX11_loopOf_103 rfl (by decide) rfl ?_
                    refine E_iincN (b := 1) dX11_loopOf_104 rfl rfl (by decide) rfl ?_
                    refine E_goto (t := 23) dX11_loopOf_107 (by decide) ?_
                    have hnx := ihA (a + 1) (some (.int (bI true))) (by omega) (by omega)
                    have hnx0 := ihA (a + 1) (some (.int (bI false))) (by omega) (by omega)
                    rw [hst, hv] at hnx hnx0
                    first | exact hnx0 | (rw [hw] at hnx hnx0; first | exact hnx | exact hnx0) | (exfalso; simp at c88; done)
                  · skip
                    refine E_aload_n dX11_loopOf_91 rfl ?_
                    refine E_getR' (ci := 11) (j := 18) (p := 73) dX11_loopOf_92 fkX11_44 rfl (by decide) rfl (by decide) (rfl) ?_
                    refine E_iload_n dX11_loopOf_95 rfl ?_
                    refine E_ialdN dX11_loopOf_96 rfl (by omega) (by decide) ((by rw [hF k hk2, hd, oI_s])) ?_
                    refine E_iconst (v := nI 1) dX11_loopOf_97 rfl ?_
                    refine E_iaddN dX11_loopOf_98 ?_
                    refine E_goto (t := 103) dX11_loopOf_99 (by decide) ?_
                    refine E_ist_n (i := 2) dX11_loopOf_103 rfl (by decide) rfl ?_
                    refine E_iincN (b := 1) dX11_loopOf_104 rfl rfl (by decide) rfl ?_
                    refine E_goto (t := 23) dX11_loopOf_107 (by decide) ?_
                    have hnx := ihA (a + 1) (some (.int (bI true))) (by omega) (by omega)
                    have hnx0 := ihA (a + 1) (some (.int (bI false))) (by omega) (by omega)
                    rw [hst, hv] at hnx hnx0
                    first | exact hnx0 | (rw [hw] at hnx hnx0; first | exact hnx | exact hnx0) | (exfalso; simp at c88; done)
                · skip
                  have hv : lpH T (DS T s) s k a = some (d + 1) := by unfold lpH; rw [if_pos (by rw [c49, c60]; simp), hd]; rfl
                  refine E_iload_n dX11_loopOf_63 rfl ?_
                  refine E_if_ltO (t := 79) dX11_loopOf_64 (by decide) (fun d hd => by have := hac d hd; omega) (fun c64 => ?_) (fun c64 => ?_)
                  · skip
                    have hw : omin (omin (omN (lpG T (DS T s) s) k) (omN (lpH T (DS T s) s k) a)) (some (d + 1)) = some (d + 1) := by rw [c64]; rfl
                    refine E_iconst (v := nI 1) dX11_loopOf_79 rfl ?_
                    refine E_goto (t := 84) dX11_loopOf_80 (by decide) ?_
                    refine E_top (show nI 1 = bI true from rfl) ?_
                    refine E_istore dX11_loopOf_84 (by decide) rfl ?_
                    refine E_iload dX11_loopOf_86 rfl ?_
                    refine E_if_eqB (t := 102) dX11_loopOf_88 (by decide) (fun c88 => ?_) (fun c88 => ?_)
                    · skip
                      refine E_iload_n dX11_loopOf_102 rfl ?_
                      refine E_ist_n (i := 2) dX11_loopOf_103 rfl (by decide) rfl ?_
                      refine E_iincN (b := 1) dX11_loopOf_104 rfl rfl (by decide) rfl ?_
                      refine E_goto (t := 23) dX11_loopOf_107 (by decide) ?_
                      have hnx := ihA (a + 1) (some (.int (bI true))) (by omega) (by omega)
                      have hnx0 := ihA (a + 1) (some (.int (bI false))) (by omega) (by omega)
                      rw [hst, hv] at hnx hnx0
                      first | exact hnx0 | (rw [hw] at hnx hnx0; first | exact hnx | exact hnx0) | (exfalso; simp at c88; done)
                    · skip
                      refine E_aload_n dX11_loopOf_91 rfl ?_
                      refine E_getR' (ci := 11) (j := 18) (p := 73) dX11_loopOf_92 fkX11_44 rfl (by decide) rfl (by decide) (rfl) ?_
                      refine E_iload_n dX11_loopOf_95 rfl ?_
                      refine E_ialdN dX11_loopOf_96 rfl (by omega) (by decide) ((by rw [hF k hk2, hd, oI_s])) ?_
                      refine E_iconst (v := nI 1) dX11_loopOf_97 rfl ?_
                      refine E_iaddN dX11_loopOf_98 ?_
                      refine E_goto (t := 103) dX11_loopOf_99 (by decide) ?_
                      refine E_ist_n (i := 2) dX11_loopOf_103 rfl (by decide) rfl ?_
                      refine E_iincN (b := 1) dX11_loopOf_104 rfl rfl (by decide) rfl ?_
                      refine E_goto (t := 23) dX11_loopOf_107 (by decide) ?_
                      have hnx := ihA (a + 1) (some (.int (bI true))) (by omega) (by omega)
                      have hnx0 := ihA (a + 1) (some (.int (bI false))) (by omega) (by omega)
                      rw [hst, hv] at hnx hnx0
                      first | exact hnx0 | (rw [hw] at hnx hnx0; first | exact hnx | exact hnx0) | (exfalso; simp at c88; done)
                  · skip
                    obtain ⟨e, he⟩ := Option.ne_none_iff_exists'.mp c64
                    refine E_aload_n dX11_loopOf_67 rfl ?_
                    refine E_getR' (ci := 11) (j := 18) (p := 73) dX11_loopOf_68 fkX11_44 rfl (by decide) rfl (by decide) (rfl) ?_
                    refine E_iload_n dX11_loopOf_71 rfl ?_
                    refine E_ialdN dX11_loopOf_72 rfl (by omega) (by decide) ((by rw [hF k hk2, hd, oI_s])) ?_
                    refine E_iconst (v := nI 1) dX11_loopOf_73 rfl ?_
                    refine E_iaddN dX11_loopOf_74 ?_
                    rw [he]
                    refine E_iload_n dX11_loopOf_75 rfl ?_
                    refine E_icmp_geN (t := 83) dX11_loopOf_76 (by decide) (by omega) (by have := hac e he; omega) (fun c76 => ?_) (fun c76 => ?_)
                    · skip
                      have hw : omin (omin (omN (lpG T (DS T s) s) k) (omN (lpH T (DS T s) s k) a)) (some (d + 1)) = some e := by rw [he]; show (if d + 1 < e then some (d + 1) else some e) = some e; rw [if_neg (by omega)]
                      refine E_iconst (v := nI 0) dX11_loopOf_83 rfl ?_
                      refine E_top (show nI 0 = bI false from rfl) ?_
                      refine E_istore dX11_loopOf_84 (by decide) rfl ?_
                      refine E_iload dX11_loopOf_86 rfl ?_
                      refine E_if_eqB (t := 102) dX11_loopOf_88 (by decide) (fun c88 => ?_) (fun c88 => ?_)
                      · skip
                        refine E_iload_n dX11_loopOf_102 rfl ?_
                        refine E_ist_n (i := 2) dX11_loopOf_103 rfl (by decide) rfl ?_
                        refine E_iincN (b := 1) dX11_loopOf_104 rfl rfl (by decide) rfl ?_
                        refine E_goto (t := 23) dX11_loopOf_107 (by decide) ?_
                        have hnx := ihA (a + 1) (some (.int (bI true))) (by omega) (by omega)
                        have hnx0 := ihA (a + 1) (some (.int (bI false))) (by omega) (by omega)
                        rw [hst, hv] at hnx hnx0
                        first | exact hnx0 | (rw [hw] at hnx hnx0; first | exact hnx | exact hnx0) | (exfalso; simp at c88; done)
                      · skip
                        refine E_aload_n dX11_loopOf_91 rfl ?_
                        refine E_getR' (ci := 11) (j := 18) (p := 73) dX11_loopOf_92 fkX11_44 rfl (by decide) rfl (by decide) (rfl) ?_
                        refine E_iload_n dX11_loopOf_95 rfl ?_
                        refine E_ialdN dX11_loopOf_96 rfl (by omega) (by decide) ((by rw [hF k hk2, hd, oI_s])) ?_
                        refine E_iconst (v := nI 1) dX11_loopOf_97 rfl ?_
                        refine E_iaddN dX11_loopOf_98 ?_
                        refine E_goto (t := 103) dX11_loopOf_99 (by decide) ?_
                        refine E_ist_n (i := 2) dX11_loopOf_103 rfl (by decide) rfl ?_
                        refine E_iincN (b := 1) dX11_loopOf_104 rfl rfl (by decide) rfl ?_
                        refine E_goto (t := 23) dX11_loopOf_107 (by decide) ?_
                        have hnx := ihA (a + 1) (some (.int (bI true))) (by omega) (by omega)
                        have hnx0 := ihA (a + 1) (some (.int (bI false))) (by omega) (by omega)
                        rw [hst, hv] at hnx hnx0
                        first | exact hnx0 | (rw [hw] at hnx hnx0; first | exact hnx | exact hnx0) | (exfalso; simp at c88; done)
                    · skip
                      have hw : omin (omin (omN (lpG T (DS T s) s) k) (omN (lpH T (DS T s) s k) a)) (some (d + 1)) = some (d + 1) := by rw [he]; show (if d + 1 < e then some (d + 1) else some e) = _; rw [if_pos c76]
                      refine E_iconst (v := nI 1) dX11_loopOf_79 rfl ?_
                      refine E_goto (t := 84) dX11_loopOf_80 (by decide) ?_
                      refine E_top (show nI 1 = bI true from rfl) ?_
                      refine E_istore dX11_loopOf_84 (by decide) rfl ?_
                      refine E_iload dX11_loopOf_86 rfl ?_
                      refine E_if_eqB (t := 102) dX11_loopOf_88 (by decide) (fun c88 => ?_) (fun c88 => ?_)
                      · skip
                        refine E_iload_n dX11_loopOf_102 rfl ?_
                        refine E_ist_n (i := 2) dX11_loopOf_103 rfl (by decide) rfl ?_
                        refine E_iincN (b := 1) dX11_loopOf_104 rfl rfl (by decide) rfl ?_
                        refine E_goto (t := 23) dX11_loopOf_107 (by decide) ?_
                        have hnx := ihA (a + 1) (some (.int (bI true))) (by omega) (by omega)
                        have hnx0 := ihA (a + 1) (some (.int (bI false))) (by omega) (by omega)
                        rw [hst, hv] at hnx hnx0
                        first | exact hnx0 | (rw [hw] at hnx hnx0; first | exact hnx | exact hnx0) | (exfalso; simp at c88; done)
                      · skip
                        refine E_aload_n dX11_loopOf_91 rfl ?_
                        refine E_getR' (ci := 11) (j := 18) (p := 73) dX11_loopOf_92 fkX11_44 rfl (by decide) rfl (by decide) (rfl) ?_
                        refine E_iload_n dX11_loopOf_95 rfl ?_
                        refine E_ialdN dX11_loopOf_96 rfl (by omega) (by decide) ((by rw [hF k hk2, hd, oI_s])) ?_
                        refine E_iconst (v := nI 1) dX11_loopOf_97 rfl ?_
                        refine E_iaddN dX11_loopOf_98 ?_
                        refine E_goto (t := 103) dX11_loopOf_99 (by decide) ?_
                        refine E_ist_n (i := 2) dX11_loopOf_103 rfl (by decide) rfl ?_
                        refine E_iincN (b := 1) dX11_loopOf_104 rfl rfl (by decide) rfl ?_
                        refine E_goto (t := 23) dX11_loopOf_107 (by decide) ?_
                        have hnx := ihA (a + 1) (some (.int (bI true))) (by omega) (by omega)
                        have hnx0 := ihA (a + 1) (some (.int (bI false))) (by omega) (by omega)
                        rw [hst, hv] at hnx hnx0
                        first | exact hnx0 | (rw [hw] at hnx hnx0; first | exact hnx | exact hnx0) | (exfalso; simp at c88; done)
      refine E_iload_n dX11_loopOf_13 rfl ?_
      refine E_sipush (v := nI 1024) dX11_loopOf_14 rfl ?_
      refine E_icmp_geN (t := 116) dX11_loopOf_17 (by decide) (by omega) (by omega) (fun c17 => ?_) (fun c17 => ?_)
      · skip
        refine E_iload_n dX11_loopOf_116 rfl ?_
        refine E_iret dX11_loopOf_117 rfl ?_
        exact ⟨by rw [show k = 1024 by omega]; rfl, hS⟩
      · skip
        refine E_iconst (v := nI 0) dX11_loopOf_20 rfl ?_
        refine E_istore dX11_loopOf_21 (by decide) rfl ?_
        exact L23 (by omega) (T 61 0 + 1) 0 y5 (by omega) (by omega)
  refine Call_of (ls0 := [some (.ref 61), some (.int (nI s)), none, none, none, none]) rfl rfl (Nat.le_of_ble_eq_true rfl) ?_
  refine E_aload_n dX11_loopOf_0 rfl ?_
  refine E_iload_n dX11_loopOf_1 rfl ?_
  refine E_iconst (v := -1) dX11_loopOf_2 rfl ?_
  refine E_iconst (v := -1) dX11_loopOf_3 rfl ?_
  refine E_iconst (v := -1) dX11_loopOf_4 rfl ?_
  refine E_callV (r := qX11_reaches) (ci := 11) dX11_loopOf_5 mkX11_122 voX11_reaches rfl rfl rfl ⟨Nat.le_of_ble_eq_true rfl, Nat.le_of_ble_eq_true rfl, Nat.le_of_ble_eq_true rfl, Nat.le_of_ble_eq_true rfl⟩ (m_reaches (but := none) (un := none) (w := none) hR hs (h9 _) (h9 _) (h9 _)) rfl (Nat.le_of_ble_eq_true rfl) ?_
  rintro _ M1 ⟨rfl, hS1, hq1⟩
  refine E_pop dX11_loopOf_8 rfl ?_
  refine E_iconst (v := -1) dX11_loopOf_9 rfl ?_
  refine E_ist_n (i := 2) dX11_loopOf_10 rfl (by decide) rfl ?_
  refine E_iconst (v := nI 0) dX11_loopOf_11 rfl ?_
  refine E_ist_n (i := 3) dX11_loopOf_12 rfl (by decide) rfl ?_
  exact L13 1025 0 M1 _ _ (by omega) (by omega) hS1 (by unfold RF DS; exact hq1)
theorem m_loopOfLine (hR : RM T M) (hZ : RZ 82 (fun t => (DT T t).isSome) M) {l : Nat} (hl : l < 16) : Call g qX11_loopOfLine [.ref 61, .int (nI l)] M (fun v M' => v = some (.int (oI (lnL T l))) ∧ Sb [73, 74] M M') := by
  have L : ∀ (n k : Nat) (M1 : AM) (y : Option Value), k ≤ 64 → 64 < k + n → Sb [73, 74] M M1 → Ex g qX11_loopOfLine (tm g qX11_loopOfLine (fun v M' => v = some (.int (oI (lnL T l))) ∧ Sb [73, 74] M M')) 7 [some (.ref 61), some (.int (nI l)), some (.int (oI (omN (fun k => if (DT T (64 * l + k)).isSome = true then lpS T (64 * l + k) else none) k))), some (.int (nI (64 * l + k))), y] [] M1 := by
    intro n
    induction n with
    | zero => intro k M1 y h1 h2; exact absurd h2 (by omega)
    | succ n ih =>
      intro k M1 y hk hn hS
      have hR1 := rm_sb hR hS (by decide)
      have hZ1 := rz_sb hZ hS (by decide)
      have hac : ∀ m, omN (fun k => if (DT T (64 * l + k)).isSome = true then lpS T (64 * l + k) else none) k = some m → m ≤ 1025 := fun m hm => omN_le (fun i x _ hx => by split at hx; exact lpS_le hx; cases hx) hm
      have J : ∀ (M2 : AM) (o : Option Nat), Sb [73, 74] M M2 → (∀ m, o = some m → m ≤ 1025) → omN (fun k => if (DT T (64 * l + k)).isSome = true then lpS T (64 * l + k) else none) (k + 1) = omin (omN (fun k => if (DT T (64 * l + k)).isSome = true then lpS T (64 * l + k) else none) k) o → k < 64 → Ex g qX11_loopOfLine (tm g qX11_loopOfLine (fun v M' => v = some (.int (oI (lnL T l))) ∧ Sb [73, 74] M M')) 36 [some (.ref 61), some (.int (nI l)), some (.int (oI (omN (fun k => if (DT T (64 * l + k)).isSome = true then lpS T (64 * l + k) else none) k))), some (.int (nI (64 * l + k))), y] [.int (oI o)] M2 := by
        intro M2 o hS2 ho hst hk2
        refine E_istore dX11_loopOfLine_36 (by decide) rfl ?_
        refine E_iload dX11_loopOfLine_38 rfl ?_
        refine E_if_ltO (t := 58) dX11_loopOfLine_40 (by decide) (fun d hd => by have := ho d hd; omega) (fun c40 => ?_) (fun c40 => ?_)
        · skip
          have hw : omN (fun k => if (DT T (64 * l + k)).isSome = true then lpS T (64 * l + k) else none) (k + 1) = omN (fun k => if (DT T (64 * l + k)).isSome = true then lpS T (64 * l + k) else none) k := by rw [hst, c40]; rfl
          refine E_iload_n dX11_loopOfLine_58 rfl ?_
          refine E_ist_n (i := 2) dX11_loopOfLine_59 rfl (by decide) rfl ?_
          refine E_iincN (b := 1) dX11_loopOfLine_60 rfl rfl (by decide) rfl ?_
          refine E_goto (t := 7) dX11_loopOfLine_63 (by decide) ?_
          have hnx := ih (k + 1) M2 (some (.int (oI o))) (by omega) (by omega) hS2
          rw [hw] at hnx
          first | exact hnx | (rw [hd] at hnx; exact hnx)
        · skip
          obtain ⟨d, hd⟩ := Option.ne_none_iff_exists'.mp c40
          refine E_iload_n dX11_loopOfLine_43 rfl ?_
          refine E_if_ltO (t := 53) dX11_loopOfLine_44 (by decide) (fun d hd => by have := hac d hd; omega) (fun c44 => ?_) (fun c44 => ?_)
          · skip
            have hw : omN (fun k => if (DT T (64 * l + k)).isSome = true then lpS T (64 * l + k) else none) (k + 1) = o := by rw [hst, c44, omin_none]
            refine E_iload dX11_loopOfLine_53 rfl ?_
            refine E_goto (t := 59) dX11_loopOfLine_55 (by decide) ?_
            refine E_ist_n (i := 2) dX11_loopOfLine_59 rfl (by decide) rfl ?_
            refine E_iincN (b := 1) dX11_loopOfLine_60 rfl rfl (by decide) rfl ?_
            refine E_goto (t := 7) dX11_loopOfLine_63 (by decide) ?_
            have hnx := ih (k + 1) M2 (some (.int (oI o))) (by omega) (by omega) hS2
            rw [hw] at hnx
            first | exact hnx | (rw [hd] at hnx; exact hnx)
          · skip
            obtain ⟨e, he⟩ := Option.ne_none_iff_exists'.mp c44
            rw [hd, he]
            refine E_iload dX11_loopOfLine_47 rfl ?_
            refine E_iload_n dX11_loopOfLine_49 rfl ?_
            refine E_icmp_geN (t := 58) dX11_loopOfLine_50 (by decide) (by have := ho d hd; omega) (by have := hac e he; omega) (fun c50 => ?_) (fun c50 => ?_)
            · skip
              have hw : omN (fun k => if (DT T (64 * l + k)).isSome = true then lpS T (64 * l + k) else none) (k + 1) = some e := by rw [hst, hd, he]; show (if d < e then some d else some e) = _; rw [if_neg (by omega)]
              refine E_iload_n dX11_loopOfLine_58 rfl ?_
              refine E_ist_n (i := 2) dX11_loopOfLine_59 rfl (by decide) rfl ?_
              refine E_iincN (b := 1) dX11_loopOfLine_60 rfl rfl (by decide) rfl ?_
              refine E_goto (t := 7) dX11_loopOfLine_63 (by decide) ?_
              have hnx := ih (k + 1) M2 (some (.int (oI o))) (by omega) (by omega) hS2
              rw [hw] at hnx
              first | exact hnx | (rw [hd] at hnx; exact hnx)
            · skip
              have hw : omN (fun k => if (DT T (64 * l + k)).isSome = true then lpS T (64 * l + k) else none) (k + 1) = some d := by rw [hst, hd, he]; show (if d < e then some d else some e) = _; rw [if_pos c50]
              refine E_iload dX11_loopOfLine_53 rfl ?_
              refine E_goto (t := 59) dX11_loopOfLine_55 (by decide) ?_
              refine E_ist_n (i := 2) dX11_loopOfLine_59 rfl (by decide) rfl ?_
              refine E_iincN (b := 1) dX11_loopOfLine_60 rfl rfl (by decide) rfl ?_
              refine E_goto (t := 7) dX11_loopOfLine_63 (by decide) ?_
              have hnx := ih (k + 1) M2 (some (.int (oI o))) (by omega) (by omega) hS2
              rw [hw] at hnx
              first | exact hnx | (rw [hd] at hnx; exact hnx)
      refine E_iload_n dX11_loopOfLine_7 rfl ?_
      refine E_bipush (v := nI 64) dX11_loopOfLine_8 rfl ?_
      refine E_iload_n dX11_loopOfLine_10 rfl ?_
      refine E_imulN dX11_loopOfLine_11 ?_
      refine E_bipush (v := nI 64) dX11_loopOfLine_12 rfl ?_
      refine E_iaddN dX11_loopOfLine_14 ?_
      refine E_icmp_geN (t := 66) dX11_loopOfLine_15 (by decide) (by omega) (by omega) (fun c15 => ?_) (fun c15 => ?_)
      · skip
        refine E_iload_n dX11_loopOfLine_66 rfl ?_
        refine E_iret dX11_loopOfLine_67 rfl ?_
        exact ⟨by rw [show k = 64 by omega]; rfl, hS⟩
      · skip
        refine E_aload_n dX11_loopOfLine_18 rfl ?_
        refine E_getR' (ci := 11) (j := 35) (p := 82) dX11_loopOfLine_19 fkX11_71 rfl (by decide) rfl (by decide) (rfl) ?_
        refine E_iload_n dX11_loopOfLine_22 rfl ?_
        refine E_zaldN dX11_loopOfLine_23 rfl (by omega) (by decide) (hZ1 _ (by omega)) ?_
        refine E_if_eqB (t := 35) dX11_loopOfLine_24 (by decide) (fun c24 => ?_) (fun c24 => ?_)
        · skip
          have hq24 : omN (fun k => if (DT T (64 * l + k)).isSome = true then lpS T (64 * l + k) else none) (k + 1) = omin (omN (fun k => if (DT T (64 * l + k)).isSome = true then lpS T (64 * l + k) else none) k) none := by rw [omN, if_neg (by rw [show (DT T (64 * l + k)).isSome = false from c24]; decide)]
          refine E_iconst (v := -1) dX11_loopOfLine_35 rfl ?_
          first | exact J M1 none hS (fun m e => by cases e) hq24 (by omega) | exact J _ _ (hS.tr hS2) (fun m e => lpS_le e) hq24 (by omega)
        · skip
          have hq24 : omN (fun k => if (DT T (64 * l + k)).isSome = true then lpS T (64 * l + k) else none) (k + 1) = omin (omN (fun k => if (DT T (64 * l + k)).isSome = true then lpS T (64 * l + k) else none) k) (lpS T (64 * l + k)) := by rw [omN, if_pos (show (DT T (64 * l + k)).isSome = true from c24)]
          refine E_aload_n dX11_loopOfLine_27 rfl ?_
          refine E_iload_n dX11_loopOfLine_28 rfl ?_
          refine E_callV (r := qX11_loopOf) (ci := 11) dX11_loopOfLine_29 mkX11_281 voX11_loopOf rfl rfl rfl ⟨Nat.le_of_ble_eq_true rfl, Nat.le_of_ble_eq_true rfl, Nat.le_of_ble_eq_true rfl, Nat.le_of_ble_eq_true rfl⟩ (m_loopOf hR1 (by omega)) rfl (Nat.le_of_ble_eq_true rfl) ?_
          rintro _ M2 ⟨rfl, hS2⟩
          refine E_goto (t := 36) dX11_loopOfLine_32 (by decide) ?_
          first | exact J M1 none hS (fun m e => by cases e) hq24 (by omega) | exact J _ _ (hS.tr hS2) (fun m e => lpS_le e) hq24 (by omega)
  refine Call_of (ls0 := [some (.ref 61), some (.int (nI l)), none, none, none]) rfl rfl (Nat.le_of_ble_eq_true rfl) ?_
  refine E_iconst (v := -1) dX11_loopOfLine_0 rfl ?_
  refine E_ist_n (i := 2) dX11_loopOfLine_1 rfl (by decide) rfl ?_
  refine E_bipush (v := nI 64) dX11_loopOfLine_2 rfl ?_
  refine E_iload_n dX11_loopOfLine_4 rfl ?_
  refine E_imulN dX11_loopOfLine_5 ?_
  refine E_ist_n (i := 3) dX11_loopOfLine_6 rfl (by decide) rfl ?_
  exact L 65 0 M none (by omega) (by omega) Sb.rf
noncomputable def mrLoop (T : TK) (x : Int32) : Int32 := if (inI x 0 15 && (T 61 1).testBit x.toInt.toNat) = false then -1000001 else oI (lnL T x.toInt.toNat)
theorem m_loop (hR : RM T M) (hB : RB T M) {x : Int32} : Call g qX11_loop [.ref 61, .int x] M (RtS (mrLoop T x) M) := by
  refine Call_of (ls0 := [some (.ref 61), some (.int x)]) rfl rfl (Nat.le_of_ble_eq_true rfl) ?_
  refine E_aload_n dX11_loop_0 rfl ?_
  refine E_iload_n dX11_loop_1 rfl ?_
  refine E_callV (r := qX11_isLine) (ci := 11) dX11_loop_2 mkX11_250 voX11_isLine rfl rfl rfl ⟨Nat.le_of_ble_eq_true rfl, Nat.le_of_ble_eq_true rfl, Nat.le_of_ble_eq_true rfl, Nat.le_of_ble_eq_true rfl⟩ (m_isLine hR) rfl (Nat.le_of_ble_eq_true rfl) ?_
  rintro _ _ ⟨rfl, rfl⟩
  refine E_if_neB (t := 11) dX11_loop_5 (by decide) (fun c5 => ?_) (fun c5 => ?_)
  · skip
    have h5 := c5
    rw [Bool.and_eq_true] at h5
    obtain ⟨l, hl1, hl2, rfl, hl3⟩ := inI_nat h5.1 (by decide)
    refine E_aload_n dX11_loop_11 rfl ?_
    refine E_callV (r := qX11_laysReached) (ci := 11) dX11_loop_12 mkX11_284 voX11_laysReached rfl rfl rfl ⟨Nat.le_of_ble_eq_true rfl, Nat.le_of_ble_eq_true rfl, Nat.le_of_ble_eq_true rfl, Nat.le_of_ble_eq_true rfl⟩ (m_laysReached hR hB) rfl (Nat.le_of_ble_eq_true rfl) ?_
    rintro _ M1 ⟨rfl, hS1, hZ1⟩
    refine E_aload_n dX11_loop_15 rfl ?_
    refine E_iload_n dX11_loop_16 rfl ?_
    refine E_callV (r := qX11_loopOfLine) (ci := 11) dX11_loop_17 mkX11_287 voX11_loopOfLine rfl rfl rfl ⟨Nat.le_of_ble_eq_true rfl, Nat.le_of_ble_eq_true rfl, Nat.le_of_ble_eq_true rfl, Nat.le_of_ble_eq_true rfl⟩ (m_loopOfLine (rm_sb hR hS1 (by decide)) hZ1 (l := l) (by omega)) rfl (Nat.le_of_ble_eq_true rfl) ?_
    rintro _ M2 ⟨rfl, hS2⟩
    refine E_iret dX11_loop_20 rfl ?_
    exact ⟨by unfold mrLoop; rw [if_neg (by rw [c5]; decide), nI_tn hl3], (hS1.scr (by decide)).tr (hS2.scr (by decide))⟩
  · skip
    refine E_ldc dX11_loop_8 ckX11_214 ?_
    refine E_iret dX11_loop_10 rfl ?_
    exact ⟨by unfold mrLoop; rw [if_pos c5], Sb.rf⟩
end M7
