-- the class's loops: components
section K4
variable {T : TK}
def onC (T : TK) (x : Nat) : Prop := ∃ c, 0 < c ∧ rch (sP T okT) x c x
def cloP (T : TK) (L : List Nat) : Prop := ∀ m, m < mN T → mT T m ∈ L → mF T m ∈ L
theorem clo_rea (hT : WT T) (hB : T 61 13 < 64) {L : List Nat} (h : cloP T L) {t : Nat} (ht : t ∈ L) : ∀ (n x : Nat), x < LTn T → rch (sP T okT) x n t → x ∈ L
  | 0, x, _, h1 => by rw [← (show t = x from h1)]; exact ht
  | n + 1, x, hx, h1 => by
    obtain ⟨u, q1, q2⟩ := rch_cons.mp h1
    obtain ⟨m, m1, m2, m3, m4, m5⟩ := sP_move hT hB hx q1
    have hu : u < LTn T := by rw [← m3]; exact (mv_ok hT hB m1).2.2.2.2.2.1
    have := clo_rea hT hB h ht n u hu q2
    rw [← m2]
    exact h m m1 (by rw [m3]; exact this)
def GI (T : TK) (F : List Nat) (R : Nat) (L : List Nat) (lp : Nat → Bool) : Prop := L.Nodup ∧ (∀ x ∈ L, x < LTn T) ∧ cloP T L ∧ (∀ (k x : Nat), R ≤ k → F[k]? = some x → x ∈ L) ∧ (∀ x, x < LTn T → lp x = true → onC T x) ∧ ∀ x y, x ∈ L → y < LTn T → y ≠ x → rea T x y → rea T y x → lp x = true
def GL (T : TK) (L0 : List Nat) (r h : Nat) (L : List Nat) : Prop := L.Nodup ∧ (∀ x ∈ L, x < LTn T ∧ (x ∈ L0 ∨ rea T x r)) ∧ (∀ (x t : Nat), L0[x]? = some t → L[x]? = some t) ∧ r ∈ L ∧ ∀ (x t m : Nat), x < h → L[x]? = some t → m < mN T → mT T m = t → mF T m ∈ L
theorem GL_len {L0 L : List Nat} {r h : Nat} (hL : GL T L0 r h L) : L.length ≤ LTn T := nodup_len _ _ hL.1 (fun i hi => (hL.2.1 i hi).1)
theorem GL_le {L0 L : List Nat} {r h : Nat} (hL : GL T L0 r h L) : L0.length ≤ L.length := by
  rcases Nat.eq_zero_or_pos L0.length with e | e
  · omega
  · have h1 : L0[L0.length - 1]? = some L0[L0.length - 1] := List.getElem?_eq_getElem (by omega)
    have := (List.getElem?_eq_some_iff.mp (hL.2.2.1 _ _ h1)).1
    omega
theorem GL_ad (hT : WT T) (hB : T 61 13 < 64) {h m r : Nat} {L0 L : List Nat} (hc : cloP T L0) (hL : GL T L0 r h L) (hh : h ≤ L.length) (hm : m < mN T) (ht : mT T m ∈ L) : GL T L0 r h (adL L (mF T m)) := by
  have ok := mv_ok hT hB hm
  refine ⟨adL_nd hL.1, fun i hi => ?_, fun x t q => adL_get (hL.2.2.1 x t q), adL_m.mpr (Or.inl hL.2.2.2.1), fun x t m' hx h1 h2 h3 => adL_m.mpr (Or.inl (hL.2.2.2.2 x t m' hx (adL_inv h1 (by omega)) h2 h3))⟩
  rcases adL_m.mp hi with e | e
  · exact hL.2.1 i e
  · rw [e]
    refine ⟨ok.1, ?_⟩
    rcases (hL.2.1 _ ht).2 with q | q
    · exact Or.inl (hc m hm q)
    · exact Or.inr (rea_tr (rea_1 (sP_m.mpr ⟨m, ok.2.1, ok.2.2.1, rfl, rfl⟩)) q)
theorem GL_0 {L0 : List Nat} {r : Nat} (hr : r < LTn T) (hn : L0.Nodup) (hl : ∀ x ∈ L0, x < LTn T) (hc : cloP T L0) : GL T L0 r L0.length (adL L0 r) := by
  refine ⟨adL_nd hn, fun x hx => ?_, fun x t q => adL_get q, adL_m.mpr (Or.inr rfl), fun x t m hx h1 h2 h3 => ?_⟩
  · rcases adL_m.mp hx with e | e
    · exact ⟨hl x e, Or.inl e⟩
    · rw [e]; exact ⟨hr, Or.inr rea_rf⟩
  · have q := List.mem_of_getElem? (adL_inv h1 hx)
    rw [← h3] at q
    exact adL_m.mpr (Or.inl (hc m h2 q))
theorem nw_of {L0 L : List Nat} {r h y x : Nat} (hL : GL T L0 r h L) (hy : L0.length ≤ y) (hx : L[y]? = some x) : ¬ x ∈ L0 := fun e => by
  obtain ⟨k, hk⟩ := List.getElem?_of_mem e
  have h1 := hL.2.2.1 k x hk
  have h2 := (List.getElem?_eq_some_iff.mp hk).1
  have h3 := (List.getElem?_eq_some_iff.mp hx).1
  have := (List.getElem?_inj h3 hL.1).mp (hx.trans h1.symm)
  omega
theorem onC_of {x y : Nat} (hne : y ≠ x) (h1 : rea T x y) (h2 : rea T y x) : onC T x := by
  obtain ⟨n, h1⟩ := h1
  obtain ⟨k, h2⟩ := h2
  refine ⟨n + k, ?_, rch_tr h1 h2⟩
  rcases Nat.eq_zero_or_pos n with e | e
  · subst e; exact absurd (show y = x from h1) hne
  · omega
/-- one component more -/
theorem gi_next (hT : WT T) (hB : T 61 13 < 64) {F L0 L : List Nat} {R r : Nat} {lp lp' : Nat → Bool} (hF : FO T F) (hI : GI T F (R + 1) L0 lp) (hR : F[R]? = some r) (hL : GL T L0 r L.length L) (hlp : ∀ x, x < LTn T → (lp' x = true ↔ lp x = true ∨ (1 < L.length - L0.length ∧ ∃ y : Nat, L0.length ≤ y ∧ L[y]? = some x))) : GI T F R L lp' := by
  have hle := GL_le hL
  have hc : cloP T L := fun m hm ht => by
    obtain ⟨y, hy⟩ := List.getElem?_of_mem ht
    exact hL.2.2.2.2 y _ m (List.getElem?_eq_some_iff.mp hy).1 hy hm rfl
  have sub : ∀ x, x ∈ L0 → x ∈ L := fun x hx => by
    obtain ⟨k, hk⟩ := List.getElem?_of_mem hx
    exact List.mem_of_getElem? (hL.2.2.1 k x hk)
  have kx : ∀ x, x ∈ L → ¬ x ∈ L0 → rea T x r ∧ rea T r x := fun x hx hn => by
    have h1 := (hL.2.1 x hx).2.resolve_left hn
    obtain ⟨fx, hfx⟩ := List.getElem?_of_mem ((hF.2.1 x).mpr (hL.2.1 x hx).1)
    exact ⟨h1, kos hT hB hF hI.2.2.1 hR (fun k z hk hz => hI.2.2.2.1 k z hk hz) (R - fx) fx x (Nat.le_refl _) hfx hn h1⟩
  refine ⟨hL.1, fun x hx => (hL.2.1 x hx).1, hc, fun k x hk hx => ?_, fun x hx h1 => ?_, fun x y hx hyl hne h1 h2 => ?_⟩
  · by_cases e : k = R
    · rw [e, hR] at hx
      cases hx
      exact hL.2.2.2.1
    · exact sub x (hI.2.2.2.1 k x (by omega) hx)
  · rcases (hlp x hx).mp h1 with q | ⟨q1, y, q2, q3⟩
    · exact hI.2.2.2.2.1 x hx q
    · have hxn := nw_of hL q2 q3
      have rx := kx x (List.mem_of_getElem? q3) hxn
      have p1 : L[L0.length]? = some L[L0.length] := List.getElem?_eq_getElem (by omega)
      have p2 : L[L0.length + 1]? = some L[L0.length + 1] := List.getElem?_eq_getElem (by omega)
      have n1 := nw_of hL (Nat.le_refl _) p1
      have n2 := nw_of hL (Nat.le_succ _) p2
      have r1 := kx _ (List.mem_of_getElem? p1) n1
      have r2 := kx _ (List.mem_of_getElem? p2) n2
      by_cases e : L[L0.length] = x
      · have hne : L[L0.length + 1] ≠ x := fun e2 => by
          have := (List.getElem?_inj (show L0.length < L.length by omega) hL.1).mp (p1.trans ((congrArg some (e.trans e2.symm)).trans p2.symm))
          omega
        exact onC_of hne (rea_tr rx.1 r2.2) (rea_tr r2.1 rx.2)
      · exact onC_of e (rea_tr rx.1 r1.2) (rea_tr r1.1 rx.2)
  · have hxl := (hL.2.1 x hx).1
    refine (hlp x hxl).mpr ?_
    by_cases e : x ∈ L0
    · exact Or.inl (hI.2.2.2.2.2 x y e hyl hne h1 h2)
    · have hy : y ∈ L := by
        obtain ⟨n, h2⟩ := h2
        exact clo_rea hT hB hc hx n y hyl h2
      have hyn : ¬ y ∈ L0 := fun q => by
        obtain ⟨n, h1⟩ := h1
        exact e (clo_rea hT hB hI.2.2.1 q n x hxl h1)
      obtain ⟨ix, hix⟩ := List.getElem?_of_mem hx
      obtain ⟨iy, hiy⟩ := List.getElem?_of_mem hy
      have gx : L0.length ≤ ix := Nat.le_of_not_lt (fun q => e (by
        have p1 : L0[ix]? = some L0[ix] := List.getElem?_eq_getElem q
        have := hL.2.2.1 _ _ p1
        rw [hix] at this
        rw [Option.some.inj this]
        exact List.mem_of_getElem? p1))
      have gy : L0.length ≤ iy := Nat.le_of_not_lt (fun q => hyn (by
        have p1 : L0[iy]? = some L0[iy] := List.getElem?_eq_getElem q
        have := hL.2.2.1 _ _ p1
        rw [hiy] at this
        rw [Option.some.inj this]
        exact List.mem_of_getElem? p1))
      have nxy : ix ≠ iy := fun q => by
        rw [q, hiy] at hix
        exact hne (Option.some.inj hix)
      have lx := (List.getElem?_eq_some_iff.mp hix).1
      have ly := (List.getElem?_eq_some_iff.mp hiy).1
      exact Or.inr ⟨by omega, ix, gx, hix⟩
end K4
section K5
variable {g : GG} {M : AM} {T : TK}
theorem c_join {nb a : Nat} {L : List Nat} (h : Hq 29 33 27 7 nb L M) (ha : a < nb) (hb : nb ≤ 1024) (hl : ¬ a ∈ L → L.length < 1024) : Call g qX4_join [.ref 27, .int (nI a)] M (fun v M' => v = none ∧ Hq 29 33 27 7 nb (adL L a) M' ∧ Sb [27, 29, 33] M M') := by
  have h29 := h.1 a ha
  have q1 : (sI M 29 a (bI true)).1 27 7 = nI L.length := by rw [sI_o (by omega)]; exact h.2.2
  have q2 : (sI (sI M 29 a (bI true)) 33 L.length (nI a)).1 27 7 = nI L.length := by rw [sI_o (by omega)]; exact q1
  have k1 : decide (a ∈ L) = true → (fun v M' => v = none ∧ Hq 29 33 27 7 nb (adL L a) M' ∧ Sb [27, 29, 33] M M') (none : Option Value) M := fun e => ⟨rfl, by unfold adL; rw [if_pos (decide_eq_true_iff.mp e)]; exact h, Sb.rf⟩
  have k2 : decide (a ∈ L) = false → (fun v M' => v = none ∧ Hq 29 33 27 7 nb (adL L a) M' ∧ Sb [27, 29, 33] M M') (none : Option Value) (sI (sI (sI M 29 a (bI true)) 33 L.length (nI a)) 27 7 (nI (L.length + 1))) := fun e => ⟨rfl, by unfold adL; rw [if_neg (decide_eq_false_iff_not.mp e)]; exact hq_ad h (decide_eq_false_iff_not.mp e) (by decide) (by decide) (by decide), ((Sb.i (by decide)).tr (Sb.i (by decide))).tr (Sb.i (by decide))⟩
  refine Call_of (ls0 := [some (.ref 27), some (.int (nI a))]) rfl rfl (Nat.le_of_ble_eq_true rfl) ?_
  refine E_aload_n dX4_join_0 rfl ?_
  refine E_getR' (ci := 4) (j := 1) (p := 29) dX4_join_1 fkX4_15 rfl (by decide) rfl (by decide) (rfl) ?_
  refine E_iload_n dX4_join_4 rfl ?_
  refine E_zaldN dX4_join_5 rfl (by omega) (by decide) (h29) ?_
  refine E_if_neB (t := 46) dX4_join_6 (by decide) (fun c6 => ?_) (fun c6 => ?_)
  · skip
    have key := k1 c6
    refine E_vret dX4_join_46 rfl ?_
    exact key
  · skip
    have hlt := hl (decide_eq_false_iff_not.mp c6)
    have key := k2 c6
    refine E_aload_n dX4_join_9 rfl ?_
    refine E_getI' (ci := 4) (j := 7) dX4_join_10 fkX4_39 rfl (by decide) rfl (by decide) (h.2.2) ?_
    refine E_sipush (v := nI 1024) dX4_join_13 rfl ?_
    refine E_icmp_geN (t := 46) dX4_join_16 (by decide) (by omega) (by omega) (fun c16 => ?_) (fun c16 => ?_)
    · skip
      exact absurd hlt (by omega)
    · skip
      refine E_aload_n dX4_join_19 rfl ?_
      refine E_getR' (ci := 4) (j := 1) (p := 29) dX4_join_20 fkX4_15 rfl (by decide) rfl (by decide) (rfl) ?_
      refine E_iload_n dX4_join_23 rfl ?_
      refine E_iconst (v := nI 1) dX4_join_24 rfl ?_
      refine E_top (show nI 1 = bI true from rfl) ?_
      refine E_zastN dX4_join_25 rfl (by omega) (by decide) ?_
      refine E_aload_n dX4_join_26 rfl ?_
      refine E_getR' (ci := 4) (j := 5) (p := 33) dX4_join_27 fkX4_28 rfl (by decide) rfl (by decide) (rfl) ?_
      refine E_aload_n dX4_join_30 rfl ?_
      refine E_getI' (ci := 4) (j := 7) dX4_join_31 fkX4_39 rfl (by decide) rfl (by decide) (q1) ?_
      refine E_iload_n dX4_join_34 rfl ?_
      refine E_iastN dX4_join_35 rfl hlt (by decide) ?_
      refine E_aload_n dX4_join_36 rfl ?_
      refine E_dup dX4_join_37 rfl ?_
      refine E_getI' (ci := 4) (j := 7) dX4_join_38 fkX4_39 rfl (by decide) rfl (by decide) (q2) ?_
      refine E_iconst (v := nI 1) dX4_join_41 rfl ?_
      refine E_iaddN dX4_join_42 ?_
      refine E_putI (ci := 4) (j := 7) dX4_join_43 fkX4_39 rfl (by decide) rfl (by decide) ?_
      refine E_vret dX4_join_46 rfl ?_
      exact key
def GaQ (T : TK) (L0 : List Nat) (lp : Nat → Bool) (r : Nat) (M : AM) (v : Option Value) (M' : AM) : Prop := v = none ∧ ∃ (L : List Nat) (lp' : Nat → Bool), Hq 29 33 27 7 (LTn T) L M' ∧ (∀ x, x < LTn T → M'.1 28 x = bI (lp' x)) ∧ GL T L0 r L.length L ∧ (∀ x, x < LTn T → (lp' x = true ↔ lp x = true ∨ (1 < L.length - L0.length ∧ ∃ y : Nat, L0.length ≤ y ∧ L[y]? = some x))) ∧ Sb [27, 28, 29, 33] M M'
theorem ga_98 (hT : WT T) (hB : T 61 13 < 64) {r : Nat} {L0 L : List Nat} {lp : Nat → Bool} (hL : GL T L0 r L.length L) (hgt : 1 < L.length - L0.length) : ∀ (n i : Nat) (M1 : AM) (lpi : Nat → Bool) (y5 y6 : Option Value), L0.length ≤ i → i ≤ L.length → L.length < i + n → Hq 29 33 27 7 (LTn T) L M1 → (∀ x, x < LTn T → M1.1 28 x = bI (lpi x)) → (∀ x, x < LTn T → (lpi x = true ↔ lp x = true ∨ ∃ y : Nat, L0.length ≤ y ∧ y < i ∧ L[y]? = some x)) → Sb [27, 28, 29, 33] M M1 → Ex g qX4_gatherComponent (tm g qX4_gatherComponent (GaQ T L0 lp r M)) 98 [some (.ref 27), some (.ref 9), some (.int (nI r)), some (.int (nI L0.length)), some (.int (nI i)), y5, y6] [] M1 := by
  have hLq := q_le hT hB
  have hln := GL_len hL
  intro n
  induction n with
  | zero => intro i M1 lpi y5 y6 h1 h2 h3; exact absurd h3 (by omega)
  | succ n ih =>
    intro i M1 lpi y5 y6 h1 h2 h3 hq hz hlp hS
    by_cases hlt : i < L.length
    · have hat : L[i]? = some L[i] := List.getElem?_eq_getElem hlt
      obtain ⟨t, ht⟩ : ∃ t, L[i] = t := ⟨_, rfl⟩
      rw [ht] at hat
      have htn := (hL.2.1 t (List.mem_of_getElem? hat)).1
      have h33 : M1.1 33 i = nI t := by rw [hq.2.1 i hlt, getD_of hat]
      have key := ih (i + 1) (sI M1 28 t (bI true)) (fun x => if x = t then true else lpi x) y5 y6 (by omega) (by omega) (by omega) ⟨fun x hx => by rw [sI_ne (by decide)]; exact hq.1 x hx, fun x hx => by rw [sI_ne (by decide)]; exact hq.2.1 x hx, by rw [sI_ne (by decide)]; exact hq.2.2⟩ (fun x hx => by
          by_cases e : x = t
          · rw [if_pos e, e, sI_s]
          · rw [if_neg e, sI_o (fun q => e q.2)]; exact hz x hx) (fun x hx => by
          by_cases e : x = t
          · rw [if_pos e]
            exact ⟨fun _ => Or.inr ⟨i, h1, by omega, by rw [e]; exact hat⟩, fun _ => rfl⟩
          · rw [if_neg e, hlp x hx]
            constructor
            · rintro (q | ⟨y, q1, q2, q3⟩)
              · exact Or.inl q
              · exact Or.inr ⟨y, q1, by omega, q3⟩
            · rintro (q | ⟨y, q1, q2, q3⟩)
              · exact Or.inl q
              · by_cases e2 : y = i
                · rw [e2, hat] at q3
                  exact absurd (Option.some.inj q3).symm e
                · exact Or.inr ⟨y, q1, by omega, q3⟩) (hS.tr (Sb.i (by decide)))
      refine E_iload dX4_gatherComponent_98 rfl ?_
      refine E_aload_n dX4_gatherComponent_100 rfl ?_
      refine E_getI' (ci := 4) (j := 7) dX4_gatherComponent_101 fkX4_39 rfl (by decide) rfl (by decide) (hq.2.2) ?_
      refine E_icmp_geN (t := 126) dX4_gatherComponent_104 (by decide) (by omega) (by omega) (fun c104 => ?_) (fun c104 => ?_)
      · skip
        exact absurd c104 (by omega)
      · skip
        refine E_aload_n dX4_gatherComponent_107 rfl ?_
        refine E_getR' (ci := 4) (j := 0) (p := 28) dX4_gatherComponent_108 fkX4_9 rfl (by decide) rfl (by decide) (rfl) ?_
        refine E_aload_n dX4_gatherComponent_111 rfl ?_
        refine E_getR' (ci := 4) (j := 5) (p := 33) dX4_gatherComponent_112 fkX4_28 rfl (by decide) rfl (by decide) (rfl) ?_
        refine E_iload dX4_gatherComponent_115 rfl ?_
        refine E_ialdN dX4_gatherComponent_117 rfl (by omega) (by decide) (h33) ?_
        refine E_iconst (v := nI 1) dX4_gatherComponent_118 rfl ?_
        refine E_top (show nI 1 = bI true from rfl) ?_
        refine E_zastN dX4_gatherComponent_119 rfl (by omega) (by decide) ?_
        refine E_iincN (b := 1) dX4_gatherComponent_120 rfl rfl (by decide) rfl ?_
        refine E_goto (t := 98) dX4_gatherComponent_123 (by decide) ?_
        exact key
    · have key : GaQ T L0 lp r M (none : Option Value) M1 := ⟨rfl, L, lpi, hq, hz, hL, fun x hx => by
        rw [hlp x hx]
        constructor
        · rintro (q | ⟨y, q1, q2, q3⟩)
          · exact Or.inl q
          · exact Or.inr ⟨hgt, y, q1, q3⟩
        · rintro (q | ⟨-, y, q1, q3⟩)
          · exact Or.inl q
          · exact Or.inr ⟨y, q1, by have := (List.getElem?_eq_some_iff.mp q3).1; omega, q3⟩, hS⟩
      refine E_iload dX4_gatherComponent_98 rfl ?_
      refine E_aload_n dX4_gatherComponent_100 rfl ?_
      refine E_getI' (ci := 4) (j := 7) dX4_gatherComponent_101 fkX4_39 rfl (by decide) rfl (by decide) (hq.2.2) ?_
      refine E_icmp_geN (t := 126) dX4_gatherComponent_104 (by decide) (by omega) (by omega) (fun c104 => ?_) (fun c104 => ?_)
      · skip
        refine E_vret dX4_gatherComponent_126 rfl ?_
        exact key
      · skip
        exact absurd c104 (by omega)
theorem ga_I (hT : WT T) (hB : T 61 13 < 64) (hG : GR T M) {r h t : Nat} {L0 : List Nat} {lp : Nat → Bool} (hc : cloP T L0) (ht : t < LTn T) (nx : ∀ M2 L y, GL T L0 r (h + 1) L → h + 1 ≤ L.length → Hq 29 33 27 7 (LTn T) L M2 → Sb [27, 29, 33] M M2 → Ex g qX4_gatherComponent (tm g qX4_gatherComponent (GaQ T L0 lp r M)) 13 [some (.ref 27), some (.ref 9), some (.int (nI r)), some (.int (nI L0.length)), some (.int (nI (h + 1))), some (.int (nI t)), y] [] M2) : ∀ (n x : Nat) (M2 : AM) (L : List Nat), bF T t ≤ x → x ≤ bF T (t + 1) → bF T (t + 1) < x + n → GL T L0 r h L → L[h]? = some t → (∀ m, m < mN T → mT T m = t → pM T m < x → mF T m ∈ L) → Hq 29 33 27 7 (LTn T) L M2 → Sb [27, 29, 33] M M2 → Ex g qX4_gatherComponent (tm g qX4_gatherComponent (GaQ T L0 lp r M)) 48 [some (.ref 27), some (.ref 9), some (.int (nI r)), some (.int (nI L0.length)), some (.int (nI h)), some (.int (nI t)), some (.int (nI x))] [] M2 := by
  have hLq := q_le hT hB
  have hN := mN_le hT hB
  have hbt := bF_mono (T := T) (show t + 1 ≤ LTn T from ht)
  rw [bF_n hT hB] at hbt
  intro n
  induction n with
  | zero => intro x M2 L h1 h2 h3; exact absurd h3 (by omega)
  | succ n ih =>
    intro x M2 L hx1 hx2 hn hL hat hd hq hS
    have hG2 := gr_sb hG hS (by decide)
    have hhl := (List.getElem?_eq_some_iff.mp hat).1
    by_cases hlt : x < bF T (t + 1)
    · obtain ⟨m, m1, m2, m3⟩ := pM_sur hx1 hlt
      have h20 : M2.1 20 x = nI (mF T m) := by rw [← m3]; exact gr_bk hG2 m1
      have hLn := GL_len hL
      have hL2 := GL_ad hT hB hc hL (by omega) m1 (by rw [m2]; exact List.mem_of_getElem? hat)
      have hln : ¬ mF T m ∈ L → L.length < 1024 := fun e => by
        have h1 := GL_len hL2
        unfold adL at h1
        rw [if_neg e, List.length_append] at h1
        have : [mF T m].length = 1 := rfl
        omega
      have K : ∀ M3, Hq 29 33 27 7 (LTn T) (adL L (mF T m)) M3 → Sb [27, 29, 33] M2 M3 → Ex g qX4_gatherComponent (tm g qX4_gatherComponent (GaQ T L0 lp r M)) 48 [some (.ref 27), some (.ref 9), some (.int (nI r)), some (.int (nI L0.length)), some (.int (nI h)), some (.int (nI t)), some (.int (nI (x + 1)))] [] M3 := fun M3 g1 g2 => ih (x + 1) M3 _ (by omega) (by omega) (by omega) hL2 (adL_get hat) (fun m' e1 e2 e3 => by
        by_cases e : pM T m' = x
        · have : m' = m := by
            rcases Nat.lt_trichotomy m' m with q | q | q
            · exact absurd (e.trans m3.symm) (pM_inj hT hB q m1)
            · exact q
            · exact absurd (m3.trans e.symm) (pM_inj hT hB q e1)
          rw [this]
          exact adL_m.mpr (Or.inr rfl)
        · exact adL_m.mpr (Or.inl (hd m' e1 e2 (by omega)))) g1 (hS.tr g2)
      refine E_iload dX4_gatherComponent_48 rfl ?_
      refine E_aload_n dX4_gatherComponent_50 rfl ?_
      refine E_getR' (ci := 2) (j := 9) (p := 19) dX4_gatherComponent_51 fkX4_74 rfl (by decide) rfl (by decide) (rfl) ?_
      refine E_iload dX4_gatherComponent_54 rfl ?_
      refine E_iconst (v := nI 1) dX4_gatherComponent_56 rfl ?_
      refine E_iaddN dX4_gatherComponent_57 ?_
      refine E_ialdN dX4_gatherComponent_58 rfl (by omega) (by decide) (gr_bf hG2 (show t + 1 ≤ LTn T from ht)) ?_
      refine E_icmp_geN (t := 79) dX4_gatherComponent_59 (by decide) (by omega) (by omega) (fun c59 => ?_) (fun c59 => ?_)
      · skip
        exact absurd c59 (by omega)
      · skip
        refine E_aload_n dX4_gatherComponent_62 rfl ?_
        refine E_aload_n dX4_gatherComponent_63 rfl ?_
        refine E_getR' (ci := 2) (j := 10) (p := 20) dX4_gatherComponent_64 fkX4_77 rfl (by decide) rfl (by decide) (rfl) ?_
        refine E_iload dX4_gatherComponent_67 rfl ?_
        refine E_ialdN dX4_gatherComponent_69 rfl (by omega) (by decide) (h20) ?_
        refine E_callV (r := qX4_join) (ci := 4) dX4_gatherComponent_70 mkX4_70 voX4_join rfl rfl rfl ⟨Nat.le_of_ble_eq_true rfl, Nat.le_of_ble_eq_true rfl, Nat.le_of_ble_eq_true rfl, Nat.le_of_ble_eq_true rfl⟩ (c_join hq (mv_ok hT hB m1).1 hLq hln) rfl (Nat.le_of_ble_eq_true rfl) ?_
        rintro _ M3 ⟨rfl, g1, g2⟩
        refine E_iincN (b := 1) dX4_gatherComponent_73 rfl rfl (by decide) rfl ?_
        refine E_goto (t := 48) dX4_gatherComponent_76 (by decide) ?_
        exact K M3 g1 g2
    · have key := nx M2 L (some (.int (nI x))) ⟨hL.1, hL.2.1, hL.2.2.1, hL.2.2.2.1, fun y u m hy h1 h2 h3 => by
        by_cases e : y = h
        · subst e
          rw [hat] at h1
          cases h1
          have := (pM_lt hT hB h2).2.1
          rw [h3] at this
          exact hd m h2 h3 (by omega)
        · exact hL.2.2.2.2 y u m (by omega) h1 h2 h3⟩ (by omega) hq hS
      refine E_iload dX4_gatherComponent_48 rfl ?_
      refine E_aload_n dX4_gatherComponent_50 rfl ?_
      refine E_getR' (ci := 2) (j := 9) (p := 19) dX4_gatherComponent_51 fkX4_74 rfl (by decide) rfl (by decide) (rfl) ?_
      refine E_iload dX4_gatherComponent_54 rfl ?_
      refine E_iconst (v := nI 1) dX4_gatherComponent_56 rfl ?_
      refine E_iaddN dX4_gatherComponent_57 ?_
      refine E_ialdN dX4_gatherComponent_58 rfl (by omega) (by decide) (gr_bf hG2 (show t + 1 ≤ LTn T from ht)) ?_
      refine E_icmp_geN (t := 79) dX4_gatherComponent_59 (by decide) (by omega) (by omega) (fun c59 => ?_) (fun c59 => ?_)
      · skip
        refine E_iincN (b := 1) dX4_gatherComponent_79 rfl rfl (by decide) rfl ?_
        refine E_goto (t := 13) dX4_gatherComponent_82 (by decide) ?_
        exact key
      · skip
        exact absurd c59 (by omega)
theorem ga_13 (hT : WT T) (hB : T 61 13 < 64) (hG : GR T M) {r : Nat} {L0 : List Nat} {lp : Nat → Bool} (hc : cloP T L0) (hz : ∀ x, x < LTn T → M.1 28 x = bI (lp x)) : ∀ (n h : Nat) (M1 : AM) (L : List Nat) (y5 y6 : Option Value), h ≤ LTn T → LTn T < h + n → GL T L0 r h L → h ≤ L.length → Hq 29 33 27 7 (LTn T) L M1 → Sb [27, 29, 33] M M1 → Ex g qX4_gatherComponent (tm g qX4_gatherComponent (GaQ T L0 lp r M)) 13 [some (.ref 27), some (.ref 9), some (.int (nI r)), some (.int (nI L0.length)), some (.int (nI h)), y5, y6] [] M1 := by
  have hLq := q_le hT hB
  have hN := mN_le hT hB
  intro n
  induction n with
  | zero => intro h M1 L y4 y5 h1 h2; exact absurd h2 (by omega)
  | succ n ih =>
    intro h M1 L y5 y6 hh hn hL hhl hq hS
    have hG2 := gr_sb hG hS (by decide)
    have hLn := GL_len hL
    have hle := GL_le hL
    by_cases hlt : h < L.length
    · have hat : L[h]? = some L[h] := List.getElem?_eq_getElem hlt
      obtain ⟨t, ht⟩ : ∃ t, L[h] = t := ⟨_, rfl⟩
      rw [ht] at hat
      have htn := (hL.2.1 t (List.mem_of_getElem? hat)).1
      have h33 : M1.1 33 h = nI t := by rw [hq.2.1 h hlt, getD_of hat]
      have hbt := bF_mono (T := T) (show t + 1 ≤ LTn T from htn)
      rw [bF_n hT hB] at hbt
      have key := ga_I (g := g) (lp := lp) hT hB hG hc htn (fun M2 L' y g1 g2 g3 g4 => ih (h + 1) M2 L' _ y (by omega) (by omega) g1 g2 g3 g4) (bF T (t + 1) - bF T t + 1) (bF T t) M1 L (Nat.le_refl _) (bF_mono (by omega)) (by have := bF_mono (T := T) (show t ≤ t + 1 by omega); omega) hL hat (fun m e1 e2 e3 => by
        have := (pM_lt hT hB e1).1
        rw [e2] at this
        omega) hq hS
      refine E_iload dX4_gatherComponent_13 rfl ?_
      refine E_sipush (v := nI 1024) dX4_gatherComponent_15 rfl ?_
      refine E_icmp_geN (t := 85) dX4_gatherComponent_18 (by decide) (by omega) (by omega) (fun c18 => ?_) (fun c18 => ?_)
      · skip
        exact absurd c18 (by omega)
      · skip
        refine E_iload dX4_gatherComponent_21 rfl ?_
        refine E_aload_n dX4_gatherComponent_23 rfl ?_
        refine E_getI' (ci := 4) (j := 7) dX4_gatherComponent_24 fkX4_39 rfl (by decide) rfl (by decide) (hq.2.2) ?_
        refine E_icmp_geN (t := 85) dX4_gatherComponent_27 (by decide) (by omega) (by omega) (fun c27 => ?_) (fun c27 => ?_)
        · skip
          exact absurd c27 (by omega)
        · skip
          refine E_aload_n dX4_gatherComponent_30 rfl ?_
          refine E_getR' (ci := 4) (j := 5) (p := 33) dX4_gatherComponent_31 fkX4_28 rfl (by decide) rfl (by decide) (rfl) ?_
          refine E_iload dX4_gatherComponent_34 rfl ?_
          refine E_ialdN dX4_gatherComponent_36 rfl (by omega) (by decide) (h33) ?_
          refine E_istore dX4_gatherComponent_37 (by decide) rfl ?_
          refine E_aload_n dX4_gatherComponent_39 rfl ?_
          refine E_getR' (ci := 2) (j := 9) (p := 19) dX4_gatherComponent_40 fkX4_74 rfl (by decide) rfl (by decide) (rfl) ?_
          refine E_iload dX4_gatherComponent_43 rfl ?_
          refine E_ialdN dX4_gatherComponent_45 rfl (by omega) (by decide) (gr_bf hG2 (show t ≤ LTn T by omega)) ?_
          refine E_istore dX4_gatherComponent_46 (by decide) rfl ?_
          exact key
    · have hL2 : GL T L0 r L.length L := by rw [show L.length = h by omega]; exact hL
      have hz1 : ∀ x, x < LTn T → M1.1 28 x = bI (lp x) := fun x hx => by rw [(hS 28 (by decide)).1]; exact hz x hx
      have hS2 : Sb [27, 28, 29, 33] M M1 := hS.sub (by decide)
      have K1 : L.length - L0.length ≤ 1 → GaQ T L0 lp r M (none : Option Value) M1 := fun e => ⟨rfl, L, lp, hq, hz1, hL2, fun x hx => ⟨fun q => Or.inl q, fun q => q.elim id (fun q => absurd q.1 (by omega))⟩, hS2⟩
      have K2 : 1 < L.length - L0.length → ∀ y5 y6, Ex g qX4_gatherComponent (tm g qX4_gatherComponent (GaQ T L0 lp r M)) 98 [some (.ref 27), some (.ref 9), some (.int (nI r)), some (.int (nI L0.length)), some (.int (nI L0.length)), y5, y6] [] M1 := fun e y5 y6 => ga_98 hT hB hL2 e (L.length - L0.length + 1) L0.length M1 lp y5 y6 (Nat.le_refl _) hle (by omega) hq hz1 (fun x hx => ⟨fun q => Or.inl q, fun q => q.elim id (fun ⟨y, q1, q2, _⟩ => absurd q2 (by omega))⟩) hS2
      refine E_iload dX4_gatherComponent_13 rfl ?_
      refine E_sipush (v := nI 1024) dX4_gatherComponent_15 rfl ?_
      refine E_icmp_geN (t := 85) dX4_gatherComponent_18 (by decide) (by omega) (by omega) (fun c18 => ?_) (fun c18 => ?_)
      · skip
        refine E_aload_n dX4_gatherComponent_85 rfl ?_
        refine E_getI' (ci := 4) (j := 7) dX4_gatherComponent_86 fkX4_39 rfl (by decide) rfl (by decide) (hq.2.2) ?_
        refine E_iload_n dX4_gatherComponent_89 rfl ?_
        refine E_isubN dX4_gatherComponent_90 hle ?_
        refine E_iconst (v := nI 1) dX4_gatherComponent_91 rfl ?_
        refine E_icmp_leN (t := 126) dX4_gatherComponent_92 (by decide) (by omega) (by omega) (fun c92 => ?_) (fun c92 => ?_)
        · skip
          refine E_vret dX4_gatherComponent_126 rfl ?_
          exact K1 c92
        · skip
          refine E_iload_n dX4_gatherComponent_95 rfl ?_
          refine E_istore dX4_gatherComponent_96 (by decide) rfl ?_
          exact K2 c92 _ _
      · skip
        refine E_iload dX4_gatherComponent_21 rfl ?_
        refine E_aload_n dX4_gatherComponent_23 rfl ?_
        refine E_getI' (ci := 4) (j := 7) dX4_gatherComponent_24 fkX4_39 rfl (by decide) rfl (by decide) (hq.2.2) ?_
        refine E_icmp_geN (t := 85) dX4_gatherComponent_27 (by decide) (by omega) (by omega) (fun c27 => ?_) (fun c27 => ?_)
        · skip
          refine E_aload_n dX4_gatherComponent_85 rfl ?_
          refine E_getI' (ci := 4) (j := 7) dX4_gatherComponent_86 fkX4_39 rfl (by decide) rfl (by decide) (hq.2.2) ?_
          refine E_iload_n dX4_gatherComponent_89 rfl ?_
          refine E_isubN dX4_gatherComponent_90 hle ?_
          refine E_iconst (v := nI 1) dX4_gatherComponent_91 rfl ?_
          refine E_icmp_leN (t := 126) dX4_gatherComponent_92 (by decide) (by omega) (by omega) (fun c92 => ?_) (fun c92 => ?_)
          · skip
            refine E_vret dX4_gatherComponent_126 rfl ?_
            exact K1 c92
          · skip
            refine E_iload_n dX4_gatherComponent_95 rfl ?_
            refine E_istore dX4_gatherComponent_96 (by decide) rfl ?_
            exact K2 c92 _ _
        · skip
          exact absurd c27 (by omega)
theorem c_gather (hT : WT T) (hB : T 61 13 < 64) (hG : GR T M) {r : Nat} {L0 : List Nat} {lp : Nat → Bool} (hr : r < LTn T) (hn : L0.Nodup) (hl : ∀ x ∈ L0, x < LTn T) (hc : cloP T L0) (hq : Hq 29 33 27 7 (LTn T) L0 M) (hz : ∀ x, x < LTn T → M.1 28 x = bI (lp x)) : Call g qX4_gatherComponent [.ref 27, .ref 9, .int (nI r)] M (GaQ T L0 lp r M) := by
  have hLq := q_le hT hB
  have h0 := GL_0 hr hn hl hc
  have hln : ¬ r ∈ L0 → L0.length < 1024 := fun e => by
    have h1 := GL_len h0
    unfold adL at h1
    rw [if_neg e, List.length_append] at h1
    have : [r].length = 1 := rfl
    omega
  have hll := GL_le h0
  have hlm := GL_len h0
  have K : ∀ M1, Hq 29 33 27 7 (LTn T) (adL L0 r) M1 → Sb [27, 29, 33] M M1 → Ex g qX4_gatherComponent (tm g qX4_gatherComponent (GaQ T L0 lp r M)) 13 [some (.ref 27), some (.ref 9), some (.int (nI r)), some (.int (nI L0.length)), some (.int (nI L0.length)), none, none] [] M1 := fun M1 g1 g2 => ga_13 hT hB hG hc hz (LTn T + 1) L0.length M1 _ none none (by omega) (by omega) h0 hll g1 g2
  refine Call_of (ls0 := [some (.ref 27), some (.ref 9), some (.int (nI r)), none, none, none, none]) rfl rfl (Nat.le_of_ble_eq_true rfl) ?_
  refine E_aload_n dX4_gatherComponent_0 rfl ?_
  refine E_getI' (ci := 4) (j := 7) dX4_gatherComponent_1 fkX4_39 rfl (by decide) rfl (by decide) (hq.2.2) ?_
  refine E_ist_n (i := 3) dX4_gatherComponent_4 rfl (by decide) rfl ?_
  refine E_aload_n dX4_gatherComponent_5 rfl ?_
  refine E_iload_n dX4_gatherComponent_6 rfl ?_
  refine E_callV (r := qX4_join) (ci := 4) dX4_gatherComponent_7 mkX4_70 voX4_join rfl rfl rfl ⟨Nat.le_of_ble_eq_true rfl, Nat.le_of_ble_eq_true rfl, Nat.le_of_ble_eq_true rfl, Nat.le_of_ble_eq_true rfl⟩ (c_join hq hr hLq hln) rfl (Nat.le_of_ble_eq_true rfl) ?_
  rintro _ M1 ⟨rfl, g1, g2⟩
  refine E_iload_n dX4_gatherComponent_10 rfl ?_
  refine E_istore dX4_gatherComponent_11 (by decide) rfl ?_
  exact K M1 g1 g2
end K5
