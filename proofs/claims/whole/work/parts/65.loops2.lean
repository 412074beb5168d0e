-- the class's loops, pure: what the order of the finished gives
section K2
variable {T : TK}
def FO (T : TK) (F : List Nat) : Prop := F.Nodup ∧ (∀ x, x ∈ F ↔ x < LTn T) ∧ F.length = LTn T ∧ ∀ (i v m : Nat), F[i]? = some v → fO T v ≤ m → m < fO T (v + 1) → ∃ k : Nat, F[k]? = some (mT T m) ∧ (k ≤ i ∨ ∀ (y z : Nat), i ≤ y → y ≤ k → F[y]? = some z → rea T (mT T m) z)
theorem sP_move (hT : WT T) (hB : T 61 13 < 64) {u v : Nat} (hu : u < LTn T) (h : v ∈ sP T okT u) : ∃ m, m < mN T ∧ mF T m = u ∧ mT T m = v ∧ fO T u ≤ m ∧ m < fO T (u + 1) := by
  obtain ⟨m, h1, h2, -, h4⟩ := sP_m.mp h
  have := mv_sl hu h1 h2
  exact ⟨m, this.2, this.1, h4, h1, h2⟩
theorem nd_len {L : List Nat} {n : Nat} (h1 : ∀ i, i < n → i ∈ L) : n ≤ L.length := by
  have h2 : ∀ i, i < n → ∃ k, L[k]? = some i := fun i hi => List.getElem?_of_mem (h1 i hi)
  refine inj_le (f := fun i => if h : i < n then Classical.choose (h2 i h) else 0) (fun i hi => ?_) (fun i j hij hj e => ?_)
  · rw [dif_pos hi]
    exact (List.getElem?_eq_some_iff.mp (Classical.choose_spec (h2 i hi))).1
  · rw [dif_pos (show i < n by omega), dif_pos hj] at e
    have q1 := Classical.choose_spec (h2 i (by omega))
    have q2 := Classical.choose_spec (h2 j hj)
    rw [e, q2] at q1
    have := Option.some.inj q1
    omega
theorem fo_of (hT : WT T) (hB : T 61 13 < 64) {F : List Nat} {nm : Nat → Nat} (h : DI T ([], F, nm)) : FO T F := by
  obtain ⟨h1, h2, h3, h4, h5, h6⟩ := h
  have hs : ∀ x, sn ([], F, nm) x ↔ x ∈ F := fun x => ⟨fun q => q.elim (fun q => absurd q List.not_mem_nil) id, Or.inr⟩
  have hcl : ∀ n x, rch (sP T okT) 0 n x → x ∈ F := by
    intro n
    induction n with
    | zero => intro x hx; rw [show x = 0 from hx]; exact (hs 0).mp h6
    | succ n ih =>
      rintro x ⟨u, q1, q2⟩
      have hu := ih u q1
      obtain ⟨i, hi⟩ := List.getElem?_of_mem hu
      have e1 := (h5 i u hi).1
      have hul := (h2 u ((hs u).mpr hu)).1
      obtain ⟨m, m1, m2, m3, m4, m5⟩ := sP_move hT hB hul q2
      have := h3 u m ((hs u).mpr hu) m4 (by rw [e1]; exact m5)
      rw [m3] at this
      exact (hs x).mp this
  have hall : ∀ x, x < LTn T → x ∈ F := fun x hx => hcl _ x (rea_0 hT hB _ x hx rfl)
  have hnd : F.Nodup := h1
  have hlt : ∀ x ∈ F, x < LTn T := fun x hx => (h2 x (Or.inr hx)).1
  refine ⟨hnd, fun x => ⟨hlt x, hall x⟩, Nat.le_antisymm (nodup_len _ _ hnd hlt) (nd_len hall), fun i v m hv m1 m2 => ?_⟩
  rcases (h5 i v hv).2 m m1 m2 with q | q
  · exact q
  · exact absurd q.1 List.not_mem_nil
/-- among those not yet taken, what comes to the one that was finished last is come to from it -/
theorem kos (hT : WT T) (hB : T 61 13 < 64) {F L0 : List Nat} {R r : Nat} (hF : FO T F) (hcl : ∀ m, m < mN T → mT T m ∈ L0 → mF T m ∈ L0) (hR : F[R]? = some r) (hlate : ∀ (k x : Nat), R < k → F[k]? = some x → x ∈ L0) : ∀ (d fx x : Nat), R - fx ≤ d → F[fx]? = some x → ¬ x ∈ L0 → rea T x r → rea T r x := by
  obtain ⟨f1, f2, f3, f4⟩ := hF
  have hix : ∀ (i j x : Nat), F[i]? = some x → F[j]? = some x → i = j := fun i j x hi hj => by
    have hl := (List.getElem?_eq_some_iff.mp hi).1
    exact (List.getElem?_inj hl f1).mp (hi.trans hj.symm)
  have hle : ∀ (k x : Nat), F[k]? = some x → ¬ x ∈ L0 → k ≤ R := fun k x h1 h2 => Nat.le_of_not_lt (fun e => h2 (hlate k x e h1))
  intro d
  induction d with
  | zero =>
    intro fx x hd hx hn hr
    have := hle fx x hx hn
    have e : fx = R := by omega
    rw [e, hR] at hx
    cases hx
    exact rea_rf
  | succ d ih =>
    intro fx x hd hx hn hr
    have hxR := hle fx x hx hn
    by_cases e : fx = R
    · rw [e, hR] at hx
      cases hx
      exact rea_rf
    · have P : ∀ (n v fv : Nat), F[fv]? = some v → fv ≤ fx → ¬ v ∈ L0 → rch (sP T okT) v n r → ∃ w fw, F[fw]? = some w ∧ fx < fw ∧ ¬ w ∈ L0 ∧ rea T w r ∧ rea T w x := by
        intro n
        induction n with
        | zero =>
          intro v fv hv hfv hvn hvr
          have : r = v := hvr
          subst this
          have := hix fv R r hv hR
          omega
        | succ n ihn =>
          intro v fv hv hfv hvn hvr
          obtain ⟨w, q1, q2⟩ := rch_cons.mp hvr
          have hvl := (f2 v).mp (List.mem_of_getElem? hv)
          obtain ⟨m, m1, m2, m3, m4, m5⟩ := sP_move hT hB hvl q1
          have hwn : ¬ w ∈ L0 := fun q => hvn (by rw [← m2]; exact hcl m m1 (by rw [m3]; exact q))
          obtain ⟨k, k1, k2⟩ := f4 fv v m hv m4 m5
          rw [m3] at k1 k2
          by_cases q : k ≤ fx
          · exact ihn w k k1 q hwn q2
          · rcases k2 with k2 | k2
            · omega
            · exact ⟨w, k, k1, by omega, hwn, ⟨n, q2⟩, k2 fx x hfv (by omega) hx⟩
      obtain ⟨n, hn2⟩ := hr
      obtain ⟨w, fw, w1, w2, w3, w4, w5⟩ := P n x fx hx (Nat.le_refl _) hn hn2
      exact rea_tr (ih fw w (by omega) w1 w3 w4) w5
/-- turns: each passes a move or finishes a place -/
noncomputable def tuN (T : TK) (δ : DF) : Nat := smN (fun x => @ite Nat (sn δ x) (Classical.propDecidable _) (δ.2.2 x - fO T x) 0) (LTn T) + δ.2.1.length
theorem smN_le2 {f h : Nat → Nat} : ∀ {n : Nat}, (∀ t, t < n → f t ≤ h t) → smN f n ≤ smN h n
  | 0, _ => Nat.le_refl _
  | n + 1, e => by
    show smN f n + f n ≤ smN h n + h n
    have h1 := smN_le2 (f := f) (h := h) (n := n) (fun t ht => e t (by omega))
    have h2 := e n (by omega)
    omega
theorem tele : ∀ n, smN (fun x => fO T (x + 1) - fO T x) n = fO T n
  | 0 => rfl
  | n + 1 => by
    show smN _ n + (fO T (n + 1) - fO T n) = _
    have := tele n
    have h2 := fO_le (T := T) (show n ≤ n + 1 by omega)
    omega
theorem tu_le {δ : DF} (h : DI T δ) : tuN T δ + δ.1.length ≤ mN T + LTn T := by
  have h1 := DI_len h
  have h2 : smN (fun x => @ite Nat (sn δ x) (Classical.propDecidable _) (δ.2.2 x - fO T x) 0) (LTn T) ≤ smN (fun x => fO T (x + 1) - fO T x) (LTn T) := smN_le2 (fun x hx => by
    split
    · rename_i q
      have := (h.2.1 x q).2.2
      omega
    · exact Nat.zero_le _)
  rw [tele] at h2
  unfold tuN
  show _ + _ + _ ≤ fO T (LTn T) + _
  omega
theorem tu_M {δ : DF} {a : Nat} (h : DI T δ) (ha : sn δ a) : tuN T (dfM δ a) = tuN T δ + 1 := by
  have hal := (h.2.1 a ha).1
  unfold tuN
  have e : smN (fun x => @ite Nat (sn (dfM δ a) x) (Classical.propDecidable _) ((dfM δ a).2.2 x - fO T x) 0) (LTn T) = smN (fun x => @ite Nat (sn δ x) (Classical.propDecidable _) (δ.2.2 x - fO T x) 0) (LTn T) + 1 := smN_add1 (k := a) hal (fun x hx => by
    show @ite Nat (sn δ x) (Classical.propDecidable _) ((if x = a then δ.2.2 a + 1 else δ.2.2 x) - fO T x) 0 = _
    by_cases q : sn δ x
    · rw [if_pos q, if_pos q]
      have := (h.2.1 x q).2.1
      by_cases q2 : x = a
      · rw [if_pos q2, if_pos q2.symm, q2]
        rw [q2] at this
        omega
      · rw [if_neg q2, if_neg (fun e => q2 e.symm)]; rfl
    · rw [if_neg q, if_neg q, if_neg (fun (e : a = x) => q (e ▸ ha))])
  rw [e]
  show _ + 1 + δ.2.1.length = _
  omega
theorem tu_P {δ : DF} {t : Nat} (hn : ¬ sn δ t) : tuN T (dfP T δ t) = tuN T δ := by
  unfold tuN
  have hsn : ∀ x, sn (dfP T δ t) x ↔ sn δ x ∨ x = t := fun x => by
    unfold sn dfP
    simp only [List.mem_append, List.mem_singleton]
    exact ⟨fun q => q.elim (fun q => q.elim (fun q => Or.inl (Or.inl q)) Or.inr) (fun q => Or.inl (Or.inr q)), fun q => q.elim (fun q => q.elim (fun q => Or.inl (Or.inl q)) Or.inr) (fun q => Or.inl (Or.inr q))⟩
  have e : smN (fun x => @ite Nat (sn (dfP T δ t) x) (Classical.propDecidable _) ((dfP T δ t).2.2 x - fO T x) 0) (LTn T) = smN (fun x => @ite Nat (sn δ x) (Classical.propDecidable _) (δ.2.2 x - fO T x) 0) (LTn T) := smN_cong (fun x hx => by
    have e2 : (dfP T δ t).2.2 x = if x = t then fO T t else δ.2.2 x := rfl
    rw [e2]
    by_cases q : sn δ x
    · rw [if_pos q, if_pos ((hsn x).mpr (Or.inl q)), if_neg (fun (e : x = t) => hn (e ▸ q))]
    · rw [if_neg q]
      by_cases q2 : x = t
      · rw [if_pos ((hsn x).mpr (Or.inr q2)), if_pos q2, q2]; omega
      · rw [if_neg (fun e => ((hsn x).mp e).elim q q2)])
  rw [e]
  rfl
theorem tu_E {S F : List Nat} {nm : Nat → Nat} {a : Nat} : tuN T (dfE S F nm a) = tuN T (S ++ [a], F, nm) + 1 := by
  unfold tuN
  have hsn : ∀ x, sn (dfE S F nm a) x ↔ sn (S ++ [a], F, nm) x := fun x => by
    unfold sn dfE
    simp only [List.mem_append, List.mem_singleton]
    exact ⟨fun q => q.elim (fun q => Or.inl (Or.inl q)) (fun q => q.elim Or.inr (fun q => Or.inl (Or.inr q))), fun q => q.elim (fun q => q.elim Or.inl (fun q => Or.inr (Or.inr q))) (fun q => Or.inr (Or.inl q))⟩
  have e : smN (fun x => @ite Nat (sn (dfE S F nm a) x) (Classical.propDecidable _) ((dfE S F nm a).2.2 x - fO T x) 0) (LTn T) = smN (fun x => @ite Nat (sn (S ++ [a], F, nm) x) (Classical.propDecidable _) (nm x - fO T x) 0) (LTn T) := smN_cong (fun x hx => by
    show @ite Nat (sn (dfE S F nm a) x) (Classical.propDecidable _) (nm x - fO T x) 0 = _
    by_cases q : sn (S ++ [a], F, nm) x
    · rw [if_pos q, if_pos ((hsn x).mpr q)]
    · rw [if_neg q, if_neg (fun e => q ((hsn x).mp e))])
  rw [e]
  have hl : (F ++ [a]).length = F.length + 1 := by rw [List.length_append]; rfl
  show _ + (F ++ [a]).length = _
  rw [hl]
  rfl
end K2
