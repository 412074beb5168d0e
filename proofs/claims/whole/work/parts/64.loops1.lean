-- the class's loops, pure: depth first, components
section K1
variable {T : TK}
def rea (T : TK) (u v : Nat) : Prop := ∃ n, rch (sP T okT) u n v
theorem rch_tr {succ : Nat → List Nat} {u v w : Nat} {n : Nat} (h1 : rch succ u n v) : ∀ {k : Nat}, rch succ v k w → rch succ u (n + k) w := by
  intro k
  induction k generalizing w with
  | zero => intro h; rw [show w = v from h]; exact h1
  | succ k ih =>
    rintro ⟨x, h2, h3⟩
    exact ⟨x, ih h2, h3⟩
theorem rea_rf {u : Nat} : rea T u u := ⟨0, rfl⟩
theorem rea_tr {u v w : Nat} (h1 : rea T u v) (h2 : rea T v w) : rea T u w := by
  obtain ⟨n, h1⟩ := h1
  obtain ⟨k, h2⟩ := h2
  exact ⟨n + k, rch_tr h1 h2⟩
theorem rea_1 {u v : Nat} (h : v ∈ sP T okT u) : rea T u v := ⟨1, u, rfl, h⟩
theorem rch_lt (hT : WT T) (hB : T 61 13 < 64) {ok : Nat → Bool} {u v : Nat} (hu : u < LTn T) : ∀ {n : Nat}, rch (sP T ok) u n v → v < LTn T := by
  intro n
  induction n generalizing v with
  | zero => intro h; rw [show v = u from h]; exact hu
  | succ n ih => rintro ⟨x, h1, h2⟩; exact sP_lt hT hB x v (ih h1) h2
theorem rea_0 (hT : WT T) (hB : T 61 13 < 64) : ∀ (d i : Nat), i < LTn T → dQ T i = d → rch (sP T okT) 0 d i
  | 0, i, hi, hd => (dQ_z hT hB hi).mp hd
  | d + 1, i, hi, hd => by
    have h0 : 0 < i := Nat.pos_of_ne_zero (fun e => by have := (dQ_z hT hB hi).mpr e; omega)
    obtain ⟨m, h1, h2, h3⟩ := dQ_pred hT hB h0 hi
    have ok := mv_ok hT hB h1
    exact ⟨mF T m, rea_0 hT hB d (mF T m) ok.1 (by omega), sP_m.mpr ⟨m, ok.2.1, ok.2.2.1, rfl, h2⟩⟩
abbrev DF : Type := List Nat × List Nat × (Nat → Nat)
def sn (δ : DF) (x : Nat) : Prop := x ∈ δ.1 ∨ x ∈ δ.2.1
/-- where v is finished, at place i: each w that it leads to is finished sooner, or leads to all that was finished from v to w (or till now) -/
def fP (T : TK) (δ : DF) (i v : Nat) : Prop := ∀ m, fO T v ≤ m → m < fO T (v + 1) → (∃ k : Nat, δ.2.1[k]? = some (mT T m) ∧ (k ≤ i ∨ ∀ (y : Nat) z, i ≤ y → y ≤ k → δ.2.1[y]? = some z → rea T (mT T m) z)) ∨ (mT T m ∈ δ.1 ∧ ∀ (y : Nat) z, i ≤ y → δ.2.1[y]? = some z → rea T (mT T m) z)
def DI (T : TK) (δ : DF) : Prop := (δ.1 ++ δ.2.1).Nodup ∧ (∀ x, sn δ x → x < LTn T ∧ fO T x ≤ δ.2.2 x ∧ δ.2.2 x ≤ fO T (x + 1)) ∧ (∀ x m, sn δ x → fO T x ≤ m → m < δ.2.2 x → sn δ (mT T m)) ∧ (∀ (j j' : Nat) u v, j ≤ j' → δ.1[j]? = some u → δ.1[j']? = some v → rea T u v) ∧ (∀ (i : Nat) v, δ.2.1[i]? = some v → δ.2.2 v = fO T (v + 1) ∧ fP T δ i v) ∧ sn δ 0
theorem DI_len {δ : DF} (h : DI T δ) : δ.1.length + δ.2.1.length ≤ LTn T := by
  have := nodup_len (LTn T) (δ.1 ++ δ.2.1) h.1 (fun x hx => (h.2.1 x (List.mem_append.mp hx)).1)
  rw [List.length_append] at this
  exact this
/-- a move passed: to what is seen -/
def dfM (δ : DF) (a : Nat) : DF := (δ.1, δ.2.1, fun x => if x = a then δ.2.2 a + 1 else δ.2.2 x)
noncomputable def dfP (T : TK) (δ : DF) (t : Nat) : DF := (δ.1 ++ [t], δ.2.1, fun x => if x = t then fO T t else δ.2.2 x)
def dfE (S F : List Nat) (nm : Nat → Nat) (a : Nat) : DF := (S, F ++ [a], nm)
theorem dfM_ok {δ : DF} {a : Nat} (h : DI T δ) (ha : a ∈ δ.1) (hm : δ.2.2 a < fO T (a + 1)) (hs : sn δ (mT T (δ.2.2 a))) : DI T (dfM δ a) := by
  obtain ⟨h1, h2, h3, h4, h5, h6⟩ := h
  refine ⟨h1, fun x hx => ?_, fun x m hx m1 m2 => ?_, h4, fun i v hv => ?_, h6⟩
  · have := h2 x hx
    refine ⟨this.1, ?_, ?_⟩
    · show fO T x ≤ if x = a then δ.2.2 a + 1 else δ.2.2 x
      by_cases e : x = a
      · rw [if_pos e, e]; have := h2 a (Or.inl ha); omega
      · rw [if_neg e]; exact this.2.1
    · show (if x = a then δ.2.2 a + 1 else δ.2.2 x) ≤ _
      by_cases e : x = a
      · rw [if_pos e, e]; omega
      · rw [if_neg e]; exact this.2.2
  · have m2 : m < if x = a then δ.2.2 a + 1 else δ.2.2 x := m2
    by_cases e : x = a
    · rw [if_pos e] at m2
      subst e
      by_cases e2 : m = δ.2.2 x
      · rw [e2]; exact hs
      · exact h3 x m hx m1 (by omega)
    · rw [if_neg e] at m2
      exact h3 x m hx m1 m2
  · obtain ⟨e1, e2⟩ := h5 i v hv
    have hne : v ≠ a := fun e => by
      subst e
      have := List.nodup_append.mp h1
      exact this.2.2 v ha v (List.mem_of_getElem? hv) rfl
    exact ⟨by show (if v = a then δ.2.2 a + 1 else δ.2.2 v) = _; rw [if_neg hne]; exact e1, e2⟩
theorem dfP_ok (hT : WT T) (hB : T 61 13 < 64) {δ : DF} {t : Nat} (h : DI T δ) (ht : t < LTn T) (hn : ¬ sn δ t) (hr : ∀ u, u ∈ δ.1 → rea T u t) : DI T (dfP T δ t) := by
  obtain ⟨h1, h2, h3, h4, h5, h6⟩ := h
  have hsn : ∀ x, sn (dfP T δ t) x ↔ sn δ x ∨ x = t := fun x => by
    unfold sn dfP
    simp only [List.mem_append, List.mem_singleton]
    exact ⟨fun q => q.elim (fun q => q.elim (fun q => Or.inl (Or.inl q)) Or.inr) (fun q => Or.inl (Or.inr q)), fun q => q.elim (fun q => q.elim (fun q => Or.inl (Or.inl q)) Or.inr) (fun q => Or.inl (Or.inr q))⟩
  have hnm : ∀ x, sn δ x → (dfP T δ t).2.2 x = δ.2.2 x := fun x hx => by
    have hne : x ≠ t := fun e => hn (e ▸ hx)
    show (if x = t then fO T t else δ.2.2 x) = _
    rw [if_neg hne]
  have hnt : (dfP T δ t).2.2 t = fO T t := by show (if t = t then _ else _) = _; rw [if_pos rfl]
  refine ⟨?_, fun x hx => ?_, fun x m hx m1 m2 => ?_, fun j j' u v hj hu hv => ?_, fun i v hv => ?_, (hsn 0).mpr (Or.inl h6)⟩
  · show ((δ.1 ++ [t]) ++ δ.2.1).Nodup
    have e := List.nodup_append.mp h1
    rw [List.nodup_append, List.nodup_append]
    refine ⟨⟨e.1, List.pairwise_singleton _ _, fun x hx y hy q => ?_⟩, e.2.1, fun x hx y hy q => ?_⟩
    · rw [List.mem_singleton] at hy
      exact hn (Or.inl (by rw [← hy, ← q]; exact hx))
    · rcases List.mem_append.mp hx with hx | hx
      · exact e.2.2 x hx y hy q
      · rw [List.mem_singleton] at hx
        exact hn (Or.inr (by rw [← hx, q]; exact hy))
  · rcases (hsn x).mp hx with q | q
    · rw [hnm x q]; exact h2 x q
    · rw [q, hnt]; exact ⟨ht, Nat.le_refl _, fO_le (by omega)⟩
  · rcases (hsn x).mp hx with q | q
    · rw [hnm x q] at m2
      exact (hsn _).mpr (Or.inl (h3 x m q m1 m2))
    · rw [q] at m1 m2
      rw [hnt] at m2
      omega
  · have hu : (δ.1 ++ [t])[j]? = some u := hu
    have hv : (δ.1 ++ [t])[j']? = some v := hv
    rcases Nat.lt_or_ge j' δ.1.length with q | q
    · rw [List.getElem?_append_left (by omega)] at hu
      rw [List.getElem?_append_left q] at hv
      exact h4 j j' u v hj hu hv
    · have hl := (List.getElem?_eq_some_iff.mp hv).1
      rw [List.length_append] at hl
      have h1t : [t].length = 1 := rfl
      have q2 : j' = δ.1.length := by omega
      rw [q2, List.getElem?_append_right (Nat.le_refl _), Nat.sub_self] at hv
      cases hv
      rcases Nat.lt_or_ge j δ.1.length with q3 | q3
      · rw [List.getElem?_append_left q3] at hu
        exact hr u (List.mem_of_getElem? hu)
      · have q4 : j = δ.1.length := by omega
        rw [q4, List.getElem?_append_right (Nat.le_refl _), Nat.sub_self] at hu
        cases hu
        exact rea_rf
  · obtain ⟨e1, e2⟩ := h5 i v hv
    refine ⟨by rw [hnm v (Or.inr (List.mem_of_getElem? hv))]; exact e1, fun m m1 m2 => ?_⟩
    rcases e2 m m1 m2 with q | q
    · exact Or.inl q
    · exact Or.inr ⟨List.mem_append_left _ q.1, q.2⟩
theorem dfE_ok (hT : WT T) (hB : T 61 13 < 64) {S F : List Nat} {nm : Nat → Nat} {a : Nat} (h : DI T (S ++ [a], F, nm)) (hm : nm a = fO T (a + 1)) : DI T (dfE S F nm a) := by
  obtain ⟨h1, h2, h3, h4, h5, h6⟩ := h
  have hsn : ∀ x, sn (dfE S F nm a) x ↔ sn (S ++ [a], F, nm) x := fun x => by
    unfold sn dfE
    simp only [List.mem_append, List.mem_singleton]
    exact ⟨fun q => q.elim (fun q => Or.inl (Or.inl q)) (fun q => q.elim Or.inr (fun q => Or.inl (Or.inr q))), fun q => q.elim (fun q => q.elim Or.inl (fun q => Or.inr (Or.inr q))) (fun q => Or.inr (Or.inl q))⟩
  have hra : ∀ w, w ∈ S → rea T w a := fun w hw => by
    obtain ⟨j, hj⟩ := List.getElem?_of_mem hw
    have hl := (List.getElem?_eq_some_iff.mp hj).1
    refine h4 j S.length w a (by omega) ?_ ?_
    · show (S ++ [a])[j]? = _
      rw [List.getElem?_append_left hl]; exact hj
    · show (S ++ [a])[S.length]? = _
      rw [List.getElem?_append_right (Nat.le_refl _), Nat.sub_self]; rfl
  have hF : ∀ y z, (F ++ [a])[y]? = some z → (F[y]? = some z) ∨ (y = F.length ∧ z = a) := fun y z hz => by
    rcases Nat.lt_or_ge y F.length with q | q
    · rw [List.getElem?_append_left q] at hz; exact Or.inl hz
    · have hl := (List.getElem?_eq_some_iff.mp hz).1
      rw [List.length_append] at hl
      have h1t : [a].length = 1 := rfl
      have q2 : y = F.length := by omega
      rw [q2, List.getElem?_append_right (Nat.le_refl _), Nat.sub_self] at hz
      cases hz
      exact Or.inr ⟨q2, rfl⟩
  have hFa : (F ++ [a])[F.length]? = some a := by rw [List.getElem?_append_right (Nat.le_refl _), Nat.sub_self]; rfl
  have hFl : ∀ {y z}, F[y]? = some z → (F ++ [a])[y]? = some z := fun {y z} hz => by rw [List.getElem?_append_left (List.getElem?_eq_some_iff.mp hz).1]; exact hz
  refine ⟨?_, fun x hx => h2 x ((hsn x).mp hx), fun x m hx m1 m2 => (hsn _).mpr (h3 x m ((hsn x).mp hx) m1 m2), fun j j' u v hj hu hv => ?_, fun i v hv => ?_, (hsn 0).mpr h6⟩
  · show (S ++ (F ++ [a])).Nodup
    have e : ((S ++ [a]) ++ F).Perm (S ++ (F ++ [a])) := by
      rw [List.append_assoc]
      exact List.Perm.append_left S List.perm_append_comm
    exact e.nodup_iff.mp h1
  · have hu : S[j]? = some u := hu
    have hv : S[j']? = some v := hv
    refine h4 j j' u v hj ?_ ?_
    · show (S ++ [a])[j]? = _
      rw [List.getElem?_append_left (List.getElem?_eq_some_iff.mp hu).1]; exact hu
    · show (S ++ [a])[j']? = _
      rw [List.getElem?_append_left (List.getElem?_eq_some_iff.mp hv).1]; exact hv
  · rcases hF i v hv with q | ⟨q, q2⟩
    · obtain ⟨e1, e2⟩ := h5 i v q
      refine ⟨e1, fun m m1 m2 => ?_⟩
      have hil := (List.getElem?_eq_some_iff.mp q).1
      rcases e2 m m1 m2 with ⟨k, k1, k2⟩ | ⟨k1, k2⟩
      · refine Or.inl ⟨k, hFl k1, ?_⟩
        rcases k2 with k2 | k2
        · exact Or.inl k2
        · refine Or.inr (fun y z y1 y2 hz => ?_)
          rcases hF y z hz with q3 | ⟨q3, q4⟩
          · exact k2 y z y1 y2 q3
          · have := (List.getElem?_eq_some_iff.mp k1).1
            dsimp only at this
            omega
      · have k1 : mT T m ∈ S ++ [a] := k1
        rcases List.mem_append.mp k1 with k1 | k1
        · refine Or.inr ⟨k1, fun y z y1 hz => ?_⟩
          rcases hF y z hz with q3 | ⟨q3, q4⟩
          · exact k2 y z y1 q3
          · rw [q4]; exact hra _ k1
        · rw [List.mem_singleton] at k1
          refine Or.inl ⟨F.length, by rw [k1]; exact hFa, Or.inr (fun y z y1 y2 hz => ?_)⟩
          rcases hF y z hz with q3 | ⟨q3, q4⟩
          · exact k2 y z y1 q3
          · rw [q4, k1]; exact rea_rf
    · subst q; subst q2
      refine ⟨hm, fun m m1 m2 => ?_⟩
      have hw := h3 v m (Or.inl (by simp)) m1 (show m < nm v by omega)
      rcases hw with hw | hw
      · have hw : mT T m ∈ S ++ [v] := hw
        rcases List.mem_append.mp hw with hw | hw
        · refine Or.inr ⟨hw, fun y z y1 hz => ?_⟩
          rcases hF y z hz with q3 | ⟨q3, q4⟩
          · have := (List.getElem?_eq_some_iff.mp q3).1; omega
          · rw [q4]; exact hra _ hw
        · rw [List.mem_singleton] at hw
          exact Or.inl ⟨F.length, by rw [hw]; exact hFa, Or.inl (Nat.le_refl _)⟩
      · obtain ⟨k, hk⟩ := List.getElem?_of_mem hw
        exact Or.inl ⟨k, hFl hk, Or.inl (Nat.le_of_lt (List.getElem?_eq_some_iff.mp hk).1)⟩
end K1
