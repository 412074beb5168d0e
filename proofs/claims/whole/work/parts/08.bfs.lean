-- breadth-first search, as a pure function over any rows of successors
abbrev BS : Type := List Nat × (Nat → Option Nat)
def vis (d : Nat) (σ : BS) (t : Nat) : BS := if σ.2 t = none then (σ.1 ++ [t], fun u => if u = t then some d else σ.2 u) else σ
def dOf (σ : BS) (s : Nat) : Nat := (σ.2 s).getD 0
def exN (succ : Nat → List Nat) (σ : BS) (s : Nat) : BS := (succ s).foldl (vis (dOf σ s + 1)) σ
def bf0 (f : Nat) : BS := ([f], fun u => if u = f then some 0 else none)
def bfN (succ : Nat → List Nat) (f : Nat) : Nat → BS
  | 0 => bf0 f
  | k + 1 => match (bfN succ f k).1[k]? with
    | none => bfN succ f k
    | some s => exN succ (bfN succ f k) s
/-- each once; those that have a number are those in the row -/
def bInv (N : Nat) (σ : BS) : Prop := σ.1.Nodup ∧ (∀ t, t ∈ σ.1 ↔ ¬ σ.2 t = none) ∧ ∀ t ∈ σ.1, t < N
theorem nodup_len : ∀ (N : Nat) (l : List Nat), l.Nodup → (∀ x ∈ l, x < N) → l.length ≤ N
  | 0, l, _, hb => by
    cases l with
    | nil => exact Nat.le_refl 0
    | cons a l => exact absurd (hb a List.mem_cons_self) (Nat.not_lt_zero a)
  | N + 1, l, hn, hb => by
    by_cases hm : N ∈ l
    · have h1 := List.length_erase_of_mem hm
      have h2 := nodup_len N (l.erase N) (hn.erase N) (fun x hx => by
        have h3 := (List.Nodup.mem_erase_iff hn).mp hx
        have h4 := hb x h3.2
        have h5 := h3.1
        omega)
      have h6 : 0 < l.length := List.length_pos_of_mem hm
      omega
    · have h2 := nodup_len N l hn (fun x hx => by
        have h4 := hb x hx
        have h5 : x ≠ N := fun e => hm (e ▸ hx)
        omega)
      omega
theorem bInv_vis {N d t : Nat} {σ : BS} (hI : bInv N σ) (ht : t < N) : bInv N (vis d σ t) := by
  unfold vis
  by_cases h : σ.2 t = none
  · rw [if_pos h]
    have hnm : t ∉ σ.1 := fun hm => (hI.2.1 t).mp hm h
    refine ⟨?_, fun u => ?_, fun u hu => ?_⟩
    · rw [List.nodup_append]
      exact ⟨hI.1, by simp, fun a ha b hb => by
        rw [List.mem_singleton] at hb
        subst hb
        exact fun e => hnm (e ▸ ha)⟩
    · dsimp only
      rw [List.mem_append, List.mem_singleton]
      by_cases hu : u = t
      · simp [hu]
      · rw [if_neg hu]
        constructor
        · rintro (h1 | h1)
          · exact (hI.2.1 u).mp h1
          · exact absurd h1 hu
        · exact fun h1 => Or.inl ((hI.2.1 u).mpr h1)
    · rcases List.mem_append.mp hu with h1 | h1
      · exact hI.2.2 u h1
      · rw [List.mem_singleton.mp h1]; exact ht
  · rw [if_neg h]; exact hI
theorem bInv_fold {N d : Nat} : ∀ (l : List Nat) {σ : BS}, bInv N σ → (∀ t ∈ l, t < N) → bInv N (l.foldl (vis d) σ)
  | [], _, hI, _ => hI
  | t :: l, _, hI, hb => bInv_fold l (bInv_vis hI (hb t List.mem_cons_self)) (fun u hu => hb u (List.mem_cons_of_mem _ hu))
theorem bInv_0 {N f : Nat} (hf : f < N) : bInv N (bf0 f) := by
  refine ⟨by simp [bf0], fun t => ?_, fun t ht => ?_⟩
  · show t ∈ [f] ↔ ¬ (if t = f then some 0 else none) = none
    by_cases h : t = f <;> simp [h]
  · have : t = f := by simpa [bf0] using ht
    omega
theorem bInv_N {N f : Nat} {succ : Nat → List Nat} (hf : f < N) (hs : ∀ s t, s < N → t ∈ succ s → t < N) : ∀ k, bInv N (bfN succ f k)
  | 0 => bInv_0 hf
  | k + 1 => by
    have ih := bInv_N (succ := succ) hf hs k
    rw [bfN]
    split
    · exact ih
    · rename_i s hs1
      exact bInv_fold _ ih (fun t ht => hs s t (ih.2.2 s (List.mem_of_getElem? hs1)) ht)
theorem bfN_len {N f : Nat} {succ : Nat → List Nat} (hf : f < N) (hs : ∀ s t, s < N → t ∈ succ s → t < N) (k : Nat) : (bfN succ f k).1.length ≤ N := nodup_len N _ (bInv_N hf hs k).1 (bInv_N hf hs k).2.2
/-- what was there stays there -/
theorem vis_pre {d t : Nat} {σ : BS} {u e : Nat} (h : σ.2 u = some e) : (vis d σ t).2 u = some e := by
  unfold vis
  by_cases h1 : σ.2 t = none
  · rw [if_pos h1]
    dsimp only
    by_cases h2 : u = t
    · subst h2
      rw [h1] at h
      cases h
    · rw [if_neg h2]; exact h
  · rw [if_neg h1]; exact h
theorem fold_pre {d : Nat} {u e : Nat} : ∀ (l : List Nat) {σ : BS}, σ.2 u = some e → (l.foldl (vis d) σ).2 u = some e
  | [], _, h => h
  | _ :: l, _, h => fold_pre l (vis_pre h)
theorem vis_len {d t : Nat} {σ : BS} : σ.1.length ≤ (vis d σ t).1.length := by
  unfold vis
  by_cases h1 : σ.2 t = none
  · rw [if_pos h1]; simp
  · rw [if_neg h1]; exact Nat.le_refl _
theorem vis_get {d t i : Nat} {σ : BS} (hi : i < σ.1.length) : (vis d σ t).1[i]? = σ.1[i]? := by
  unfold vis
  by_cases h1 : σ.2 t = none
  · rw [if_pos h1]; exact List.getElem?_append_left hi
  · rw [if_neg h1]
theorem fold_len {d : Nat} : ∀ (l : List Nat) {σ : BS}, σ.1.length ≤ (l.foldl (vis d) σ).1.length
  | [], _ => Nat.le_refl _
  | _ :: l, _ => Nat.le_trans vis_len (fold_len l)
theorem fold_get {d i : Nat} : ∀ (l : List Nat) {σ : BS}, i < σ.1.length → (l.foldl (vis d) σ).1[i]? = σ.1[i]?
  | [], _, _ => rfl
  | _ :: l, _, h => (fold_get l (Nat.lt_of_lt_of_le h vis_len)).trans (vis_get h)
theorem bfN_stop {f : Nat} {succ : Nat → List Nat} {k : Nat} (h : (bfN succ f k).1.length ≤ k) : ∀ m, bfN succ f (k + m) = bfN succ f k
  | 0 => rfl
  | m + 1 => by
    have ih := bfN_stop h m
    show bfN succ f ((k + m) + 1) = _
    rw [bfN, ih, List.getElem?_eq_none (by omega)]
theorem bfN_pre {f : Nat} {succ : Nat → List Nat} {u e : Nat} {k : Nat} (h : (bfN succ f k).2 u = some e) : ∀ m, (bfN succ f (k + m)).2 u = some e
  | 0 => h
  | m + 1 => by
    have ih := bfN_pre h m
    show (bfN succ f ((k + m) + 1)).2 u = _
    rw [bfN]
    split
    · exact ih
    · exact fold_pre _ ih
theorem bfN_glen {f : Nat} {succ : Nat → List Nat} (k : Nat) : ∀ m, (bfN succ f k).1.length ≤ (bfN succ f (k + m)).1.length
  | 0 => Nat.le_refl _
  | m + 1 => by
    refine Nat.le_trans (bfN_glen k m) ?_
    show _ ≤ (bfN succ f ((k + m) + 1)).1.length
    rw [bfN]
    split
    · exact Nat.le_refl _
    · exact fold_len _
theorem bfN_get {f : Nat} {succ : Nat → List Nat} {k i : Nat} (h : i < (bfN succ f k).1.length) : ∀ m, (bfN succ f (k + m)).1[i]? = (bfN succ f k).1[i]?
  | 0 => rfl
  | m + 1 => by
    have ih := bfN_get h m
    show (bfN succ f ((k + m) + 1)).1[i]? = _
    rw [bfN]
    split
    · exact ih
    · exact (fold_get _ (Nat.lt_of_lt_of_le h (bfN_glen k m))).trans ih
/-! rows of n answers: what is come to -/
def rch (succ : Nat → List Nat) (f : Nat) : Nat → Nat → Prop
  | 0, t => t = f
  | n + 1, t => ∃ u, rch succ f n u ∧ t ∈ succ u
def isD (succ : Nat → List Nat) (f : Nat) (D : Nat → Option Nat) : Prop := ∀ t d, D t = some d ↔ rch succ f d t ∧ ∀ m, m < d → ¬ rch succ f m t
/-- what holds between two rounds -/
def bMid (succ : Nat → List Nat) (f k : Nat) (σ : BS) : Prop :=
  (∀ t d, σ.2 t = some d → rch succ f d t) ∧ (∀ (i j s t : Nat), i ≤ j → σ.1[i]? = some s → σ.1[j]? = some t → dOf σ s ≤ dOf σ t) ∧ (∀ (s t i : Nat), σ.1[k]? = some s → σ.1[i]? = some t → dOf σ t ≤ dOf σ s + 1) ∧
  (∀ (i s t : Nat), i < k → σ.1[i]? = some s → t ∈ succ s → ∃ d, σ.2 t = some d ∧ d ≤ dOf σ s + 1) ∧ σ.2 f = some 0
def bP (succ : Nat → List Nat) (f c : Nat) (σ : BS) : Prop :=
  (∀ t d, σ.2 t = some d → rch succ f d t) ∧ (∀ (i j s t : Nat), i ≤ j → σ.1[i]? = some s → σ.1[j]? = some t → dOf σ s ≤ dOf σ t) ∧ ∀ (t i : Nat), σ.1[i]? = some t → dOf σ t ≤ c
theorem vis_old {d t u : Nat} {σ : BS} (h : ¬ σ.2 u = none) : (vis d σ t).2 u = σ.2 u := by
  cases hu : σ.2 u with
  | none => exact absurd hu h
  | some e => exact vis_pre hu
theorem dOf_old {d t u : Nat} {σ : BS} (h : ¬ σ.2 u = none) : dOf (vis d σ t) u = dOf σ u := by unfold dOf; rw [vis_old h]
theorem fold_old {d u : Nat} {l : List Nat} {σ : BS} (h : ¬ σ.2 u = none) : (l.foldl (vis d) σ).2 u = σ.2 u := by
  cases hu : σ.2 u with
  | none => exact absurd hu h
  | some e => exact fold_pre l hu
theorem bP_vis {N f ds t : Nat} {succ : Nat → List Nat} {σ : BS} (hI : bInv N σ) (hP : bP succ f (ds + 1) σ) (ht : rch succ f (ds + 1) t) : bP succ f (ds + 1) (vis (ds + 1) σ t) := by
  by_cases h : σ.2 t = none
  · have e1 : (vis (ds + 1) σ t).1 = σ.1 ++ [t] := by unfold vis; rw [if_pos h]
    have e2 : ∀ u, (vis (ds + 1) σ t).2 u = if u = t then some (ds + 1) else σ.2 u := fun u => by unfold vis; rw [if_pos h]
    have e3 : dOf (vis (ds + 1) σ t) t = ds + 1 := by unfold dOf; rw [e2 t, if_pos rfl]; rfl
    have key : ∀ i u, (vis (ds + 1) σ t).1[i]? = some u → (i < σ.1.length ∧ σ.1[i]? = some u ∧ dOf (vis (ds + 1) σ t) u = dOf σ u) ∨ (i = σ.1.length ∧ u = t) := by
      intro i u hu
      rw [e1] at hu
      rcases Nat.lt_or_ge i σ.1.length with h1 | h1
      · rw [List.getElem?_append_left h1] at hu
        exact Or.inl ⟨h1, hu, dOf_old ((hI.2.1 u).mp (List.mem_of_getElem? hu))⟩
      · rw [List.getElem?_append_right h1] at hu
        have h2 : i - σ.1.length < 1 := (List.getElem?_eq_some_iff.mp hu).1
        have h3 : i = σ.1.length := by omega
        subst h3
        rw [Nat.sub_self] at hu
        cases hu
        exact Or.inr ⟨rfl, rfl⟩
    refine ⟨fun u d hu => ?_, fun i j s u hij hs hu => ?_, fun u i hu => ?_⟩
    · rw [e2 u] at hu
      by_cases hut : u = t
      · rw [if_pos hut] at hu
        cases hu
        rw [hut]; exact ht
      · rw [if_neg hut] at hu
        exact hP.1 u d hu
    · rcases key i s hs with ⟨h1, h2, h3⟩ | ⟨h1, h2⟩
      · rcases key j u hu with ⟨g1, g2, g3⟩ | ⟨g1, g2⟩
        · rw [h3, g3]; exact hP.2.1 i j s u hij h2 g2
        · rw [h3, g2, e3]; exact hP.2.2 s i h2
      · rcases key j u hu with ⟨g1, g2, g3⟩ | ⟨g1, g2⟩
        · omega
        · rw [h2, g2]; exact Nat.le_refl _
    · rcases key i u hu with ⟨h1, h2, h3⟩ | ⟨h1, h2⟩
      · rw [h3]; exact hP.2.2 u i h2
      · rw [h2, e3]; exact Nat.le_refl _
  · have e1 : vis (ds + 1) σ t = σ := by unfold vis; rw [if_neg h]
    rw [e1]; exact hP
theorem bP_fold {N f ds : Nat} {succ : Nat → List Nat} : ∀ (l : List Nat) {σ : BS}, bInv N σ → bP succ f (ds + 1) σ → (∀ t ∈ l, t < N) → (∀ t ∈ l, rch succ f (ds + 1) t) → bP succ f (ds + 1) (l.foldl (vis (ds + 1)) σ) ∧ ∀ t ∈ l, ¬ (l.foldl (vis (ds + 1)) σ).2 t = none
  | [], _, _, hP, _, _ => ⟨hP, fun _ h => by cases h⟩
  | t :: l, σ, hI, hP, hb, hr => by
    have ih := bP_fold l (bInv_vis (d := ds + 1) hI (hb t List.mem_cons_self)) (bP_vis hI hP (hr t List.mem_cons_self)) (fun u hu => hb u (List.mem_cons_of_mem _ hu)) (fun u hu => hr u (List.mem_cons_of_mem _ hu))
    refine ⟨ih.1, fun u hu => ?_⟩
    rcases List.mem_cons.mp hu with e | hu
    · subst e
      show ¬ (l.foldl (vis (ds + 1)) (vis (ds + 1) σ u)).2 u = none
      have h1 : ¬ (vis (ds + 1) σ u).2 u = none := by
        by_cases h : σ.2 u = none
        · unfold vis
          rw [if_pos h]
          simp
        · rw [vis_old h]; exact h
      rw [fold_old h1]; exact h1
    · exact ih.2 u hu
theorem bMid_0 {succ : Nat → List Nat} {f : Nat} : bMid succ f 0 (bf0 f) := by
  have k0 : ∀ i s, (bf0 f).1[i]? = some s → s = f := fun i s h => by
    have := List.mem_of_getElem? h
    simpa [bf0] using this
  refine ⟨fun t d h => ?_, fun i j s t _ h1 h2 => ?_, fun s t i h1 h2 => ?_, fun i s t h => absurd h (Nat.not_lt_zero i), by simp [bf0]⟩
  · by_cases ht : t = f
    · simp [bf0, ht] at h
      rw [← h, ht]
      exact rfl
    · simp [bf0, ht] at h
  · rw [k0 i s h1, k0 j t h2]; exact Nat.le_refl _
  · rw [k0 i t h2, k0 0 s h1]; exact Nat.le_succ _
theorem bMid_S {N f k s : Nat} {succ : Nat → List Nat} {σ : BS} (hI : bInv N σ) (hM : bMid succ f k σ) (hs : σ.1[k]? = some s) (hb : ∀ t ∈ succ s, t < N) : bMid succ f (k + 1) (exN succ σ s) := by
  have hsv : ¬ σ.2 s = none := (hI.2.1 s).mp (List.mem_of_getElem? hs)
  have hsd : σ.2 s = some (dOf σ s) := by
    unfold dOf
    cases hh : σ.2 s with
    | none => exact absurd hh hsv
    | some e => rfl
  have hP0 : bP succ f (dOf σ s + 1) σ := ⟨hM.1, hM.2.1, fun t i ht => hM.2.2.1 s t i hs ht⟩
  have hr : ∀ t ∈ succ s, rch succ f (dOf σ s + 1) t := fun t ht => ⟨s, hM.1 s _ hsd, ht⟩
  have hI' : bInv N (exN succ σ s) := bInv_fold _ hI hb
  obtain ⟨hP, hall⟩ := bP_fold (succ s) hI hP0 hb hr
  have hlen : k < σ.1.length := (List.getElem?_eq_some_iff.mp hs).1
  have hs' : (exN succ σ s).1[k]? = some s := (fold_get _ hlen).trans hs
  have hds : dOf (exN succ σ s) s = dOf σ s := by
    show ((exN succ σ s).2 s).getD 0 = _
    unfold exN
    rw [fold_old hsv]
    rfl
  refine ⟨hP.1, hP.2.1, fun s2 t i h1 h2 => ?_, fun i u t hi hu ht => ?_, fold_pre _ hM.2.2.2.2⟩
  · have h3 := hP.2.1 k (k + 1) s s2 (Nat.le_succ k) hs' h1
    have h4 := hP.2.2 t i h2
    have h5 : dOf (List.foldl (vis (dOf σ s + 1)) σ (succ s)) s = dOf σ s := hds
    show dOf (List.foldl (vis (dOf σ s + 1)) σ (succ s)) t ≤ dOf (List.foldl (vis (dOf σ s + 1)) σ (succ s)) s2 + 1
    omega
  · rcases Nat.lt_or_ge i k with h1 | h1
    · have hil : i < σ.1.length := by omega
      have hu' : σ.1[i]? = some u := by
        have := fold_get (d := dOf σ s + 1) (succ s) hil
        rw [← this]; exact hu
      obtain ⟨d, h2, h3⟩ := hM.2.2.2.1 i u t h1 hu' ht
      have huv : ¬ σ.2 u = none := (hI.2.1 u).mp (List.mem_of_getElem? hu')
      refine ⟨d, fold_pre _ h2, ?_⟩
      have e1 : dOf (exN succ σ s) u = dOf σ u := by
        show ((exN succ σ s).2 u).getD 0 = _
        unfold exN
        rw [fold_old huv]
        rfl
      rw [e1]; exact h3
    · have hik : i = k := by omega
      subst hik
      have hus : u = s := by
        rw [hs'] at hu
        cases hu
        rfl
      subst hus
      have h2 := hall t ht
      cases hd : (List.foldl (vis (dOf σ u + 1)) σ (succ u)).2 t with
      | none => exact absurd hd h2
      | some d =>
        refine ⟨d, hd, ?_⟩
        rw [hds]
        obtain ⟨j, hj⟩ := List.getElem?_of_mem ((hI'.2.1 t).mpr h2)
        have h4 := hP.2.2 t j hj
        have h5 : dOf (List.foldl (vis (dOf σ u + 1)) σ (succ u)) t = d := by
          show ((List.foldl (vis (dOf σ u + 1)) σ (succ u)).2 t).getD 0 = d
          rw [hd]; rfl
        omega
theorem bMid_N {N f : Nat} {succ : Nat → List Nat} (hf : f < N) (hs : ∀ s t, s < N → t ∈ succ s → t < N) : ∀ k, k ≤ (bfN succ f k).1.length → bMid succ f k (bfN succ f k)
  | 0, _ => bMid_0
  | k + 1, hk => by
    have hI := bInv_N (succ := succ) hf hs k
    rw [bfN] at hk ⊢
    split at hk
    · rename_i h1
      have := List.getElem?_eq_none_iff.mp h1
      omega
    · rename_i s h1
      have hl := (List.getElem?_eq_some_iff.mp h1).1
      exact bMid_S hI (bMid_N hf hs k (by omega)) h1 (fun t ht => hs s t (hI.2.2 s (List.mem_of_getElem? h1)) ht)
/-- the first round at which nothing is left -/
theorem bfN_end {N f : Nat} {succ : Nat → List Nat} (hf : f < N) (hs : ∀ s t, s < N → t ∈ succ s → t < N) : ∃ k, k ≤ N ∧ (bfN succ f k).1.length = k ∧ ∀ j, j < k → j < (bfN succ f j).1.length := by
  have h : ∃ k, (bfN succ f k).1.length ≤ k := ⟨N, bfN_len hf hs N⟩
  obtain ⟨k, h1, h2⟩ := pk_least _ h
  have h3 : ∀ j, j < k → j < (bfN succ f j).1.length := fun j hj => Nat.lt_of_not_le (h2 j hj)
  refine ⟨k, ?_, ?_, h3⟩
  · rcases Nat.lt_or_ge N k with h4 | h4
    · exact absurd (bfN_len hf hs N) (h2 N h4)
    · exact h4
  · rcases Nat.eq_zero_or_pos k with h4 | h4
    · subst h4
      have : (bfN succ f 0).1.length = 1 := rfl
      omega
    · have h5 := h3 (k - 1) (by omega)
      have h6 := bfN_glen (succ := succ) (f := f) (k - 1) 1
      rw [show k - 1 + 1 = k by omega] at h6
      omega
/-- the search's end; shut, so that nobody unfolds it -/
noncomputable def bfs (succ : Nat → List Nat) (f N : Nat) : BS := Classical.choose (show ∃ x : BS, x = bfN succ f N from ⟨_, rfl⟩)
theorem bfs_eq (succ : Nat → List Nat) (f N : Nat) : bfs succ f N = bfN succ f N := Classical.choose_spec (show ∃ x : BS, x = bfN succ f N from ⟨_, rfl⟩)
theorem bfs_at {N f k : Nat} {succ : Nat → List Nat} (hk : k ≤ N) (h : (bfN succ f k).1.length ≤ k) : bfs succ f N = bfN succ f k := by
  have := bfN_stop h (N - k)
  rw [show k + (N - k) = N by omega] at this
  rw [bfs_eq]
  exact this
theorem bfs_isD {N f : Nat} {succ : Nat → List Nat} (hf : f < N) (hs : ∀ s t, s < N → t ∈ succ s → t < N) : isD succ f (bfs succ f N).2 := by
  obtain ⟨k, hk, hl, -⟩ := bfN_end hf hs
  rw [bfs_at hk (by omega)]
  have hI := bInv_N (succ := succ) hf hs k
  have hM := bMid_N hf hs k (by omega)
  have hc : ∀ m t, rch succ f m t → ∃ d, (bfN succ f k).2 t = some d ∧ d ≤ m := by
    intro m
    induction m with
    | zero =>
      intro t ht
      have e : t = f := ht
      exact ⟨0, by rw [e]; exact hM.2.2.2.2, Nat.le_refl 0⟩
    | succ m ih =>
      intro t ht
      obtain ⟨u, h1, h2⟩ := ht
      obtain ⟨d, h3, h4⟩ := ih u h1
      obtain ⟨i, hi⟩ := List.getElem?_of_mem ((hI.2.1 u).mpr (by rw [h3]; simp))
      have hil := (List.getElem?_eq_some_iff.mp hi).1
      obtain ⟨d', h5, h6⟩ := hM.2.2.2.1 i u t (by omega) hi h2
      have h7 : dOf (bfN succ f k) u = d := by unfold dOf; rw [h3]; rfl
      exact ⟨d', h5, by omega⟩
  intro t d
  constructor
  · intro h
    refine ⟨hM.1 t d h, fun m hm hr => ?_⟩
    obtain ⟨d', h1, h2⟩ := hc m t hr
    rw [h] at h1
    cases h1
    omega
  · rintro ⟨h1, h2⟩
    obtain ⟨d', h3, h4⟩ := hc d t h1
    rcases Nat.lt_or_ge d' d with h5 | h5
    · exact absurd (hM.1 t d' h3) (h2 d' h5)
    · have : d' = d := by omega
      rw [← this]; exact h3
