-- printed by wip/whole/gen2.py: THE ABSTRACT MACHINE: 85 cells by their numbers, ints, longs and the four references that change; one rule an instruction
abbrev AM : Type := (Nat → Nat → Int32) × (Nat → Nat → Int64) × (Nat → Nat → Nat)
def sI (M : AM) (k j : Nat) (x : Int32) : AM := (fun a b => if a = k ∧ b = j then x else M.1 a b, M.2)
def sL (M : AM) (k j : Nat) (x : Int64) : AM := (M.1, fun a b => if a = k ∧ b = j then x else M.2.1 a b, M.2.2)
def sR (M : AM) (k j : Nat) (x : Nat) : AM := (M.1, M.2.1, fun a b => if a = k ∧ b = j then x else M.2.2 a b)
def clss : List vw_C := [(RX0, TX0, 4), (RX1, TX1, 3), (RX2, TX2, 13), (RX3, TX3, 3), (RX4, TX4, 8), (RX5, TX5, 1), (RX6, TX6, 5), (RX7, TX7, 2), (RX8, TX8, 17), (RX9, TX9, 3), (RX10, TX10, 16), (RX11, TX11, 38)]
def nfs : List Nat := [4, 3, 13, 3, 8, 1, 5, 2, 17, 3, 16, 38]
def nf (ci : Nat) : Nat := nfs.getD ci 0
def fts : List (List Nat) := [[2, 2, 2, 0], [2, 0, 0], [2, 2, 2, 2, 2, 2, 2, 2, 2, 2, 2, 0, 0], [2, 2, 0], [2, 2, 2, 2, 2, 2, 0, 0], [2], [2, 0, 0, 0, 0], [3, 3], [2, 2, 2, 2, 2, 2, 2, 2, 2, 2, 0, 0, 0, 0, 0, 0, 0], [2, 2, 0], [2, 2, 2, 2, 2, 2, 2, 2, 2, 3, 3, 1, 1, 1, 1, 1], [0, 0, 0, 0, 2, 2, 2, 2, 2, 2, 2, 2, 2, 0, 2, 0, 2, 0, 2, 2, 2, 0, 0, 0, 0, 2, 2, 2, 0, 0, 0, 0, 2, 2, 2, 2, 2, 2]]
/-- a field: 0 int, 1 boolean, 2 a reference that is fixed, 3 one that changes -/
def ft (ci j : Nat) : Nat := (fts.getD ci []).getD j 9
def kds : List (Nat × Nat) := [(0, 10), (0, 6), (1, 200), (0, 1), (1, 60), (0, 0), (1, 12), (1, 12), (1, 12), (0, 2), (1, 1024), (1, 1024), (1, 1024), (1, 1024), (1, 16), (1, 1025), (1, 2048), (1, 2048), (1, 2048), (1, 1025), (1, 2048), (0, 9), (1, 1024), (1, 1024), (0, 3), (2, 1024), (1, 1024), (0, 4), (2, 1024), (2, 1024), (1, 1024), (1, 1024), (1, 1024), (1, 1024), (0, 5), (1, 1024), (0, 7), (3, 1024), (3, 1024), (0, 8), (1, 32), (1, 32), (1, 32), (1, 32), (1, 96), (1, 96), (1, 32), (1, 32), (1, 32), (1, 17), (0, 8), (1, 32), (1, 32), (1, 32), (1, 32), (1, 96), (1, 96), (1, 32), (1, 32), (1, 32), (1, 17), (0, 11), (1, 32), (1, 32), (1, 32), (1, 32), (1, 96), (1, 96), (1, 32), (1, 32), (2, 32), (1, 60), (1, 384), (1, 1024), (1, 1024), (1, 200), (1, 192), (1, 96), (1, 96), (2, 1024), (1, 1024), (2, 1024), (2, 1024), (3, 1024), (3, 1024)]
/-- a cell: (0, class), (1, n) ints, (2, n) booleans, (3, n) longs -/
def kd (k : Nat) : Nat × Nat := kds.getD k (9, 0)
def sr0 : List Nat := [1, 3, 5, 9, 21, 24, 27, 34, 36]
def srM : List Nat := [0, 0, 0, 0, 62, 63, 64, 65, 66, 67, 68, 69, 70, 0, 71, 0, 72, 0, 73, 74, 75, 0, 0, 0, 0, 76, 77, 78, 0, 0, 0, 0, 79, 80, 81, 82, 83, 84]
/-- where a fixed reference leads -/
def sr (k j : Nat) : Nat := if k = 0 then sr0.getD j 0 else if k = 61 then srM.getD j 0 else k + 1 + j
abbrev GG : Type := Launch × va_G × (Nat → Nat) × (ClassId × ClassId × ClassId) × Nat
abbrev gA (g : GG) : Nat → Nat := g.2.2.1
abbrev tyG (g : GG) : List (ClassId × FieldType) := [(g.2.2.2.1.1, .int), (g.2.2.2.1.2.1, .boolean), (g.2.2.2.1.2.2, .long)]
def cv (ad : Nat → Nat) (v : Value) : Value := match v with
  | .ref k => .ref (ad k)
  | v => v
def fv (ad : Nat → Nat) (M : AM) (k ci j : Nat) : Value := match ft ci j with
  | 0 => .int (M.1 k j)
  | 1 => .int (M.1 k j)
  | 2 => .ref (ad (sr k j))
  | _ => .ref (ad (M.2.2 k j))
def cc (g : GG) (M : AM) (k : Nat) : va_E := match kd k with
  | (0, ci) => .inr (ci, (List.range (nf ci)).map (fv (gA g) M k ci))
  | (1, n) => .inl (g.2.2.2.1.1, n, .inl (M.1 k))
  | (2, n) => .inl (g.2.2.2.1.2.1, n, .inl (M.1 k))
  | (_, n) => .inl (g.2.2.2.1.2.2, n, .inr (.inl (M.2.1 k)))
def cw (g : GG) (M : AM) : va_W := (List.range 85).map (fun k => (gA g k, cc g M k))
def Fr (g : GG) : Nat → Prop := fun q => g.2.2.2.2 ≤ q
def gOK (g : GG) : Prop := (∀ i j, i < 85 → j < 85 → gA g i = gA g j → i = j) ∧ ∀ i, i < 85 → Fr g (gA g i)
theorem kd_lt {k t n : Nat} (h : kd k = (t, n)) (ht : t < 4) : k < 85 := by
  rcases Nat.lt_or_ge k 85 with h1 | h1
  · exact h1
  · have : kd k = (9, 0) := by
      unfold kd
      rw [List.getD_eq_getElem?_getD, List.getElem?_eq_none (by simpa [kds] using h1)]; rfl
    rw [this] at h
    cases h
    omega
theorem cw_get (g : GG) (M : AM) {k : Nat} (hk : k < 85) : (cw g M)[k]? = some (gA g k, cc g M k) := by
  unfold cw
  rw [List.getElem?_map, List.getElem?_range hk]; rfl
theorem cw_D {g : GG} (h : gOK g) (M : AM) : va_D (Fr g) (cw g M) := by
  have key : ∀ (k : Nat) (q : Nat × va_E), (cw g M)[k]? = some q → k < 85 ∧ q.1 = gA g k := by
    intro k q hq
    have hl : k < 85 := by
      have := (List.getElem?_eq_some_iff.mp hq).1
      simpa [cw] using this
    rw [cw_get g M hl] at hq
    cases hq
    exact ⟨hl, rfl⟩
  refine ⟨fun i j p q h1 h2 h3 => ?_, fun k q hk => ?_⟩
  · obtain ⟨a1, a2⟩ := key i p h1
    obtain ⟨b1, b2⟩ := key j q h2
    exact h.1 i j a1 b1 (by rw [← a2, ← b2, h3])
  · obtain ⟨a1, a2⟩ := key k q hk
    rw [a2]
    exact h.2 k a1
theorem cc_o {g : GG} {M : AM} {k ci : Nat} (h : kd k = (0, ci)) : cc g M k = .inr (ci, (List.range (nf ci)).map (fv (gA g) M k ci)) := by simp [cc, h]
theorem cc_i {g : GG} {M : AM} {k n : Nat} (h : kd k = (1, n)) : cc g M k = .inl (g.2.2.2.1.1, n, .inl (M.1 k)) := by simp [cc, h]
theorem cc_z {g : GG} {M : AM} {k n : Nat} (h : kd k = (2, n)) : cc g M k = .inl (g.2.2.2.1.2.1, n, .inl (M.1 k)) := by simp [cc, h]
theorem cc_l {g : GG} {M : AM} {k n : Nat} (h : kd k = (3, n)) : cc g M k = .inl (g.2.2.2.1.2.2, n, .inr (.inl (M.2.1 k))) := by simp [cc, h]
theorem cw_ne {g : GG} {M M' : AM} {k : Nat} {e : va_E} (hk : k < 85) (he : e = cc g M' k) (hn : ∀ i, i ≠ k → cc g M' i = cc g M i) : (cw g M).set k (gA g k, e) = cw g M' := by
  apply List.ext_getElem?
  intro i
  by_cases hi : i = k
  · subst hi
    rw [List.getElem?_set_self (by simpa [cw] using hk), cw_get g M' hk, he]
  · rw [List.getElem?_set_ne (fun q => hi q.symm)]
    rcases Nat.lt_or_ge i 85 with h1 | h1
    · rw [cw_get g M h1, cw_get g M' h1, hn i hi]
    · rw [List.getElem?_eq_none (by simpa [cw] using h1), List.getElem?_eq_none (by simpa [cw] using h1)]
theorem fv_ne {ad : Nat → Nat} {M M' : AM} {k ci j : Nat} (h1 : M'.1 k j = M.1 k j) (h2 : M'.2.2 k j = M.2.2 k j) : fv ad M' k ci j = fv ad M k ci j := by
  unfold fv
  rw [h1, h2]
theorem cc_ne {g : GG} {M M' : AM} {i : Nat} (h1 : M'.1 i = M.1 i) (h2 : M'.2.1 i = M.2.1 i) (h3 : M'.2.2 i = M.2.2 i) : cc g M' i = cc g M i := by
  unfold cc
  have : ∀ ci, fv (gA g) M' i ci = fv (gA g) M i ci := fun ci => by
    funext j
    exact fv_ne (by rw [h1]) (by rw [h3])
  simp only [h1, h2, this]
theorem sI_ne {M : AM} {k j i : Nat} {x : Int32} (h : i ≠ k) : (sI M k j x).1 i = M.1 i := by
  funext b
  simp [sI, h]
theorem sI_at {M : AM} {k j : Nat} {x : Int32} : (sI M k j x).1 k = upd (M.1 k) j x := by
  funext b
  simp [sI, upd]
theorem sL_ne {M : AM} {k j i : Nat} {x : Int64} (h : i ≠ k) : (sL M k j x).2.1 i = M.2.1 i := by
  funext b
  simp [sL, h]
theorem sL_at {M : AM} {k j : Nat} {x : Int64} : (sL M k j x).2.1 k = vp_updL (M.2.1 k) j x := by
  funext b
  simp [sL, vp_updL]
theorem sR_ne {M : AM} {k j i : Nat} {x : Nat} (h : i ≠ k) : (sR M k j x).2.2 i = M.2.2 i := by
  funext b
  simp [sR, h]
theorem cw_setI {g : GG} {M : AM} {k n j : Nat} {x : Int32} (h : kd k = (1, n)) : (cw g M).set k (gA g k, .inl (g.2.2.2.1.1, n, .inl (upd (M.1 k) j x))) = cw g (sI M k j x) :=
  cw_ne (kd_lt h (by decide)) (by rw [cc_i h, sI_at]) (fun i hi => cc_ne (sI_ne hi) rfl rfl)
theorem cw_setZ {g : GG} {M : AM} {k n j : Nat} {x : Int32} (h : kd k = (2, n)) : (cw g M).set k (gA g k, .inl (g.2.2.2.1.2.1, n, .inl (upd (M.1 k) j x))) = cw g (sI M k j x) :=
  cw_ne (kd_lt h (by decide)) (by rw [cc_z h, sI_at]) (fun i hi => cc_ne (sI_ne hi) rfl rfl)
theorem cw_setL {g : GG} {M : AM} {k n j : Nat} {x : Int64} (h : kd k = (3, n)) : (cw g M).set k (gA g k, .inl (g.2.2.2.1.2.2, n, .inr (.inl (vp_updL (M.2.1 k) j x)))) = cw g (sL M k j x) :=
  cw_ne (kd_lt h (by decide)) (by rw [cc_l h, sL_at]) (fun i hi => cc_ne rfl (sL_ne hi) rfl)
theorem fl_set {f f' : Nat → Value} {n j : Nat} {v : Value} (hj : j < n) (h1 : f' j = v) (h2 : ∀ i, i ≠ j → f' i = f i) : ((List.range n).map f).set j v = (List.range n).map f' := by
  apply List.ext_getElem?
  intro i
  by_cases hi : i = j
  · subst hi
    rw [List.getElem?_set_self (by simpa using hj), List.getElem?_map, List.getElem?_range hj, ← h1]; rfl
  · rw [List.getElem?_set_ne (fun q => hi q.symm)]
    rcases Nat.lt_or_ge i n with hl | hl
    · rw [List.getElem?_map, List.getElem?_map, List.getElem?_range hl]
      simp [h2 i hi]
    · rw [List.getElem?_eq_none (by simpa using hl), List.getElem?_eq_none (by simpa using hl)]
theorem cw_setF {g : GG} {M : AM} {k ci j : Nat} {x : Int32} (h : kd k = (0, ci)) (hj : j < nf ci) (ht : ft ci j < 2) : (cw g M).set k (gA g k, .inr (ci, ((List.range (nf ci)).map (fv (gA g) M k ci)).set j (.int x))) = cw g (sI M k j x) := by
  refine cw_ne (kd_lt h (by decide)) ?_ (fun i hi => cc_ne (sI_ne hi) rfl rfl)
  rw [cc_o h, fl_set hj]
  · unfold fv
    match hq : ft ci j, ht with
    | 0, _ => simp [sI]
    | 1, _ => simp [sI]
  · intro i hi
    exact fv_ne (by simp [sI, hi]) rfl
theorem cw_setR {g : GG} {M : AM} {k ci j p : Nat} (h : kd k = (0, ci)) (hj : j < nf ci) (ht : ft ci j = 3) : (cw g M).set k (gA g k, .inr (ci, ((List.range (nf ci)).map (fv (gA g) M k ci)).set j (.ref (gA g p)))) = cw g (sR M k j p) := by
  refine cw_ne (kd_lt h (by decide)) ?_ (fun i hi => cc_ne rfl rfl (sR_ne hi))
  rw [cc_o h, fl_set hj]
  · unfold fv
    rw [ht]
    simp [sR]
  · intro i hi
    exact fv_ne rfl (by simp [sR, hi])
theorem fl_at {f : Nat → Value} {n j : Nat} (hj : j < n) : ((List.range n).map f)[j]? = some (f j) := by
  rw [List.getElem?_map, List.getElem?_range hj]; rfl
/-- what is known of a class, once for all -/
def cOK (ci : Nat) (C : String) (T : u_T) (N : Nat) : Prop := N = nf ci ∧ (∀ w ∈ u_ws C T N, w ∈ tbG) ∧ ∃ ty : Nat → FieldType, (∀ k, k < N → parseFieldDescriptor (T k).2.2.1 = some (ty k)) ∧ (∀ a, a < N → ∀ b, b < N → a ≠ b → (T a).2.1 ≠ (T b).2.1) ∧
  ∀ j, j < N → (ft ci j = 0 → (T j).2.2.2 = false ∧ ty j = .int) ∧ (ft ci j = 1 → (T j).2.2.2 = false ∧ ty j = .boolean) ∧ (ft ci j = 3 → (T j).2.2.2 = false ∧ refKind (ty j) = true)
theorem cok0 : cOK 0 RX0 TX0 4 := ⟨by decide, in0, tyX0, tyX0_ok, nmX0, by decide +kernel⟩
theorem cok1 : cOK 1 RX1 TX1 3 := ⟨by decide, in1, tyX1, tyX1_ok, nmX1, by decide +kernel⟩
theorem cok2 : cOK 2 RX2 TX2 13 := ⟨by decide, in2, tyX2, tyX2_ok, nmX2, by decide +kernel⟩
theorem cok3 : cOK 3 RX3 TX3 3 := ⟨by decide, in3, tyX3, tyX3_ok, nmX3, by decide +kernel⟩
theorem cok4 : cOK 4 RX4 TX4 8 := ⟨by decide, in4, tyX4, tyX4_ok, nmX4, by decide +kernel⟩
theorem cok5 : cOK 5 RX5 TX5 1 := ⟨by decide, in5, tyX5, tyX5_ok, nmX5, by decide +kernel⟩
theorem cok6 : cOK 6 RX6 TX6 5 := ⟨by decide, in6, tyX6, tyX6_ok, nmX6, by decide +kernel⟩
theorem cok7 : cOK 7 RX7 TX7 2 := ⟨by decide, in7, tyX7, tyX7_ok, nmX7, by decide +kernel⟩
theorem cok8 : cOK 8 RX8 TX8 17 := ⟨by decide, in8, tyX8, tyX8_ok, nmX8, by decide +kernel⟩
theorem cok9 : cOK 9 RX9 TX9 3 := ⟨by decide, in9, tyX9, tyX9_ok, nmX9, by decide +kernel⟩
theorem cok10 : cOK 10 RX10 TX10 16 := ⟨by decide, in10, tyX10, tyX10_ok, nmX10, by decide +kernel⟩
theorem cok11 : cOK 11 RX11 TX11 38 := ⟨by decide, in11, tyX11, tyX11_ok, nmX11, by decide +kernel⟩
theorem cls_ok {ci : Nat} {C : String} {T : u_T} {N : Nat} (h : clss[ci]? = some (C, T, N)) : cOK ci C T N := by
  match ci, h with
  | 0, h => cases h; exact cok0
  | 1, h => cases h; exact cok1
  | 2, h => cases h; exact cok2
  | 3, h => cases h; exact cok3
  | 4, h => cases h; exact cok4
  | 5, h => cases h; exact cok5
  | 6, h => cases h; exact cok6
  | 7, h => cases h; exact cok7
  | 8, h => cases h; exact cok8
  | 9, h => cases h; exact cok9
  | 10, h => cases h; exact cok10
  | 11, h => cases h; exact cok11
  | k + 12, h => simp [clss] at h
def nst : List Cond := [Cond.methodLinkNest RX8 64 yX10_bit RX10, Cond.methodLinkNest RX3 32 yX10_bit RX10, Cond.methodLinkNest RX9 48 yX10_bit RX10]
def NestOK (U : State) : Prop := ∀ w ∈ nst, va_Nw w U
theorem NestOK.warm {s U : State} (hW : s.WarmedH U.vm) (h : NestOK s) : NestOK U := by
  intro w hw
  have h1 := h w hw
  simp only [nst, List.mem_cons, List.not_mem_nil, or_false] at hw
  rcases hw with rfl | rfl | rfl <;> exact va_Nw.warmM hW h1
theorem NestOK.same {u U : State} (h : u.vm = U.vm) (hn : NestOK u) : NestOK U := by
  intro w hw
  have h1 := hn w hw
  simp only [nst, List.mem_cons, List.not_mem_nil, or_false] at hw
  rcases hw with rfl | rfl | rfl <;> exact va_Nw.same rfl h h1
abbrev fY (q : MI) : MethodName := q.1
abbrev fC (q : MI) : ByteArray := q.2.1
abbrev fL (q : MI) : Nat := q.2.2.1
abbrev fR (q : MI) : Option FieldType := q.2.2.2.1
abbrev fV (q : MI) : Nat := q.2.2.2.2
def wsm (q : MI) : List Cond := .code (fY q) (fC q) (fL q) (fR q) :: tbG
theorem wsm_good {q : MI} (h : Cond.code (fY q) (fC q) (fL q) (fR q) ∈ tbG) : GoodIn tbG (wsm q) := by
  intro w hw
  rcases List.mem_cons.mp hw with rfl | hw
  · exact ⟨h, good_of_word (tbG_good h)⟩
  · exact ⟨hw, good_of_word (tbG_good hw)⟩
abbrev rmq (q : MI) : Room := { frames := fV q, cells := 0, slots := 0, locals := 38 * fV q }
def Fx (g : GG) (q : MI) (p : Program) (s : State) (m : MethodId) (args : Array Value) (meth : Method) (c : Code) : Prop :=
  p.tables.exec = Jvm.exec ∧ c.code = fC q ∧ meth.sig.returnType = fR q ∧ c.maxLocals = fL q ∧ s.vm.findClass (fY q).cls = some m.cls ∧ (∀ w ∈ tbG, w.before args s = true) ∧ meth.locks = false ∧ NestOK s ∧ gOK g ∧ va_K g.2.1 clss (tyG g) s
def Wo (g : GG) (M : AM) (s : State) (H : Heap) (locs : List Loc) : Prop := va_P g.2.1 clss (cw g M) H ∧ va_S (Fr g) s.heap H locs
def lp (ad : Nat → Nat) (ls : List (Option Value)) : List (Nat × Value) := (List.range ls.length).filterMap (fun k => match ls[k]? with
  | some (some v) => some (k, cv ad v)
  | _ => none)
theorem lp_mem {ad : Nat → Nat} {ls : List (Option Value)} {q : Nat × Value} : q ∈ lp ad ls ↔ ∃ v, ls[q.1]? = some (some v) ∧ q.2 = cv ad v := by
  unfold lp
  rw [List.mem_filterMap]
  constructor
  · rintro ⟨k, hk, h⟩
    split at h
    · rename_i v hv
      cases h
      exact ⟨v, hv, rfl⟩
    · cases h
  · rintro ⟨v, h1, h2⟩
    refine ⟨q.1, List.mem_range.mpr (List.getElem?_eq_some_iff.mp h1).1, ?_⟩
    rw [h1]
    show some (q.1, cv ad v) = some q
    rw [← h2]
abbrev TT : Type := Room × Nat × Nat × (List Frame → Array Value → State → State → Prop) × (State → Array Value → Prop)
/-- from here on the method's frame comes to the end that τ names -/
def Ex (g : GG) (q : MI) (τ : TT) (pc : Nat) (ls : List (Option Value)) (st : List Value) (M : AM) : Prop :=
  ∀ (p : Program) (e : Env) (s : State) (m : MethodId) (args : Array Value) (below : List Frame) (meth : Method) (c : Code) (H : Heap) (locs : List Loc) (a : Array Slot),
    Fx g q p s m args meth c → τ.2.2.2.2 s args → Wo g M s H locs → lv_has a (fL q) (lp (gA g) ls) →
    W p g.1 e τ.1 s m args below meth c H locs τ.2.1 τ.2.2.1 (τ.2.2.2.1 below args s) (F0 m pc a (st.map (cv (gA g))))
def QcA (g : GG) (Q : Option Value → AM → Prop) : Array Value → State → Outcome → State → Prop := fun _ st o t =>
  (∃ (v : Option Value) (M' : AM), o = .returned (v.map (cv (gA g))) ∧ Q v M' ∧ va_P g.2.1 clss (cw g M') t.heap) ∧ va_F (Fr g) st t
def PcA (g : GG) (As : List Value) (M : AM) : Array Value → State → Prop := va_Pc (As.map (cv (gA g))) (fun U => va_P g.2.1 clss (cw g M) U.heap ∧ va_K g.2.1 clss (tyG g) U ∧ NestOK U ∧ gOK g)
/-- the method, called with these, ends, and what it answers and leaves has Q -/
def Call (g : GG) (q : MI) (As : List Value) (M : AM) (Q : Option Value → AM → Prop) : Prop := Met g.1 (fY q) (wsm q) (rmq q) (PcA g As M) (QcA g Q) 0 0 (Fr g)
def tm (g : GG) (q : MI) (Q : Option Value → AM → Prop) : TT := (rmq q, 0, 0, fun below args s => MQ below (QcA g Q) args s 0 0 (Fr g), fun _ _ => True)
section EX
variable {g : GG} {q : MI} {τ : TT} {pc : Nat} {ls : List (Option Value)} {st : List Value} {M : AM}
theorem lv_fewer {a : Array Slot} {n : Nat} {l l' : List (Nat × Value)} (h : lv_has a n l) (hs : ∀ x ∈ l', x ∈ l) : lv_has a n l' := ⟨h.1, h.2.1, fun x hx => h.2.2 x (hs x hx)⟩
theorem lp_at {a : Array Slot} {n : Nat} {ad : Nat → Nat} {i : Nat} {v : Value} (h : lv_has a n (lp ad ls)) (hi : ls[i]? = some (some v)) : a[i]? = some (.val (cv ad v)) := h.2.2 (i, cv ad v) (lp_mem.mpr ⟨v, hi, rfl⟩)
/-- no long stands just ahead of i -/
def okl (ls : List (Option Value)) (i : Nat) : Bool := match i with
  | 0 => true
  | k + 1 => match ls[k]? with
    | some (some (.long _)) => false
    | some (some (.double _)) => false
    | _ => true
theorem okl_cat {ad : Nat → Nat} {ls : List (Option Value)} {i k : Nat} {v : Value} (h : okl ls i = true) (hk : ls[k]? = some (some v)) (hi : k + 1 = i) : (cv ad v).category = 1 := by
  subst hi
  unfold okl at h
  simp only [hk] at h
  cases v <;> simp [cv, Value.category] at h ⊢
theorem lp_set1 {ad : Nat → Nat} {ls : List (Option Value)} {i : Nat} {v : Value} (ho : okl ls i = true) : ∀ x ∈ lp ad (ls.set i (some v)), x ∈ (i, cv ad v) :: (lp ad ls).filter (fun q => !(q.1 == i) && !(q.1 + 1 == i && q.2.category == 2)) := by
  intro x hx
  obtain ⟨w, h1, h2⟩ := lp_mem.mp hx
  obtain ⟨k, y⟩ := x
  dsimp only at h1 h2
  subst h2
  by_cases hk : k = i
  · subst hk
    have hl : k < ls.length := by
      have := (List.getElem?_eq_some_iff.mp h1).1
      simpa using this
    rw [List.getElem?_set_self hl] at h1
    cases h1
    exact List.mem_cons_self
  · rw [List.getElem?_set_ne (fun q => hk q.symm)] at h1
    refine List.mem_cons_of_mem _ (List.mem_filter.mpr ⟨lp_mem.mpr ⟨w, h1, rfl⟩, ?_⟩)
    by_cases hq : k + 1 = i
    · have := okl_cat (ad := ad) ho h1 hq
      simp [hk, this]
    · simp [hk, hq]
theorem lp_set2 {ad : Nat → Nat} {ls : List (Option Value)} {i : Nat} {v : Value} (ho : okl ls i = true) : ∀ x ∈ lp ad ((ls.set i (some v)).set (i + 1) none), x ∈ (i, cv ad v) :: (lp ad ls).filter (fun q => !(q.1 == i) && (!(q.1 == i + 1) && !(q.1 + 1 == i && q.2.category == 2))) := by
  intro x hx
  obtain ⟨w, h1, h2⟩ := lp_mem.mp hx
  obtain ⟨k, y⟩ := x
  dsimp only at h1 h2
  subst h2
  by_cases hn : k = i + 1
  · subst hn
    have hl : i + 1 < ls.length := by
      have := (List.getElem?_eq_some_iff.mp h1).1
      simpa using this
    rw [List.getElem?_set_self (by simpa using hl)] at h1
    cases h1
  · rw [List.getElem?_set_ne (fun q => hn q.symm)] at h1
    by_cases hk : k = i
    · subst hk
      have hl : k < ls.length := by
        have := (List.getElem?_eq_some_iff.mp h1).1
        simpa using this
      rw [List.getElem?_set_self hl] at h1
      cases h1
      exact List.mem_cons_self
    · rw [List.getElem?_set_ne (fun q => hk q.symm)] at h1
      refine List.mem_cons_of_mem _ (List.mem_filter.mpr ⟨lp_mem.mpr ⟨w, h1, rfl⟩, ?_⟩)
      by_cases hq : k + 1 = i
      · have := okl_cat (ad := ad) ho h1 hq
        simp [hk, hn, this]
      · simp [hk, hn, hq]
theorem E_iconst {n : Int} {v : Int32} (d : decode (fC q) pc = .ok (.iconst n, 1)) (hv : Int32.ofInt n = v)
    (k : Ex g q τ (pc + 1) ls (.int v :: st) M) : Ex g q τ pc ls st M :=
  fun p e s m args below meth c H locs a hF hX hW hl => lv_iconst hF.1 hF.2.1 d hv (k p e s m args below meth c H locs a hF hX hW hl)
theorem E_bipush {n : Int} {v : Int32} (d : decode (fC q) pc = .ok (.bipush n, 2)) (hv : (Int8.ofInt n).toInt32 = v)
    (k : Ex g q τ (pc + 2) ls (.int v :: st) M) : Ex g q τ pc ls st M :=
  fun p e s m args below meth c H locs a hF hX hW hl => lv_bipush hF.1 hF.2.1 d hv (k p e s m args below meth c H locs a hF hX hW hl)
theorem E_sipush {n : Int} {v : Int32} (d : decode (fC q) pc = .ok (.sipush n, 3)) (hv : (Int16.ofInt n).toInt32 = v)
    (k : Ex g q τ (pc + 3) ls (.int v :: st) M) : Ex g q τ pc ls st M :=
  fun p e s m args below meth c H locs a hF hX hW hl => lv_sipush hF.1 hF.2.1 d hv (k p e s m args below meth c H locs a hF hX hW hl)
theorem E_lconst {n : Fin 2} {v : Int64} (d : decode (fC q) pc = .ok (.lconst n, 1)) (hv : Int64.ofNat (n : Nat) = v)
    (k : Ex g q τ (pc + 1) ls (.long v :: st) M) : Ex g q τ pc ls st M :=
  fun p e s m args below meth c H locs a hF hX hW hl => lv_lconst hF.1 hF.2.1 d hv (k p e s m args below meth c H locs a hF hX hW hl)
theorem E_ldc {idx : Nat} {v : Int32} (d : decode (fC q) pc = .ok (.ldc idx, 2)) (hc : Cond.constant (fY q).cls idx v ∈ tbG)
    (k : Ex g q τ (pc + 2) ls (.int v :: st) M) : Ex g q τ pc ls st M :=
  fun p e s m args below meth c H locs a hF hX hW hl => lv_ldc hF.1 hF.2.1 hF.2.2.2.2.1 (hF.2.2.2.2.2.1 _ hc) d (k p e s m args below meth c H locs a hF hX hW hl)
theorem E_ldc2 {idx : Nat} {v : Int64} (d : decode (fC q) pc = .ok (.ldc2_w idx, 3)) (hc : Cond.constantLong (fY q).cls idx v ∈ tbG)
    (k : Ex g q τ (pc + 3) ls (.long v :: st) M) : Ex g q τ pc ls st M :=
  fun p e s m args below meth c H locs a hF hX hW hl => lv_ldc2 hF.1 hF.2.1 hF.2.2.2.2.1 (hF.2.2.2.2.2.1 _ hc) d (k p e s m args below meth c H locs a hF hX hW hl)
theorem E_iload_n {i : Fin 4} {x : Int32} (d : decode (fC q) pc = .ok (.iload_n i, 1)) (hl0 : ls[(i : Nat)]? = some (some (.int x)))
    (k : Ex g q τ (pc + 1) ls (.int x :: st) M) : Ex g q τ pc ls st M :=
  fun p e s m args below meth c H locs a hF hX hW hl => lv_iload_n hF.1 hF.2.1 d rfl (lp_at hl hl0) (k p e s m args below meth c H locs a hF hX hW hl)
theorem E_iload {i : Nat} {x : Int32} (d : decode (fC q) pc = .ok (.iload i, 2)) (hl0 : ls[i]? = some (some (.int x)))
    (k : Ex g q τ (pc + 2) ls (.int x :: st) M) : Ex g q τ pc ls st M :=
  fun p e s m args below meth c H locs a hF hX hW hl => lv_iload hF.1 hF.2.1 d (lp_at hl hl0) (k p e s m args below meth c H locs a hF hX hW hl)
theorem E_lload_n {i : Fin 4} {x : Int64} (d : decode (fC q) pc = .ok (.lload_n i, 1)) (hl0 : ls[(i : Nat)]? = some (some (.long x)))
    (k : Ex g q τ (pc + 1) ls (.long x :: st) M) : Ex g q τ pc ls st M :=
  fun p e s m args below meth c H locs a hF hX hW hl => lv_lload_n hF.1 hF.2.1 d rfl (lp_at hl hl0) (k p e s m args below meth c H locs a hF hX hW hl)
theorem E_lload {i : Nat} {x : Int64} (d : decode (fC q) pc = .ok (.lload i, 2)) (hl0 : ls[i]? = some (some (.long x)))
    (k : Ex g q τ (pc + 2) ls (.long x :: st) M) : Ex g q τ pc ls st M :=
  fun p e s m args below meth c H locs a hF hX hW hl => lv_lload hF.1 hF.2.1 d (lp_at hl hl0) (k p e s m args below meth c H locs a hF hX hW hl)
theorem E_aload_n {i : Fin 4} {x : Nat} (d : decode (fC q) pc = .ok (.aload_n i, 1)) (hl0 : ls[(i : Nat)]? = some (some (.ref x)))
    (k : Ex g q τ (pc + 1) ls (.ref x :: st) M) : Ex g q τ pc ls st M :=
  fun p e s m args below meth c H locs a hF hX hW hl => lv_aload_n hF.1 hF.2.1 d rfl (lp_at hl hl0) (k p e s m args below meth c H locs a hF hX hW hl)
theorem E_aload {i : Nat} {x : Nat} (d : decode (fC q) pc = .ok (.aload i, 2)) (hl0 : ls[i]? = some (some (.ref x)))
    (k : Ex g q τ (pc + 2) ls (.ref x :: st) M) : Ex g q τ pc ls st M :=
  fun p e s m args below meth c H locs a hF hX hW hl => lv_aload hF.1 hF.2.1 d (lp_at hl hl0) (k p e s m args below meth c H locs a hF hX hW hl)
theorem E_istore_n {i : Fin 4} {x : Int32} (d : decode (fC q) pc = .ok (.istore_n i, 1)) (hi : (i : Nat) < fL q) (ho : okl ls i = true)
    (k : Ex g q τ (pc + 1) (ls.set i (some (.int x))) st M) : Ex g q τ pc ls (.int x :: st) M :=
  fun p e s m args below meth c H locs a hF hX hW hl => lv_istore_n hF.1 hF.2.1 d rfl hl hi rfl (fun a1 hl1 => k p e s m args below meth c H locs a1 hF hX hW (lv_fewer hl1 (lp_set1 ho)))
theorem E_istore {i : Nat} {x : Int32} (d : decode (fC q) pc = .ok (.istore i, 2)) (hi : i < fL q) (ho : okl ls i = true)
    (k : Ex g q τ (pc + 2) (ls.set i (some (.int x))) st M) : Ex g q τ pc ls (.int x :: st) M :=
  fun p e s m args below meth c H locs a hF hX hW hl => lv_istore hF.1 hF.2.1 d hl hi rfl (fun a1 hl1 => k p e s m args below meth c H locs a1 hF hX hW (lv_fewer hl1 (lp_set1 ho)))
theorem E_astore_n {i : Fin 4} {x : Nat} (d : decode (fC q) pc = .ok (.astore_n i, 1)) (hi : (i : Nat) < fL q) (ho : okl ls i = true)
    (k : Ex g q τ (pc + 1) (ls.set i (some (.ref x))) st M) : Ex g q τ pc ls (.ref x :: st) M :=
  fun p e s m args below meth c H locs a hF hX hW hl => lv_astore_n hF.1 hF.2.1 d rfl hl hi rfl (fun a1 hl1 => k p e s m args below meth c H locs a1 hF hX hW (lv_fewer hl1 (lp_set1 ho)))
theorem E_astore {i : Nat} {x : Nat} (d : decode (fC q) pc = .ok (.astore i, 2)) (hi : i < fL q) (ho : okl ls i = true)
    (k : Ex g q τ (pc + 2) (ls.set i (some (.ref x))) st M) : Ex g q τ pc ls (.ref x :: st) M :=
  fun p e s m args below meth c H locs a hF hX hW hl => lv_astore hF.1 hF.2.1 d hl hi rfl (fun a1 hl1 => k p e s m args below meth c H locs a1 hF hX hW (lv_fewer hl1 (lp_set1 ho)))
theorem E_lstore_n {i : Fin 4} {x : Int64} (d : decode (fC q) pc = .ok (.lstore_n i, 1)) (hi : (i : Nat) + 1 < fL q) (ho : okl ls i = true)
    (k : Ex g q τ (pc + 1) ((ls.set i (some (.long x))).set ((i : Nat) + 1) none) st M) : Ex g q τ pc ls (.long x :: st) M :=
  fun p e s m args below meth c H locs a hF hX hW hl => lv_lstore_n hF.1 hF.2.1 d rfl hl hi rfl (fun a1 hl1 => k p e s m args below meth c H locs a1 hF hX hW (lv_fewer hl1 (lp_set2 ho)))
theorem E_lstore {i : Nat} {x : Int64} (d : decode (fC q) pc = .ok (.lstore i, 2)) (hi : i + 1 < fL q) (ho : okl ls i = true)
    (k : Ex g q τ (pc + 2) ((ls.set i (some (.long x))).set (i + 1) none) st M) : Ex g q τ pc ls (.long x :: st) M :=
  fun p e s m args below meth c H locs a hF hX hW hl => lv_lstore hF.1 hF.2.1 d hl hi rfl (fun a1 hl1 => k p e s m args below meth c H locs a1 hF hX hW (lv_fewer hl1 (lp_set2 ho)))
theorem lp_idx {ad : Nat → Nat} {ls : List (Option Value)} {i : Nat} {v : Value} (h : ls[i]? = some (some v)) : ∃ k : Nat, (lp ad ls)[k]? = some (i, cv ad v) := List.getElem?_of_mem (lp_mem.mpr ⟨v, h, rfl⟩)
theorem E_iinc {i : Nat} {n : Int} {x v : Int32} (d : decode (fC q) pc = .ok (.iinc i n, 3)) (hl0 : ls[i]? = some (some (.int x))) (hv : Int32.ofInt n = v) (hi : i < fL q) (ho : okl ls i = true)
    (k : Ex g q τ (pc + 3) (ls.set i (some (.int (x + v)))) st M) : Ex g q τ pc ls st M := by
  intro p e s m args below meth c H locs a hF hX hW hl
  obtain ⟨j, hj⟩ := lp_idx (ad := gA g) hl0
  exact lv_iinc hF.1 hF.2.1 d hl hj (by rw [hv]) hi rfl (fun a1 hl1 => k p e s m args below meth c H locs a1 hF hX hW (lv_fewer hl1 (lp_set1 ho)))
theorem E_iadd {x y : Int32} (d : decode (fC q) pc = .ok (.iadd, 1))
    (k : Ex g q τ (pc + 1) ls (.int (x + y) :: st) M) : Ex g q τ pc ls (.int y :: .int x :: st) M :=
  fun p e s m args below meth c H locs a hF hX hW hl => lv_iadd hF.1 hF.2.1 d (k p e s m args below meth c H locs a hF hX hW hl)
theorem E_isub {x y : Int32} (d : decode (fC q) pc = .ok (.isub, 1))
    (k : Ex g q τ (pc + 1) ls (.int (x - y) :: st) M) : Ex g q τ pc ls (.int y :: .int x :: st) M :=
  fun p e s m args below meth c H locs a hF hX hW hl => lv_isub hF.1 hF.2.1 d (k p e s m args below meth c H locs a hF hX hW hl)
theorem E_imul {x y : Int32} (d : decode (fC q) pc = .ok (.imul, 1))
    (k : Ex g q τ (pc + 1) ls (.int (x * y) :: st) M) : Ex g q τ pc ls (.int y :: .int x :: st) M :=
  fun p e s m args below meth c H locs a hF hX hW hl => lv_imul hF.1 hF.2.1 d (k p e s m args below meth c H locs a hF hX hW hl)
theorem E_iand {x y : Int32} (d : decode (fC q) pc = .ok (.iand, 1))
    (k : Ex g q τ (pc + 1) ls (.int (x &&& y) :: st) M) : Ex g q τ pc ls (.int y :: .int x :: st) M :=
  fun p e s m args below meth c H locs a hF hX hW hl => lv_iand hF.1 hF.2.1 d (k p e s m args below meth c H locs a hF hX hW hl)
theorem E_ior {x y : Int32} (d : decode (fC q) pc = .ok (.ior, 1))
    (k : Ex g q τ (pc + 1) ls (.int (x ||| y) :: st) M) : Ex g q τ pc ls (.int y :: .int x :: st) M :=
  fun p e s m args below meth c H locs a hF hX hW hl => lv_ior hF.1 hF.2.1 d (k p e s m args below meth c H locs a hF hX hW hl)
theorem E_ixor {x y : Int32} (d : decode (fC q) pc = .ok (.ixor, 1))
    (k : Ex g q τ (pc + 1) ls (.int (x ^^^ y) :: st) M) : Ex g q τ pc ls (.int y :: .int x :: st) M :=
  fun p e s m args below meth c H locs a hF hX hW hl => lv_ixor hF.1 hF.2.1 d (k p e s m args below meth c H locs a hF hX hW hl)
theorem E_ishl {x y : Int32} (d : decode (fC q) pc = .ok (.ishl, 1))
    (k : Ex g q τ (pc + 1) ls (.int (x <<< (y &&& 31)) :: st) M) : Ex g q τ pc ls (.int y :: .int x :: st) M :=
  fun p e s m args below meth c H locs a hF hX hW hl => lv_ishl hF.1 hF.2.1 d (k p e s m args below meth c H locs a hF hX hW hl)
theorem E_ishr {x y : Int32} (d : decode (fC q) pc = .ok (.ishr, 1))
    (k : Ex g q τ (pc + 1) ls (.int (x >>> (y &&& 31)) :: st) M) : Ex g q τ pc ls (.int y :: .int x :: st) M :=
  fun p e s m args below meth c H locs a hF hX hW hl => lv_ishr hF.1 hF.2.1 d (k p e s m args below meth c H locs a hF hX hW hl)
theorem E_idiv {x y : Int32} (d : decode (fC q) pc = .ok (.idiv, 1)) (hne : ¬ y = 0)
    (k : Ex g q τ (pc + 1) ls (.int (x / y) :: st) M) : Ex g q τ pc ls (.int y :: .int x :: st) M :=
  fun p e s m args below meth c H locs a hF hX hW hl => lv_idiv hF.1 hF.2.1 d hne (k p e s m args below meth c H locs a hF hX hW hl)
theorem E_irem {x y : Int32} (d : decode (fC q) pc = .ok (.irem, 1)) (hne : ¬ y = 0)
    (k : Ex g q τ (pc + 1) ls (.int (x - x / y * y) :: st) M) : Ex g q τ pc ls (.int y :: .int x :: st) M :=
  fun p e s m args below meth c H locs a hF hX hW hl => lv_irem hF.1 hF.2.1 d hne (k p e s m args below meth c H locs a hF hX hW hl)
theorem E_iushr {x y : Int32} (d : decode (fC q) pc = .ok (.iushr, 1))
    (k : Ex g q τ (pc + 1) ls (.int ((x.toUInt32 >>> (y.toUInt32 &&& Int32.toUInt32 31)).toInt32) :: st) M) : Ex g q τ pc ls (.int y :: .int x :: st) M :=
  fun p e s m args below meth c H locs a hF hX hW hl => lv_iushr hF.1 hF.2.1 d rfl (k p e s m args below meth c H locs a hF hX hW hl)
theorem E_ladd {x y : Int64} (d : decode (fC q) pc = .ok (.ladd, 1))
    (k : Ex g q τ (pc + 1) ls (.long (x + y) :: st) M) : Ex g q τ pc ls (.long y :: .long x :: st) M :=
  fun p e s m args below meth c H locs a hF hX hW hl => lv_ladd hF.1 hF.2.1 d (k p e s m args below meth c H locs a hF hX hW hl)
theorem E_lsub {x y : Int64} (d : decode (fC q) pc = .ok (.lsub, 1))
    (k : Ex g q τ (pc + 1) ls (.long (x - y) :: st) M) : Ex g q τ pc ls (.long y :: .long x :: st) M :=
  fun p e s m args below meth c H locs a hF hX hW hl => lv_lsub hF.1 hF.2.1 d (k p e s m args below meth c H locs a hF hX hW hl)
theorem E_lcmp {x y : Int64} (d : decode (fC q) pc = .ok (.lcmp, 1))
    (k : Ex g q τ (pc + 1) ls (.int (lg_cmp x y) :: st) M) : Ex g q τ pc ls (.long y :: .long x :: st) M :=
  fun p e s m args below meth c H locs a hF hX hW hl => W.lcmp hF.1 hF.2.1 d (k p e s m args below meth c H locs a hF hX hW hl)
theorem E_i2l {x : Int32} (d : decode (fC q) pc = .ok (.i2l, 1))
    (k : Ex g q τ (pc + 1) ls (.long x.toInt64 :: st) M) : Ex g q τ pc ls (.int x :: st) M :=
  fun p e s m args below meth c H locs a hF hX hW hl => lv_i2l hF.1 hF.2.1 d rfl (k p e s m args below meth c H locs a hF hX hW hl)
theorem E_dup {v : Value} (d : decode (fC q) pc = .ok (.dup, 1)) (hv : (cv (gA g) v).category = 1)
    (k : Ex g q τ (pc + 1) ls (v :: v :: st) M) : Ex g q τ pc ls (v :: st) M :=
  fun p e s m args below meth c H locs a hF hX hW hl => lv_dup hF.1 hF.2.1 d hv (k p e s m args below meth c H locs a hF hX hW hl)
theorem E_dup2 {v u : Value} (d : decode (fC q) pc = .ok (.dup2, 1)) (hv : (cv (gA g) v).category = 1) (hu : (cv (gA g) u).category = 1)
    (k : Ex g q τ (pc + 1) ls (v :: u :: v :: u :: st) M) : Ex g q τ pc ls (v :: u :: st) M :=
  fun p e s m args below meth c H locs a hF hX hW hl => lv_dup2_11 hF.1 hF.2.1 d hv hu (k p e s m args below meth c H locs a hF hX hW hl)
theorem E_pop {v : Value} (d : decode (fC q) pc = .ok (.pop, 1)) (hv : (cv (gA g) v).category = 1)
    (k : Ex g q τ (pc + 1) ls st M) : Ex g q τ pc ls (v :: st) M :=
  fun p e s m args below meth c H locs a hF hX hW hl => lv_pop hF.1 hF.2.1 d hv (k p e s m args below meth c H locs a hF hX hW hl)
theorem E_goto {off : Int} {t : Nat} (d : decode (fC q) pc = .ok (.goto off, 3)) (ht : (pc : Int) + off = (t : Int))
    (k : Ex g q τ t ls st M) : Ex g q τ pc ls st M :=
  fun p e s m args below meth c H locs a hF hX hW hl => lv_goto hF.1 hF.2.1 d ht (k p e s m args below meth c H locs a hF hX hW hl)
theorem E_if_eq {x : Int32} {off : Int} {t : Nat} (d : decode (fC q) pc = .ok (.ifCond .eq off, 3)) (ht : (pc : Int) + off = (t : Int))
    (kt : x = 0 → Ex g q τ t ls st M) (kf : ¬ x = 0 → Ex g q τ (pc + 3) ls st M) : Ex g q τ pc ls (.int x :: st) M :=
  fun p e s m args below meth c H locs a hF hX hW hl => lv_if_eq hF.1 hF.2.1 d ht (fun h => kt h p e s m args below meth c H locs a hF hX hW hl) (fun h => kf h p e s m args below meth c H locs a hF hX hW hl)
theorem E_icmp_eq {x y : Int32} {off : Int} {t : Nat} (d : decode (fC q) pc = .ok (.if_icmp .eq off, 3)) (ht : (pc : Int) + off = (t : Int))
    (kt : x = y → Ex g q τ t ls st M) (kf : ¬ x = y → Ex g q τ (pc + 3) ls st M) : Ex g q τ pc ls (.int y :: .int x :: st) M :=
  fun p e s m args below meth c H locs a hF hX hW hl => lv_icmp_eq hF.1 hF.2.1 d ht (fun h => kt h p e s m args below meth c H locs a hF hX hW hl) (fun h => kf h p e s m args below meth c H locs a hF hX hW hl)
theorem E_if_ne {x : Int32} {off : Int} {t : Nat} (d : decode (fC q) pc = .ok (.ifCond .ne off, 3)) (ht : (pc : Int) + off = (t : Int))
    (kt : ¬ x = 0 → Ex g q τ t ls st M) (kf : x = 0 → Ex g q τ (pc + 3) ls st M) : Ex g q τ pc ls (.int x :: st) M :=
  fun p e s m args below meth c H locs a hF hX hW hl => lv_if_ne hF.1 hF.2.1 d ht (fun h => kt h p e s m args below meth c H locs a hF hX hW hl) (fun h => kf h p e s m args below meth c H locs a hF hX hW hl)
theorem E_icmp_ne {x y : Int32} {off : Int} {t : Nat} (d : decode (fC q) pc = .ok (.if_icmp .ne off, 3)) (ht : (pc : Int) + off = (t : Int))
    (kt : ¬ x = y → Ex g q τ t ls st M) (kf : x = y → Ex g q τ (pc + 3) ls st M) : Ex g q τ pc ls (.int y :: .int x :: st) M :=
  fun p e s m args below meth c H locs a hF hX hW hl => lv_icmp_ne hF.1 hF.2.1 d ht (fun h => kt h p e s m args below meth c H locs a hF hX hW hl) (fun h => kf h p e s m args below meth c H locs a hF hX hW hl)
theorem E_if_lt {x : Int32} {off : Int} {t : Nat} (d : decode (fC q) pc = .ok (.ifCond .lt off, 3)) (ht : (pc : Int) + off = (t : Int))
    (kt : x < 0 → Ex g q τ t ls st M) (kf : ¬ x < 0 → Ex g q τ (pc + 3) ls st M) : Ex g q τ pc ls (.int x :: st) M :=
  fun p e s m args below meth c H locs a hF hX hW hl => lv_if_lt hF.1 hF.2.1 d ht (fun h => kt h p e s m args below meth c H locs a hF hX hW hl) (fun h => kf h p e s m args below meth c H locs a hF hX hW hl)
theorem E_icmp_lt {x y : Int32} {off : Int} {t : Nat} (d : decode (fC q) pc = .ok (.if_icmp .lt off, 3)) (ht : (pc : Int) + off = (t : Int))
    (kt : x < y → Ex g q τ t ls st M) (kf : ¬ x < y → Ex g q τ (pc + 3) ls st M) : Ex g q τ pc ls (.int y :: .int x :: st) M :=
  fun p e s m args below meth c H locs a hF hX hW hl => lv_icmp_lt hF.1 hF.2.1 d ht (fun h => kt h p e s m args below meth c H locs a hF hX hW hl) (fun h => kf h p e s m args below meth c H locs a hF hX hW hl)
theorem E_if_ge {x : Int32} {off : Int} {t : Nat} (d : decode (fC q) pc = .ok (.ifCond .ge off, 3)) (ht : (pc : Int) + off = (t : Int))
    (kt : 0 ≤ x → Ex g q τ t ls st M) (kf : ¬ 0 ≤ x → Ex g q τ (pc + 3) ls st M) : Ex g q τ pc ls (.int x :: st) M :=
  fun p e s m args below meth c H locs a hF hX hW hl => lv_if_ge hF.1 hF.2.1 d ht (fun h => kt h p e s m args below meth c H locs a hF hX hW hl) (fun h => kf h p e s m args below meth c H locs a hF hX hW hl)
theorem E_icmp_ge {x y : Int32} {off : Int} {t : Nat} (d : decode (fC q) pc = .ok (.if_icmp .ge off, 3)) (ht : (pc : Int) + off = (t : Int))
    (kt : y ≤ x → Ex g q τ t ls st M) (kf : ¬ y ≤ x → Ex g q τ (pc + 3) ls st M) : Ex g q τ pc ls (.int y :: .int x :: st) M :=
  fun p e s m args below meth c H locs a hF hX hW hl => lv_icmp_ge hF.1 hF.2.1 d ht (fun h => kt h p e s m args below meth c H locs a hF hX hW hl) (fun h => kf h p e s m args below meth c H locs a hF hX hW hl)
theorem E_if_gt {x : Int32} {off : Int} {t : Nat} (d : decode (fC q) pc = .ok (.ifCond .gt off, 3)) (ht : (pc : Int) + off = (t : Int))
    (kt : 0 < x → Ex g q τ t ls st M) (kf : ¬ 0 < x → Ex g q τ (pc + 3) ls st M) : Ex g q τ pc ls (.int x :: st) M :=
  fun p e s m args below meth c H locs a hF hX hW hl => lv_if_gt hF.1 hF.2.1 d ht (fun h => kt h p e s m args below meth c H locs a hF hX hW hl) (fun h => kf h p e s m args below meth c H locs a hF hX hW hl)
theorem E_icmp_gt {x y : Int32} {off : Int} {t : Nat} (d : decode (fC q) pc = .ok (.if_icmp .gt off, 3)) (ht : (pc : Int) + off = (t : Int))
    (kt : y < x → Ex g q τ t ls st M) (kf : ¬ y < x → Ex g q τ (pc + 3) ls st M) : Ex g q τ pc ls (.int y :: .int x :: st) M :=
  fun p e s m args below meth c H locs a hF hX hW hl => lv_icmp_gt hF.1 hF.2.1 d ht (fun h => kt h p e s m args below meth c H locs a hF hX hW hl) (fun h => kf h p e s m args below meth c H locs a hF hX hW hl)
theorem E_if_le {x : Int32} {off : Int} {t : Nat} (d : decode (fC q) pc = .ok (.ifCond .le off, 3)) (ht : (pc : Int) + off = (t : Int))
    (kt : x ≤ 0 → Ex g q τ t ls st M) (kf : ¬ x ≤ 0 → Ex g q τ (pc + 3) ls st M) : Ex g q τ pc ls (.int x :: st) M :=
  fun p e s m args below meth c H locs a hF hX hW hl => lv_if_le hF.1 hF.2.1 d ht (fun h => kt h p e s m args below meth c H locs a hF hX hW hl) (fun h => kf h p e s m args below meth c H locs a hF hX hW hl)
theorem E_icmp_le {x y : Int32} {off : Int} {t : Nat} (d : decode (fC q) pc = .ok (.if_icmp .le off, 3)) (ht : (pc : Int) + off = (t : Int))
    (kt : x ≤ y → Ex g q τ t ls st M) (kf : ¬ x ≤ y → Ex g q τ (pc + 3) ls st M) : Ex g q τ pc ls (.int y :: .int x :: st) M :=
  fun p e s m args below meth c H locs a hF hX hW hl => lv_icmp_le hF.1 hF.2.1 d ht (fun h => kt h p e s m args below meth c H locs a hF hX hW hl) (fun h => kf h p e s m args below meth c H locs a hF hX hW hl)
theorem E_swOut {dflt lo hi : Int} {offs : Array Int} {len : Nat} {x : Int32} {t : Nat} (d : decode (fC q) pc = .ok (.tableswitch dflt lo hi offs, len)) (h : x.toInt < lo ∨ hi < x.toInt) (ht : (pc : Int) + dflt = (t : Int))
    (k : Ex g q τ t ls st M) : Ex g q τ pc ls (.int x :: st) M :=
  fun p e s m args below meth c H locs a hF hX hW hl => lv_tableOut hF.1 hF.2.1 d h ht (k p e s m args below meth c H locs a hF hX hW hl)
theorem E_swIn {dflt lo hi : Int} {offs : Array Int} {len : Nat} {x : Int32} {off : Int} {t : Nat} (d : decode (fC q) pc = .ok (.tableswitch dflt lo hi offs, len)) (h1 : ¬ x.toInt < lo) (h2 : ¬ hi < x.toInt) (ho : offs[(x.toInt - lo).toNat]? = some off) (ht : (pc : Int) + off = (t : Int))
    (k : Ex g q τ t ls st M) : Ex g q τ pc ls (.int x :: st) M :=
  fun p e s m args below meth c H locs a hF hX hW hl => lv_tableIn hF.1 hF.2.1 d h1 h2 ho ht (k p e s m args below meth c H locs a hF hX hW hl)
theorem E_getI {idx ci j i : Nat} {C : String} {T : u_T} {N : Nat} (d : decode (fC q) pc = .ok (.getfield idx, 3)) (hf : Cond.fieldLink (fY q).cls idx (T j).1 (T j).2.1 (T j).2.2.1 ∈ tbG) (hc : clss[ci]? = some (C, T, N)) (hj : j < nf ci) (hk : kd i = (0, ci)) (ht : ft ci j < 2)
    (k : Ex g q τ (pc + 3) ls (.int (M.1 i j) :: st) M) : Ex g q τ pc ls (.ref i :: st) M := by
  intro p e s m args below meth c H locs a hF hX hW hl
  obtain ⟨hN, hin, -⟩ := cls_ok hc
  have hv : fv (gA g) M i ci j = cv (gA g) (.int (M.1 i j)) := by
    unfold fv
    match hq : ft ci j, ht with
    | 0, _ => rfl
    | 1, _ => rfl
  refine va_get hF.1 hF.2.1 hF.2.2.2.2.2.1 hin hF.2.2.2.2.1 hF.2.2.2.2.2.2.2.2.2 hW.1 i (by rw [cw_get g M (kd_lt hk (by decide)), cc_o hk]) hc j (by rw [hN]; exact hj) (hF.2.2.2.2.2.1 _ hf) (fun _ h => h) (fl_at hj) d ?_
  rw [hv]
  exact k p e s m args below meth c H locs a hF hX hW hl
theorem E_getR {idx ci j i : Nat} {C : String} {T : u_T} {N : Nat} (d : decode (fC q) pc = .ok (.getfield idx, 3)) (hf : Cond.fieldLink (fY q).cls idx (T j).1 (T j).2.1 (T j).2.2.1 ∈ tbG) (hc : clss[ci]? = some (C, T, N)) (hj : j < nf ci) (hk : kd i = (0, ci)) (ht : ft ci j = 2)
    (k : Ex g q τ (pc + 3) ls (.ref (sr i j) :: st) M) : Ex g q τ pc ls (.ref i :: st) M := by
  intro p e s m args below meth c H locs a hF hX hW hl
  obtain ⟨hN, hin, -⟩ := cls_ok hc
  have hv : fv (gA g) M i ci j = cv (gA g) (.ref (sr i j)) := by
    unfold fv
    rw [ht]
    rfl
  refine va_get hF.1 hF.2.1 hF.2.2.2.2.2.1 hin hF.2.2.2.2.1 hF.2.2.2.2.2.2.2.2.2 hW.1 i (by rw [cw_get g M (kd_lt hk (by decide)), cc_o hk]) hc j (by rw [hN]; exact hj) (hF.2.2.2.2.2.1 _ hf) (fun _ h => h) (fl_at hj) d ?_
  rw [hv]
  exact k p e s m args below meth c H locs a hF hX hW hl
theorem E_getM {idx ci j i : Nat} {C : String} {T : u_T} {N : Nat} (d : decode (fC q) pc = .ok (.getfield idx, 3)) (hf : Cond.fieldLink (fY q).cls idx (T j).1 (T j).2.1 (T j).2.2.1 ∈ tbG) (hc : clss[ci]? = some (C, T, N)) (hj : j < nf ci) (hk : kd i = (0, ci)) (ht : ft ci j = 3)
    (k : Ex g q τ (pc + 3) ls (.ref (M.2.2 i j) :: st) M) : Ex g q τ pc ls (.ref i :: st) M := by
  intro p e s m args below meth c H locs a hF hX hW hl
  obtain ⟨hN, hin, -⟩ := cls_ok hc
  have hv : fv (gA g) M i ci j = cv (gA g) (.ref (M.2.2 i j)) := by
    unfold fv
    rw [ht]
    rfl
  refine va_get hF.1 hF.2.1 hF.2.2.2.2.2.1 hin hF.2.2.2.2.1 hF.2.2.2.2.2.2.2.2.2 hW.1 i (by rw [cw_get g M (kd_lt hk (by decide)), cc_o hk]) hc j (by rw [hN]; exact hj) (hF.2.2.2.2.2.1 _ hf) (fun _ h => h) (fl_at hj) d ?_
  rw [hv]
  exact k p e s m args below meth c H locs a hF hX hW hl
theorem E_putI {idx ci j i : Nat} {C : String} {T : u_T} {N : Nat} (d : decode (fC q) pc = .ok (.putfield idx, 3)) (hf : Cond.fieldLink (fY q).cls idx (T j).1 (T j).2.1 (T j).2.2.1 ∈ tbG) (hc : clss[ci]? = some (C, T, N)) (hj : j < nf ci) (hk : kd i = (0, ci)) (ht : ft ci j = 0) {x : Int32}
    (k : Ex g q τ (pc + 3) ls st (sI M i j x)) : Ex g q τ pc ls (.int x :: .ref i :: st) M := by
  intro p e s m args below meth c H locs a hF hX hW hl
  obtain ⟨hN, hin, ty, hty, hnm, hj3⟩ := cls_ok hc
  have hjN : j < N := by rw [hN]; exact hj
  have hz : (T j).2.2.2 = false ∧ narrow (ty j) (.int x) = .int x ∧ fits (ty j) (.int x) = true := by
    obtain ⟨h1, h2⟩ := (hj3 j hjN).1 ht
    rw [h2]
    exact ⟨h1, rfl, rfl⟩
  refine va_put hF.1 hF.2.1 hF.2.2.2.2.2.1 hin ty hty hnm hF.2.2.2.2.1 hF.2.2.2.2.2.2.2.2.2 hW.1 (cw_D hF.2.2.2.2.2.2.2.2.1 M) hW.2 i (by rw [cw_get g M (kd_lt hk (by decide)), cc_o hk]) hc j hjN (hF.2.2.2.2.2.1 _ hf) (fun _ h => h) hz.1 (hty j hjN) hz.2.1 hz.2.2 (by simpa using hj) d (fun H1 locs1 hP hD hS => ?_)
  have hP : va_P g.2.1 clss ((cw g M).set i (gA g i, .inr (ci, ((List.range (nf ci)).map (fv (gA g) M i ci)).set j (.int x)))) H1 := hP
  rw [cw_setF hk hj (by rw [ht]; decide)] at hP
  exact k p e s m args below meth c H1 locs1 a hF hX ⟨hP, hS⟩ hl
theorem E_putZ {idx ci j i : Nat} {C : String} {T : u_T} {N : Nat} (d : decode (fC q) pc = .ok (.putfield idx, 3)) (hf : Cond.fieldLink (fY q).cls idx (T j).1 (T j).2.1 (T j).2.2.1 ∈ tbG) (hc : clss[ci]? = some (C, T, N)) (hj : j < nf ci) (hk : kd i = (0, ci)) (ht : ft ci j = 1) {x : Int32} (hx : x = 0 ∨ x = 1)
    (k : Ex g q τ (pc + 3) ls st (sI M i j x)) : Ex g q τ pc ls (.int x :: .ref i :: st) M := by
  intro p e s m args below meth c H locs a hF hX hW hl
  obtain ⟨hN, hin, ty, hty, hnm, hj3⟩ := cls_ok hc
  have hjN : j < N := by rw [hN]; exact hj
  have hz : (T j).2.2.2 = false ∧ narrow (ty j) (.int x) = .int x ∧ fits (ty j) (.int x) = true := by
    obtain ⟨h1, h2⟩ := (hj3 j hjN).2.1 ht
    rw [h2]
    rcases hx with rfl | rfl <;> exact ⟨h1, by decide, by decide⟩
  refine va_put hF.1 hF.2.1 hF.2.2.2.2.2.1 hin ty hty hnm hF.2.2.2.2.1 hF.2.2.2.2.2.2.2.2.2 hW.1 (cw_D hF.2.2.2.2.2.2.2.2.1 M) hW.2 i (by rw [cw_get g M (kd_lt hk (by decide)), cc_o hk]) hc j hjN (hF.2.2.2.2.2.1 _ hf) (fun _ h => h) hz.1 (hty j hjN) hz.2.1 hz.2.2 (by simpa using hj) d (fun H1 locs1 hP hD hS => ?_)
  have hP : va_P g.2.1 clss ((cw g M).set i (gA g i, .inr (ci, ((List.range (nf ci)).map (fv (gA g) M i ci)).set j (.int x)))) H1 := hP
  rw [cw_setF hk hj (by rw [ht]; decide)] at hP
  exact k p e s m args below meth c H1 locs1 a hF hX ⟨hP, hS⟩ hl
theorem E_putR {idx ci j i : Nat} {C : String} {T : u_T} {N : Nat} (d : decode (fC q) pc = .ok (.putfield idx, 3)) (hf : Cond.fieldLink (fY q).cls idx (T j).1 (T j).2.1 (T j).2.2.1 ∈ tbG) (hc : clss[ci]? = some (C, T, N)) (hj : j < nf ci) (hk : kd i = (0, ci)) (ht : ft ci j = 3) {b : Nat}
    (k : Ex g q τ (pc + 3) ls st (sR M i j b)) : Ex g q τ pc ls (.ref b :: .ref i :: st) M := by
  intro p e s m args below meth c H locs a hF hX hW hl
  obtain ⟨hN, hin, ty, hty, hnm, hj3⟩ := cls_ok hc
  have hjN : j < N := by rw [hN]; exact hj
  have hz : (T j).2.2.2 = false ∧ narrow (ty j) (.ref (gA g b)) = .ref (gA g b) ∧ fits (ty j) (.ref (gA g b)) = true := by
    obtain ⟨h1, h2⟩ := (hj3 j hjN).2.2 ht
    refine ⟨h1, ?_, ?_⟩ <;> (cases hty2 : ty j <;> rw [hty2] at h2 <;> first | rfl | (simp [refKind] at h2))
  refine va_put hF.1 hF.2.1 hF.2.2.2.2.2.1 hin ty hty hnm hF.2.2.2.2.1 hF.2.2.2.2.2.2.2.2.2 hW.1 (cw_D hF.2.2.2.2.2.2.2.2.1 M) hW.2 i (by rw [cw_get g M (kd_lt hk (by decide)), cc_o hk]) hc j hjN (hF.2.2.2.2.2.1 _ hf) (fun _ h => h) hz.1 (hty j hjN) hz.2.1 hz.2.2 (by simpa using hj) d (fun H1 locs1 hP hD hS => ?_)
  have hP : va_P g.2.1 clss ((cw g M).set i (gA g i, .inr (ci, ((List.range (nf ci)).map (fv (gA g) M i ci)).set j (.ref (gA g b))))) H1 := hP
  rw [cw_setR hk hj ht] at hP
  exact k p e s m args below meth c H1 locs1 a hF hX ⟨hP, hS⟩ hl
theorem E_iald {i n : Nat} {x : Int32} (d : decode (fC q) pc = .ok (.iaload, 1)) (hk : kd i = (1, n)) (hin : vp_in x n)
    (k : Ex g q τ (pc + 1) ls (.int (M.1 i x.toNatClampNeg) :: st) M) : Ex g q τ pc ls (.int x :: .ref i :: st) M :=
  fun p e s m args below meth c H locs a hF hX hW hl => va_iald hF.1 hF.2.1 hF.2.2.2.2.2.2.2.2.2 hW.1 i 0 (by rw [cw_get g M (kd_lt hk (by decide)), cc_i hk]) rfl hin d (k p e s m args below meth c H locs a hF hX hW hl)
theorem E_zald {i n : Nat} {x : Int32} (d : decode (fC q) pc = .ok (.baload, 1)) (hk : kd i = (2, n)) (hin : vp_in x n)
    (k : Ex g q τ (pc + 1) ls (.int (M.1 i x.toNatClampNeg) :: st) M) : Ex g q τ pc ls (.int x :: .ref i :: st) M :=
  fun p e s m args below meth c H locs a hF hX hW hl => va_zald hF.1 hF.2.1 hF.2.2.2.2.2.2.2.2.2 hW.1 i 1 (by rw [cw_get g M (kd_lt hk (by decide)), cc_z hk]) rfl hin d (k p e s m args below meth c H locs a hF hX hW hl)
theorem E_lald {i n : Nat} {x : Int32} (d : decode (fC q) pc = .ok (.laload, 1)) (hk : kd i = (3, n)) (hin : vp_in x n)
    (k : Ex g q τ (pc + 1) ls (.long (M.2.1 i x.toNatClampNeg) :: st) M) : Ex g q τ pc ls (.int x :: .ref i :: st) M :=
  fun p e s m args below meth c H locs a hF hX hW hl => va_lald hF.1 hF.2.1 hF.2.2.2.2.2.2.2.2.2 hW.1 i 2 (by rw [cw_get g M (kd_lt hk (by decide)), cc_l hk]) rfl hin d (k p e s m args below meth c H locs a hF hX hW hl)
theorem E_iast {i n : Nat} {x : Int32} {v : Int32} (d : decode (fC q) pc = .ok (.iastore, 1)) (hk : kd i = (1, n)) (hin : vp_in x n)
    (k : Ex g q τ (pc + 1) ls st (sI M i x.toNatClampNeg v)) : Ex g q τ pc ls (.int v :: .int x :: .ref i :: st) M := by
  intro p e s m args below meth c H locs a hF hX hW hl
  refine va_iast hF.1 hF.2.1 hF.2.2.2.2.2.2.2.2.2 hW.1 (cw_D hF.2.2.2.2.2.2.2.2.1 M) hW.2 i 0 (by rw [cw_get g M (kd_lt hk (by decide)), cc_i hk]) rfl hin d (fun H1 locs1 hP hD hS => ?_)
  rw [cw_setI hk] at hP
  exact k p e s m args below meth c H1 locs1 a hF hX ⟨hP, hS⟩ hl
theorem E_zast {i n : Nat} {x : Int32} {v : Int32} (d : decode (fC q) pc = .ok (.bastore, 1)) (hk : kd i = (2, n)) (hin : vp_in x n)
    (k : Ex g q τ (pc + 1) ls st (sI M i x.toNatClampNeg (v &&& 1))) : Ex g q τ pc ls (.int v :: .int x :: .ref i :: st) M := by
  intro p e s m args below meth c H locs a hF hX hW hl
  refine va_zast hF.1 hF.2.1 hF.2.2.2.2.2.2.2.2.2 hW.1 (cw_D hF.2.2.2.2.2.2.2.2.1 M) hW.2 i 1 (by rw [cw_get g M (kd_lt hk (by decide)), cc_z hk]) rfl hin d (fun H1 locs1 hP hD hS => ?_)
  rw [cw_setZ hk] at hP
  exact k p e s m args below meth c H1 locs1 a hF hX ⟨hP, hS⟩ hl
theorem E_last {i n : Nat} {x : Int32} {v : Int64} (d : decode (fC q) pc = .ok (.lastore, 1)) (hk : kd i = (3, n)) (hin : vp_in x n)
    (k : Ex g q τ (pc + 1) ls st (sL M i x.toNatClampNeg v)) : Ex g q τ pc ls (.long v :: .int x :: .ref i :: st) M := by
  intro p e s m args below meth c H locs a hF hX hW hl
  refine va_last hF.1 hF.2.1 hF.2.2.2.2.2.2.2.2.2 hW.1 (cw_D hF.2.2.2.2.2.2.2.2.1 M) hW.2 i 2 (by rw [cw_get g M (kd_lt hk (by decide)), cc_l hk]) rfl hin d (fun H1 locs1 hP hD hS => ?_)
  rw [cw_setL hk] at hP
  exact k p e s m args below meth c H1 locs1 a hF hX ⟨hP, hS⟩ hl
theorem E_alen {i t n : Nat} {v : Int32} (d : decode (fC q) pc = .ok (.arraylength, 1)) (hk : kd i = (t + 1, n)) (ht : t < 3) (hv : Int32.ofNat n = v)
    (k : Ex g q τ (pc + 1) ls (.int v :: st) M) : Ex g q τ pc ls (.ref i :: st) M := by
  intro p e s m args below meth c H locs a hF hX hW hl
  match t, ht with
  | 0, _ => exact va_alen hF.1 hF.2.1 hF.2.2.2.2.2.2.2.2.2 hW.1 i 0 (by rw [cw_get g M (kd_lt hk (by decide)), cc_i hk]) rfl hv d (k p e s m args below meth c H locs a hF hX hW hl)
  | 1, _ => exact va_alen hF.1 hF.2.1 hF.2.2.2.2.2.2.2.2.2 hW.1 i 1 (by rw [cw_get g M (kd_lt hk (by decide)), cc_z hk]) rfl hv d (k p e s m args below meth c H locs a hF hX hW hl)
  | 2, _ => exact va_alen hF.1 hF.2.1 hF.2.2.2.2.2.2.2.2.2 hW.1 i 2 (by rw [cw_get g M (kd_lt hk (by decide)), cc_l hk]) rfl hv d (k p e s m args below meth c H locs a hF hX hW hl)
theorem E_iret {Q : Option Value → AM → Prop} {x : Int32} (d : decode (fC q) pc = .ok (.ireturn, 1)) (hr : fR q = some .int) (hq : Q (some (.int x)) M) : Ex g q (tm g q Q) pc ls [.int x] M :=
  fun p e s m args below meth c H locs a hF hX hW hl => W.iret hF.1 hF.2.1 (by rw [hF.2.2.1, hr]) (fun t ht _ => ⟨⟨some (.int x), M, rfl, hq, by rw [ht]; exact hW.1⟩, hW.2.F ht⟩) hW.2.2.2 d hF.2.2.2.2.2.2.1
theorem E_lret {Q : Option Value → AM → Prop} {x : Int64} (d : decode (fC q) pc = .ok (.lreturn, 1)) (hr : fR q = some .long) (hq : Q (some (.long x)) M) : Ex g q (tm g q Q) pc ls [.long x] M :=
  fun p e s m args below meth c H locs a hF hX hW hl => W.lret hF.1 hF.2.1 (by rw [hF.2.2.1, hr]) (fun t ht _ => ⟨⟨some (.long x), M, rfl, hq, by rw [ht]; exact hW.1⟩, hW.2.F ht⟩) hW.2.2.2 d hF.2.2.2.2.2.2.1
theorem E_vret {Q : Option Value → AM → Prop} (d : decode (fC q) pc = .ok (.return_, 1)) (hr : fR q = none) (hq : Q (none) M) : Ex g q (tm g q Q) pc ls [] M :=
  fun p e s m args below meth c H locs a hF hX hW hl => W.vret hF.1 hF.2.1 (by rw [hF.2.2.1, hr]) (fun t ht _ => ⟨⟨none, M, rfl, hq, by rw [ht]; exact hW.1⟩, hW.2.F ht⟩) hW.2.2.2 d hF.2.2.2.2.2.2.1
theorem E_zret {Q : Option Value → AM → Prop} {x : Int32} (d : decode (fC q) pc = .ok (.ireturn, 1)) (hr : fR q = some .boolean) (hx : x = 0 ∨ x = 1) (hq : Q (some (.int x)) M) : Ex g q (tm g q Q) pc ls [.int x] M :=
  fun p e s m args below meth c H locs a hF hX hW hl => W.zret hF.1 hF.2.1 (by rw [hF.2.2.1, hr]) (by rcases hx with rfl | rfl <;> decide) (fun t ht _ => ⟨⟨some (.int x), M, rfl, hq, by rw [ht]; exact hW.1⟩, hW.2.F ht⟩) hW.2.2.2 d hF.2.2.2.2.2.2.1
/-- a method's contract out of the walk of its body -/
theorem Call_of {As : List Value} {Q : Option Value → AM → Prop} {ls0 : List (Option Value)} (hp : plainName (fY q).cls = true) (h0 : lp (gA g) ls0 = lv_args 0 (As.map (cv (gA g)))) (hn : (lg_sl (As.map (cv (gA g)))).length ≤ fL q) (k : Ex g q (tm g q Q) 0 ls0 [] M) : Call g q As M Q := by
  refine Met.ofW (cc := fC q) (maxL := fL q) (ret := fR q) hp rfl ?_
  intro p e s m args below meth c s₁ B hml hv
  obtain ⟨rfl, hP, hK, hN, hG⟩ := hv
  have hts := atoms_spec (ws := wsm q) B.pre
  rw [lg_entry_eq]
  have hl := lv_entry (As.map (cv (gA g))) hn
  refine k p e s m _ below meth c s.heap [] _ ⟨B.exec, B.bytes, B.returns, hml, findClass_of_methodNamed B.named, fun w hw => hts w (List.mem_cons_of_mem _ hw), B.notSynchronized, hN, hG, hK⟩ trivial ⟨hP, va_S.rf⟩ (lv_fewer hl (fun x hx => by rw [← h0]; exact hx))
theorem PcA_blind {As : List Value} : FrameBlind (PcA g As M) := fun a U f mk h => by
  obtain ⟨q0, qP, qK, qN, qG⟩ := h
  exact ⟨q0, qP, va_K.moved (u := U) (U := U.calling f mk a) (Vm.Alike.refl U.vm) qK, NestOK.same (u := U) (U := U.calling f mk a) rfl qN, qG⟩
/-- behind a call -/
theorem E_ran {p : Program} {e : Env} {s : State} {m : MethodId} {args : Array Value} {below : List Frame} {meth : Method} {c : Code} {H : Heap} {locs : List Loc} {a : Array Slot} {st0 : List Value} {A1 : Array Value} {Q' : Option Value → AM → Prop}
    (hr : va_Run p g.1 e τ.1 s m args below meth c H locs τ.2.1 τ.2.2.1 0 0 (F0 m pc a st0) (st.map (cv (gA g))) (QcA g Q' A1) (Fr g)) (hF : Fx g q p s m args meth c) (hX : τ.2.2.2.2 s args) (hS : va_S (Fr g) s.heap H locs) (hl : lv_has a (fL q) (lp (gA g) ls))
    (k : ∀ (v : Option Value) (M' : AM), Q' v M' → Ex g q τ (pc + 3) ls (v.toList ++ st) M') : W p g.1 e τ.1 s m args below meth c H locs τ.2.1 τ.2.2.1 (τ.2.2.2.1 below args s) (F0 m pc a st0) := by
  intro T hT X
  obtain ⟨v, st₀, t, T', L, h0, X', hL, e1, e2, ⟨⟨v', M', hv, hq, hP⟩, hF2⟩, go⟩ := hr T hT X
  have hv : v = v'.map (cv (gA g)) := by cases hv; rfl
  subst hv
  have hS' : va_S (Fr g) s.heap T'.heap (locs ++ L) := by
    refine ⟨Nat.le_trans hS.1 (by rw [e1, ← h0]; exact hF2.1), fun x h1 h2 => ?_, fun x hx => ?_⟩
    · rw [e1, hF2.2 x (by rw [h0]; exact Nat.lt_of_lt_of_le h1 hS.1) h2, h0]
      exact hS.2.1 x h1 h2
    · rcases List.mem_append.mp hx with h | h
      · exact hS.2.2 x h
      · exact hL x h
  obtain ⟨t2, a1, b1⟩ := k v' M' hq p e s m args below meth c T'.heap (locs ++ L) a hF hX ⟨by rw [e1]; exact hP, hS'⟩ hl T' rfl X'
  refine ⟨t2, go t2 ?_, b1⟩
  have hst : (v'.toList ++ st).map (cv (gA g)) = (v'.map (cv (gA g))).toList ++ st.map (cv (gA g)) := by cases v' <;> simp
  rw [hst] at a1
  exact a1
/-- the room that a call needs -/
def rmOK (τ : TT) (r : MI) : Prop := fV r + 1 ≤ τ.1.frames ∧ 8 + (fL r + 11) + 38 * fV r ≤ τ.1.locals ∧ τ.2.1 ≤ τ.1.cells ∧ τ.2.2.1 ≤ τ.1.slots
def catS (ad : Nat → Nat) (st : List Value) : Nat := ((st.map (cv ad)).map fun v => v.category).sum
/-- what is known of a method that is called on an object; of a static one -/
def vOK (r : MI) (n : Nat) : Prop := Cond.code (fY r) (fC r) (fL r) (fR r) ∈ tbG ∧ Cond.instanceMethod (fY r) ∈ tbG ∧ Cond.selects (fY r).cls (fY r) (fY r) ∈ tbG ∧ Cond.initialized (fY r).cls ∈ tbG ∧ ((fY r).cls ≠ "java/lang/invoke/MethodHandle" ∧ (fY r).cls ≠ "java/lang/invoke/VarHandle" ∧ (parseMethodDescriptor (fY r).desc).map (fun d => d.parameters.length) = some n)
def tOK (r : MI) (n : Nat) : Prop := Cond.code (fY r) (fC r) (fL r) (fR r) ∈ tbG ∧ Cond.static (fY r) ∈ tbG ∧ Cond.initialized (fY r).cls ∈ tbG ∧ ((fY r).cls ≠ "java/lang/invoke/MethodHandle" ∧ (fY r).cls ≠ "java/lang/invoke/VarHandle" ∧ (parseMethodDescriptor (fY r).desc).map (fun d => d.parameters.length) = some n)
theorem E_callV {idx i ci n : Nat} {r : MI} {As stk : List Value} {Q' : Option Value → AM → Prop} {T : u_T} {N : Nat} (d : decode (fC q) pc = .ok (.invokevirtual idx, 3)) (hl0 : Cond.methodLink (fY q).cls idx (fY r) ∈ tbG) (hv : vOK r n) (hn : As.length = n) (hk : kd i = (0, ci)) (hc : clss[ci]? = some ((fY r).cls, T, N)) (hm : rmOK τ r) (C : Call g r (.ref i :: As) M Q') (hs : stk = As.reverse ++ .ref i :: st) (h8 : catS (gA g) st ≤ 8)
    (k : ∀ (v : Option Value) (M' : AM), Q' v M' → Ex g q τ (pc + 3) ls (v.toList ++ st) M') : Ex g q τ pc ls stk M := by
  intro p e s m args below meth c H locs a hF hX hW hl
  subst hs
  have hts := hF.2.2.2.2.2.1
  have hrec := va_recv hF.2.2.2.2.2.2.2.2.2 hW.1 hc (show (cw g M)[i]? = some (gA g i, .inr (ci, (List.range (nf ci)).map (fv (gA g) M i ci))) by rw [cw_get g M (kd_lt hk (by decide)), cc_o hk])
  refine E_ran (va_runV (cc := fC q) (nL := fL q) (Ts := tbG) (own := (fY q).cls) (C := (fY r).cls) (y := fY r) (bytes := fC r) (maxL := fL r) (ret := fR r) (ws := wsm r) (rm := rmq r) (n := n) (index := idx) (b := gA g i) (As := As.map (cv (gA g))) (rest := st.map (cv (gA g))) ⟨hF.1, hF.2.1, hF.2.2.2.1, hF.2.2.2.2.1, hts⟩ C
    ⟨callB_of n hts (wsm_good hv.1) rfl rfl rfl (hts _ hv.2.2.2.1) (hts _ hl0) hv.2.2.2.2 ⟨hm.1, hm.2.1⟩, hts _ hv.2.1, hts _ hv.2.2.1⟩
    ⟨PcA_blind, hrec, fun U hU hW1 => ⟨by simp [cv], by rw [hU]; exact hW.1, va_K.moved hW1.alike hF.2.2.2.2.2.2.2.2.2, hF.2.2.2.2.2.2.2.1.warm hW1, hF.2.2.2.2.2.2.2.2.1⟩⟩
    rfl (by simpa using hn) hl.1 (by simp [cv]) (lv_room h8) d ⟨by simpa using hm.2.2.1, by simpa using hm.2.2.2⟩) hF hX hW.2 hl k
theorem E_callS {idx n : Nat} {r : MI} {As stk : List Value} {Q' : Option Value → AM → Prop} (d : decode (fC q) pc = .ok (.invokestatic idx, 3)) (hl0 : Cond.methodLink (fY q).cls idx (fY r) ∈ tbG) (hv : tOK r n) (hn : As.length = n) (hm : rmOK τ r) (C : Call g r As M Q') (hs : stk = As.reverse ++ st) (h8 : catS (gA g) st ≤ 8)
    (k : ∀ (v : Option Value) (M' : AM), Q' v M' → Ex g q τ (pc + 3) ls (v.toList ++ st) M') : Ex g q τ pc ls stk M := by
  intro p e s m args below meth c H locs a hF hX hW hl
  subst hs
  have hts := hF.2.2.2.2.2.1
  refine E_ran (va_runS (cc := fC q) (nL := fL q) (Ts := tbG) (own := (fY q).cls) (y := fY r) (bytes := fC r) (maxL := fL r) (ret := fR r) (ws := wsm r) (rm := rmq r) (n := n) (index := idx) (As := As.map (cv (gA g))) (rest := st.map (cv (gA g))) ⟨hF.1, hF.2.1, hF.2.2.2.1, hF.2.2.2.2.1, hts⟩ C
    ⟨callB_of n hts (wsm_good hv.1) rfl rfl rfl (hts _ hv.2.2.1) (hts _ hl0) hv.2.2.2 ⟨hm.1, hm.2.1⟩, hts _ hv.2.1⟩
    ⟨PcA_blind, fun U hU hW1 => ⟨rfl, by rw [hU]; exact hW.1, va_K.moved hW1.alike hF.2.2.2.2.2.2.2.2.2, hF.2.2.2.2.2.2.2.1.warm hW1, hF.2.2.2.2.2.2.2.2.1⟩⟩
    rfl (by simpa using hn) hl.1 (by simp) (lv_room h8) d ⟨by simpa using hm.2.2.1, by simpa using hm.2.2.2⟩) hF hX hW.2 hl k
theorem E_callN {idx n : Nat} {r : MI} {As stk : List Value} {Q' : Option Value → AM → Prop} {host : String} (d : decode (fC q) pc = .ok (.invokestatic idx, 3)) (hl0 : Cond.methodLinkNest (fY q).cls idx (fY r) host ∈ nst) (hv : tOK r n) (hn : As.length = n) (hm : rmOK τ r) (C : Call g r As M Q') (hs : stk = As.reverse ++ st) (h8 : catS (gA g) st ≤ 8)
    (k : ∀ (v : Option Value) (M' : AM), Q' v M' → Ex g q τ (pc + 3) ls (v.toList ++ st) M') : Ex g q τ pc ls stk M := by
  intro p e s m args below meth c H locs a hF hX hW hl
  subst hs
  have hts := hF.2.2.2.2.2.1
  refine E_ran (va_runSN (cc := fC q) (nL := fL q) (Ts := tbG) (own := (fY q).cls) (host := host) (y := fY r) (bytes := fC r) (maxL := fL r) (ret := fR r) (ws := wsm r) (rm := rmq r) (n := n) (index := idx) (As := As.map (cv (gA g))) (rest := st.map (cv (gA g))) ⟨hF.1, hF.2.1, hF.2.2.2.1, hF.2.2.2.2.1, hts⟩ C
    ⟨va_cnB n hts (wsm_good hv.1) rfl rfl rfl (hF.2.2.2.2.2.2.2.1 _ hl0) (hts _ hv.2.2.1) hv.2.2.2 ⟨hm.1, hm.2.1⟩, hts _ hv.2.1, trivial⟩
    ⟨PcA_blind, fun U hU hW1 => ⟨rfl, by rw [hU]; exact hW.1, va_K.moved hW1.alike hF.2.2.2.2.2.2.2.2.2, hF.2.2.2.2.2.2.2.1.warm hW1, hF.2.2.2.2.2.2.2.2.1⟩⟩
    rfl (by simpa using hn) hl.1 (by simp) (lv_room h8) d ⟨by simpa using hm.2.2.1, by simpa using hm.2.2.2⟩) hF hX hW.2 hl k
/-- weaker ends -/
theorem Call.imp {As : List Value} {Q Q' : Option Value → AM → Prop} (h : Call g q As M Q) (hi : ∀ v M', Q v M' → Q' v M') : Call g q As M Q' := by
  intro p e ha hc hk s m args below hf happ hP ht
  obtain ⟨t, o, h1, h2, h3, ⟨⟨⟨v, M', e1, hq, hp⟩, hF⟩, hL⟩⟩ := h p e ha hc hk s m args below hf happ hP ht
  exact ⟨t, o, h1, h2, h3, ⟨⟨⟨v, M', e1, hi v M' hq, hp⟩, hF⟩, hL⟩⟩
end EX
