-- THE GROWING WORLD: the rules by which the constructors make the 85 cells
theorem oi_inst : Cond.instanceMethod Lib.objectInit ∈ tbG := tg (i := 115) (by decide +kernel) rfl
theorem oi_code : Cond.code Lib.objectInit ⟨#[0xb1]⟩ 1 none ∈ tbG := tg (i := 116) (by decide +kernel) rfl
theorem oi_X10 : Cond.methodLink RX10 1 Lib.objectInit ∈ tbG := tg (i := 114) (by decide +kernel) rfl
theorem oi_X6 : Cond.methodLink RX6 3 Lib.objectInit ∈ tbG := tg (i := 122) (by decide +kernel) rfl
theorem oi_X1 : Cond.methodLink RX1 3 Lib.objectInit ∈ tbG := tg (i := 147) (by decide +kernel) rfl
theorem oi_X0 : Cond.methodLink RX0 3 Lib.objectInit ∈ tbG := tg (i := 166) (by decide +kernel) rfl
theorem oi_X2 : Cond.methodLink RX2 3 Lib.objectInit ∈ tbG := tg (i := 189) (by decide +kernel) rfl
theorem oi_X9 : Cond.methodLink RX9 3 Lib.objectInit ∈ tbG := tg (i := 261) (by decide +kernel) rfl
theorem oi_X3 : Cond.methodLink RX3 3 Lib.objectInit ∈ tbG := tg (i := 277) (by decide +kernel) rfl
theorem oi_X4 : Cond.methodLink RX4 3 Lib.objectInit ∈ tbG := tg (i := 295) (by decide +kernel) rfl
theorem oi_X5 : Cond.methodLink RX5 3 Lib.objectInit ∈ tbG := tg (i := 327) (by decide +kernel) rfl
theorem oi_X7 : Cond.methodLink RX7 3 Lib.objectInit ∈ tbG := tg (i := 337) (by decide +kernel) rfl
theorem oi_X8 : Cond.methodLink RX8 3 Lib.objectInit ∈ tbG := tg (i := 351) (by decide +kernel) rfl
theorem oi_X11 : Cond.methodLink RX11 1 Lib.objectInit ∈ tbG := tg (i := 986) (by decide +kernel) rfl
def nsx : List Cond := [Cond.methodLinkNest RX10 9 yX6_init RX10, Cond.methodLinkNest RX10 18 yX1_init RX10, Cond.methodLinkNest RX10 25 yX0_init RX10, Cond.methodLinkNest RX10 32 yX2_init RX10, Cond.methodLinkNest RX10 39 yX9_init RX10, Cond.methodLinkNest RX10 46 yX3_init RX10, Cond.methodLinkNest RX10 53 yX4_init RX10, Cond.methodLinkNest RX10 60 yX5_init RX10, Cond.methodLinkNest RX10 67 yX7_init RX10, Cond.methodLinkNest RX10 74 yX8_init RX10]
def NestX (U : State) : Prop := ∀ w ∈ nsx, va_Nw w U
theorem NestX.warm {s U : State} (hW : s.WarmedH U.vm) (h : NestX s) : NestX U := by
  intro w hw
  have h1 := h w hw
  simp only [nsx, List.mem_cons, List.not_mem_nil, or_false] at hw
  rcases hw with rfl | rfl | rfl | rfl | rfl | rfl | rfl | rfl | rfl | rfl <;> exact va_Nw.warmM hW h1
theorem NestX.same {u U : State} (h : u.vm = U.vm) (hn : NestX u) : NestX U := by
  intro w hw
  have h1 := hn w hw
  simp only [nsx, List.mem_cons, List.not_mem_nil, or_false] at hw
  rcases hw with rfl | rfl | rfl | rfl | rfl | rfl | rfl | rfl | rfl | rfl <;> exact va_Nw.same rfl h h1
def FN (g : GG) (q : MI) (p : Program) (s : State) (m : MethodId) (args : Array Value) (meth : Method) (c : Code) : Prop :=
  p.tables.exec = Jvm.exec ∧ c.code = fC q ∧ meth.sig.returnType = fR q ∧ c.maxLocals = fL q ∧ s.vm.findClass (fY q).cls = some m.cls ∧ (∀ w ∈ tbG, w.before args s = true) ∧ meth.locks = false ∧ NestX s ∧ ((fY q).name = "<init>" → meth.name = "<init>") ∧ va_K g.2.1 clss (tyG g) s
def WN (g : GG) (ws : va_W) (s : State) (H : Heap) (locs : List Loc) : Prop := va_P g.2.1 clss ws H ∧ va_D (Fr g) ws ∧ va_S (Fr g) s.heap H locs ∧ ∀ q, s.heap.size ≤ q → Fr g q
/-- from here on the frame comes to its end: the world is ws, so many cells and slots are made -/
def En (g : GG) (q : MI) (τ : TT) (pc : Nat) (lv : List (Nat × Value)) (st : List Value) (ws : va_W) (cells slots : Nat) : Prop :=
  ∀ (p : Program) (e : Env) (s : State) (m : MethodId) (args : Array Value) (below : List Frame) (meth : Method) (c : Code) (H : Heap) (locs : List Loc) (a : Array Slot),
    FN g q p s m args meth c → τ.2.2.2.2 s args → WN g ws s H locs → lv_has a (fL q) lv →
    W p g.1 e τ.1 s m args below meth c H locs cells slots (τ.2.2.2.1 below args s) (F0 m pc a st)
section EN
variable {g : GG} {q : MI} {τ : TT} {pc : Nat} {lv : List (Nat × Value)} {st : List Value} {ws pre tl : va_W} {cells slots : Nat}
theorem N_aload {i : Fin 4} {x : Nat} (d : decode (fC q) pc = .ok (.aload_n i, 1)) (k : Nat) (hk : lv[k]? = some ((i : Nat), .ref x)) (kk : En g q τ (pc + 1) lv (.ref x :: st) ws cells slots) : En g q τ pc lv st ws cells slots :=
  fun p e s m args below meth c H locs a hF hX hW hl => lv_aload_n hF.1 hF.2.1 d rfl (lv_at hl k hk) (kk p e s m args below meth c H locs a hF hX hW hl)
theorem N_bipush {n : Int} {v : Int32} (d : decode (fC q) pc = .ok (.bipush n, 2)) (hv : (Int8.ofInt n).toInt32 = v) (kk : En g q τ (pc + 2) lv (.int v :: st) ws cells slots) : En g q τ pc lv st ws cells slots :=
  fun p e s m args below meth c H locs a hF hX hW hl => lv_bipush hF.1 hF.2.1 d hv (kk p e s m args below meth c H locs a hF hX hW hl)
theorem N_sipush {n : Int} {v : Int32} (d : decode (fC q) pc = .ok (.sipush n, 3)) (hv : (Int16.ofInt n).toInt32 = v) (kk : En g q τ (pc + 3) lv (.int v :: st) ws cells slots) : En g q τ pc lv st ws cells slots :=
  fun p e s m args below meth c H locs a hF hX hW hl => lv_sipush hF.1 hF.2.1 d hv (kk p e s m args below meth c H locs a hF hX hW hl)
theorem N_dup {x : Nat} (d : decode (fC q) pc = .ok (.dup, 1)) (kk : En g q τ (pc + 1) lv (.ref x :: .ref x :: st) ws cells slots) : En g q τ pc lv (.ref x :: st) ws cells slots :=
  fun p e s m args below meth c H locs a hF hX hW hl => lv_dup hF.1 hF.2.1 d rfl (kk p e s m args below meth c H locs a hF hX hW hl)
theorem N_obj {idx x : Nat} (d : decode (fC q) pc = .ok (.invokespecial idx, 3)) (hl0 : Cond.methodLink (fY q).cls idx Lib.objectInit ∈ tbG) (h1 : 1 ≤ τ.1.frames) (h2 : 12 ≤ τ.1.locals) (kk : En g q τ (pc + 3) lv [] ws cells slots) : En g q τ pc lv [.ref x] ws cells slots := by
  intro p e s m args below meth c H locs a hF hX hW hl
  refine W.objInit (a := x) (rest := []) hF.1 hF.2.1 hF.2.2.2.2.1 (hF.2.2.2.2.2.1 _ hl0) (hF.2.2.2.2.2.1 _ oi_inst) (hF.2.2.2.2.2.1 _ oi_code) rfl (by rw [hF.2.2.2.1]; exact hl.1) rfl d h1 (by show 2 * 0 + 0 + 12 ≤ _; omega) ?_
  exact W.eq (g2 := F0 m (pc + 3) a []) rfl (kk p e s m args below meth c H locs a hF hX hW hl)
theorem N_newa {at' : ArrayType} {t0 : Nat} {cA : ClassId} {ty : FieldType} {n : Int32} {N' : Nat} {a0 : vp_A} {x : Nat × va_E} (d : decode (fC q) pc = .ok (.newarray at', 2)) (hty : newarray.typeOf at' = ty) (ht : (tyG g)[t0]? = some (cA, ty)) (hr : ∀ U c1, va_RA U c1 ty = (U.vm.findClass ("[" ++ ty.toString) = some c1)) (har : Cond.arrayClass ty ∈ tbG) (ha : ∀ cA : ClassId, vp_cell cA a0 = arrV cA N' (fun _ => defaultValue ty)) (hn : ¬ n < 0) (hN : n.toNatClampNeg = N') (hb : N' * componentBytes ty ≤ 536870912) (hc : cells + 1 ≤ τ.1.cells) (hs : slots + N' ≤ τ.1.slots)
    (kk : ∀ q1, En g q τ (pc + 2) lv (.ref q1 :: st) (pre ++ x :: (tl ++ [(q1, .inl (cA, a0))])) (cells + 1) (slots + N')) : En g q τ pc lv (.int n :: st) (pre ++ x :: tl) cells slots := by
  intro p e s m args below meth c H locs a hF hX hW hl
  refine va_newa hF.1 hF.2.1 (by rw [hty]; exact hF.2.2.2.2.2.1 _ har) hty hF.2.2.2.2.2.2.2.2.2 hW.1 hW.2.1 hW.2.2.1 hW.2.2.2 ha hn hN hb hc hs d (fun q1 cB H1 hK hP hD hS => ?_)
  have h1 := (hK.2 3 (cB, ty) rfl).2
  have h2 := (hF.2.2.2.2.2.2.2.2.2.2 t0 (cA, ty) ht).2
  rw [hr] at h1 h2
  obtain rfl : cB = cA := Option.some.inj (h1.symm.trans h2)
  rw [show (pre ++ x :: tl) ++ [(q1, Sum.inl (cB, a0))] = pre ++ x :: (tl ++ [(q1, .inl (cB, a0))]) by simp] at hP hD
  exact kk q1 p e s m args below meth c H1 locs a hF hX ⟨hP, hD, hS, hW.2.2.2⟩ hl
theorem ws_at {x : Nat × va_E} : (pre ++ x :: tl)[pre.length]? = some x := by simp
theorem ws_set {x y : Nat × va_E} : (pre ++ x :: tl).set pre.length y = pre ++ y :: tl := by simp
theorem N_putF {idx ci j : Nat} {C : String} {T : u_T} {N h0 v : Nat} {ty : FieldType} {fs : List Value} (d : decode (fC q) pc = .ok (.putfield idx, 3)) (hf : Cond.fieldLink (fY q).cls idx (T j).1 (T j).2.1 (T j).2.2.1 ∈ tbG) (hc : clss[ci]? = some (C, T, N)) (hj : j < N) (hfin : (T j).2.2.2 = true) (hi : (fY q).name = "<init>") (hd : (T j).1 = (fY q).cls) (ht : parseFieldDescriptor (T j).2.2.1 = some ty) (hk : refKind ty = true) (hl0 : j < fs.length)
    (kk : En g q τ (pc + 3) lv st (pre ++ (h0, .inr (ci, fs.set j (.ref v))) :: tl) cells slots) : En g q τ pc lv (.ref v :: .ref h0 :: st) (pre ++ (h0, .inr (ci, fs)) :: tl) cells slots := by
  intro p e s m args below meth c H locs a hF hX hW hl
  obtain ⟨hN, hin, ty0, hty, hnm, -⟩ := cls_ok hc
  have hz : narrow ty (.ref v) = .ref v ∧ fits ty (.ref v) = true := by
    refine ⟨?_, ?_⟩ <;> (cases ty <;> first | rfl | (simp [refKind] at hk))
  refine va_putF hF.1 hF.2.1 hF.2.2.2.2.2.1 hin ty0 hty hnm hF.2.2.2.2.1 hF.2.2.2.2.2.2.2.2.2 hW.1 hW.2.1 hW.2.2.1 pre.length ws_at hc j hj (hF.2.2.2.2.2.1 _ hf) (fun _ h => h) hfin (hF.2.2.2.2.2.2.2.2.1 hi) hd ht hz.1 hz.2 hl0 d (fun H1 locs1 hP hD hS => ?_)
  rw [ws_set] at hP hD
  exact kk p e s m args below meth c H1 locs1 a hF hX ⟨hP, hD, hS, hW.2.2.2⟩ hl
theorem N_put {idx ci j : Nat} {C : String} {T : u_T} {N h0 v : Nat} {ty : FieldType} {fs : List Value} (d : decode (fC q) pc = .ok (.putfield idx, 3)) (hf : Cond.fieldLink (fY q).cls idx (T j).1 (T j).2.1 (T j).2.2.1 ∈ tbG) (hc : clss[ci]? = some (C, T, N)) (hj : j < N) (hfin : (T j).2.2.2 = false) (ht : parseFieldDescriptor (T j).2.2.1 = some ty) (hk : refKind ty = true) (hl0 : j < fs.length)
    (kk : En g q τ (pc + 3) lv st (pre ++ (h0, .inr (ci, fs.set j (.ref v))) :: tl) cells slots) : En g q τ pc lv (.ref v :: .ref h0 :: st) (pre ++ (h0, .inr (ci, fs)) :: tl) cells slots := by
  intro p e s m args below meth c H locs a hF hX hW hl
  obtain ⟨hN, hin, ty0, hty, hnm, -⟩ := cls_ok hc
  have hz : narrow ty (.ref v) = .ref v ∧ fits ty (.ref v) = true := by
    refine ⟨?_, ?_⟩ <;> (cases ty <;> first | rfl | (simp [refKind] at hk))
  refine va_put hF.1 hF.2.1 hF.2.2.2.2.2.1 hin ty0 hty hnm hF.2.2.2.2.1 hF.2.2.2.2.2.2.2.2.2 hW.1 hW.2.1 hW.2.2.1 pre.length ws_at hc j hj (hF.2.2.2.2.2.1 _ hf) (fun _ h => h) hfin ht hz.1 hz.2 hl0 d (fun H1 locs1 hP hD hS => ?_)
  rw [ws_set] at hP hD
  exact kk p e s m args below meth c H1 locs1 a hF hX ⟨hP, hD, hS, hW.2.2.2⟩ hl
theorem N_new {idx ci : Nat} {C : String} {T : u_T} {N : Nat} {ty : Nat → FieldType} {fs : List Value} (d : decode (fC q) pc = .ok (.new idx, 3)) (hc : clss[ci]? = some (C, T, N)) (hty : ∀ k, k < N → parseFieldDescriptor (T k).2.2.1 = some (ty k)) (hcl : Cond.classLink (fY q).cls idx C ∈ tbG) (hin : Cond.instantiable C N ∈ tbG) (hini : Cond.initialized C ∈ tbG) (hfs : ∀ j, j < N → defaultValue (ty j) = vp_V fs j) (h1 : cells + 1 ≤ τ.1.cells) (h2 : slots + N ≤ τ.1.slots)
    (kk : ∀ q1, En g q τ (pc + 3) lv (.ref q1 :: st) (ws ++ [(q1, .inr (ci, fs))]) (cells + 1) (slots + N)) : En g q τ pc lv st ws cells slots := by
  intro p e s m args below meth c H locs a hF hX hW hl
  obtain ⟨hN, hin0, -⟩ := cls_ok hc
  refine va_new hF.1 hF.2.1 hF.2.2.2.2.2.1 hin0 ty hty hF.2.2.2.2.1 (hF.2.2.2.2.2.1 _ hcl) (hF.2.2.2.2.2.1 _ hin) (hF.2.2.2.2.2.1 _ hini) hF.2.2.2.2.2.2.2.2.2 hW.1 hW.2.1 hW.2.2.1 hW.2.2.2 hc hfs h1 h2 d (fun q1 H1 hP hD hS => ?_)
  exact kk q1 p e s m args below meth c H1 locs a hF hX ⟨hP, hD, hS, hW.2.2.2⟩ hl
end EN
abbrev rmN (q : MI) (mc ms : Nat) : Room := { frames := fV q, cells := mc, slots := ms, locals := 38 * fV q }
def PcN (g : GG) (h0 : Nat) (ws : va_W) : Array Value → State → Prop := va_Pc [.ref h0] (fun U => va_P g.2.1 clss ws U.heap ∧ va_D (Fr g) ws ∧ va_K g.2.1 clss (tyG g) U ∧ NestX U ∧ Fr g U.heap.size)
def QcN (g : GG) (h0 ci : Nat) (pre : va_W) (P : List Value → va_W → Prop) : Array Value → State → Outcome → State → Prop := fun _ st o t =>
  (∃ (fs : List Value) (tl : va_W), o = .returned none ∧ P fs tl ∧ va_P g.2.1 clss (pre ++ (h0, .inr (ci, fs)) :: tl) t.heap ∧ va_D (Fr g) (pre ++ (h0, .inr (ci, fs)) :: tl)) ∧ va_F (Fr g) st t
/-- the constructor, called on a blank object, fills it as P says -/
def Ctor (g : GG) (q : MI) (ci mc ms : Nat) (fs0 : List Value) (P : List Value → va_W → Prop) : Prop := ∀ (pre : va_W) (h0 : Nat), Met g.1 (fY q) (wsm q) (rmN q mc ms) (PcN g h0 (pre ++ [(h0, .inr (ci, fs0))])) (QcN g h0 ci pre P) mc ms (Fr g)
def tN (g : GG) (q : MI) (h0 ci mc ms : Nat) (pre : va_W) (P : List Value → va_W → Prop) : TT := (rmN q mc ms, mc, ms, fun below args s => MQ below (QcN g h0 ci pre P) args s mc ms (Fr g), fun _ _ => True)
theorem PcN_blind {g : GG} {h0 : Nat} {ws : va_W} : FrameBlind (PcN g h0 ws) := fun a U f mk h => by
  obtain ⟨q0, qP, qD, qK, qN, qZ⟩ := h
  exact ⟨q0, qP, qD, va_K.moved (u := U) (U := U.calling f mk a) (Vm.Alike.refl U.vm) qK, NestX.same (u := U) (U := U.calling f mk a) rfl qN, qZ⟩
theorem Fr_up {g : GG} {a b : Nat} (h : Fr g a) (hab : a ≤ b) : Fr g b := Nat.le_trans h hab
theorem Ctor_of {g : GG} {q : MI} {ci mc ms : Nat} {fs0 : List Value} {P : List Value → va_W → Prop} (hp : plainName (fY q).cls = true) (hn : fL q = 1) (hi : (fY q).name = "<init>")
    (k : ∀ (pre : va_W) (h0 : Nat), En g q (tN g q h0 ci mc ms pre P) 0 [(0, .ref h0)] [] (pre ++ [(h0, .inr (ci, fs0))]) 0 0) : Ctor g q ci mc ms fs0 P := by
  intro pre h0
  refine Met.ofW (cc := fC q) (maxL := fL q) (ret := fR q) hp rfl ?_
  intro p e s m args below meth c s₁ B hml hv
  obtain ⟨rfl, hP, hD, hK, hN, hZ⟩ := hv
  have hts := atoms_spec (ws := wsm q) B.pre
  rw [lg_entry_eq]
  have hl := lv_entry ([.ref h0] : List Value) (n := fL q) (by rw [hn]; exact Nat.le_refl _)
  exact k pre h0 p e s m _ below meth c s.heap [] _ ⟨B.exec, B.bytes, B.returns, hml, findClass_of_methodNamed B.named, fun w hw => hts w (List.mem_cons_of_mem _ hw), B.notSynchronized, hN, fun _ => (name_of_methodNamed B.named B.method).1.trans hi, hK⟩ trivial ⟨hP, hD, va_S.rf, fun x hx => Fr_up hZ hx⟩ hl
theorem N_vret {g : GG} {q : MI} {h0 ci mc ms : Nat} {pre : va_W} {P : List Value → va_W → Prop} {pc : Nat} {lv : List (Nat × Value)} {fs : List Value} {tl : va_W} {cells slots : Nat} (d : decode (fC q) pc = .ok (.return_, 1)) (hr : fR q = none) (h1 : cells ≤ mc) (h2 : slots ≤ ms) (hq : P fs tl) : En g q (tN g q h0 ci mc ms pre P) pc lv [] (pre ++ (h0, .inr (ci, fs)) :: tl) cells slots := by
  intro p e s m args below meth c H locs a hF hX hW hl
  refine W.widen (k := mc) (n := ms) h1 h2 ?_
  exact W.vret hF.1 hF.2.1 (by rw [hF.2.2.1, hr]) (fun t ht _ => ⟨⟨fs, tl, rfl, hq, by rw [ht]; exact hW.1, hW.2.1⟩, hW.2.2.1.F ht⟩) hW.2.2.1.2.2 d hF.2.2.2.2.2.2.1
section EC
variable {g : GG} {q : MI} {τ : TT} {pc : Nat} {lv : List (Nat × Value)} {st : List Value} {ws pre tl : va_W} {cells slots : Nat}
theorem N_ran {p : Program} {e : Env} {s : State} {m : MethodId} {args : Array Value} {below : List Frame} {meth : Method} {c : Code} {H : Heap} {locs : List Loc} {a : Array Slot} {st0 : List Value} {A1 : Array Value} {ci mc ms h0 : Nat} {P : List Value → va_W → Prop}
    (hr : va_Run p g.1 e τ.1 s m args below meth c H locs cells slots mc ms (F0 m pc a st0) st (QcN g h0 ci ws P A1) (Fr g)) (hF : FN g q p s m args meth c) (hX : τ.2.2.2.2 s args) (hS : va_S (Fr g) s.heap H locs) (hZ : ∀ q, s.heap.size ≤ q → Fr g q) (hl : lv_has a (fL q) lv)
    (k : ∀ (fs : List Value) (tl : va_W), P fs tl → En g q τ (pc + 3) lv st (ws ++ (h0, .inr (ci, fs)) :: tl) (cells + mc) (slots + ms)) : W p g.1 e τ.1 s m args below meth c H locs cells slots (τ.2.2.2.1 below args s) (F0 m pc a st0) := by
  intro T hT X
  obtain ⟨v, st₀, t, T', L, e0, X', hL, e1, e2, ⟨⟨fs, tl, hv, hq, hP, hD⟩, hF2⟩, go⟩ := hr T hT X
  have hv : v = none := by cases hv; rfl
  subst hv
  have hS' : va_S (Fr g) s.heap T'.heap (locs ++ L) := by
    refine ⟨Nat.le_trans hS.1 (by rw [e1, ← e0]; exact hF2.1), fun x h1 h2 => ?_, fun x hx => ?_⟩
    · rw [e1, hF2.2 x (by rw [e0]; exact Nat.lt_of_lt_of_le h1 hS.1) h2, e0]
      exact hS.2.1 x h1 h2
    · rcases List.mem_append.mp hx with h | h
      · exact hS.2.2 x h
      · exact hL x h
  obtain ⟨t2, a1, b1⟩ := k fs tl hq p e s m args below meth c T'.heap (locs ++ L) a hF hX ⟨by rw [e1]; exact hP, hD, hS', hZ⟩ hl T' rfl X'
  exact ⟨t2, go t2 a1, b1⟩
def iOK (r : MI) : Prop := Cond.code (fY r) (fC r) (fL r) (fR r) ∈ tbG ∧ Cond.instanceMethod (fY r) ∈ tbG ∧ Cond.initialized (fY r).cls ∈ tbG ∧ (fY r).name = "<init>" ∧ fR r = none ∧ ((fY r).cls ≠ "java/lang/invoke/MethodHandle" ∧ (fY r).cls ≠ "java/lang/invoke/VarHandle" ∧ (parseMethodDescriptor (fY r).desc).map (fun d => d.parameters.length) = some 0)
theorem N_callN {idx h0 ci mc ms : Nat} {r : MI} {fs0 : List Value} {P : List Value → va_W → Prop} {host : String} (d : decode (fC q) pc = .ok (.invokespecial idx, 3)) (hl0 : Cond.methodLinkNest (fY q).cls idx (fY r) host ∈ nsx) (hv : iOK r) (hm : fV r + 1 ≤ τ.1.frames ∧ 8 + (fL r + 11) + 38 * fV r ≤ τ.1.locals) (hc : cells + mc ≤ τ.1.cells ∧ slots + ms ≤ τ.1.slots) (C : Ctor g r ci mc ms fs0 P) (h8 : (st.map fun v => v.category).sum ≤ 8)
    (k : ∀ (fs : List Value) (tl : va_W), P fs tl → En g q τ (pc + 3) lv st (ws ++ (h0, .inr (ci, fs)) :: tl) (cells + mc) (slots + ms)) : En g q τ pc lv (.ref h0 :: st) (ws ++ [(h0, .inr (ci, fs0))]) cells slots := by
  intro p e s m args below meth c H locs a hF hX hW hl
  have hts := hF.2.2.2.2.2.1
  refine N_ran (va_runIN (cc := fC q) (nL := fL q) (Ts := tbG) (own := (fY q).cls) (host := host) (y := fY r) (bytes := fC r) (maxL := fL r) (ws := wsm r) (rm := rmN r mc ms) (n := 0) (index := idx) (b := h0) (As := []) (rest := st) ⟨hF.1, hF.2.1, hF.2.2.2.1, hF.2.2.2.2.1, hts⟩ (C ws h0)
    ⟨va_cnB 0 hts (wsm_good hv.1) (by rw [wsm, hv.2.2.2.2.1]) rfl rfl (hF.2.2.2.2.2.2.2.1 _ hl0) (hts _ hv.2.2.1) hv.2.2.2.2.2 ⟨hm.1, hm.2⟩, hv.2.2.2.1, hts _ hv.2.1⟩
    ⟨PcN_blind, fun U hU hW1 => ⟨rfl, by rw [hU]; exact hW.1, hW.2.1, va_K.moved hW1.alike hF.2.2.2.2.2.2.2.2.2, hF.2.2.2.2.2.2.2.1.warm hW1, by rw [hU]; exact hW.2.2.2 _ hW.2.2.1.1⟩⟩
    rfl rfl hl.1 rfl (lv_room h8) d hc) hF hX hW.2.2.1 hW.2.2.2 hl k
theorem N_callI {idx h0 ci mc ms : Nat} {r : MI} {fs0 : List Value} {P : List Value → va_W → Prop} (d : decode (fC q) pc = .ok (.invokespecial idx, 3)) (hl0 : Cond.methodLink (fY q).cls idx (fY r) ∈ tbG) (hv : iOK r) (hm : fV r + 1 ≤ τ.1.frames ∧ 8 + (fL r + 11) + 38 * fV r ≤ τ.1.locals) (hc : cells + mc ≤ τ.1.cells ∧ slots + ms ≤ τ.1.slots) (C : Ctor g r ci mc ms fs0 P) (h8 : (st.map fun v => v.category).sum ≤ 8)
    (k : ∀ (fs : List Value) (tl : va_W), P fs tl → En g q τ (pc + 3) lv st (ws ++ (h0, .inr (ci, fs)) :: tl) (cells + mc) (slots + ms)) : En g q τ pc lv (.ref h0 :: st) (ws ++ [(h0, .inr (ci, fs0))]) cells slots := by
  intro p e s m args below meth c H locs a hF hX hW hl
  have hts := hF.2.2.2.2.2.1
  refine N_ran (va_runI (cc := fC q) (nL := fL q) (Ts := tbG) (own := (fY q).cls) (y := fY r) (bytes := fC r) (maxL := fL r) (ws := wsm r) (rm := rmN r mc ms) (n := 0) (index := idx) (b := h0) (As := []) (rest := st) ⟨hF.1, hF.2.1, hF.2.2.2.1, hF.2.2.2.2.1, hts⟩ (C ws h0)
    (cwI 0 hts (wsm_good hv.1) (by rw [wsm, hv.2.2.2.2.1]) rfl rfl (hts _ hv.2.2.1) (hts _ hl0) (hts _ hv.2.1) hv.2.2.2.1 hv.2.2.2.2.2 ⟨hm.1, hm.2⟩)
    ⟨PcN_blind, fun U hU hW1 => ⟨rfl, by rw [hU]; exact hW.1, hW.2.1, va_K.moved hW1.alike hF.2.2.2.2.2.2.2.2.2, hF.2.2.2.2.2.2.2.1.warm hW1, by rw [hU]; exact hW.2.2.2 _ hW.2.2.1.1⟩⟩
    rfl rfl hl.1 rfl (lv_room h8) d hc) hF hX hW.2.2.1 hW.2.2.2 hl k
end EC
