-- printed by wip/whole/gen91.py: the law: names, rules, the start picture
def R_law : String := "BranchingTalksLaw"
def lw_P (b : Addr) (xs : List Int32) (args : Array Value) (s : State) : Prop := args = #[.ref b] ∧ s.IntsAt b xs ∧ xs.length ≤ 1536 ∧ (Jvm.Cond.and given_1 narrow_1).before args s = true
def lw_Q (_ : Array Value) (s : State) (o : Outcome) (t : State) : Prop := o = .returned (some (.int 1)) ∧ Framed s o t [] 85 38594
def lw_Z (below : List Frame) (a : Array Value) (s : State) : State → Prop := fun t => ∃ o, t.status = .running ∧ Ended t below o ∧ lw_Q a s o t
/-- the law's own end, with 1 on the stack, nothing written that was there before, its room as the claim has it -/
theorem lw_ret {p : Program} {l : Launch} {e : Env} {s : State} {m : MethodId} {below : List Frame} {meth : Method} {c : Code} {b : Nat} (hx : p.tables.exec = Jvm.exec) (hb : c.code = code) (hr : meth.sig.returnType = ret) (hlocks : meth.locks = false) {pc : Nat} {H : Heap} {ls : Array Slot} (hdg : decode code pc = .ok (.ireturn, 1)) : W p l e room_1 s m #[Value.ref b] below meth c H [] 85 38594 (lw_Z below #[Value.ref b] s) (F0 m pc ls [.int 1]) := by
  intro T hT X
  obtain ⟨fs, hret, hrun, hended, hW, hframe⟩ := X.leave (v := some (.int 1)) (hlocks := hlocks) (fun h => by rw [hr] at h; cases h)
  have hmeth' : T.vm.method? m = some meth := X.method'
  refine ⟨T.setFrames fs, ?_, .returned (some (.int 1)), hrun, hended, rfl, ⟨_, rfl⟩, hW, hframe⟩
  jvm_step X.here [X.here.top, hx, hb, hdg, hmeth', hr, ret, narrow_b1]
  (try refine ⟨rfl, ?_⟩); (try refine ⟨rfl, ?_⟩)
  first | (intro acts; rw [hret _ acts rfl rfl rfl]) | rw [hret _ _ rfl rfl rfl]
  exact Steps.refl _
/-- what holds at the law's entry: the machine, the code, the tables' words (any of lw_tbl by 'hts w (by decide +kernel)'), the script of L ints xs at the cell b, what the Statement gives of the start (any of its parts by flat_of_before) -/
def lw_At (p : Program) (s : State) (m : MethodId) (meth : Method) (c : Code) (b L : Nat) (xs : Nat → Int32) : Prop :=
  p.tables.exec = Jvm.exec ∧ c.code = code ∧ meth.sig.returnType = ret ∧ c.maxLocals = 4 ∧ s.vm.findClass R_law = some m.cls ∧ (∀ w ∈ lw_tbl, w.before #[Value.ref b] s = true) ∧ va_X b L xs s s.heap ∧ b < s.heap.size ∧ meth.locks = false ∧ (Jvm.Cond.and given_1 narrow_1).before #[Value.ref b] s = true
def yL : MethodName := ⟨RL, "law", "([I)Z"⟩
abbrev qL : MI := (yL, code, 4, ret, 8)
def T0 : TK := fun _ _ => 0
def M0 : AM := (fun _ _ => 0, fun _ _ => 0, fun k j => if k = 0 then (if j = 9 then 39 else if j = 10 then 50 else 0) else if k = 36 then (if j = 0 then 37 else 38) else 0)
theorem ms_0 : MS T0 M0 := by
  have z : nI 0 = 0 := nI_0
  refine ⟨⟨fun j _ => z.symm, fun a ha => absurd ha (Nat.not_lt_zero _), fun a ha => absurd ha (Nat.not_lt_zero _), ⟨Nat.zero_le _, by decide, by decide, by decide, fun a ha => absurd ha (Nat.not_lt_zero _)⟩⟩, ⟨z.symm, by decide⟩, ⟨z.symm, Nat.zero_le _, fun k hk => absurd hk (Nat.not_lt_zero _)⟩, ⟨z.symm, Nat.zero_le _, fun a _ => Or.inl rfl, fun k hk => absurd hk (Nat.not_lt_zero _)⟩, ⟨z.symm, Nat.zero_le _, fun k hk => absurd hk (Nat.not_lt_zero _), z.symm, Nat.zero_le _⟩⟩
theorem cx_0 : CX T0 39 50 M0 := by
  have z : nI 0 = 0 := nI_0
  have ht : tlk T0 = false := by decide
  refine ⟨⟨Or.inl ⟨rfl, rfl⟩, rfl, rfl, by rw [ht]; rfl, ⟨z.symm, fun k hk => absurd hk (Nat.not_lt_zero _), z.symm⟩, ⟨z.symm, Nat.zero_le _, z.symm, by decide, fun k hk => absurd hk (Nat.not_lt_zero _)⟩, ⟨z.symm, Nat.zero_le _, fun k hk => absurd hk (Nat.not_lt_zero _)⟩, ⟨37, 38, Or.inl ⟨rfl, rfl⟩, rfl, rfl⟩, fun h => ?_, fun _ => rfl⟩, ⟨false, false, false, false, rfl, rfl, rfl, rfl, fun h => by cases h⟩⟩
  rw [ht] at h
  cases h
/-- what holds at each turn of the law's loop -/
def Iv (M : AM) : Prop := ∃ T p q, MS T M ∧ CX T p q M
def tL (g : GG) (L : Nat) (xs : Nat → Int32) : TT := (room_1, 85, 38594, fun below args s => lw_Z below args s, fun s args => args = #[Value.ref (gA g 85)] ∧ va_X (gA g 85) L xs s s.heap ∧ gA g 85 < s.heap.size ∧ g.2.2.2.2 = s.heap.size)
section LW
variable {g : GG} {L : Nat} {xs : Nat → Int32} {pc : Nat} {ls : List (Option Value)} {st : List Value} {M : AM}
theorem E_slen (d : decode code pc = .ok (.arraylength, 1)) (k : Ex g qL (tL g L xs) (pc + 1) ls (.int (nI L) :: st) M) : Ex g qL (tL g L xs) pc ls (.ref 85 :: st) M := by
  intro p e s m args below meth c H locs a hF hX hW hl
  exact va_slen hF.1 hF.2.1 hX.2.1 hX.2.2.1 (fun h => absurd (show g.2.2.2.2 ≤ gA g 85 from h) (by rw [hX.2.2.2]; exact Nat.not_le.mpr hX.2.2.1)) hW.2 d (k p e s m args below meth c H locs a hF hX hW hl)
theorem E_sld {i : Nat} (d : decode code pc = .ok (.iaload, 1)) (hi : i < L) (hL : L ≤ 1536) (k : Ex g qL (tL g L xs) (pc + 1) ls (.int (xs (nI i).toNatClampNeg) :: st) M) : Ex g qL (tL g L xs) pc ls (.int (nI i) :: .ref 85 :: st) M := by
  intro p e s m args below meth c H locs a hF hX hW hl
  exact va_sld hF.1 hF.2.1 hX.2.1 hX.2.2.1 (fun h => absurd (show g.2.2.2.2 ≤ gA g 85 from h) (by rw [hX.2.2.2]; exact Nat.not_le.mpr hX.2.2.1)) hW.2 (nI_in hi (by omega)) d (k p e s m args below meth c H locs a hF hX hW hl)
theorem E_end (d : decode code pc = .ok (.ireturn, 1)) : Ex g qL (tL g L xs) pc ls [.int 1] M := by
  intro p e s m args below meth c H locs a hF hX hW hl
  obtain ⟨rfl, -, -, hz⟩ := hX
  refine va_forget (fun q hq => ?_) ?_
  · have := hW.2.2.2 q hq
    rw [← hz]
    exact this
  · exact lw_ret hF.1 hF.2.1 hF.2.2.1 hF.2.2.2.2.2.2.1 d
/-- the locals of the law -/
abbrev lsL (n : Nat) : List (Option Value) := [some (.ref 85), some (.ref 0), some (.ref 61), some (.int (nI n))]
end LW
