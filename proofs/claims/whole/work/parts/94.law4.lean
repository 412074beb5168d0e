-- printed by wip/whole/gen91.py: the law: its start
def adW (A : List Nat) : Nat → Nat := fun k => A.getD k 0
set_option maxRecDepth 20000 in
set_option maxHeartbeats 8000000 in
theorem cw_0 (l : Launch) (D : va_G) (c : ClassId × ClassId × ClassId) (sz : Nat) (a0 a1 a2 a3 a4 a5 a6 a7 a8 a9 a10 a11 a12 a13 a14 a15 a16 a17 a18 a19 a20 a21 a22 a23 a24 a25 a26 a27 a28 a29 a30 a31 a32 a33 a34 a35 a36 a37 a38 a39 a40 a41 a42 a43 a44 a45 a46 a47 a48 a49 a50 a51 a52 a53 a54 a55 a56 a57 a58 a59 a60 a61 a62 a63 a64 a65 a66 a67 a68 a69 a70 a71 a72 a73 a74 a75 a76 a77 a78 a79 a80 a81 a82 a83 a84 b : Nat) : ([] ++ (a0, .inr (10, [.ref a1, .ref a3, .ref a5, .ref a9, .ref a21, .ref a24, .ref a27, .ref a34, .ref a36, .ref a39, .ref a50, .int 0, .int 0, .int 0, .int 0, .int 0])) :: [(a1, .inr (6, [.ref a2, .int 0, .int 0, .int 0, .int 0])), (a2, .inl (c.1, (200, .inl (fun _ => 0)))), (a3, .inr (1, [.ref a4, .int 0, .int 0])), (a4, .inl (c.1, (60, .inl (fun _ => 0)))), (a5, .inr (0, [.ref a6, .ref a7, .ref a8, .int 0])), (a6, .inl (c.1, (12, .inl (fun _ => 0)))), (a7, .inl (c.1, (12, .inl (fun _ => 0)))), (a8, .inl (c.1, (12, .inl (fun _ => 0)))), (a9, .inr (2, [.ref a10, .ref a11, .ref a12, .ref a13, .ref a14, .ref a15, .ref a16, .ref a17, .ref a18, .ref a19, .ref a20, .int 0, .int 0])), (a10, .inl (c.1, (1024, .inl (fun _ => 0)))), (a11, .inl (c.1, (1024, .inl (fun _ => 0)))), (a12, .inl (c.1, (1024, .inl (fun _ => 0)))), (a13, .inl (c.1, (1024, .inl (fun _ => 0)))), (a14, .inl (c.1, (16, .inl (fun _ => 0)))), (a15, .inl (c.1, (1025, .inl (fun _ => 0)))), (a16, .inl (c.1, (2048, .inl (fun _ => 0)))), (a17, .inl (c.1, (2048, .inl (fun _ => 0)))), (a18, .inl (c.1, (2048, .inl (fun _ => 0)))), (a19, .inl (c.1, (1025, .inl (fun _ => 0)))), (a20, .inl (c.1, (2048, .inl (fun _ => 0)))), (a21, .inr (9, [.ref a22, .ref a23, .int 0])), (a22, .inl (c.1, (1024, .inl (fun _ => 0)))), (a23, .inl (c.1, (1024, .inl (fun _ => 0)))), (a24, .inr (3, [.ref a25, .ref a26, .int 0])), (a25, .inl (c.2.1, (1024, .inl (fun _ => 0)))), (a26, .inl (c.1, (1024, .inl (fun _ => 0)))), (a27, .inr (4, [.ref a28, .ref a29, .ref a30, .ref a31, .ref a32, .ref a33, .int 0, .int 0])), (a28, .inl (c.2.1, (1024, .inl (fun _ => 0)))), (a29, .inl (c.2.1, (1024, .inl (fun _ => 0)))), (a30, .inl (c.1, (1024, .inl (fun _ => 0)))), (a31, .inl (c.1, (1024, .inl (fun _ => 0)))), (a32, .inl (c.1, (1024, .inl (fun _ => 0)))), (a33, .inl (c.1, (1024, .inl (fun _ => 0)))), (a34, .inr (5, [.ref a35])), (a35, .inl (c.1, (1024, .inl (fun _ => 0)))), (a36, .inr (7, [.ref a37, .ref a38])), (a37, .inl (c.2.2, (1024, .inr (.inl (fun _ => 0))))), (a38, .inl (c.2.2, (1024, .inr (.inl (fun _ => 0))))), (a39, .inr (8, [.ref a40, .ref a41, .ref a42, .ref a43, .ref a44, .ref a45, .ref a46, .ref a47, .ref a48, .ref a49, .int 0, .int 0, .int 0, .int 0, .int 0, .int 0, .int 0])), (a40, .inl (c.1, (32, .inl (fun _ => 0)))), (a41, .inl (c.1, (32, .inl (fun _ => 0)))), (a42, .inl (c.1, (32, .inl (fun _ => 0)))), (a43, .inl (c.1, (32, .inl (fun _ => 0)))), (a44, .inl (c.1, (96, .inl (fun _ => 0)))), (a45, .inl (c.1, (96, .inl (fun _ => 0)))), (a46, .inl (c.1, (32, .inl (fun _ => 0)))), (a47, .inl (c.1, (32, .inl (fun _ => 0)))), (a48, .inl (c.1, (32, .inl (fun _ => 0)))), (a49, .inl (c.1, (17, .inl (fun _ => 0)))), (a50, .inr (8, [.ref a51, .ref a52, .ref a53, .ref a54, .ref a55, .ref a56, .ref a57, .ref a58, .ref a59, .ref a60, .int 0, .int 0, .int 0, .int 0, .int 0, .int 0, .int 0])), (a51, .inl (c.1, (32, .inl (fun _ => 0)))), (a52, .inl (c.1, (32, .inl (fun _ => 0)))), (a53, .inl (c.1, (32, .inl (fun _ => 0)))), (a54, .inl (c.1, (32, .inl (fun _ => 0)))), (a55, .inl (c.1, (96, .inl (fun _ => 0)))), (a56, .inl (c.1, (96, .inl (fun _ => 0)))), (a57, .inl (c.1, (32, .inl (fun _ => 0)))), (a58, .inl (c.1, (32, .inl (fun _ => 0)))), (a59, .inl (c.1, (32, .inl (fun _ => 0)))), (a60, .inl (c.1, (17, .inl (fun _ => 0))))]) ++ (a61, .inr (11, [.int 0, .int 0, .int 0, .int 0, .ref a62, .ref a63, .ref a64, .ref a65, .ref a66, .ref a67, .ref a68, .ref a69, .ref a70, .int 0, .ref a71, .int 0, .ref a72, .int 0, .ref a73, .ref a74, .ref a75, .int 0, .int 0, .int 0, .int 0, .ref a76, .ref a77, .ref a78, .int 0, .int 0, .int 0, .int 0, .ref a79, .ref a80, .ref a81, .ref a82, .ref a83, .ref a84])) :: [(a62, .inl (c.1, (32, .inl (fun _ => 0)))), (a63, .inl (c.1, (32, .inl (fun _ => 0)))), (a64, .inl (c.1, (32, .inl (fun _ => 0)))), (a65, .inl (c.1, (32, .inl (fun _ => 0)))), (a66, .inl (c.1, (96, .inl (fun _ => 0)))), (a67, .inl (c.1, (96, .inl (fun _ => 0)))), (a68, .inl (c.1, (32, .inl (fun _ => 0)))), (a69, .inl (c.1, (32, .inl (fun _ => 0)))), (a70, .inl (c.2.1, (32, .inl (fun _ => 0)))), (a71, .inl (c.1, (60, .inl (fun _ => 0)))), (a72, .inl (c.1, (384, .inl (fun _ => 0)))), (a73, .inl (c.1, (1024, .inl (fun _ => 0)))), (a74, .inl (c.1, (1024, .inl (fun _ => 0)))), (a75, .inl (c.1, (200, .inl (fun _ => 0)))), (a76, .inl (c.1, (192, .inl (fun _ => 0)))), (a77, .inl (c.1, (96, .inl (fun _ => 0)))), (a78, .inl (c.1, (96, .inl (fun _ => 0)))), (a79, .inl (c.2.1, (1024, .inl (fun _ => 0)))), (a80, .inl (c.1, (1024, .inl (fun _ => 0)))), (a81, .inl (c.2.1, (1024, .inl (fun _ => 0)))), (a82, .inl (c.2.1, (1024, .inl (fun _ => 0)))), (a83, .inl (c.2.2, (1024, .inr (.inl (fun _ => 0))))), (a84, .inl (c.2.2, (1024, .inr (.inl (fun _ => 0)))))] = cw (l, D, adW [a0, a1, a2, a3, a4, a5, a6, a7, a8, a9, a10, a11, a12, a13, a14, a15, a16, a17, a18, a19, a20, a21, a22, a23, a24, a25, a26, a27, a28, a29, a30, a31, a32, a33, a34, a35, a36, a37, a38, a39, a40, a41, a42, a43, a44, a45, a46, a47, a48, a49, a50, a51, a52, a53, a54, a55, a56, a57, a58, a59, a60, a61, a62, a63, a64, a65, a66, a67, a68, a69, a70, a71, a72, a73, a74, a75, a76, a77, a78, a79, a80, a81, a82, a83, a84, b], c, sz) M0 := by
  rfl
theorem cls_all {s : State} {args : Array Value} (hts : ∀ w ∈ tbG, w.before args s = true) : ∃ D : va_G, ∀ (c : Nat) (q : vw_C), clss[c]? = some q → u_Kn s q.1 q.2.1 q.2.2 (D.1 c) (D.2 c) := by
  obtain ⟨d0, i0, -⟩ := u_known hts in0 (hts _ waX0)
  have h : ∀ c : Nat, ∃ d : ClassId × (Nat → Nat), ∀ q : vw_C, clss[c]? = some q → u_Kn s q.1 q.2.1 q.2.2 d.1 d.2 := by
    intro c
    match c with
    | 0 => obtain ⟨d, i, h⟩ := u_known hts in0 (hts _ waX0); exact ⟨(d, i), fun q hq => by cases hq; exact h⟩
    | 1 => obtain ⟨d, i, h⟩ := u_known hts in1 (hts _ waX1); exact ⟨(d, i), fun q hq => by cases hq; exact h⟩
    | 2 => obtain ⟨d, i, h⟩ := u_known hts in2 (hts _ waX2); exact ⟨(d, i), fun q hq => by cases hq; exact h⟩
    | 3 => obtain ⟨d, i, h⟩ := u_known hts in3 (hts _ waX3); exact ⟨(d, i), fun q hq => by cases hq; exact h⟩
    | 4 => obtain ⟨d, i, h⟩ := u_known hts in4 (hts _ waX4); exact ⟨(d, i), fun q hq => by cases hq; exact h⟩
    | 5 => obtain ⟨d, i, h⟩ := u_known hts in5 (hts _ waX5); exact ⟨(d, i), fun q hq => by cases hq; exact h⟩
    | 6 => obtain ⟨d, i, h⟩ := u_known hts in6 (hts _ waX6); exact ⟨(d, i), fun q hq => by cases hq; exact h⟩
    | 7 => obtain ⟨d, i, h⟩ := u_known hts in7 (hts _ waX7); exact ⟨(d, i), fun q hq => by cases hq; exact h⟩
    | 8 => obtain ⟨d, i, h⟩ := u_known hts in8 (hts _ waX8); exact ⟨(d, i), fun q hq => by cases hq; exact h⟩
    | 9 => obtain ⟨d, i, h⟩ := u_known hts in9 (hts _ waX9); exact ⟨(d, i), fun q hq => by cases hq; exact h⟩
    | 10 => obtain ⟨d, i, h⟩ := u_known hts in10 (hts _ waX10); exact ⟨(d, i), fun q hq => by cases hq; exact h⟩
    | 11 => obtain ⟨d, i, h⟩ := u_known hts in11 (hts _ waX11); exact ⟨(d, i), fun q hq => by cases hq; exact h⟩
    | k + 12 => exact ⟨(d0, i0), fun q hq => by simp [clss] at hq⟩
  exact ⟨(fun c => (Classical.choose (h c)).1, fun c => (Classical.choose (h c)).2), fun c q hq => Classical.choose_spec (h c) q hq⟩
theorem arr_all {s : State} {args : Array Value} (hts : ∀ w ∈ tbG, w.before args s = true) {ty : FieldType} (h : Cond.arrayClass ty ∈ tbG) (hr : ∀ U c1, va_RA U c1 ty = (U.vm.findClass ("[" ++ ty.toString) = some c1)) : ∃ cA : ClassId, ArrOfT s cA ty ∧ va_RA s cA ty := by
  obtain ⟨cA, kA, comp, h1, h2, h3⟩ := Cond.arrayClass_spec (hts _ h)
  exact ⟨cA, fun n z => ⟨fun k h => (by cases h), kA, h2, comp, h3⟩, by rw [hr]; exact h1⟩
theorem nst_all {s : State} {args : Array Value} (hts : ∀ w ∈ lw_tbl, w.before args s = true) : NestOK s := by
  intro w hw
  simp only [nst, List.mem_cons, List.not_mem_nil, or_false] at hw
  rcases hw with rfl | rfl | rfl
  · exact va_Nw.of rfl (hts _ (List.mem_of_getElem? (i := 621) (by decide +kernel)))
  · exact va_Nw.of rfl (hts _ (List.mem_of_getElem? (i := 786) (by decide +kernel)))
  · exact va_Nw.of rfl (hts _ (List.mem_of_getElem? (i := 842) (by decide +kernel)))
theorem nsx_all {s : State} {args : Array Value} (hts : ∀ w ∈ lw_tbl, w.before args s = true) : NestX s := by
  intro w hw
  simp only [nsx, List.mem_cons, List.not_mem_nil, or_false] at hw
  rcases hw with rfl | rfl | rfl | rfl | rfl | rfl | rfl | rfl | rfl | rfl
  · exact va_Nw.of rfl (hts _ (List.mem_of_getElem? (i := 119) (by decide +kernel)))
  · exact va_Nw.of rfl (hts _ (List.mem_of_getElem? (i := 144) (by decide +kernel)))
  · exact va_Nw.of rfl (hts _ (List.mem_of_getElem? (i := 163) (by decide +kernel)))
  · exact va_Nw.of rfl (hts _ (List.mem_of_getElem? (i := 186) (by decide +kernel)))
  · exact va_Nw.of rfl (hts _ (List.mem_of_getElem? (i := 258) (by decide +kernel)))
  · exact va_Nw.of rfl (hts _ (List.mem_of_getElem? (i := 274) (by decide +kernel)))
  · exact va_Nw.of rfl (hts _ (List.mem_of_getElem? (i := 292) (by decide +kernel)))
  · exact va_Nw.of rfl (hts _ (List.mem_of_getElem? (i := 324) (by decide +kernel)))
  · exact va_Nw.of rfl (hts _ (List.mem_of_getElem? (i := 334) (by decide +kernel)))
  · exact va_Nw.of rfl (hts _ (List.mem_of_getElem? (i := 348) (by decide +kernel)))
theorem N_astore {g : GG} {q : MI} {τ : TT} {pc : Nat} {lv lv' : List (Nat × Value)} {st : List Value} {ws : va_W} {cells slots : Nat} {i : Fin 4} {x : Nat} (d : decode (fC q) pc = .ok (.astore_n i, 1)) (hi : (i : Nat) < fL q) (hl0 : ((i : Nat), Value.ref x) :: lv.filter (fun q => !(q.1 == (i : Nat)) && !(q.1 + 1 == (i : Nat) && q.2.category == 2)) = lv') (kk : En g q τ (pc + 1) lv' st ws cells slots) : En g q τ pc lv (.ref x :: st) ws cells slots :=
  fun p e s m args below meth c H locs a hF hX hW hl => lv_astore_n hF.1 hF.2.1 d rfl hl hi hl0 (fun a1 hl1 => kk p e s m args below meth c H locs a1 hF hX hW hl1)
/-- the world is whole: the walk goes on over its cells -/
theorem En_Ex {g g1 : GG} {L : Nat} {xs : Nat → Int32} {ws : va_W} {lv : List (Nat × Value)} {ls : List (Option Value)} {pc : Nat} (hg : g1 = (g.1, g.2.1, g1.2.2.1, g.2.2.2)) (h85 : gA g 85 = gA g1 85) (hw : ws = cw g1 M0) (hl1 : ∀ x ∈ lp (gA g1) ls, x ∈ lv) (k : Ex g1 qL (tL g1 L xs) pc ls [] M0) :
    En g qL (room_1, 85, 38594, fun below args s => lw_Z below args s, fun s args => (tL g L xs).2.2.2.2 s args ∧ NestOK s) pc lv [] ws 85 38594 := by
  intro p e s m args below meth c H locs a hF hX hW hl
  subst hw
  obtain ⟨l, D, ad, c3, sz⟩ := g
  obtain ⟨l1, D1, ad1, c31, sz1⟩ := g1
  cases hg
  obtain ⟨h1, h2, h3, h4, h5, h6, h7, h8, h9, h10⟩ := hF
  obtain ⟨⟨x1, x2, x3, x4⟩, x5⟩ := hX
  obtain ⟨w1, w2, w3, w4⟩ := hW
  have hG : gOK (l, D, ad1, c3, sz) := ⟨fun i j hi hj h => w2.1 i j _ _ (cw_get _ _ hi) (cw_get _ _ hj) h, fun i hi => w2.2 i _ (cw_get _ _ hi)⟩
  have h85 : ad 85 = ad1 85 := h85
  exact k p e s m args below meth c H locs a ⟨h1, h2, h3, h4, h5, h6, h7, x5, hG, h10⟩ ⟨by show args = #[Value.ref (ad1 85)]; rw [← h85]; exact x1, by show va_X (ad1 85) L xs s s.heap; rw [← h85]; exact x2, by show ad1 85 < s.heap.size; rw [← h85]; exact x3, x4⟩ ⟨w1, w3⟩ (lv_fewer hl hl1)
set_option maxRecDepth 20000 in
set_option maxHeartbeats 8000000 in
theorem lw_en {l : Launch} {D : va_G} {c : ClassId × ClassId × ClassId} {sz b L : Nat} {xs : Nat → Int32} (hL : L ≤ 1536) : En (l, D, fun _ => b, c, sz) qL (room_1, 85, 38594, fun below args s => lw_Z below args s, fun s args => (tL (l, D, fun _ => b, c, sz) L xs).2.2.2.2 s args ∧ NestOK s) 0 [(0, .ref b)] [] [] 0 0 := by
  refine N_new (ci := 10) (C := RX10) (T := TX10) (N := 16) (ty := tyX10) (fs := [.null, .null, .null, .null, .null, .null, .null, .null, .null, .null, .null, .int 0, .int 0, .int 0, .int 0, .int 0]) dL_law_0 rfl tyX10_ok xkL_7 waX10 wnX10 (by decide +kernel) (Nat.le_of_ble_eq_true rfl) (Nat.le_of_ble_eq_true rfl) (fun a0 => ?_)
  refine N_dup dL_law_3 ?_
  refine N_callI (r := qX10_init) (ws := []) (mc := 60) (ms := 28904) dL_law_4 mkL_9 io_X10 ⟨Nat.le_of_ble_eq_true rfl, Nat.le_of_ble_eq_true rfl⟩ ⟨Nat.le_of_ble_eq_true rfl, Nat.le_of_ble_eq_true rfl⟩ (n_X10 _) (Nat.le_of_ble_eq_true rfl) (fun fs tl hp => ?_)
  obtain ⟨a1, a2, a3, a4, a5, a6, a7, a8, a9, a10, a11, a12, a13, a14, a15, a16, a17, a18, a19, a20, a21, a22, a23, a24, a25, a26, a27, a28, a29, a30, a31, a32, a33, a34, a35, a36, a37, a38, a39, a40, a41, a42, a43, a44, a45, a46, a47, a48, a49, a50, a51, a52, a53, a54, a55, a56, a57, a58, a59, a60, rfl, rfl⟩ := hp
  refine N_astore (lv' := [(1, .ref a0), (0, .ref b)]) dL_law_7 (Nat.le_of_ble_eq_true rfl) rfl ?_
  refine N_new (ci := 11) (C := RX11) (T := TX11) (N := 38) (ty := tyX11) (fs := [.int 0, .int 0, .int 0, .int 0, .null, .null, .null, .null, .null, .null, .null, .null, .null, .int 0, .null, .int 0, .null, .int 0, .null, .null, .null, .int 0, .int 0, .int 0, .int 0, .null, .null, .null, .int 0, .int 0, .int 0, .int 0, .null, .null, .null, .null, .null, .null]) dL_law_8 rfl tyX11_ok xkL_10 waX11 wnX11 (by decide +kernel) (Nat.le_of_ble_eq_true rfl) (Nat.le_of_ble_eq_true rfl) (fun a61 => ?_)
  refine N_dup dL_law_11 ?_
  refine N_callI (r := qX11_init) (mc := 23) (ms := 9636) dL_law_12 mkL_12 io_X11 ⟨Nat.le_of_ble_eq_true rfl, Nat.le_of_ble_eq_true rfl⟩ ⟨Nat.le_of_ble_eq_true rfl, Nat.le_of_ble_eq_true rfl⟩ (n_X11 _) (Nat.le_of_ble_eq_true rfl) (fun fs tl hp => ?_)
  obtain ⟨a62, a63, a64, a65, a66, a67, a68, a69, a70, a71, a72, a73, a74, a75, a76, a77, a78, a79, a80, a81, a82, a83, a84, rfl, rfl⟩ := hp
  refine N_astore (lv' := [(2, .ref a61), (1, .ref a0), (0, .ref b)]) dL_law_15 (Nat.le_of_ble_eq_true rfl) rfl ?_
  refine En_Ex (g1 := (l, D, adW [a0, a1, a2, a3, a4, a5, a6, a7, a8, a9, a10, a11, a12, a13, a14, a15, a16, a17, a18, a19, a20, a21, a22, a23, a24, a25, a26, a27, a28, a29, a30, a31, a32, a33, a34, a35, a36, a37, a38, a39, a40, a41, a42, a43, a44, a45, a46, a47, a48, a49, a50, a51, a52, a53, a54, a55, a56, a57, a58, a59, a60, a61, a62, a63, a64, a65, a66, a67, a68, a69, a70, a71, a72, a73, a74, a75, a76, a77, a78, a79, a80, a81, a82, a83, a84, b], c, sz)) (ls := [some (.ref 85), some (.ref 0), some (.ref 61), none]) rfl rfl (cw_0 l D c sz a0 a1 a2 a3 a4 a5 a6 a7 a8 a9 a10 a11 a12 a13 a14 a15 a16 a17 a18 a19 a20 a21 a22 a23 a24 a25 a26 a27 a28 a29 a30 a31 a32 a33 a34 a35 a36 a37 a38 a39 a40 a41 a42 a43 a44 a45 a46 a47 a48 a49 a50 a51 a52 a53 a54 a55 a56 a57 a58 a59 a60 a61 a62 a63 a64 a65 a66 a67 a68 a69 a70 a71 a72 a73 a74 a75 a76 a77 a78 a79 a80 a81 a82 a83 a84 b) ?_ ?_
  · intro x hx
    obtain ⟨v, h1, h2⟩ := lp_mem.mp hx
    obtain ⟨k, y⟩ := x
    dsimp only at h1 h2
    subst h2
    match k, h1 with
    | 0, h1 => cases h1; exact List.mem_cons_of_mem _ (List.mem_cons_of_mem _ List.mem_cons_self)
    | 1, h1 => cases h1; exact List.mem_cons_of_mem _ List.mem_cons_self
    | 2, h1 => cases h1; exact List.mem_cons_self
    | 3, h1 => cases h1
    | k + 4, h1 => simp at h1
  · refine E_iconst (v := nI 0) dL_law_16 (by decide +kernel) ?_
    refine E_istore_n dL_law_17 (Nat.le_of_ble_eq_true rfl) rfl ?_
    exact lw_loop hL (L - 0) 0 M0 rfl (by decide) ⟨T0, 39, 50, ms_0, cx_0⟩
