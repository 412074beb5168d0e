-- printed by wip/whole/gen88.py: the constructors of the helpers
def PX6_init (g : GG) (fs : List Value) (tl : va_W) : Prop := ∃ q1 : Nat, fs = [.ref q1, .int 0, .int 0, .int 0, .int 0] ∧ tl = [(q1, .inl (g.2.2.2.1.1, (200, .inl (fun _ => 0))))]
set_option maxRecDepth 8000 in
set_option maxHeartbeats 4000000 in
theorem n_X6 (g : GG) : Ctor g qX6_init 6 1 200 [.null, .int 0, .int 0, .int 0, .int 0] (PX6_init g) := by
  refine Ctor_of (by decide) rfl rfl (fun pre h0 => ?_)
  refine N_aload dX6_init_0 0 rfl ?_
  refine N_obj dX6_init_1 oi_X6 (Nat.le_of_ble_eq_true rfl) (Nat.le_of_ble_eq_true rfl) ?_
  refine N_aload dX6_init_4 0 rfl ?_
  refine N_sipush (v := 200) dX6_init_5 (by decide +kernel) ?_
  refine N_newa (t0 := 0) (cA := g.2.2.2.1.1) (ty := .int) (N' := 200) (a0 := (200, .inl (fun _ => 0))) dX6_init_8 rfl rfl (fun _ _ => rfl) ar_int (fun _ => rfl) (by decide +kernel) (by decide +kernel) (by decide +kernel) (Nat.le_of_ble_eq_true rfl) (Nat.le_of_ble_eq_true rfl) (fun q1 => ?_)
  refine N_putF (ci := 6) (C := RX6) (T := TX6) (N := 5) (j := 0) (ty := (.array .int)) dX6_init_10 fkX6_9 rfl (by decide) rfl rfl rfl (by decide +kernel) rfl (Nat.le_of_ble_eq_true rfl) ?_
  exact N_vret dX6_init_13 rfl (Nat.le_of_ble_eq_true rfl) (Nat.le_of_ble_eq_true rfl) ⟨q1, rfl, rfl⟩
theorem io_X6 : iOK qX6_init := ⟨wcX6_init, wiX6_init, wnX6, rfl, rfl, by decide +kernel, by decide +kernel, by decide +kernel⟩
def PX1_init (g : GG) (fs : List Value) (tl : va_W) : Prop := ∃ q1 : Nat, fs = [.ref q1, .int 0, .int 0] ∧ tl = [(q1, .inl (g.2.2.2.1.1, (60, .inl (fun _ => 0))))]
set_option maxRecDepth 8000 in
set_option maxHeartbeats 4000000 in
theorem n_X1 (g : GG) : Ctor g qX1_init 1 1 60 [.null, .int 0, .int 0] (PX1_init g) := by
  refine Ctor_of (by decide) rfl rfl (fun pre h0 => ?_)
  refine N_aload dX1_init_0 0 rfl ?_
  refine N_obj dX1_init_1 oi_X1 (Nat.le_of_ble_eq_true rfl) (Nat.le_of_ble_eq_true rfl) ?_
  refine N_aload dX1_init_4 0 rfl ?_
  refine N_bipush (v := 60) dX1_init_5 (by decide +kernel) ?_
  refine N_newa (t0 := 0) (cA := g.2.2.2.1.1) (ty := .int) (N' := 60) (a0 := (60, .inl (fun _ => 0))) dX1_init_7 rfl rfl (fun _ _ => rfl) ar_int (fun _ => rfl) (by decide +kernel) (by decide +kernel) (by decide +kernel) (Nat.le_of_ble_eq_true rfl) (Nat.le_of_ble_eq_true rfl) (fun q1 => ?_)
  refine N_putF (ci := 1) (C := RX1) (T := TX1) (N := 3) (j := 0) (ty := (.array .int)) dX1_init_9 fkX1_9 rfl (by decide) rfl rfl rfl (by decide +kernel) rfl (Nat.le_of_ble_eq_true rfl) ?_
  exact N_vret dX1_init_12 rfl (Nat.le_of_ble_eq_true rfl) (Nat.le_of_ble_eq_true rfl) ⟨q1, rfl, rfl⟩
theorem io_X1 : iOK qX1_init := ⟨wcX1_init, wiX1_init, wnX1, rfl, rfl, by decide +kernel, by decide +kernel, by decide +kernel⟩
def PX0_init (g : GG) (fs : List Value) (tl : va_W) : Prop := ∃ q1 q2 q3 : Nat, fs = [.ref q1, .ref q2, .ref q3, .int 0] ∧ tl = [(q1, .inl (g.2.2.2.1.1, (12, .inl (fun _ => 0)))), (q2, .inl (g.2.2.2.1.1, (12, .inl (fun _ => 0)))), (q3, .inl (g.2.2.2.1.1, (12, .inl (fun _ => 0))))]
set_option maxRecDepth 8000 in
set_option maxHeartbeats 4000000 in
theorem n_X0 (g : GG) : Ctor g qX0_init 0 3 36 [.null, .null, .null, .int 0] (PX0_init g) := by
  refine Ctor_of (by decide) rfl rfl (fun pre h0 => ?_)
  refine N_aload dX0_init_0 0 rfl ?_
  refine N_obj dX0_init_1 oi_X0 (Nat.le_of_ble_eq_true rfl) (Nat.le_of_ble_eq_true rfl) ?_
  refine N_aload dX0_init_4 0 rfl ?_
  refine N_bipush (v := 12) dX0_init_5 (by decide +kernel) ?_
  refine N_newa (t0 := 0) (cA := g.2.2.2.1.1) (ty := .int) (N' := 12) (a0 := (12, .inl (fun _ => 0))) dX0_init_7 rfl rfl (fun _ _ => rfl) ar_int (fun _ => rfl) (by decide +kernel) (by decide +kernel) (by decide +kernel) (Nat.le_of_ble_eq_true rfl) (Nat.le_of_ble_eq_true rfl) (fun q1 => ?_)
  refine N_putF (ci := 0) (C := RX0) (T := TX0) (N := 4) (j := 0) (ty := (.array .int)) dX0_init_9 fkX0_9 rfl (by decide) rfl rfl rfl (by decide +kernel) rfl (Nat.le_of_ble_eq_true rfl) ?_
  refine N_aload dX0_init_12 0 rfl ?_
  refine N_bipush (v := 12) dX0_init_13 (by decide +kernel) ?_
  refine N_newa (t0 := 0) (cA := g.2.2.2.1.1) (ty := .int) (N' := 12) (a0 := (12, .inl (fun _ => 0))) dX0_init_15 rfl rfl (fun _ _ => rfl) ar_int (fun _ => rfl) (by decide +kernel) (by decide +kernel) (by decide +kernel) (Nat.le_of_ble_eq_true rfl) (Nat.le_of_ble_eq_true rfl) (fun q2 => ?_)
  refine N_putF (ci := 0) (C := RX0) (T := TX0) (N := 4) (j := 1) (ty := (.array .int)) dX0_init_17 fkX0_15 rfl (by decide) rfl rfl rfl (by decide +kernel) rfl (Nat.le_of_ble_eq_true rfl) ?_
  refine N_aload dX0_init_20 0 rfl ?_
  refine N_bipush (v := 12) dX0_init_21 (by decide +kernel) ?_
  refine N_newa (t0 := 0) (cA := g.2.2.2.1.1) (ty := .int) (N' := 12) (a0 := (12, .inl (fun _ => 0))) dX0_init_23 rfl rfl (fun _ _ => rfl) ar_int (fun _ => rfl) (by decide +kernel) (by decide +kernel) (by decide +kernel) (Nat.le_of_ble_eq_true rfl) (Nat.le_of_ble_eq_true rfl) (fun q3 => ?_)
  refine N_putF (ci := 0) (C := RX0) (T := TX0) (N := 4) (j := 2) (ty := (.array .int)) dX0_init_25 fkX0_18 rfl (by decide) rfl rfl rfl (by decide +kernel) rfl (Nat.le_of_ble_eq_true rfl) ?_
  exact N_vret dX0_init_28 rfl (Nat.le_of_ble_eq_true rfl) (Nat.le_of_ble_eq_true rfl) ⟨q1, q2, q3, rfl, rfl⟩
theorem io_X0 : iOK qX0_init := ⟨wcX0_init, wiX0_init, wnX0, rfl, rfl, by decide +kernel, by decide +kernel, by decide +kernel⟩
def PX2_init (g : GG) (fs : List Value) (tl : va_W) : Prop := ∃ q1 q2 q3 q4 q5 q6 q7 q8 q9 q10 q11 : Nat, fs = [.ref q1, .ref q2, .ref q3, .ref q4, .ref q5, .ref q6, .ref q7, .ref q8, .ref q9, .ref q10, .ref q11, .int 0, .int 0] ∧ tl = [(q1, .inl (g.2.2.2.1.1, (1024, .inl (fun _ => 0)))), (q2, .inl (g.2.2.2.1.1, (1024, .inl (fun _ => 0)))), (q3, .inl (g.2.2.2.1.1, (1024, .inl (fun _ => 0)))), (q4, .inl (g.2.2.2.1.1, (1024, .inl (fun _ => 0)))), (q5, .inl (g.2.2.2.1.1, (16, .inl (fun _ => 0)))), (q6, .inl (g.2.2.2.1.1, (1025, .inl (fun _ => 0)))), (q7, .inl (g.2.2.2.1.1, (2048, .inl (fun _ => 0)))), (q8, .inl (g.2.2.2.1.1, (2048, .inl (fun _ => 0)))), (q9, .inl (g.2.2.2.1.1, (2048, .inl (fun _ => 0)))), (q10, .inl (g.2.2.2.1.1, (1025, .inl (fun _ => 0)))), (q11, .inl (g.2.2.2.1.1, (2048, .inl (fun _ => 0))))]
set_option maxRecDepth 8000 in
set_option maxHeartbeats 4000000 in
theorem n_X2 (g : GG) : Ctor g qX2_init 2 11 14354 [.null, .null, .null, .null, .null, .null, .null, .null, .null, .null, .null, .int 0, .int 0] (PX2_init g) := by
  refine Ctor_of (by decide) rfl rfl (fun pre h0 => ?_)
  refine N_aload dX2_init_0 0 rfl ?_
  refine N_obj dX2_init_1 oi_X2 (Nat.le_of_ble_eq_true rfl) (Nat.le_of_ble_eq_true rfl) ?_
  refine N_aload dX2_init_4 0 rfl ?_
  refine N_sipush (v := 1024) dX2_init_5 (by decide +kernel) ?_
  refine N_newa (t0 := 0) (cA := g.2.2.2.1.1) (ty := .int) (N' := 1024) (a0 := (1024, .inl (fun _ => 0))) dX2_init_8 rfl rfl (fun _ _ => rfl) ar_int (fun _ => rfl) (by decide +kernel) (by decide +kernel) (by decide +kernel) (Nat.le_of_ble_eq_true rfl) (Nat.le_of_ble_eq_true rfl) (fun q1 => ?_)
  refine N_putF (ci := 2) (C := RX2) (T := TX2) (N := 13) (j := 0) (ty := (.array .int)) dX2_init_10 fkX2_9 rfl (by decide) rfl rfl rfl (by decide +kernel) rfl (Nat.le_of_ble_eq_true rfl) ?_
  refine N_aload dX2_init_13 0 rfl ?_
  refine N_sipush (v := 1024) dX2_init_14 (by decide +kernel) ?_
  refine N_newa (t0 := 0) (cA := g.2.2.2.1.1) (ty := .int) (N' := 1024) (a0 := (1024, .inl (fun _ => 0))) dX2_init_17 rfl rfl (fun _ _ => rfl) ar_int (fun _ => rfl) (by decide +kernel) (by decide +kernel) (by decide +kernel) (Nat.le_of_ble_eq_true rfl) (Nat.le_of_ble_eq_true rfl) (fun q2 => ?_)
  refine N_putF (ci := 2) (C := RX2) (T := TX2) (N := 13) (j := 1) (ty := (.array .int)) dX2_init_19 fkX2_15 rfl (by decide) rfl rfl rfl (by decide +kernel) rfl (Nat.le_of_ble_eq_true rfl) ?_
  refine N_aload dX2_init_22 0 rfl ?_
  refine N_sipush (v := 1024) dX2_init_23 (by decide +kernel) ?_
  refine N_newa (t0 := 0) (cA := g.2.2.2.1.1) (ty := .int) (N' := 1024) (a0 := (1024, .inl (fun _ => 0))) dX2_init_26 rfl rfl (fun _ _ => rfl) ar_int (fun _ => rfl) (by decide +kernel) (by decide +kernel) (by decide +kernel) (Nat.le_of_ble_eq_true rfl) (Nat.le_of_ble_eq_true rfl) (fun q3 => ?_)
  refine N_putF (ci := 2) (C := RX2) (T := TX2) (N := 13) (j := 2) (ty := (.array .int)) dX2_init_28 fkX2_18 rfl (by decide) rfl rfl rfl (by decide +kernel) rfl (Nat.le_of_ble_eq_true rfl) ?_
  refine N_aload dX2_init_31 0 rfl ?_
  refine N_sipush (v := 1024) dX2_init_32 (by decide +kernel) ?_
  refine N_newa (t0 := 0) (cA := g.2.2.2.1.1) (ty := .int) (N' := 1024) (a0 := (1024, .inl (fun _ => 0))) dX2_init_35 rfl rfl (fun _ _ => rfl) ar_int (fun _ => rfl) (by decide +kernel) (by decide +kernel) (by decide +kernel) (Nat.le_of_ble_eq_true rfl) (Nat.le_of_ble_eq_true rfl) (fun q4 => ?_)
  refine N_putF (ci := 2) (C := RX2) (T := TX2) (N := 13) (j := 3) (ty := (.array .int)) dX2_init_37 fkX2_21 rfl (by decide) rfl rfl rfl (by decide +kernel) rfl (Nat.le_of_ble_eq_true rfl) ?_
  refine N_aload dX2_init_40 0 rfl ?_
  refine N_bipush (v := 16) dX2_init_41 (by decide +kernel) ?_
  refine N_newa (t0 := 0) (cA := g.2.2.2.1.1) (ty := .int) (N' := 16) (a0 := (16, .inl (fun _ => 0))) dX2_init_43 rfl rfl (fun _ _ => rfl) ar_int (fun _ => rfl) (by decide +kernel) (by decide +kernel) (by decide +kernel) (Nat.le_of_ble_eq_true rfl) (Nat.le_of_ble_eq_true rfl) (fun q5 => ?_)
  refine N_putF (ci := 2) (C := RX2) (T := TX2) (N := 13) (j := 4) (ty := (.array .int)) dX2_init_45 fkX2_24 rfl (by decide) rfl rfl rfl (by decide +kernel) rfl (Nat.le_of_ble_eq_true rfl) ?_
  refine N_aload dX2_init_48 0 rfl ?_
  refine N_sipush (v := 1025) dX2_init_49 (by decide +kernel) ?_
  refine N_newa (t0 := 0) (cA := g.2.2.2.1.1) (ty := .int) (N' := 1025) (a0 := (1025, .inl (fun _ => 0))) dX2_init_52 rfl rfl (fun _ _ => rfl) ar_int (fun _ => rfl) (by decide +kernel) (by decide +kernel) (by decide +kernel) (Nat.le_of_ble_eq_true rfl) (Nat.le_of_ble_eq_true rfl) (fun q6 => ?_)
  refine N_putF (ci := 2) (C := RX2) (T := TX2) (N := 13) (j := 5) (ty := (.array .int)) dX2_init_54 fkX2_27 rfl (by decide) rfl rfl rfl (by decide +kernel) rfl (Nat.le_of_ble_eq_true rfl) ?_
  refine N_aload dX2_init_57 0 rfl ?_
  refine N_sipush (v := 2048) dX2_init_58 (by decide +kernel) ?_
  refine N_newa (t0 := 0) (cA := g.2.2.2.1.1) (ty := .int) (N' := 2048) (a0 := (2048, .inl (fun _ => 0))) dX2_init_61 rfl rfl (fun _ _ => rfl) ar_int (fun _ => rfl) (by decide +kernel) (by decide +kernel) (by decide +kernel) (Nat.le_of_ble_eq_true rfl) (Nat.le_of_ble_eq_true rfl) (fun q7 => ?_)
  refine N_putF (ci := 2) (C := RX2) (T := TX2) (N := 13) (j := 6) (ty := (.array .int)) dX2_init_63 fkX2_30 rfl (by decide) rfl rfl rfl (by decide +kernel) rfl (Nat.le_of_ble_eq_true rfl) ?_
  refine N_aload dX2_init_66 0 rfl ?_
  refine N_sipush (v := 2048) dX2_init_67 (by decide +kernel) ?_
  refine N_newa (t0 := 0) (cA := g.2.2.2.1.1) (ty := .int) (N' := 2048) (a0 := (2048, .inl (fun _ => 0))) dX2_init_70 rfl rfl (fun _ _ => rfl) ar_int (fun _ => rfl) (by decide +kernel) (by decide +kernel) (by decide +kernel) (Nat.le_of_ble_eq_true rfl) (Nat.le_of_ble_eq_true rfl) (fun q8 => ?_)
  refine N_putF (ci := 2) (C := RX2) (T := TX2) (N := 13) (j := 7) (ty := (.array .int)) dX2_init_72 fkX2_33 rfl (by decide) rfl rfl rfl (by decide +kernel) rfl (Nat.le_of_ble_eq_true rfl) ?_
  refine N_aload dX2_init_75 0 rfl ?_
  refine N_sipush (v := 2048) dX2_init_76 (by decide +kernel) ?_
  refine N_newa (t0 := 0) (cA := g.2.2.2.1.1) (ty := .int) (N' := 2048) (a0 := (2048, .inl (fun _ => 0))) dX2_init_79 rfl rfl (fun _ _ => rfl) ar_int (fun _ => rfl) (by decide +kernel) (by decide +kernel) (by decide +kernel) (Nat.le_of_ble_eq_true rfl) (Nat.le_of_ble_eq_true rfl) (fun q9 => ?_)
  refine N_putF (ci := 2) (C := RX2) (T := TX2) (N := 13) (j := 8) (ty := (.array .int)) dX2_init_81 fkX2_36 rfl (by decide) rfl rfl rfl (by decide +kernel) rfl (Nat.le_of_ble_eq_true rfl) ?_
  refine N_aload dX2_init_84 0 rfl ?_
  refine N_sipush (v := 1025) dX2_init_85 (by decide +kernel) ?_
  refine N_newa (t0 := 0) (cA := g.2.2.2.1.1) (ty := .int) (N' := 1025) (a0 := (1025, .inl (fun _ => 0))) dX2_init_88 rfl rfl (fun _ _ => rfl) ar_int (fun _ => rfl) (by decide +kernel) (by decide +kernel) (by decide +kernel) (Nat.le_of_ble_eq_true rfl) (Nat.le_of_ble_eq_true rfl) (fun q10 => ?_)
  refine N_putF (ci := 2) (C := RX2) (T := TX2) (N := 13) (j := 9) (ty := (.array .int)) dX2_init_90 fkX2_39 rfl (by decide) rfl rfl rfl (by decide +kernel) rfl (Nat.le_of_ble_eq_true rfl) ?_
  refine N_aload dX2_init_93 0 rfl ?_
  refine N_sipush (v := 2048) dX2_init_94 (by decide +kernel) ?_
  refine N_newa (t0 := 0) (cA := g.2.2.2.1.1) (ty := .int) (N' := 2048) (a0 := (2048, .inl (fun _ => 0))) dX2_init_97 rfl rfl (fun _ _ => rfl) ar_int (fun _ => rfl) (by decide +kernel) (by decide +kernel) (by decide +kernel) (Nat.le_of_ble_eq_true rfl) (Nat.le_of_ble_eq_true rfl) (fun q11 => ?_)
  refine N_putF (ci := 2) (C := RX2) (T := TX2) (N := 13) (j := 10) (ty := (.array .int)) dX2_init_99 fkX2_42 rfl (by decide) rfl rfl rfl (by decide +kernel) rfl (Nat.le_of_ble_eq_true rfl) ?_
  exact N_vret dX2_init_102 rfl (Nat.le_of_ble_eq_true rfl) (Nat.le_of_ble_eq_true rfl) ⟨q1, q2, q3, q4, q5, q6, q7, q8, q9, q10, q11, rfl, rfl⟩
theorem io_X2 : iOK qX2_init := ⟨wcX2_init, wiX2_init, wnX2, rfl, rfl, by decide +kernel, by decide +kernel, by decide +kernel⟩
def PX9_init (g : GG) (fs : List Value) (tl : va_W) : Prop := ∃ q1 q2 : Nat, fs = [.ref q1, .ref q2, .int 0] ∧ tl = [(q1, .inl (g.2.2.2.1.1, (1024, .inl (fun _ => 0)))), (q2, .inl (g.2.2.2.1.1, (1024, .inl (fun _ => 0))))]
set_option maxRecDepth 8000 in
set_option maxHeartbeats 4000000 in
theorem n_X9 (g : GG) : Ctor g qX9_init 9 2 2048 [.null, .null, .int 0] (PX9_init g) := by
  refine Ctor_of (by decide) rfl rfl (fun pre h0 => ?_)
  refine N_aload dX9_init_0 0 rfl ?_
  refine N_obj dX9_init_1 oi_X9 (Nat.le_of_ble_eq_true rfl) (Nat.le_of_ble_eq_true rfl) ?_
  refine N_aload dX9_init_4 0 rfl ?_
  refine N_sipush (v := 1024) dX9_init_5 (by decide +kernel) ?_
  refine N_newa (t0 := 0) (cA := g.2.2.2.1.1) (ty := .int) (N' := 1024) (a0 := (1024, .inl (fun _ => 0))) dX9_init_8 rfl rfl (fun _ _ => rfl) ar_int (fun _ => rfl) (by decide +kernel) (by decide +kernel) (by decide +kernel) (Nat.le_of_ble_eq_true rfl) (Nat.le_of_ble_eq_true rfl) (fun q1 => ?_)
  refine N_putF (ci := 9) (C := RX9) (T := TX9) (N := 3) (j := 0) (ty := (.array .int)) dX9_init_10 fkX9_9 rfl (by decide) rfl rfl rfl (by decide +kernel) rfl (Nat.le_of_ble_eq_true rfl) ?_
  refine N_aload dX9_init_13 0 rfl ?_
  refine N_sipush (v := 1024) dX9_init_14 (by decide +kernel) ?_
  refine N_newa (t0 := 0) (cA := g.2.2.2.1.1) (ty := .int) (N' := 1024) (a0 := (1024, .inl (fun _ => 0))) dX9_init_17 rfl rfl (fun _ _ => rfl) ar_int (fun _ => rfl) (by decide +kernel) (by decide +kernel) (by decide +kernel) (Nat.le_of_ble_eq_true rfl) (Nat.le_of_ble_eq_true rfl) (fun q2 => ?_)
  refine N_putF (ci := 9) (C := RX9) (T := TX9) (N := 3) (j := 1) (ty := (.array .int)) dX9_init_19 fkX9_15 rfl (by decide) rfl rfl rfl (by decide +kernel) rfl (Nat.le_of_ble_eq_true rfl) ?_
  exact N_vret dX9_init_22 rfl (Nat.le_of_ble_eq_true rfl) (Nat.le_of_ble_eq_true rfl) ⟨q1, q2, rfl, rfl⟩
theorem io_X9 : iOK qX9_init := ⟨wcX9_init, wiX9_init, wnX9, rfl, rfl, by decide +kernel, by decide +kernel, by decide +kernel⟩
def PX3_init (g : GG) (fs : List Value) (tl : va_W) : Prop := ∃ q1 q2 : Nat, fs = [.ref q1, .ref q2, .int 0] ∧ tl = [(q1, .inl (g.2.2.2.1.2.1, (1024, .inl (fun _ => 0)))), (q2, .inl (g.2.2.2.1.1, (1024, .inl (fun _ => 0))))]
set_option maxRecDepth 8000 in
set_option maxHeartbeats 4000000 in
theorem n_X3 (g : GG) : Ctor g qX3_init 3 2 2048 [.null, .null, .int 0] (PX3_init g) := by
  refine Ctor_of (by decide) rfl rfl (fun pre h0 => ?_)
  refine N_aload dX3_init_0 0 rfl ?_
  refine N_obj dX3_init_1 oi_X3 (Nat.le_of_ble_eq_true rfl) (Nat.le_of_ble_eq_true rfl) ?_
  refine N_aload dX3_init_4 0 rfl ?_
  refine N_sipush (v := 1024) dX3_init_5 (by decide +kernel) ?_
  refine N_newa (t0 := 1) (cA := g.2.2.2.1.2.1) (ty := .boolean) (N' := 1024) (a0 := (1024, .inl (fun _ => 0))) dX3_init_8 rfl rfl (fun _ _ => rfl) ar_boolean (fun _ => rfl) (by decide +kernel) (by decide +kernel) (by decide +kernel) (Nat.le_of_ble_eq_true rfl) (Nat.le_of_ble_eq_true rfl) (fun q1 => ?_)
  refine N_putF (ci := 3) (C := RX3) (T := TX3) (N := 3) (j := 0) (ty := (.array .boolean)) dX3_init_10 fkX3_9 rfl (by decide) rfl rfl rfl (by decide +kernel) rfl (Nat.le_of_ble_eq_true rfl) ?_
  refine N_aload dX3_init_13 0 rfl ?_
  refine N_sipush (v := 1024) dX3_init_14 (by decide +kernel) ?_
  refine N_newa (t0 := 0) (cA := g.2.2.2.1.1) (ty := .int) (N' := 1024) (a0 := (1024, .inl (fun _ => 0))) dX3_init_17 rfl rfl (fun _ _ => rfl) ar_int (fun _ => rfl) (by decide +kernel) (by decide +kernel) (by decide +kernel) (Nat.le_of_ble_eq_true rfl) (Nat.le_of_ble_eq_true rfl) (fun q2 => ?_)
  refine N_putF (ci := 3) (C := RX3) (T := TX3) (N := 3) (j := 1) (ty := (.array .int)) dX3_init_19 fkX3_15 rfl (by decide) rfl rfl rfl (by decide +kernel) rfl (Nat.le_of_ble_eq_true rfl) ?_
  exact N_vret dX3_init_22 rfl (Nat.le_of_ble_eq_true rfl) (Nat.le_of_ble_eq_true rfl) ⟨q1, q2, rfl, rfl⟩
theorem io_X3 : iOK qX3_init := ⟨wcX3_init, wiX3_init, wnX3, rfl, rfl, by decide +kernel, by decide +kernel, by decide +kernel⟩
def PX4_init (g : GG) (fs : List Value) (tl : va_W) : Prop := ∃ q1 q2 q3 q4 q5 q6 : Nat, fs = [.ref q1, .ref q2, .ref q3, .ref q4, .ref q5, .ref q6, .int 0, .int 0] ∧ tl = [(q1, .inl (g.2.2.2.1.2.1, (1024, .inl (fun _ => 0)))), (q2, .inl (g.2.2.2.1.2.1, (1024, .inl (fun _ => 0)))), (q3, .inl (g.2.2.2.1.1, (1024, .inl (fun _ => 0)))), (q4, .inl (g.2.2.2.1.1, (1024, .inl (fun _ => 0)))), (q5, .inl (g.2.2.2.1.1, (1024, .inl (fun _ => 0)))), (q6, .inl (g.2.2.2.1.1, (1024, .inl (fun _ => 0))))]
set_option maxRecDepth 8000 in
set_option maxHeartbeats 4000000 in
theorem n_X4 (g : GG) : Ctor g qX4_init 4 6 6144 [.null, .null, .null, .null, .null, .null, .int 0, .int 0] (PX4_init g) := by
  refine Ctor_of (by decide) rfl rfl (fun pre h0 => ?_)
  refine N_aload dX4_init_0 0 rfl ?_
  refine N_obj dX4_init_1 oi_X4 (Nat.le_of_ble_eq_true rfl) (Nat.le_of_ble_eq_true rfl) ?_
  refine N_aload dX4_init_4 0 rfl ?_
  refine N_sipush (v := 1024) dX4_init_5 (by decide +kernel) ?_
  refine N_newa (t0 := 1) (cA := g.2.2.2.1.2.1) (ty := .boolean) (N' := 1024) (a0 := (1024, .inl (fun _ => 0))) dX4_init_8 rfl rfl (fun _ _ => rfl) ar_boolean (fun _ => rfl) (by decide +kernel) (by decide +kernel) (by decide +kernel) (Nat.le_of_ble_eq_true rfl) (Nat.le_of_ble_eq_true rfl) (fun q1 => ?_)
  refine N_putF (ci := 4) (C := RX4) (T := TX4) (N := 8) (j := 0) (ty := (.array .boolean)) dX4_init_10 fkX4_9 rfl (by decide) rfl rfl rfl (by decide +kernel) rfl (Nat.le_of_ble_eq_true rfl) ?_
  refine N_aload dX4_init_13 0 rfl ?_
  refine N_sipush (v := 1024) dX4_init_14 (by decide +kernel) ?_
  refine N_newa (t0 := 1) (cA := g.2.2.2.1.2.1) (ty := .boolean) (N' := 1024) (a0 := (1024, .inl (fun _ => 0))) dX4_init_17 rfl rfl (fun _ _ => rfl) ar_boolean (fun _ => rfl) (by decide +kernel) (by decide +kernel) (by decide +kernel) (Nat.le_of_ble_eq_true rfl) (Nat.le_of_ble_eq_true rfl) (fun q2 => ?_)
  refine N_putF (ci := 4) (C := RX4) (T := TX4) (N := 8) (j := 1) (ty := (.array .boolean)) dX4_init_19 fkX4_15 rfl (by decide) rfl rfl rfl (by decide +kernel) rfl (Nat.le_of_ble_eq_true rfl) ?_
  refine N_aload dX4_init_22 0 rfl ?_
  refine N_sipush (v := 1024) dX4_init_23 (by decide +kernel) ?_
  refine N_newa (t0 := 0) (cA := g.2.2.2.1.1) (ty := .int) (N' := 1024) (a0 := (1024, .inl (fun _ => 0))) dX4_init_26 rfl rfl (fun _ _ => rfl) ar_int (fun _ => rfl) (by decide +kernel) (by decide +kernel) (by decide +kernel) (Nat.le_of_ble_eq_true rfl) (Nat.le_of_ble_eq_true rfl) (fun q3 => ?_)
  refine N_putF (ci := 4) (C := RX4) (T := TX4) (N := 8) (j := 2) (ty := (.array .int)) dX4_init_28 fkX4_18 rfl (by decide) rfl rfl rfl (by decide +kernel) rfl (Nat.le_of_ble_eq_true rfl) ?_
  refine N_aload dX4_init_31 0 rfl ?_
  refine N_sipush (v := 1024) dX4_init_32 (by decide +kernel) ?_
  refine N_newa (t0 := 0) (cA := g.2.2.2.1.1) (ty := .int) (N' := 1024) (a0 := (1024, .inl (fun _ => 0))) dX4_init_35 rfl rfl (fun _ _ => rfl) ar_int (fun _ => rfl) (by decide +kernel) (by decide +kernel) (by decide +kernel) (Nat.le_of_ble_eq_true rfl) (Nat.le_of_ble_eq_true rfl) (fun q4 => ?_)
  refine N_putF (ci := 4) (C := RX4) (T := TX4) (N := 8) (j := 3) (ty := (.array .int)) dX4_init_37 fkX4_22 rfl (by decide) rfl rfl rfl (by decide +kernel) rfl (Nat.le_of_ble_eq_true rfl) ?_
  refine N_aload dX4_init_40 0 rfl ?_
  refine N_sipush (v := 1024) dX4_init_41 (by decide +kernel) ?_
  refine N_newa (t0 := 0) (cA := g.2.2.2.1.1) (ty := .int) (N' := 1024) (a0 := (1024, .inl (fun _ => 0))) dX4_init_44 rfl rfl (fun _ _ => rfl) ar_int (fun _ => rfl) (by decide +kernel) (by decide +kernel) (by decide +kernel) (Nat.le_of_ble_eq_true rfl) (Nat.le_of_ble_eq_true rfl) (fun q5 => ?_)
  refine N_putF (ci := 4) (C := RX4) (T := TX4) (N := 8) (j := 4) (ty := (.array .int)) dX4_init_46 fkX4_25 rfl (by decide) rfl rfl rfl (by decide +kernel) rfl (Nat.le_of_ble_eq_true rfl) ?_
  refine N_aload dX4_init_49 0 rfl ?_
  refine N_sipush (v := 1024) dX4_init_50 (by decide +kernel) ?_
  refine N_newa (t0 := 0) (cA := g.2.2.2.1.1) (ty := .int) (N' := 1024) (a0 := (1024, .inl (fun _ => 0))) dX4_init_53 rfl rfl (fun _ _ => rfl) ar_int (fun _ => rfl) (by decide +kernel) (by decide +kernel) (by decide +kernel) (Nat.le_of_ble_eq_true rfl) (Nat.le_of_ble_eq_true rfl) (fun q6 => ?_)
  refine N_putF (ci := 4) (C := RX4) (T := TX4) (N := 8) (j := 5) (ty := (.array .int)) dX4_init_55 fkX4_28 rfl (by decide) rfl rfl rfl (by decide +kernel) rfl (Nat.le_of_ble_eq_true rfl) ?_
  exact N_vret dX4_init_58 rfl (Nat.le_of_ble_eq_true rfl) (Nat.le_of_ble_eq_true rfl) ⟨q1, q2, q3, q4, q5, q6, rfl, rfl⟩
theorem io_X4 : iOK qX4_init := ⟨wcX4_init, wiX4_init, wnX4, rfl, rfl, by decide +kernel, by decide +kernel, by decide +kernel⟩
def PX5_init (g : GG) (fs : List Value) (tl : va_W) : Prop := ∃ q1 : Nat, fs = [.ref q1] ∧ tl = [(q1, .inl (g.2.2.2.1.1, (1024, .inl (fun _ => 0))))]
set_option maxRecDepth 8000 in
set_option maxHeartbeats 4000000 in
theorem n_X5 (g : GG) : Ctor g qX5_init 5 1 1024 [.null] (PX5_init g) := by
  refine Ctor_of (by decide) rfl rfl (fun pre h0 => ?_)
  refine N_aload dX5_init_0 0 rfl ?_
  refine N_obj dX5_init_1 oi_X5 (Nat.le_of_ble_eq_true rfl) (Nat.le_of_ble_eq_true rfl) ?_
  refine N_aload dX5_init_4 0 rfl ?_
  refine N_sipush (v := 1024) dX5_init_5 (by decide +kernel) ?_
  refine N_newa (t0 := 0) (cA := g.2.2.2.1.1) (ty := .int) (N' := 1024) (a0 := (1024, .inl (fun _ => 0))) dX5_init_8 rfl rfl (fun _ _ => rfl) ar_int (fun _ => rfl) (by decide +kernel) (by decide +kernel) (by decide +kernel) (Nat.le_of_ble_eq_true rfl) (Nat.le_of_ble_eq_true rfl) (fun q1 => ?_)
  refine N_putF (ci := 5) (C := RX5) (T := TX5) (N := 1) (j := 0) (ty := (.array .int)) dX5_init_10 fkX5_9 rfl (by decide) rfl rfl rfl (by decide +kernel) rfl (Nat.le_of_ble_eq_true rfl) ?_
  exact N_vret dX5_init_13 rfl (Nat.le_of_ble_eq_true rfl) (Nat.le_of_ble_eq_true rfl) ⟨q1, rfl, rfl⟩
theorem io_X5 : iOK qX5_init := ⟨wcX5_init, wiX5_init, wnX5, rfl, rfl, by decide +kernel, by decide +kernel, by decide +kernel⟩
def PX7_init (g : GG) (fs : List Value) (tl : va_W) : Prop := ∃ q1 q2 : Nat, fs = [.ref q1, .ref q2] ∧ tl = [(q1, .inl (g.2.2.2.1.2.2, (1024, .inr (.inl (fun _ => 0))))), (q2, .inl (g.2.2.2.1.2.2, (1024, .inr (.inl (fun _ => 0)))))]
set_option maxRecDepth 8000 in
set_option maxHeartbeats 4000000 in
theorem n_X7 (g : GG) : Ctor g qX7_init 7 2 2048 [.null, .null] (PX7_init g) := by
  refine Ctor_of (by decide) rfl rfl (fun pre h0 => ?_)
  refine N_aload dX7_init_0 0 rfl ?_
  refine N_obj dX7_init_1 oi_X7 (Nat.le_of_ble_eq_true rfl) (Nat.le_of_ble_eq_true rfl) ?_
  refine N_aload dX7_init_4 0 rfl ?_
  refine N_sipush (v := 1024) dX7_init_5 (by decide +kernel) ?_
  refine N_newa (t0 := 2) (cA := g.2.2.2.1.2.2) (ty := .long) (N' := 1024) (a0 := (1024, .inr (.inl (fun _ => 0)))) dX7_init_8 rfl rfl (fun _ _ => rfl) ar_long (fun _ => rfl) (by decide +kernel) (by decide +kernel) (by decide +kernel) (Nat.le_of_ble_eq_true rfl) (Nat.le_of_ble_eq_true rfl) (fun q1 => ?_)
  refine N_put (ci := 7) (C := RX7) (T := TX7) (N := 2) (j := 0) (ty := (.array .long)) dX7_init_10 fkX7_9 rfl (by decide) rfl (by decide +kernel) rfl (Nat.le_of_ble_eq_true rfl) ?_
  refine N_aload dX7_init_13 0 rfl ?_
  refine N_sipush (v := 1024) dX7_init_14 (by decide +kernel) ?_
  refine N_newa (t0 := 2) (cA := g.2.2.2.1.2.2) (ty := .long) (N' := 1024) (a0 := (1024, .inr (.inl (fun _ => 0)))) dX7_init_17 rfl rfl (fun _ _ => rfl) ar_long (fun _ => rfl) (by decide +kernel) (by decide +kernel) (by decide +kernel) (Nat.le_of_ble_eq_true rfl) (Nat.le_of_ble_eq_true rfl) (fun q2 => ?_)
  refine N_put (ci := 7) (C := RX7) (T := TX7) (N := 2) (j := 1) (ty := (.array .long)) dX7_init_19 fkX7_15 rfl (by decide) rfl (by decide +kernel) rfl (Nat.le_of_ble_eq_true rfl) ?_
  exact N_vret dX7_init_22 rfl (Nat.le_of_ble_eq_true rfl) (Nat.le_of_ble_eq_true rfl) ⟨q1, q2, rfl, rfl⟩
theorem io_X7 : iOK qX7_init := ⟨wcX7_init, wiX7_init, wnX7, rfl, rfl, by decide +kernel, by decide +kernel, by decide +kernel⟩
def PX8_init (g : GG) (fs : List Value) (tl : va_W) : Prop := ∃ q1 q2 q3 q4 q5 q6 q7 q8 q9 q10 : Nat, fs = [.ref q1, .ref q2, .ref q3, .ref q4, .ref q5, .ref q6, .ref q7, .ref q8, .ref q9, .ref q10, .int 0, .int 0, .int 0, .int 0, .int 0, .int 0, .int 0] ∧ tl = [(q1, .inl (g.2.2.2.1.1, (32, .inl (fun _ => 0)))), (q2, .inl (g.2.2.2.1.1, (32, .inl (fun _ => 0)))), (q3, .inl (g.2.2.2.1.1, (32, .inl (fun _ => 0)))), (q4, .inl (g.2.2.2.1.1, (32, .inl (fun _ => 0)))), (q5, .inl (g.2.2.2.1.1, (96, .inl (fun _ => 0)))), (q6, .inl (g.2.2.2.1.1, (96, .inl (fun _ => 0)))), (q7, .inl (g.2.2.2.1.1, (32, .inl (fun _ => 0)))), (q8, .inl (g.2.2.2.1.1, (32, .inl (fun _ => 0)))), (q9, .inl (g.2.2.2.1.1, (32, .inl (fun _ => 0)))), (q10, .inl (g.2.2.2.1.1, (17, .inl (fun _ => 0))))]
set_option maxRecDepth 8000 in
set_option maxHeartbeats 4000000 in
theorem n_X8 (g : GG) : Ctor g qX8_init 8 10 433 [.null, .null, .null, .null, .null, .null, .null, .null, .null, .null, .int 0, .int 0, .int 0, .int 0, .int 0, .int 0, .int 0] (PX8_init g) := by
  refine Ctor_of (by decide) rfl rfl (fun pre h0 => ?_)
  refine N_aload dX8_init_0 0 rfl ?_
  refine N_obj dX8_init_1 oi_X8 (Nat.le_of_ble_eq_true rfl) (Nat.le_of_ble_eq_true rfl) ?_
  refine N_aload dX8_init_4 0 rfl ?_
  refine N_bipush (v := 32) dX8_init_5 (by decide +kernel) ?_
  refine N_newa (t0 := 0) (cA := g.2.2.2.1.1) (ty := .int) (N' := 32) (a0 := (32, .inl (fun _ => 0))) dX8_init_7 rfl rfl (fun _ _ => rfl) ar_int (fun _ => rfl) (by decide +kernel) (by decide +kernel) (by decide +kernel) (Nat.le_of_ble_eq_true rfl) (Nat.le_of_ble_eq_true rfl) (fun q1 => ?_)
  refine N_putF (ci := 8) (C := RX8) (T := TX8) (N := 17) (j := 0) (ty := (.array .int)) dX8_init_9 fkX8_9 rfl (by decide) rfl rfl rfl (by decide +kernel) rfl (Nat.le_of_ble_eq_true rfl) ?_
  refine N_aload dX8_init_12 0 rfl ?_
  refine N_bipush (v := 32) dX8_init_13 (by decide +kernel) ?_
  refine N_newa (t0 := 0) (cA := g.2.2.2.1.1) (ty := .int) (N' := 32) (a0 := (32, .inl (fun _ => 0))) dX8_init_15 rfl rfl (fun _ _ => rfl) ar_int (fun _ => rfl) (by decide +kernel) (by decide +kernel) (by decide +kernel) (Nat.le_of_ble_eq_true rfl) (Nat.le_of_ble_eq_true rfl) (fun q2 => ?_)
  refine N_putF (ci := 8) (C := RX8) (T := TX8) (N := 17) (j := 1) (ty := (.array .int)) dX8_init_17 fkX8_15 rfl (by decide) rfl rfl rfl (by decide +kernel) rfl (Nat.le_of_ble_eq_true rfl) ?_
  refine N_aload dX8_init_20 0 rfl ?_
  refine N_bipush (v := 32) dX8_init_21 (by decide +kernel) ?_
  refine N_newa (t0 := 0) (cA := g.2.2.2.1.1) (ty := .int) (N' := 32) (a0 := (32, .inl (fun _ => 0))) dX8_init_23 rfl rfl (fun _ _ => rfl) ar_int (fun _ => rfl) (by decide +kernel) (by decide +kernel) (by decide +kernel) (Nat.le_of_ble_eq_true rfl) (Nat.le_of_ble_eq_true rfl) (fun q3 => ?_)
  refine N_putF (ci := 8) (C := RX8) (T := TX8) (N := 17) (j := 2) (ty := (.array .int)) dX8_init_25 fkX8_18 rfl (by decide) rfl rfl rfl (by decide +kernel) rfl (Nat.le_of_ble_eq_true rfl) ?_
  refine N_aload dX8_init_28 0 rfl ?_
  refine N_bipush (v := 32) dX8_init_29 (by decide +kernel) ?_
  refine N_newa (t0 := 0) (cA := g.2.2.2.1.1) (ty := .int) (N' := 32) (a0 := (32, .inl (fun _ => 0))) dX8_init_31 rfl rfl (fun _ _ => rfl) ar_int (fun _ => rfl) (by decide +kernel) (by decide +kernel) (by decide +kernel) (Nat.le_of_ble_eq_true rfl) (Nat.le_of_ble_eq_true rfl) (fun q4 => ?_)
  refine N_putF (ci := 8) (C := RX8) (T := TX8) (N := 17) (j := 3) (ty := (.array .int)) dX8_init_33 fkX8_21 rfl (by decide) rfl rfl rfl (by decide +kernel) rfl (Nat.le_of_ble_eq_true rfl) ?_
  refine N_aload dX8_init_36 0 rfl ?_
  refine N_bipush (v := 96) dX8_init_37 (by decide +kernel) ?_
  refine N_newa (t0 := 0) (cA := g.2.2.2.1.1) (ty := .int) (N' := 96) (a0 := (96, .inl (fun _ => 0))) dX8_init_39 rfl rfl (fun _ _ => rfl) ar_int (fun _ => rfl) (by decide +kernel) (by decide +kernel) (by decide +kernel) (Nat.le_of_ble_eq_true rfl) (Nat.le_of_ble_eq_true rfl) (fun q5 => ?_)
  refine N_putF (ci := 8) (C := RX8) (T := TX8) (N := 17) (j := 4) (ty := (.array .int)) dX8_init_41 fkX8_24 rfl (by decide) rfl rfl rfl (by decide +kernel) rfl (Nat.le_of_ble_eq_true rfl) ?_
  refine N_aload dX8_init_44 0 rfl ?_
  refine N_bipush (v := 96) dX8_init_45 (by decide +kernel) ?_
  refine N_newa (t0 := 0) (cA := g.2.2.2.1.1) (ty := .int) (N' := 96) (a0 := (96, .inl (fun _ => 0))) dX8_init_47 rfl rfl (fun _ _ => rfl) ar_int (fun _ => rfl) (by decide +kernel) (by decide +kernel) (by decide +kernel) (Nat.le_of_ble_eq_true rfl) (Nat.le_of_ble_eq_true rfl) (fun q6 => ?_)
  refine N_putF (ci := 8) (C := RX8) (T := TX8) (N := 17) (j := 5) (ty := (.array .int)) dX8_init_49 fkX8_27 rfl (by decide) rfl rfl rfl (by decide +kernel) rfl (Nat.le_of_ble_eq_true rfl) ?_
  refine N_aload dX8_init_52 0 rfl ?_
  refine N_bipush (v := 32) dX8_init_53 (by decide +kernel) ?_
  refine N_newa (t0 := 0) (cA := g.2.2.2.1.1) (ty := .int) (N' := 32) (a0 := (32, .inl (fun _ => 0))) dX8_init_55 rfl rfl (fun _ _ => rfl) ar_int (fun _ => rfl) (by decide +kernel) (by decide +kernel) (by decide +kernel) (Nat.le_of_ble_eq_true rfl) (Nat.le_of_ble_eq_true rfl) (fun q7 => ?_)
  refine N_putF (ci := 8) (C := RX8) (T := TX8) (N := 17) (j := 6) (ty := (.array .int)) dX8_init_57 fkX8_30 rfl (by decide) rfl rfl rfl (by decide +kernel) rfl (Nat.le_of_ble_eq_true rfl) ?_
  refine N_aload dX8_init_60 0 rfl ?_
  refine N_bipush (v := 32) dX8_init_61 (by decide +kernel) ?_
  refine N_newa (t0 := 0) (cA := g.2.2.2.1.1) (ty := .int) (N' := 32) (a0 := (32, .inl (fun _ => 0))) dX8_init_63 rfl rfl (fun _ _ => rfl) ar_int (fun _ => rfl) (by decide +kernel) (by decide +kernel) (by decide +kernel) (Nat.le_of_ble_eq_true rfl) (Nat.le_of_ble_eq_true rfl) (fun q8 => ?_)
  refine N_putF (ci := 8) (C := RX8) (T := TX8) (N := 17) (j := 7) (ty := (.array .int)) dX8_init_65 fkX8_33 rfl (by decide) rfl rfl rfl (by decide +kernel) rfl (Nat.le_of_ble_eq_true rfl) ?_
  refine N_aload dX8_init_68 0 rfl ?_
  refine N_bipush (v := 32) dX8_init_69 (by decide +kernel) ?_
  refine N_newa (t0 := 0) (cA := g.2.2.2.1.1) (ty := .int) (N' := 32) (a0 := (32, .inl (fun _ => 0))) dX8_init_71 rfl rfl (fun _ _ => rfl) ar_int (fun _ => rfl) (by decide +kernel) (by decide +kernel) (by decide +kernel) (Nat.le_of_ble_eq_true rfl) (Nat.le_of_ble_eq_true rfl) (fun q9 => ?_)
  refine N_putF (ci := 8) (C := RX8) (T := TX8) (N := 17) (j := 8) (ty := (.array .int)) dX8_init_73 fkX8_36 rfl (by decide) rfl rfl rfl (by decide +kernel) rfl (Nat.le_of_ble_eq_true rfl) ?_
  refine N_aload dX8_init_76 0 rfl ?_
  refine N_bipush (v := 17) dX8_init_77 (by decide +kernel) ?_
  refine N_newa (t0 := 0) (cA := g.2.2.2.1.1) (ty := .int) (N' := 17) (a0 := (17, .inl (fun _ => 0))) dX8_init_79 rfl rfl (fun _ _ => rfl) ar_int (fun _ => rfl) (by decide +kernel) (by decide +kernel) (by decide +kernel) (Nat.le_of_ble_eq_true rfl) (Nat.le_of_ble_eq_true rfl) (fun q10 => ?_)
  refine N_putF (ci := 8) (C := RX8) (T := TX8) (N := 17) (j := 9) (ty := (.array .int)) dX8_init_81 fkX8_39 rfl (by decide) rfl rfl rfl (by decide +kernel) rfl (Nat.le_of_ble_eq_true rfl) ?_
  exact N_vret dX8_init_84 rfl (Nat.le_of_ble_eq_true rfl) (Nat.le_of_ble_eq_true rfl) ⟨q1, q2, q3, q4, q5, q6, q7, q8, q9, q10, rfl, rfl⟩
theorem io_X8 : iOK qX8_init := ⟨wcX8_init, wiX8_init, wnX8, rfl, rfl, by decide +kernel, by decide +kernel, by decide +kernel⟩
