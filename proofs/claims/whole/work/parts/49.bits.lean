-- bitCount
theorem and_256 {a b c d : Nat} (ha : a < 256) (hc : c < 256) : (a + 256 * b) &&& (c + 256 * d) = (a &&& c) + 256 * (b &&& d) := by
  have h1 : ((a + 256 * b) &&& (c + 256 * d)) % 2 ^ 8 = a &&& c := by
    rw [Nat.and_mod_two_pow, show (a + 256 * b) % 2 ^ 8 = a by omega, show (c + 256 * d) % 2 ^ 8 = c by omega]
  have h2 : ((a + 256 * b) &&& (c + 256 * d)) / 2 ^ 8 = b &&& d := by
    rw [Nat.and_div_two_pow, show (a + 256 * b) / 2 ^ 8 = b by omega, show (c + 256 * d) / 2 ^ 8 = d by omega]
  omega
def bc1 (m x : Nat) : Nat := x - (x / 2 ^ 1 &&& m)
def bc2 (m x : Nat) : Nat := (x &&& m) + (x / 2 ^ 2 &&& m)
def bc3 (m x : Nat) : Nat := (x + x / 2 ^ 4) &&& m
theorem b1_k : ∀ u, u < 256 → ∀ e, e < 2 → (u / 2 + 128 * e) &&& 85 = u / 2 &&& 85 := by decide +kernel
theorem b2_k : ∀ u, u < 256 → ∀ e, e < 4 → (u / 4 + 64 * e) &&& 51 = u / 4 &&& 51 := by decide +kernel
theorem b3_k : ∀ u, u < 80 → ∀ e, e < 8 → (u + u / 16 + 16 * e) &&& 15 = (u + u / 16) &&& 15 := by decide +kernel
theorem bc1_s {u V m : Nat} (hu : u < 256) : bc1 (85 + 256 * m) (u + 256 * V) = bc1 85 u + 256 * bc1 m V := by
  unfold bc1
  rw [show (u + 256 * V) / 2 ^ 1 = (u / 2 + 128 * (V % 2)) + 256 * (V / 2) by omega, and_256 (by omega) (by decide), b1_k u hu _ (by omega)]
  have h1 : u / 2 &&& 85 ≤ u / 2 := Nat.and_le_left
  have h2 : V / 2 &&& m ≤ V / 2 := Nat.and_le_left
  rw [show (2 : Nat) ^ 1 = 2 from rfl]
  omega
theorem bc2_s {u V m : Nat} (hu : u < 256) : bc2 (51 + 256 * m) (u + 256 * V) = bc2 51 u + 256 * bc2 m V := by
  unfold bc2
  rw [show (u + 256 * V) / 2 ^ 2 = (u / 4 + 64 * (V % 4)) + 256 * (V / 4) by omega, and_256 (by omega) (by decide), and_256 (by omega) (by decide), b2_k u hu _ (by omega)]
  rw [show (2 : Nat) ^ 2 = 4 from rfl]
  omega
theorem bc3_s {u V m : Nat} (hu : u < 80) (hV : V % 16 < 8) : bc3 (15 + 256 * m) (u + 256 * V) = bc3 15 u + 256 * bc3 m V := by
  unfold bc3
  rw [show (u + 256 * V) + (u + 256 * V) / 2 ^ 4 = (u + u / 16 + 16 * (V % 16)) + 256 * (V + V / 16) by omega, and_256 (by omega) (by decide), b3_k u hu _ hV]
theorem by_k : ∀ b, b < 256 → bc1 85 b < 256 ∧ bc2 51 (bc1 85 b) < 80 ∧ bc2 51 (bc1 85 b) % 16 < 8 ∧ bc3 15 (bc2 51 (bc1 85 b)) = cntN (fun i => b.testBit i) 8 := by decide +kernel
theorem cntN_add {f : Nat → Bool} {n : Nat} : ∀ m, cntN f (n + m) = cntN f n + cntN (fun i => f (n + i)) m
  | 0 => rfl
  | m + 1 => by
    show cntN f (n + m) + _ = cntN f n + (cntN (fun i => f (n + i)) m + _)
    rw [cntN_add m]
    exact Nat.add_assoc _ _ _
theorem cnt_256 {b V n : Nat} (hb : b < 256) : cntN (fun i => (b + 256 * V).testBit i) (8 + n) = cntN (fun i => b.testBit i) 8 + cntN (fun i => V.testBit i) n := by
  have e : ∀ j, (b + 256 * V).testBit j = if j < 8 then b.testBit j else V.testBit (j - 8) := fun j => by
    rw [Nat.add_comm, show 256 * V = 2 ^ 8 * V from rfl, Nat.testBit_two_pow_mul_add V (by exact hb) j]
  rw [cntN_add]
  congr 1
  · exact cntN_cong (fun t ht => by rw [e, if_pos ht])
  · exact cntN_cong (fun t _ => by rw [e, if_neg (by omega), Nat.add_sub_cancel_left])
theorem bcount {C : Nat} (hC : C < 2 ^ 32) : (let w := bc3 252645135 (bc2 858993459 (bc1 1431655765 C)); let v := w + w / 2 ^ 8; (v + v / 2 ^ 16) &&& 63) = cntN (fun i => C.testBit i) 32 := by
  obtain ⟨b0, b1, b2, b3, h0, h1, h2, h3, e⟩ : ∃ b0 b1 b2 b3, b0 < 256 ∧ b1 < 256 ∧ b2 < 256 ∧ b3 < 256 ∧ C = b0 + 256 * (b1 + 256 * (b2 + 256 * b3)) := ⟨C % 256, C / 256 % 256, C / 65536 % 256, C / 16777216, by omega, by omega, by omega, by omega, by omega⟩
  subst e
  obtain ⟨p0, q0, r0, s0⟩ := by_k b0 h0
  obtain ⟨p1, q1, r1, s1⟩ := by_k b1 h1
  obtain ⟨p2, q2, r2, s2⟩ := by_k b2 h2
  obtain ⟨p3, q3, r3, s3⟩ := by_k b3 h3
  rw [show (1431655765 : Nat) = 85 + 256 * (85 + 256 * (85 + 256 * 85)) from rfl, bc1_s h0, bc1_s h1, bc1_s h2]
  rw [show (858993459 : Nat) = 51 + 256 * (51 + 256 * (51 + 256 * 51)) from rfl, bc2_s p0, bc2_s p1, bc2_s p2]
  rw [show (252645135 : Nat) = 15 + 256 * (15 + 256 * (15 + 256 * 15)) from rfl, bc3_s q0 (by omega), bc3_s q1 (by omega), bc3_s q2 r3, s0, s1, s2, s3]
  have k0 := cntN_le (fun i => b0.testBit i) 8
  have k1 := cntN_le (fun i => b1.testBit i) 8
  have k2 := cntN_le (fun i => b2.testBit i) 8
  have k3 := cntN_le (fun i => b3.testBit i) 8
  rw [show (32 : Nat) = 8 + (8 + (8 + 8)) from rfl, cnt_256 h0, cnt_256 h1, cnt_256 h2]
  generalize cntN (fun i => b0.testBit i) 8 = w0 at *
  generalize cntN (fun i => b1.testBit i) 8 = w1 at *
  generalize cntN (fun i => b2.testBit i) 8 = w2 at *
  generalize cntN (fun i => b3.testBit i) 8 = w3 at *
  dsimp only
  rw [show (63 : Nat) = 2 ^ 6 - 1 from rfl, Nat.and_two_pow_sub_one_eq_mod]
  clear p0 p1 p2 p3 q0 q1 q2 q3 r0 r1 r2 r3 s0 s1 s2 s3 hC h0 h1 h2 h3
  rw [show (w0 + 256 * (w1 + 256 * (w2 + 256 * w3))) / 2 ^ 8 = w1 + 256 * (w2 + 256 * w3) by omega]
  rw [show (w0 + 256 * (w1 + 256 * (w2 + 256 * w3)) + (w1 + 256 * (w2 + 256 * w3))) / 2 ^ 16 = w2 + w3 + 256 * w3 by omega]
  omega
section J3
variable {g : GG} {M : AM}
theorem c_bitCount {C : Nat} (hC : C < 2 ^ 32) : Call g qJ6_bitCount_0f7a4 [.int (nI C)] M (Rt (nI (cntN (fun i => C.testBit i) 32)) M) := by
  have l1 : C / 2 ^ 1 &&& 1431655765 ≤ C := Nat.le_trans Nat.and_le_left (Nat.div_le_self _ _)
  have l2 : C - (C / 2 ^ 1 &&& 1431655765) < 2 ^ 32 := by omega
  have l3 : ∀ y, (y &&& 858993459) + (y / 2 ^ 2 &&& 858993459) < 2 ^ 32 := fun y => by
    have h1 : y &&& 858993459 ≤ 858993459 := Nat.and_le_right
    have h2 : y / 2 ^ 2 &&& 858993459 ≤ 858993459 := Nat.and_le_right
    omega
  have l4 : ∀ z, z &&& 252645135 < 2 ^ 32 := fun z => by
    have h1 : z &&& 252645135 ≤ 252645135 := Nat.and_le_right
    omega
  have l5 : ∀ z, (z &&& 252645135) + (z &&& 252645135) / 2 ^ 8 < 2 ^ 32 := fun z => by
    have h1 : z &&& 252645135 ≤ 252645135 := Nat.and_le_right
    omega
  have hb := bcount hC
  dsimp only [bc1, bc2, bc3] at hb
  refine Call_of (ls0 := [some (.int (nI C))]) rfl rfl (Nat.le_of_ble_eq_true rfl) ?_
  refine E_iload_n dJ6_bitCount_0f7a4_0 rfl ?_
  refine E_iload_n dJ6_bitCount_0f7a4_1 rfl ?_
  refine E_iconst (v := nI 1) dJ6_bitCount_0f7a4_2 rfl ?_
  refine E_iushrN dJ6_bitCount_0f7a4_3 hC (by decide) ?_
  refine E_ldcw dJ6_bitCount_0f7a4_4 ckJ6_265 ?_
  refine E_top ((show (1431655765 : Int32) = nI 1431655765 from rfl)) ?_
  refine E_iandN dJ6_bitCount_0f7a4_7 ?_
  refine E_isubN dJ6_bitCount_0f7a4_8 l1 ?_
  refine E_ist_n (i := 0) dJ6_bitCount_0f7a4_9 rfl (by decide) rfl ?_
  refine E_iload_n dJ6_bitCount_0f7a4_10 rfl ?_
  refine E_ldcw dJ6_bitCount_0f7a4_11 ckJ6_266 ?_
  refine E_top ((show (858993459 : Int32) = nI 858993459 from rfl)) ?_
  refine E_iandN dJ6_bitCount_0f7a4_14 ?_
  refine E_iload_n dJ6_bitCount_0f7a4_15 rfl ?_
  refine E_iconst (v := nI 2) dJ6_bitCount_0f7a4_16 rfl ?_
  refine E_iushrN dJ6_bitCount_0f7a4_17 l2 (by decide) ?_
  refine E_ldcw dJ6_bitCount_0f7a4_18 ckJ6_266 ?_
  refine E_top ((show (858993459 : Int32) = nI 858993459 from rfl)) ?_
  refine E_iandN dJ6_bitCount_0f7a4_21 ?_
  refine E_iaddN dJ6_bitCount_0f7a4_22 ?_
  refine E_ist_n (i := 0) dJ6_bitCount_0f7a4_23 rfl (by decide) rfl ?_
  refine E_iload_n dJ6_bitCount_0f7a4_24 rfl ?_
  refine E_iload_n dJ6_bitCount_0f7a4_25 rfl ?_
  refine E_iconst (v := nI 4) dJ6_bitCount_0f7a4_26 rfl ?_
  refine E_iushrN dJ6_bitCount_0f7a4_27 (l3 _) (by decide) ?_
  refine E_iaddN dJ6_bitCount_0f7a4_28 ?_
  refine E_ldcw dJ6_bitCount_0f7a4_29 ckJ6_267 ?_
  refine E_top ((show (252645135 : Int32) = nI 252645135 from rfl)) ?_
  refine E_iandN dJ6_bitCount_0f7a4_32 ?_
  refine E_ist_n (i := 0) dJ6_bitCount_0f7a4_33 rfl (by decide) rfl ?_
  refine E_iload_n dJ6_bitCount_0f7a4_34 rfl ?_
  refine E_iload_n dJ6_bitCount_0f7a4_35 rfl ?_
  refine E_bipush (v := nI 8) dJ6_bitCount_0f7a4_36 rfl ?_
  refine E_iushrN dJ6_bitCount_0f7a4_38 (l4 _) (by decide) ?_
  refine E_iaddN dJ6_bitCount_0f7a4_39 ?_
  refine E_ist_n (i := 0) dJ6_bitCount_0f7a4_40 rfl (by decide) rfl ?_
  refine E_iload_n dJ6_bitCount_0f7a4_41 rfl ?_
  refine E_iload_n dJ6_bitCount_0f7a4_42 rfl ?_
  refine E_bipush (v := nI 16) dJ6_bitCount_0f7a4_43 rfl ?_
  refine E_iushrN dJ6_bitCount_0f7a4_45 (l5 _) (by decide) ?_
  refine E_iaddN dJ6_bitCount_0f7a4_46 ?_
  refine E_ist_n (i := 0) dJ6_bitCount_0f7a4_47 rfl (by decide) rfl ?_
  refine E_iload_n dJ6_bitCount_0f7a4_48 rfl ?_
  refine E_bipush (v := nI 63) dJ6_bitCount_0f7a4_49 rfl ?_
  refine E_iandN dJ6_bitCount_0f7a4_51 ?_
  refine E_iret dJ6_bitCount_0f7a4_52 rfl ?_
  exact Rt_n hb
end J3
