/-! ===== how many bits there are, in all ===== -/
theorem bc_nat (x : Int64) : bc x = nI (pc8 (by_j x.toBitVec.toNat 0) + pc8 (by_j x.toBitVec.toNat 1) + pc8 (by_j x.toBitVec.toNat 2) + pc8 (by_j x.toBitVec.toNat 3) + pc8 (by_j x.toBitVec.toNat 4) + pc8 (by_j x.toBitVec.toNat 5) + pc8 (by_j x.toBitVec.toNat 6) + pc8 (by_j x.toBitVec.toNat 7)) := by
  have hx := x.toBitVec.isLt
  have n1 : (bc_1 x).toBitVec.toNat = b1f 6148914691236517205 x.toBitVec.toNat := by
    unfold bc_1 b1f
    have e : ((x.toUInt64 >>> ((1 : Int32).toInt64.toUInt64 &&& Int64.toUInt64 63)).toInt64 &&& 6148914691236517205).toBitVec.toNat = (x.toBitVec.toNat / 2) &&& 6148914691236517205 := by
      rw [i64_and, i64_shr x _ 1 (by decide)]
      rfl
    have le : (x.toBitVec.toNat / 2) &&& 6148914691236517205 ≤ x.toBitVec.toNat / 2 := Nat.and_le_left
    rw [i64_sub (by rw [e]; omega), e]
  have h1 : (bc_1 x).toBitVec.toNat < 2 ^ 64 := (bc_1 x).toBitVec.isLt
  have n2 : (bc_2 (bc_1 x)).toBitVec.toNat = b2f 3689348814741910323 (b1f 6148914691236517205 x.toBitVec.toNat) := by
    unfold bc_2 b2f
    rw [i64_add, i64_and, i64_and, i64_shr _ _ 2 (by decide), n1]
    show ((_ &&& 3689348814741910323) + (_ &&& 3689348814741910323)) % _ = _
    have l1 : b1f 6148914691236517205 x.toBitVec.toNat &&& 3689348814741910323 ≤ 3689348814741910323 := Nat.and_le_right
    have l2 : b1f 6148914691236517205 x.toBitVec.toNat / 2 ^ 2 &&& 3689348814741910323 ≤ 3689348814741910323 := Nat.and_le_right
    rw [Nat.mod_eq_of_lt (Nat.lt_of_le_of_lt (Nat.add_le_add l1 l2) (by decide))]
  have ball := b_all x.toBitVec.toNat hx
  have b2le : b2f 3689348814741910323 (b1f 6148914691236517205 x.toBitVec.toNat) ≤ 7378697629483820646 := by
    unfold b2f
    have l1 : b1f 6148914691236517205 x.toBitVec.toNat &&& 3689348814741910323 ≤ 3689348814741910323 := Nat.and_le_right
    have l2 : b1f 6148914691236517205 x.toBitVec.toNat / 4 &&& 3689348814741910323 ≤ 3689348814741910323 := Nat.and_le_right
    exact Nat.add_le_add l1 l2
  have n3 : (bc_3 (bc_2 (bc_1 x))).toBitVec.toNat = b3f 1085102592571150095 (b2f 3689348814741910323 (b1f 6148914691236517205 x.toBitVec.toNat)) := by
    unfold bc_3 b3f
    rw [i64_and, i64_add, i64_shr _ _ 4 (by decide), n2]
    show _ % _ &&& 1085102592571150095 = _
    generalize b2f 3689348814741910323 (b1f 6148914691236517205 x.toBitVec.toNat) = y at b2le
    rw [Nat.mod_eq_of_lt (by omega)]
  rw [ball] at n3
  have k0 := pc8_le (by_j x.toBitVec.toNat 0)
  have k1 := pc8_le (by_j x.toBitVec.toNat 1)
  have k2 := pc8_le (by_j x.toBitVec.toNat 2)
  have k3 := pc8_le (by_j x.toBitVec.toNat 3)
  have k4 := pc8_le (by_j x.toBitVec.toNat 4)
  have k5 := pc8_le (by_j x.toBitVec.toNat 5)
  have k6 := pc8_le (by_j x.toBitVec.toNat 6)
  have k7 := pc8_le (by_j x.toBitVec.toNat 7)
  generalize pc8 (by_j x.toBitVec.toNat 0) = c0 at *
  generalize pc8 (by_j x.toBitVec.toNat 1) = c1 at *
  generalize pc8 (by_j x.toBitVec.toNat 2) = c2 at *
  generalize pc8 (by_j x.toBitVec.toNat 3) = c3 at *
  generalize pc8 (by_j x.toBitVec.toNat 4) = c4 at *
  generalize pc8 (by_j x.toBitVec.toNat 5) = c5 at *
  generalize pc8 (by_j x.toBitVec.toNat 6) = c6 at *
  generalize pc8 (by_j x.toBitVec.toNat 7) = c7 at *
  unfold bc
  generalize bc_3 (bc_2 (bc_1 x)) = y at n3 ⊢
  have n4 : (bc_4 y).toBitVec.toNat = (c0 + c1) + 256 * ((c1 + c2) + 256 * ((c2 + c3) + 256 * ((c3 + c4) + 256 * ((c4 + c5) + 256 * ((c5 + c6) + 256 * ((c6 + c7) + 256 * c7)))))) := by
    unfold bc_4
    rw [i64_add, i64_shr _ _ 8 (by decide), n3]
    omega
  have n5 : (bc_5 (bc_4 y)).toBitVec.toNat % 65536 = ((c0 + c1) + (c2 + c3)) + 256 * ((c1 + c2) + (c3 + c4)) ∧ (bc_5 (bc_4 y)).toBitVec.toNat / 2 ^ 32 % 256 = (c4 + c5) + (c6 + c7) := by
    unfold bc_5
    rw [i64_add, i64_shr _ _ 16 (by decide), n4]
    omega
  have n6 : (bc_6 (bc_5 (bc_4 y))).toBitVec.toNat % 128 = c0 + c1 + c2 + c3 + c4 + c5 + c6 + c7 := by
    unfold bc_6
    rw [i64_add, i64_shr _ _ 32 (by decide)]
    obtain ⟨m1, m2⟩ := n5
    generalize (bc_5 (bc_4 y)).toBitVec.toNat = w at m1 m2
    omega
  rw [pk_and _ (m := 127) 7 (by decide)]
  have e : (bc_6 (bc_5 (bc_4 y))).toInt32.toBitVec.toNat = (bc_6 (bc_5 (bc_4 y))).toBitVec.toNat % 2 ^ 32 := by
    rw [Int64.toBitVec_toInt32, BitVec.toNat_setWidth]
  rw [e]
  congr 1
  omega
theorem pc8_bit (x j : Nat) : pc8 (by_j x j) = ct (fun i => x.testBit (8 * j + i)) 8 := by
  unfold pc8
  refine ct_congr (fun i hi => ?_)
  unfold by_j
  rw [show 256 ^ j = 2 ^ (8 * j) by rw [Nat.pow_mul]; rfl, show 256 = 2 ^ 8 from rfl, Nat.testBit_mod_two_pow, Nat.testBit_div_two_pow, decide_eq_true hi, Bool.true_and, Nat.add_comm]
theorem ct_add {q : Nat → Bool} (a : Nat) : ∀ b, ct q (a + b) = ct q a + ct (fun i => q (a + i)) b
  | 0 => rfl
  | b + 1 => by
    have ih := ct_add (q := q) a b
    show ct q (a + b) + _ = ct q a + (ct (fun i => q (a + i)) b + _)
    rw [ih, Nat.add_assoc]
theorem bc_ct (x : Int64) : bc x = nI (ct (fun i => x.toBitVec.getLsbD i) 64) := by
  rw [bc_nat]
  congr 1
  have e : ct (fun i => x.toBitVec.getLsbD i) 64 = ct (fun i => x.toBitVec.toNat.testBit i) 64 := ct_congr (fun i _ => (BitVec.testBit_toNat _).symm)
  rw [e, show 64 = 8 + (8 + (8 + (8 + (8 + (8 + (8 + 8)))))) from rfl, ct_add, ct_add, ct_add, ct_add, ct_add, ct_add, ct_add]
  simp only [pc8_bit]
  simp only [← Nat.add_assoc]
  rfl
theorem sbc_ct (f : Nat → Int64) : sbc f 4 = nI (ct (fun t => ss_in f t) 256) := by
  show 0 + bc (f 0) + bc (f 1) + bc (f 2) + bc (f 3) = _
  rw [bc_ct, bc_ct, bc_ct, bc_ct, show (0 : Int32) = nI 0 from rfl, nI_add, nI_add, nI_add, nI_add]
  congr 1
  rw [show 256 = 64 + (64 + (64 + 64)) from rfl, ct_add, ct_add, ct_add]
  have e : ∀ k, k < 4 → ct (fun i => ss_in f (64 * k + i)) 64 = ct (fun i => (f k).toBitVec.getLsbD i) 64 := by
    intro k hk
    refine ct_congr (fun i hi => ?_)
    show ss_in f (64 * k + i) = _
    unfold ss_in
    rw [show (64 * k + i) / 64 = k by omega, show (64 * k + i) % 64 = i by omega]
  have e0 := e 0 (by omega)
  have e1 := e 1 (by omega)
  have e2 := e 2 (by omega)
  have e3 := e 3 (by omega)
  simp only [Nat.mul_zero, Nat.zero_add, Nat.mul_one] at e0 e1
  have e2' : ct (fun i => ss_in f (64 + (64 + i))) 64 = ct (fun i => (f 2).toBitVec.getLsbD i) 64 := by
    rw [← e2]; exact ct_congr (fun i _ => by show ss_in f _ = ss_in f _; congr 1; omega)
  have e3' : ct (fun i => ss_in f (64 + (64 + (64 + i)))) 64 = ct (fun i => (f 3).toBitVec.getLsbD i) 64 := by
    rw [← e3]; exact ct_congr (fun i _ => by show ss_in f _ = ss_in f _; congr 1; omega)
  rw [e0, e1, e2', e3']
  omega
