/-! ===== how many bits there are, in all ===== -/
theorem bcN_4 {v c0 c1 r1 r2 : Nat} (h0 : v = c0 + 256 * r1) (h1 : r1 = c1 + 256 * r2) (k0 : c0 ≤ 8) : v + v / 256 = (c0 + c1) + 256 * (r1 + r2) := by
  have : v / 256 = r1 := by omega
  omega
theorem bcN_5 {v4 a b r2 r3 s : Nat} (h : v4 = a + 256 * s) (hs : s = b + 256 * (r2 + r3)) (ka : a ≤ 16) (kb : b ≤ 16) : v4 / 65536 = r2 + r3 := by omega
theorem bcN_6 {v5 lo hi : Nat} (h : v5 = lo + 4294967296 * hi) (hl : lo < 4294967296) : v5 / 4294967296 = hi := by omega
theorem bcN {v c0 c1 c2 c3 c4 c5 c6 c7 r1 r2 r3 r4 r5 r6 : Nat} (h0 : v = c0 + 256 * r1) (h1 : r1 = c1 + 256 * r2) (h2 : r2 = c2 + 256 * r3) (h3 : r3 = c3 + 256 * r4) (h4 : r4 = c4 + 256 * r5) (h5 : r5 = c5 + 256 * r6) (h6 : r6 = c6 + 256 * c7) (k0 : c0 ≤ 8) (k1 : c1 ≤ 8) (k2 : c2 ≤ 8) (k3 : c3 ≤ 8) (k4 : c4 ≤ 8) (k5 : c5 ≤ 8) (k6 : c6 ≤ 8) (k7 : c7 ≤ 8) :
    ∃ v4 v5 v6, v4 = v + v / 256 ∧ v5 = v4 + v4 / 65536 ∧ v6 = v5 + v5 / 4294967296 ∧ v6 % 128 = c0 + c1 + c2 + c3 + c4 + c5 + c6 + c7 := by
  refine ⟨_, _, _, rfl, rfl, rfl, ?_⟩
  have e4 := bcN_4 h0 h1 k0
  have s1 : r1 + r2 = (c1 + c2) + 256 * (r2 + r3) := by omega
  have s2 : r2 + r3 = (c2 + c3) + 256 * (r3 + r4) := by omega
  have s3 : r3 + r4 = (c3 + c4) + 256 * (r4 + r5) := by omega
  have s4 : r4 + r5 = (c4 + c5) + 256 * (r5 + r6) := by omega
  have s5 : r5 + r6 = (c5 + c6) + 256 * (r6 + c7) := by omega
  have e5 := bcN_5 e4 s1 (by omega) (by omega)
  rw [e5, e4]
  clear h0 h1 h2 h3 e5 e4
  generalize r1 + r2 = t1 at *
  generalize r2 + r3 = t2 at *
  generalize r3 + r4 = t3 at *
  have e6 := bcN_6 (v5 := c0 + c1 + 256 * t1 + t2) (lo := (c0 + c1 + (c2 + c3)) + 256 * ((c1 + c2) + (c3 + c4)) + 65536 * ((c2 + c3) + (c4 + c5)) + 16777216 * ((c3 + c4) + (c5 + c6))) (hi := (r4 + r5) + (r6 + c7)) (by omega) (by omega)
  rw [e6]
  clear e6
  omega
theorem bc_nat (x : Int64) : bc x = nI (pc8 (by_j x.toBitVec.toNat 0) + pc8 (by_j x.toBitVec.toNat 1) + pc8 (by_j x.toBitVec.toNat 2) + pc8 (by_j x.toBitVec.toNat 3) + pc8 (by_j x.toBitVec.toNat 4) + pc8 (by_j x.toBitVec.toNat 5) + pc8 (by_j x.toBitVec.toNat 6) + pc8 (by_j x.toBitVec.toNat 7)) := by
  have hx := x.toBitVec.isLt
  have n1 : (bc_1 x).toBitVec.toNat = b1f 6148914691236517205 x.toBitVec.toNat := by
    unfold bc_1 b1f
    have e : ((x.toUInt64 >>> ((1 : Int32).toInt64.toUInt64 &&& Int64.toUInt64 63)).toInt64 &&& 6148914691236517205).toBitVec.toNat = (x.toBitVec.toNat / 2) &&& 6148914691236517205 := by
      rw [i64_and, i64_shr x _ 1 (by decide)]
      rfl
    have le : (x.toBitVec.toNat / 2) &&& 6148914691236517205 ≤ x.toBitVec.toNat / 2 := Nat.and_le_left
    rw [i64_sub (by rw [e]; omega), e]
  have h1 : (bc_1 x).toBitVec.toNat < 2 ^ 64 := (bc_1 x).toBitVec.isLt
  have n2 : (bc_2 (bc_1 x)).toBitVec.toNat = b2f 3689348814741910323 (b1f 6148914691236517205 x.toBitVec.toNat) := by
    unfold bc_2 b2f
    rw [i64_add, i64_and, i64_and, i64_shr _ _ 2 (by decide), n1]
    show ((_ &&& 3689348814741910323) + (_ &&& 3689348814741910323)) % _ = _
    have l1 : b1f 6148914691236517205 x.toBitVec.toNat &&& 3689348814741910323 ≤ 3689348814741910323 := Nat.and_le_right
    have l2 : b1f 6148914691236517205 x.toBitVec.toNat / 2 ^ 2 &&& 3689348814741910323 ≤ 3689348814741910323 := Nat.and_le_right
    rw [Nat.mod_eq_of_lt (Nat.lt_of_le_of_lt (Nat.add_le_add l1 l2) (by decide))]
  have ball := b_all x.toBitVec.toNat hx
  have b2le : b2f 3689348814741910323 (b1f 6148914691236517205 x.toBitVec.toNat) ≤ 7378697629483820646 := by
    unfold b2f
    have l1 : b1f 6148914691236517205 x.toBitVec.toNat &&& 3689348814741910323 ≤ 3689348814741910323 := Nat.and_le_right
    have l2 : b1f 6148914691236517205 x.toBitVec.toNat / 4 &&& 3689348814741910323 ≤ 3689348814741910323 := Nat.and_le_right
    exact Nat.add_le_add l1 l2
  have n3 : (bc_3 (bc_2 (bc_1 x))).toBitVec.toNat = b3f 1085102592571150095 (b2f 3689348814741910323 (b1f 6148914691236517205 x.toBitVec.toNat)) := by
    unfold bc_3 b3f
    rw [i64_and, i64_add, i64_shr _ _ 4 (by decide), n2]
    show _ % _ &&& 1085102592571150095 = _
    generalize b2f 3689348814741910323 (b1f 6148914691236517205 x.toBitVec.toNat) = y at b2le
    rw [Nat.mod_eq_of_lt (by omega)]
  have hle : (bc_3 (bc_2 (bc_1 x))).toBitVec.toNat ≤ 1085102592571150095 := by
    rw [n3]
    exact Nat.and_le_right
  rw [ball] at n3
  have key := bcN n3 rfl rfl rfl rfl rfl rfl (pc8_le (by_j x.toBitVec.toNat 0)) (pc8_le (by_j x.toBitVec.toNat 1)) (pc8_le (by_j x.toBitVec.toNat 2)) (pc8_le (by_j x.toBitVec.toNat 3)) (pc8_le (by_j x.toBitVec.toNat 4)) (pc8_le (by_j x.toBitVec.toNat 5)) (pc8_le (by_j x.toBitVec.toNat 6)) (pc8_le (by_j x.toBitVec.toNat 7))
  generalize pc8 (by_j x.toBitVec.toNat 0) + pc8 (by_j x.toBitVec.toNat 1) + pc8 (by_j x.toBitVec.toNat 2) + pc8 (by_j x.toBitVec.toNat 3) + pc8 (by_j x.toBitVec.toNat 4) + pc8 (by_j x.toBitVec.toNat 5) + pc8 (by_j x.toBitVec.toNat 6) + pc8 (by_j x.toBitVec.toNat 7) = N at key ⊢
  clear n3 ball b2le n2 h1 n1
  unfold bc
  generalize bc_3 (bc_2 (bc_1 x)) = y at key hle ⊢
  obtain ⟨v4, v5, v6, e4, e5, e6, e7⟩ := key
  have n4 : (bc_4 y).toBitVec.toNat = v4 := by
    unfold bc_4
    rw [i64_add, i64_shr _ _ 8 (by decide), e4]
    generalize y.toBitVec.toNat = v at hle ⊢
    rw [show 2 ^ 8 = 256 from rfl]
    omega
  have l4 : v4 < 2 ^ 61 := by omega
  have n5 : (bc_5 (bc_4 y)).toBitVec.toNat = v5 := by
    unfold bc_5
    rw [i64_add, i64_shr _ _ 16 (by decide), n4, e5]
    rw [show 2 ^ 16 = 65536 from rfl]
    omega
  have l5 : v5 < 2 ^ 62 := by omega
  have n6 : (bc_6 (bc_5 (bc_4 y))).toBitVec.toNat = v6 := by
    unfold bc_6
    rw [i64_add, i64_shr _ _ 32 (by decide), n5, e6]
    rw [show 2 ^ 32 = 4294967296 from rfl]
    omega
  rw [pk_and _ (m := 127) 7 (by decide)]
  have e : (bc_6 (bc_5 (bc_4 y))).toInt32.toBitVec.toNat = (bc_6 (bc_5 (bc_4 y))).toBitVec.toNat % 2 ^ 32 := by
    rw [Int64.toBitVec_toInt32, BitVec.signExtend_eq_setWidth_of_le _ (by decide), BitVec.toNat_setWidth]
  rw [e, n6, show 2 ^ 7 = 128 from rfl, show 2 ^ 32 = 4294967296 from rfl, Nat.mod_mod_of_dvd _ (by decide : 128 ∣ 4294967296), e7]
theorem pc8_bit (x j : Nat) : pc8 (by_j x j) = ct (fun i => x.testBit (8 * j + i)) 8 := by
  unfold pc8
  refine ct_congr (fun i hi => ?_)
  unfold by_j
  rw [show 256 ^ j = 2 ^ (8 * j) by rw [Nat.pow_mul], show 256 = 2 ^ 8 from rfl, Nat.testBit_mod_two_pow, Nat.testBit_div_two_pow, decide_eq_true hi, Bool.true_and, Nat.add_comm]
theorem ct_add {q : Nat → Bool} (a : Nat) : ∀ b, ct q (a + b) = ct q a + ct (fun i => q (a + i)) b
  | 0 => rfl
  | b + 1 => by
    have ih := ct_add (q := q) a b
    show ct q (a + b) + _ = ct q a + (ct (fun i => q (a + i)) b + _)
    rw [ih, Nat.add_assoc]
    rfl
theorem ct_64 (q : Nat → Bool) : ct q 64 = ct (fun i => q (8 * 0 + i)) 8 + ct (fun i => q (8 * 1 + i)) 8 + ct (fun i => q (8 * 2 + i)) 8 + ct (fun i => q (8 * 3 + i)) 8 + ct (fun i => q (8 * 4 + i)) 8 + ct (fun i => q (8 * 5 + i)) 8 + ct (fun i => q (8 * 6 + i)) 8 + ct (fun i => q (8 * 7 + i)) 8 := by
  have h7 : ct q 64 = ct q 56 + ct (fun i => q (8 * 7 + i)) 8 := ct_add 56 8
  have h6 : ct q 56 = ct q 48 + ct (fun i => q (8 * 6 + i)) 8 := ct_add 48 8
  have h5 : ct q 48 = ct q 40 + ct (fun i => q (8 * 5 + i)) 8 := ct_add 40 8
  have h4 : ct q 40 = ct q 32 + ct (fun i => q (8 * 4 + i)) 8 := ct_add 32 8
  have h3 : ct q 32 = ct q 24 + ct (fun i => q (8 * 3 + i)) 8 := ct_add 24 8
  have h2 : ct q 24 = ct q 16 + ct (fun i => q (8 * 2 + i)) 8 := ct_add 16 8
  have h1 : ct q 16 = ct q 8 + ct (fun i => q (8 * 1 + i)) 8 := ct_add 8 8
  have h0 : ct q 8 = ct (fun i => q (8 * 0 + i)) 8 := ct_congr (fun i _ => by show q i = q (8 * 0 + i); rw [Nat.mul_zero, Nat.zero_add])
  rw [h7, h6, h5, h4, h3, h2, h1, h0]
theorem bc_ct (x : Int64) : bc x = nI (ct (fun i => x.toBitVec.getLsbD i) 64) := by
  rw [bc_nat]
  have e : ct (fun i => x.toBitVec.getLsbD i) 64 = ct (fun i => x.toBitVec.toNat.testBit i) 64 := ct_congr (fun i _ => BitVec.testBit_toNat _)
  rw [e, ct_64]
  simp only [pc8_bit]
theorem ct_256 (q : Nat → Bool) : ct q 256 = ct (fun i => q (64 * 0 + i)) 64 + ct (fun i => q (64 * 1 + i)) 64 + ct (fun i => q (64 * 2 + i)) 64 + ct (fun i => q (64 * 3 + i)) 64 := by
  have h3 : ct q 256 = ct q 192 + ct (fun i => q (64 * 3 + i)) 64 := ct_add 192 64
  have h2 : ct q 192 = ct q 128 + ct (fun i => q (64 * 2 + i)) 64 := ct_add 128 64
  have h1 : ct q 128 = ct q 64 + ct (fun i => q (64 * 1 + i)) 64 := ct_add 64 64
  have h0 : ct q 64 = ct (fun i => q (64 * 0 + i)) 64 := ct_congr (fun i _ => by show q i = q (64 * 0 + i); rw [Nat.mul_zero, Nat.zero_add])
  rw [h3, h2, h1, h0]
theorem sbc_ct (f : Nat → Int64) : sbc f 4 = nI (ct (fun t => ss_in f t) 256) := by
  show 0 + bc (f 0) + bc (f 1) + bc (f 2) + bc (f 3) = _
  have e : ∀ k, ct (fun i => ss_in f (64 * k + i)) 64 = ct (fun i => (f k).toBitVec.getLsbD i) 64 := by
    intro k
    refine ct_congr (fun i hi => ?_)
    show ss_in f (64 * k + i) = _
    unfold ss_in
    rw [show (64 * k + i) / 64 = k by omega, show (64 * k + i) % 64 = i by omega]
  rw [bc_ct, bc_ct, bc_ct, bc_ct, show (0 : Int32) = nI 0 from rfl, nI_add, nI_add, nI_add, nI_add, ct_256, e 0, e 1, e 2, e 3, Nat.zero_add]
