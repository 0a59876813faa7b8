/-! ===== how many bits there are ===== -/
theorem and_sp {a c : Nat} (b M : Nat) (ha : a < 256) (hc : c < 256) : (a + 256 * b) &&& (c + 256 * M) = (a &&& c) + 256 * (b &&& M) := by
  apply Nat.eq_of_testBit_eq
  intro i
  have hac : a &&& c < 256 := Nat.lt_of_le_of_lt Nat.and_le_left ha
  rw [Nat.testBit_and, Nat.add_comm a, Nat.add_comm c, Nat.add_comm (a &&& c), show 256 = 2 ^ 8 from rfl, Nat.testBit_two_pow_mul_add b ha, Nat.testBit_two_pow_mul_add M hc, Nat.testBit_two_pow_mul_add (b &&& M) hac]
  split
  · rw [Nat.testBit_and]
  · rw [Nat.testBit_and]
def b1f (M x : Nat) : Nat := x - ((x / 2) &&& M)
def b2f (M x : Nat) : Nat := (x &&& M) + ((x / 4) &&& M)
def b3f (M x : Nat) : Nat := (x + x / 16) &&& M
theorem b1_c : ∀ a, a < 256 → ∀ z, z < 2 → (a / 2 + 128 * z) &&& 85 = (a / 2) &&& 85 := by decide +kernel
theorem b2_c : ∀ a, a < 256 → ∀ z, z < 4 → (a / 4 + 64 * z) &&& 51 = (a / 4) &&& 51 := by decide +kernel
theorem b3_c : ∀ a, a < 69 → ∀ z, z < 5 → (a + a / 16 + 16 * z) &&& 15 = (a + a / 16) &&& 15 := by decide +kernel
theorem b1_s {a : Nat} (M y : Nat) (ha : a < 256) : b1f (85 + 256 * M) (a + 256 * y) = b1f 85 a + 256 * b1f M y := by
  unfold b1f
  have e : (a + 256 * y) / 2 = (a / 2 + 128 * (y % 2)) + 256 * (y / 2) := by omega
  rw [e, and_sp _ _ (by omega) (by omega), b1_c a ha (y % 2) (by omega)]
  have h1 : (a / 2) &&& 85 ≤ a / 2 := Nat.and_le_left
  have h2 : (y / 2) &&& M ≤ y / 2 := Nat.and_le_left
  omega
theorem b2_s {a : Nat} (M y : Nat) (ha : a < 256) : b2f (51 + 256 * M) (a + 256 * y) = b2f 51 a + 256 * b2f M y := by
  unfold b2f
  have e : (a + 256 * y) / 4 = (a / 4 + 64 * (y % 4)) + 256 * (y / 4) := by omega
  rw [e, and_sp y M ha (by omega), and_sp (y / 4) M (by omega) (by omega), b2_c a ha (y % 4) (by omega)]
  omega
theorem b3_s {a : Nat} (M y : Nat) (ha : a < 69) (hy : y % 16 < 5) : b3f (15 + 256 * M) (a + 256 * y) = b3f 15 a + 256 * b3f M y := by
  unfold b3f
  have e : a + 256 * y + (a + 256 * y) / 16 = (a + a / 16 + 16 * (y % 16)) + 256 * (y + y / 16) := by omega
  rw [e, and_sp _ _ (by omega) (by omega), b3_c a ha (y % 16) hy]
theorem b12_n : ∀ a, a < 256 → b1f 85 a < 256 ∧ b2f 51 (b1f 85 a) < 69 ∧ b2f 51 (b1f 85 a) % 16 < 5 := by decide +kernel
def pc8 (a : Nat) : Nat := ct (fun i => a.testBit i) 8
theorem b_pc : ∀ a, a < 256 → b3f 15 (b2f 51 (b1f 85 a)) = pc8 a := by decide +kernel
/-- three steps, byte by byte -/
theorem b_s {a : Nat} (M1 M2 M3 y : Nat) (ha : a < 256) (hy : b2f M2 (b1f M1 y) % 16 < 5) : b3f (15 + 256 * M3) (b2f (51 + 256 * M2) (b1f (85 + 256 * M1) (a + 256 * y))) = pc8 a + 256 * b3f M3 (b2f M2 (b1f M1 y)) ∧ b2f (51 + 256 * M2) (b1f (85 + 256 * M1) (a + 256 * y)) % 16 < 5 := by
  obtain ⟨n1, n2, n3⟩ := b12_n a ha
  rw [b1_s M1 y ha, b2_s M2 _ n1, b3_s M3 _ n2 hy, b_pc a ha]
  exact ⟨rfl, by omega⟩
def by_j (x j : Nat) : Nat := x / 256 ^ j % 256
theorem b_all (x : Nat) (hx : x < 2 ^ 64) : b3f 1085102592571150095 (b2f 3689348814741910323 (b1f 6148914691236517205 x)) = pc8 (by_j x 0) + 256 * (pc8 (by_j x 1) + 256 * (pc8 (by_j x 2) + 256 * (pc8 (by_j x 3) + 256 * (pc8 (by_j x 4) + 256 * (pc8 (by_j x 5) + 256 * (pc8 (by_j x 6) + 256 * pc8 (by_j x 7))))))) := by
  have e7 : x / 256 ^ 7 = by_j x 7 := by unfold by_j; omega
  have l : ∀ j, by_j x j < 256 := fun j => Nat.mod_lt _ (by decide)
  have e : ∀ j, x / 256 ^ j = by_j x j + 256 * (x / 256 ^ (j + 1)) := by
    intro j
    unfold by_j
    rw [Nat.pow_succ, ← Nat.div_div_eq_div_mul]
    omega
  have x0 : x = by_j x 0 + 256 * (x / 256 ^ 1) := by have := e 0; rw [Nat.pow_zero, Nat.div_one] at this; exact this
  obtain ⟨n1, n2, n3⟩ := b12_n (by_j x 7) (l 7)
  have p7 := b_pc (by_j x 7) (l 7)
  rw [← e7] at p7 n3
  have p6 := b_s 85 51 15 (x / 256 ^ 7) (l 6) n3
  rw [← e 6] at p6
  have p5 := b_s _ _ (15 + 256 * 15) _ (l 5) p6.2
  rw [← e 5] at p5
  have p4 := b_s _ _ (15 + 256 * (15 + 256 * 15)) _ (l 4) p5.2
  rw [← e 4] at p4
  have p3 := b_s _ _ (15 + 256 * (15 + 256 * (15 + 256 * 15))) _ (l 3) p4.2
  rw [← e 3] at p3
  have p2 := b_s _ _ (15 + 256 * (15 + 256 * (15 + 256 * (15 + 256 * 15)))) _ (l 2) p3.2
  rw [← e 2] at p2
  have p1 := b_s _ _ (15 + 256 * (15 + 256 * (15 + 256 * (15 + 256 * (15 + 256 * 15))))) _ (l 1) p2.2
  rw [← e 1] at p1
  have p0 := b_s _ _ (15 + 256 * (15 + 256 * (15 + 256 * (15 + 256 * (15 + 256 * (15 + 256 * 15)))))) _ (l 0) p1.2
  rw [← x0] at p0
  have q := p0.1
  rw [p1.1, p2.1, p3.1, p4.1, p5.1, p6.1, p7, e7] at q
  exact q
theorem pc8_le (a : Nat) : pc8 a ≤ 8 := ct_le _ _
theorem i64_and (x y : Int64) : (x &&& y).toBitVec.toNat = x.toBitVec.toNat &&& y.toBitVec.toNat := by
  rw [Int64.toBitVec_and, BitVec.toNat_and]
theorem i64_add (x y : Int64) : (x + y).toBitVec.toNat = (x.toBitVec.toNat + y.toBitVec.toNat) % 2 ^ 64 := by
  rw [Int64.toBitVec_add, BitVec.toNat_add]
theorem i64_sub {x y : Int64} (h : y.toBitVec.toNat ≤ x.toBitVec.toNat) : (x - y).toBitVec.toNat = x.toBitVec.toNat - y.toBitVec.toNat := by
  have hx := x.toBitVec.isLt
  rw [Int64.toBitVec_sub, BitVec.toNat_sub]
  omega
theorem i64_shr (x : Int64) (s : UInt64) (k : Nat) (hs : s.toNat % 64 = k) : (x.toUInt64 >>> s).toInt64.toBitVec.toNat = x.toBitVec.toNat / 2 ^ k := by
  show (x.toUInt64 >>> s).toBitVec.toNat = _
  rw [UInt64.toBitVec_shiftRight]
  show (x.toBitVec >>> (s.toBitVec % 64)).toNat = _
  rw [BitVec.ushiftRight_eq', BitVec.toNat_ushiftRight, Nat.shiftRight_eq_div_pow]
  have : (s.toBitVec % 64).toNat = k := by
    rw [BitVec.toNat_umod]
    exact hs
  rw [this]
