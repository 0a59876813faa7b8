/-! small rows -/
theorem nN_toInt (x : Int32) (h0 : 0 ≤ x) : (x.toNatClampNeg : Int) = x.toInt := by
  have h1 : (0 : Int) ≤ x.toInt := by simpa using Int32.le_iff_toInt_le.mp h0
  show ((x.toInt.toNat : Nat) : Int) = x.toInt
  omega
/-- a number between two others, as a small natural -/
theorem nN_of {x : Int32} {n : Nat} (hn : n < 2 ^ 31) (h0 : 0 ≤ x) (h1 : x < nI n) : ∃ j : Nat, j < n ∧ x = nI j := by
  obtain ⟨j, hj, rfl⟩ := nI_of (Int32.not_lt.mpr h0)
  exact ⟨j, (nI_ltI hj hn).mp h1, rfl⟩
/-- bits of words: which symbols are in a set -/
def ss_in (f : Nat → Int64) (x : Nat) : Bool := (f (x / 64)).toBitVec.getLsbD (x % 64)
theorem ss_cnt : ∀ k, k < 64 → ((nI k).toInt64.toUInt64 &&& Int64.toUInt64 63).toNat = k := by decide +kernel
theorem ss_shl : ∀ k, k < 64 → ((1 : Int64) <<< ((nI k).toInt64 &&& 63)).toBitVec = BitVec.twoPow 64 k := by decide +kernel
theorem ss_63 {n : Nat} (h : n < 2 ^ 31) : nI n &&& 63 = nI (n % 64) := pk_andN (by omega) (k := 6) rfl
theorem ss_6 {n : Nat} (h : n < 2 ^ 31) : nI n >>> ((6 : Int32) &&& 31) = nI (n / 64) := pk_shrN h _ 6 rfl
theorem ss_bit (w : Int64) {s : UInt64} {j : Nat} (hj : j < 64) (hs : s.toNat = j) : ((w.toUInt64 >>> s).toInt64 &&& 1) = 0 ↔ w.toBitVec.getLsbD j = false := by
  have e : (((w.toUInt64 >>> s).toInt64 &&& 1) = 0) ↔ (((w.toUInt64 >>> s).toInt64 &&& 1).toBitVec = 0#64) := by
    constructor
    · intro h; rw [h]; rfl
    · intro h; exact Int64.toBitVec_inj.mp h
  rw [e]
  have e2 : ((w.toUInt64 >>> s).toInt64 &&& 1).toBitVec = (w.toBitVec >>> j) &&& 1#64 := by
    subst hs
    simp [Nat.mod_eq_of_lt hj]
  rw [e2]
  constructor
  · intro h
    have h1 := congrArg (fun v : BitVec 64 => v.getLsbD 0) h
    simpa using h1
  · intro h
    apply BitVec.eq_of_getLsbD_eq
    intro i hi
    by_cases h0 : i = 0
    · subst h0; simp [h]
    · simp [h0]
theorem lc_ne {x : Int64} : lg_cmp x 0 = 0 ↔ x = 0 := by
  unfold lg_cmp
  split
  · rename_i h
    constructor
    · intro q; cases q
    · intro q; subst q; exact absurd h (by decide)
  · split
    · rename_i h; simp [h]
    · rename_i h
      constructor
      · intro q; cases q
      · intro q; exact absurd q h
