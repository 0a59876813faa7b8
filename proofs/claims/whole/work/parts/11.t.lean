theorem pm_isSymbol {d : Nat} {x : Int32} {S : px_S} {Q : Option Value → px_S → Prop} (hd : 1 ≤ d) (k : Q (some (.int (if 0 ≤ x ∧ x < 208 then 1 else 0))) S) : px_M d px_m_Symbols_isSymbol [.int x] S Q := by
  refine px_M.go hd (Nat.le_of_ble_eq_true rfl) ?_
  refine px_P.step rfl ?_
  refine px_P.if_lt rfl rfl (fun h0 => ?_) (fun h0 => ?_)
  · refine px_P.step rfl ?_
    refine px_P.ret rfl ?_
    rw [if_neg (fun h => absurd h.1 (Int32.not_le.mpr h0))] at k
    exact k
  · refine px_P.step rfl ?_
    refine px_P.step rfl ?_
    refine px_P.ic_ge rfl rfl (fun h1 => ?_) (fun h1 => ?_)
    · refine px_P.step rfl ?_
      refine px_P.ret rfl ?_
      rw [if_neg (fun h => absurd h.2 (Int32.not_lt.mpr h1))] at k
      exact k
    · refine px_P.step rfl ?_
      refine px_P.step rfl ?_
      refine px_P.ret rfl ?_
      rw [if_pos ⟨Int32.not_lt.mp h0, Int32.not_le.mp h1⟩] at k
      exact k
theorem pm_has {d a t : Nat} {x : Int32} {f : Nat → Int64} {S : px_S} {Q : Option Value → px_S → Prop} (hd : 1 ≤ d) (ha : S.1 a = some (.inr (6, [.ref t]))) (ht : S.1 t = some (.inl (1, 4, .inr (.inl f))))
    (k : Q (some (.int (if 0 ≤ x ∧ x < 208 ∧ ((f (x >>> 6).toNatClampNeg).toUInt64 >>> ((x &&& 63).toInt64.toUInt64 &&& Int64.toUInt64 63)).toInt64 &&& 1 ≠ 0 then 1 else 0))) S) : px_M d px_m_SymbolSet_has [.ref a, .int x] S Q := by
  refine px_M.go hd (Nat.le_of_ble_eq_true rfl) ?_
  refine px_P.step rfl ?_
  refine px_P.if_lt rfl rfl (fun h0 => ?_) (fun h0 => ?_)
  · refine px_P.step rfl ?_
    refine px_P.ret rfl ?_
    rw [if_neg (fun h => absurd h.1 (Int32.not_le.mpr h0))] at k
    exact k
  · refine px_P.step rfl ?_
    refine px_P.step rfl ?_
    refine px_P.ic_ge rfl rfl (fun h1 => ?_) (fun h1 => ?_)
    · refine px_P.step rfl ?_
      refine px_P.ret rfl ?_
      rw [if_neg (fun h => absurd h.2.1 (Int32.not_lt.mpr h1))] at k
      exact k
    · refine px_P.step rfl ?_
      refine px_P.gf rfl rfl ha rfl ?_
      refine px_P.step rfl ?_
      refine px_P.step rfl ?_
      refine px_P.step rfl ?_
      refine px_P.lald rfl ht sorry ?_
      refine px_P.step rfl ?_
      refine px_P.step rfl ?_
      refine px_P.step rfl ?_
      refine px_P.step rfl ?_
      refine px_P.step rfl ?_
      refine px_P.step rfl ?_
      refine px_P.step rfl ?_
      refine px_P.step rfl ?_
      refine px_P.if_eq rfl rfl (fun h2 => ?_) (fun h2 => ?_)
      · sorry
      · sorry
