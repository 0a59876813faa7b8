/-! ===== Symbols ===== -/
/-- how many there are below n -/
def ct (p : Nat → Bool) : Nat → Nat
  | 0 => 0
  | n + 1 => ct p n + (bif p n then 1 else 0)
theorem ct_le (p : Nat → Bool) : ∀ n, ct p n ≤ n
  | 0 => Nat.le_refl _
  | n + 1 => by
    have := ct_le p n
    unfold ct
    cases p n <;> simp <;> omega
theorem ct_congr {p q : Nat → Bool} : ∀ {n : Nat}, (∀ i, i < n → p i = q i) → ct p n = ct q n
  | 0, _ => rfl
  | n + 1, h => by
    unfold ct
    rw [ct_congr (n := n) (fun i hi => h i (by omega)), h n (by omega)]
theorem pm_isSymbol {d n : Nat} {S : px_S} {Q : Option Value → px_S → Prop} (hd : 1 ≤ d) (hn : n < 208) (k : Q (some (.int 1)) S) : px_M d px_m_Symbols_isSymbol [.int (nI n)] S Q := by
  refine px_M.go hd (Nat.le_of_ble_eq_true rfl) ?_
  refine px_P.sn 1 (f1 := (1, [(0, .int (nI n))], [.int (nI n)])) (S1 := S) rfl ?_
  refine px_P.if_lt rfl rfl (fun h => absurd h (nI_pos (by omega))) (fun _ => ?_)
  refine px_P.sn 2 (f1 := (8, [(0, .int (nI n))], [.int 208, .int (nI n)])) (S1 := S) rfl ?_
  refine px_P.ic_ge rfl rfl (fun h => absurd h (nI_ge (b := 208) hn (by decide))) (fun _ => ?_)
  refine px_P.sn 2 (f1 := (16, [(0, .int (nI n))], [.int 1])) (S1 := S) rfl ?_
  refine px_P.ret rfl ?_
  exact k
theorem pm_isSymbolN {d : Nat} {S : px_S} {Q : Option Value → px_S → Prop} (hd : 1 ≤ d) (k : Q (some (.int 0)) S) : px_M d px_m_Symbols_isSymbol [.int (-1)] S Q := by
  refine px_M.go hd (Nat.le_of_ble_eq_true rfl) ?_
  refine px_P.sn 1 (f1 := (1, [(0, .int (-1))], [.int (-1)])) (S1 := S) rfl ?_
  refine px_P.if_lt rfl rfl (fun _ => ?_) (fun h => absurd ((by decide)) h)
  refine px_P.sn 1 (f1 := (16, [(0, .int (-1))], [.int 0])) (S1 := S) rfl ?_
  refine px_P.ret rfl ?_
  exact k
theorem pm_typeOf {d n y tT tD : Nat} {T : Nat → Int32} {S : px_S} {Q : Option Value → px_S → Prop} (hd : 2 ≤ d) (hy : S.1 y = some (.inr (7, [.ref tT, .ref tD]))) (hT : S.1 tT = some (.inl (0, 208, .inl T))) (hn : n < 208)
    (k : Q (some (.int (T n))) S) : px_M d px_m_Symbols_typeOf [.ref y, .int (nI n)] S Q := by
  refine px_M.go (by omega) (Nat.le_of_ble_eq_true rfl) ?_
  refine px_P.sn 1 (f1 := (1, [(0, .ref y), (1, .int (nI n))], [.int (nI n)])) (S1 := S) rfl ?_
  refine px_P.call rfl ?_
  show px_M _ px_m_Symbols_isSymbol [.int (nI n)] S _
  refine pm_isSymbol (by omega) hn ?_
  show px_P _ _ (4, [(0, .ref y), (1, .int (nI n))], [.int 1]) S _
  refine px_P.if_eq rfl rfl (fun h => absurd h ((by decide))) (fun _ => ?_)
  refine px_P.sn 1 (f1 := (8, [(0, .ref y), (1, .int (nI n))], [.ref y])) (S1 := S) rfl ?_
  refine px_P.gf rfl rfl (by assumption) (v := .ref tT) rfl ?_
  refine px_P.sn 1 (f1 := (12, [(0, .ref y), (1, .int (nI n))], [.int (nI n), .ref tT])) (S1 := S) rfl ?_
  refine px_P.ialdj (j := n) rfl (by assumption) rfl (by omega) (by decide) ?_
  refine px_P.sn 1 (f1 := (18, [(0, .ref y), (1, .int (nI n))], [.int (T n)])) (S1 := S) rfl ?_
  refine px_P.ret rfl ?_
  exact k
theorem pm_definersOf {d n y tT tD : Nat} {D : Nat → Int32} {S : px_S} {Q : Option Value → px_S → Prop} (hd : 2 ≤ d) (hy : S.1 y = some (.inr (7, [.ref tT, .ref tD]))) (hD : S.1 tD = some (.inl (0, 208, .inl D))) (hn : n < 208)
    (k : Q (some (.int (D n))) S) : px_M d px_m_Symbols_definersOf [.ref y, .int (nI n)] S Q := by
  refine px_M.go (by omega) (Nat.le_of_ble_eq_true rfl) ?_
  refine px_P.sn 1 (f1 := (1, [(0, .ref y), (1, .int (nI n))], [.int (nI n)])) (S1 := S) rfl ?_
  refine px_P.call rfl ?_
  show px_M _ px_m_Symbols_isSymbol [.int (nI n)] S _
  refine pm_isSymbol (by omega) hn ?_
  show px_P _ _ (4, [(0, .ref y), (1, .int (nI n))], [.int 1]) S _
  refine px_P.if_eq rfl rfl (fun h => absurd h ((by decide))) (fun _ => ?_)
  refine px_P.sn 1 (f1 := (8, [(0, .ref y), (1, .int (nI n))], [.ref y])) (S1 := S) rfl ?_
  refine px_P.gf rfl rfl (by assumption) (v := .ref tD) rfl ?_
  refine px_P.sn 1 (f1 := (12, [(0, .ref y), (1, .int (nI n))], [.int (nI n), .ref tD])) (S1 := S) rfl ?_
  refine px_P.ialdj (j := n) rfl (by assumption) rfl (by omega) (by decide) ?_
  refine px_P.sn 1 (f1 := (17, [(0, .ref y), (1, .int (nI n))], [.int (D n)])) (S1 := S) rfl ?_
  refine px_P.ret rfl ?_
  exact k
theorem pm_addDefiners {d n y tT tD : Nat} {D : Nat → Int32} {x : Int32} {S : px_S} {Q : Option Value → px_S → Prop} (hd : 2 ≤ d) (hy : S.1 y = some (.inr (7, [.ref tT, .ref tD]))) (hD : S.1 tD = some (.inl (0, 208, .inl D))) (hn : n < 208)
    (k : ∀ S1, px_Up S S1 tD (.inl (0, 208, .inl (upd D n (D n + x)))) → Q none S1) : px_M d px_m_Symbols_addDefiners [.ref y, .int (nI n), .int x] S Q := by
  refine px_M.go (by omega) (Nat.le_of_ble_eq_true rfl) ?_
  refine px_P.sn 1 (f1 := (1, [(0, .ref y), (1, .int (nI n)), (2, .int x)], [.int (nI n)])) (S1 := S) rfl ?_
  refine px_P.call rfl ?_
  show px_M _ px_m_Symbols_isSymbol [.int (nI n)] S _
  refine pm_isSymbol (by omega) hn ?_
  show px_P _ _ (4, [(0, .ref y), (1, .int (nI n)), (2, .int x)], [.int 1]) S _
  refine px_P.if_eq rfl rfl (fun h => absurd h ((by decide))) (fun _ => ?_)
  refine px_P.sn 1 (f1 := (8, [(0, .ref y), (1, .int (nI n)), (2, .int x)], [.ref y])) (S1 := S) rfl ?_
  refine px_P.gf rfl rfl (by assumption) (v := .ref tD) rfl ?_
  refine px_P.sn 2 (f1 := (13, [(0, .ref y), (1, .int (nI n)), (2, .int x)], [.int (nI n), .ref tD, .int (nI n), .ref tD])) (S1 := S) rfl ?_
  refine px_P.ialdj (j := n) rfl (by assumption) rfl (by omega) (by decide) ?_
  refine px_P.sn 2 (f1 := (16, [(0, .ref y), (1, .int (nI n)), (2, .int x)], [.int ((D n) + x), .int (nI n), .ref tD])) (S1 := S) rfl ?_
  refine px_P.iastj (j := n) rfl (by assumption) rfl (by omega) (by decide) (fun S1 u1 => ?_)
  refine px_P.ret rfl ?_
  exact k S1 u1
theorem pm_addDefinersN {d y : Nat} {x : Int32} {S : px_S} {Q : Option Value → px_S → Prop} (hd : 2 ≤ d) (k : Q none S) : px_M d px_m_Symbols_addDefiners [.ref y, .int (-1), .int x] S Q := by
  refine px_M.go (by omega) (Nat.le_of_ble_eq_true rfl) ?_
  refine px_P.sn 1 (f1 := (1, [(0, .ref y), (1, .int (-1)), (2, .int x)], [.int (-1)])) (S1 := S) rfl ?_
  refine px_P.call rfl ?_
  show px_M _ px_m_Symbols_isSymbol [.int (-1)] S _
  refine pm_isSymbolN (by omega) ?_
  show px_P _ _ (4, [(0, .ref y), (1, .int (-1)), (2, .int x)], [.int 0]) S _
  refine px_P.if_eq rfl rfl (fun _ => ?_) (fun h => absurd (rfl) h)
  refine px_P.ret rfl ?_
  exact k
theorem pm_restart {d n y tT tD : Nat} {T D : Nat → Int32} {S : px_S} {Q : Option Value → px_S → Prop} (hd : 2 ≤ d) (hy : S.1 y = some (.inr (7, [.ref tT, .ref tD]))) (hT : S.1 tT = some (.inl (0, 208, .inl T))) (hD : S.1 tD = some (.inl (0, 208, .inl D))) (hn : n < 208)
    (k : ∀ S1, px_Up S S1 tT (.inl (0, 208, .inl (upd T n (if D n = 0 then 16 else 0)))) → Q none S1) : px_M d px_m_Symbols_restart [.ref y, .int (nI n)] S Q := by
  refine px_M.go (by omega) (Nat.le_of_ble_eq_true rfl) ?_
  refine px_P.sn 1 (f1 := (1, [(0, .ref y), (1, .int (nI n))], [.int (nI n)])) (S1 := S) rfl ?_
  refine px_P.call rfl ?_
  show px_M _ px_m_Symbols_isSymbol [.int (nI n)] S _
  refine pm_isSymbol (by omega) hn ?_
  show px_P _ _ (4, [(0, .ref y), (1, .int (nI n))], [.int 1]) S _
  refine px_P.if_eq rfl rfl (fun h => absurd h ((by decide))) (fun _ => ?_)
  refine px_P.sn 1 (f1 := (8, [(0, .ref y), (1, .int (nI n))], [.ref y])) (S1 := S) rfl ?_
  refine px_P.gf rfl rfl (by assumption) (v := .ref tT) rfl ?_
  refine px_P.sn 2 (f1 := (13, [(0, .ref y), (1, .int (nI n))], [.ref y, .int (nI n), .ref tT])) (S1 := S) rfl ?_
  refine px_P.gf rfl rfl (by assumption) (v := .ref tD) rfl ?_
  refine px_P.sn 1 (f1 := (17, [(0, .ref y), (1, .int (nI n))], [.int (nI n), .ref tD, .int (nI n), .ref tT])) (S1 := S) rfl ?_
  refine px_P.ialdj (j := n) rfl (by assumption) rfl (by omega) (by decide) ?_
  refine px_P.if_ne rfl rfl (fun h => ?_) (fun h => ?_)
  · refine px_P.sn 1 (f1 := (27, [(0, .ref y), (1, .int (nI n))], [.int 0, .int (nI n), .ref tT])) (S1 := S) rfl ?_
    refine px_P.iastj (j := n) rfl (by assumption) rfl (by omega) (by decide) (fun S1 u1 => ?_)
    refine px_P.ret rfl ?_
    rw [if_neg h] at k
    exact k S1 u1
  · refine px_P.sn 2 (f1 := (27, [(0, .ref y), (1, .int (nI n))], [.int 16, .int (nI n), .ref tT])) (S1 := S) rfl ?_
    refine px_P.iastj (j := n) rfl (by assumption) rfl (by omega) (by decide) (fun S1 u1 => ?_)
    refine px_P.ret rfl ?_
    rw [if_pos h] at k
    exact k S1 u1
theorem pm_grow {d n y tT tD : Nat} {T : Nat → Int32} {f : Int32} {S : px_S} {Q : Option Value → px_S → Prop} (hd : 2 ≤ d) (hy : S.1 y = some (.inr (7, [.ref tT, .ref tD]))) (hT : S.1 tT = some (.inl (0, 208, .inl T))) (hn : n < 208)
    (k0 : f &&& (T n ^^^ (-1)) = 0 → Q (some (.int 0)) S) (k1 : ¬ f &&& (T n ^^^ (-1)) = 0 → ∀ S1, px_Up S S1 tT (.inl (0, 208, .inl (upd T n (T n ||| f)))) → Q (some (.int 1)) S1) :
    px_M d px_m_Symbols_grow [.ref y, .int (nI n), .int f] S Q := by
  refine px_M.go (by omega) (Nat.le_of_ble_eq_true rfl) ?_
  refine px_P.sn 1 (f1 := (1, [(0, .ref y), (1, .int (nI n)), (2, .int f)], [.int (nI n)])) (S1 := S) rfl ?_
  refine px_P.call rfl ?_
  show px_M _ px_m_Symbols_isSymbol [.int (nI n)] S _
  refine pm_isSymbol (by omega) hn ?_
  show px_P _ _ (4, [(0, .ref y), (1, .int (nI n)), (2, .int f)], [.int 1]) S _
  refine px_P.if_eq rfl rfl (fun h => absurd h ((by decide))) (fun _ => ?_)
  refine px_P.sn 2 (f1 := (9, [(0, .ref y), (1, .int (nI n)), (2, .int f)], [.ref y, .int f])) (S1 := S) rfl ?_
  refine px_P.gf rfl rfl (by assumption) (v := .ref tT) rfl ?_
  refine px_P.sn 1 (f1 := (13, [(0, .ref y), (1, .int (nI n)), (2, .int f)], [.int (nI n), .ref tT, .int f])) (S1 := S) rfl ?_
  refine px_P.ialdj (j := n) rfl (by assumption) rfl (by omega) (by decide) ?_
  refine px_P.sn 3 (f1 := (17, [(0, .ref y), (1, .int (nI n)), (2, .int f)], [.int (f &&& ((T n) ^^^ (-1)))])) (S1 := S) rfl ?_
  refine px_P.if_ne rfl rfl (fun h => ?_) (fun h => ?_)
  · refine px_P.sn 1 (f1 := (23, [(0, .ref y), (1, .int (nI n)), (2, .int f)], [.ref y])) (S1 := S) rfl ?_
    refine px_P.gf rfl rfl (by assumption) (v := .ref tT) rfl ?_
    refine px_P.sn 2 (f1 := (28, [(0, .ref y), (1, .int (nI n)), (2, .int f)], [.int (nI n), .ref tT, .int (nI n), .ref tT])) (S1 := S) rfl ?_
    refine px_P.ialdj (j := n) rfl (by assumption) rfl (by omega) (by decide) ?_
    refine px_P.sn 2 (f1 := (31, [(0, .ref y), (1, .int (nI n)), (2, .int f)], [.int ((T n) ||| f), .int (nI n), .ref tT])) (S1 := S) rfl ?_
    refine px_P.iastj (j := n) rfl (by assumption) rfl (by omega) (by decide) (fun S1 u1 => ?_)
    refine px_P.sn 1 (f1 := (33, [(0, .ref y), (1, .int (nI n)), (2, .int f)], [.int 1])) (S1 := S1) rfl ?_
    refine px_P.ret rfl ?_
    exact k1 h S1 u1
  · refine px_P.sn 1 (f1 := (21, [(0, .ref y), (1, .int (nI n)), (2, .int f)], [.int 0])) (S1 := S) rfl ?_
    refine px_P.ret rfl ?_
    exact k0 h
theorem pm_growN {d y : Nat} {f : Int32} {S : px_S} {Q : Option Value → px_S → Prop} (hd : 2 ≤ d) (k : Q (some (.int 0)) S) : px_M d px_m_Symbols_grow [.ref y, .int (-1), .int f] S Q := by
  refine px_M.go (by omega) (Nat.le_of_ble_eq_true rfl) ?_
  refine px_P.sn 1 (f1 := (1, [(0, .ref y), (1, .int (-1)), (2, .int f)], [.int (-1)])) (S1 := S) rfl ?_
  refine px_P.call rfl ?_
  show px_M _ px_m_Symbols_isSymbol [.int (-1)] S _
  refine pm_isSymbolN (by omega) ?_
  show px_P _ _ (4, [(0, .ref y), (1, .int (-1)), (2, .int f)], [.int 0]) S _
  refine px_P.if_eq rfl rfl (fun _ => ?_) (fun h => absurd (rfl) h)
  refine px_P.sn 1 (f1 := (21, [(0, .ref y), (1, .int (-1)), (2, .int f)], [.int 0])) (S1 := S) rfl ?_
  refine px_P.ret rfl ?_
  exact k
theorem pm_definedCount {d y tT tD : Nat} {D : Nat → Int32} {S : px_S} {Q : Option Value → px_S → Prop} (hd : 1 ≤ d) (hy : S.1 y = some (.inr (7, [.ref tT, .ref tD]))) (hD : S.1 tD = some (.inl (0, 208, .inl D)))
    (k : Q (some (.int (nI (ct (fun i => decide (0 < D i)) 208)))) S) : px_M d px_m_Symbols_definedCount [.ref y] S Q := by
  refine px_M.go hd (Nat.le_of_ble_eq_true rfl) ?_
  refine px_P.sn 4 (f1 := (4, [(0, .ref y), (1, .int 0), (2, .int 0)], [])) (S1 := S) rfl ?_
  have lp : ∀ (m i : Nat), i + m = 208 → px_P (d - 1) px_m_Symbols_definedCount (4, [(0, .ref y), (1, .int (nI (ct (fun i => decide (0 < D i)) i))), (2, .int (nI i))], []) S Q := by
    intro m
    induction m with
    | zero =>
      intro i hi
      refine px_P.sn 2 (f1 := (8, [(0, .ref y), (1, .int (nI (ct (fun i => decide (0 < D i)) i))), (2, .int (nI i))], [.int 208, .int (nI i)])) (S1 := S) rfl ?_
      refine px_P.ic_ge rfl rfl (fun _ => ?_) (fun h => absurd (nI_le (a := 208) (by omega) (by omega)) h)
      refine px_P.sn 1 (f1 := (30, [(0, .ref y), (1, .int (nI (ct (fun i => decide (0 < D i)) i))), (2, .int (nI i))], [.int (nI (ct (fun i => decide (0 < D i)) i))])) (S1 := S) rfl ?_
      refine px_P.ret rfl ?_
      rw [show i = 208 by omega]
      exact k
    | succ m ih =>
      intro i hi
      have h9 := ih (i + 1) (by omega)
      refine px_P.sn 2 (f1 := (8, [(0, .ref y), (1, .int (nI (ct (fun i => decide (0 < D i)) i))), (2, .int (nI i))], [.int 208, .int (nI i)])) (S1 := S) rfl ?_
      refine px_P.ic_ge rfl rfl (fun h => absurd h (nI_ge (b := 208) (by omega) (by decide))) (fun _ => ?_)
      refine px_P.sn 1 (f1 := (12, [(0, .ref y), (1, .int (nI (ct (fun i => decide (0 < D i)) i))), (2, .int (nI i))], [.ref y])) (S1 := S) rfl ?_
      refine px_P.gf rfl rfl (by assumption) (v := .ref tD) rfl ?_
      refine px_P.sn 1 (f1 := (16, [(0, .ref y), (1, .int (nI (ct (fun i => decide (0 < D i)) i))), (2, .int (nI i))], [.int (nI i), .ref tD])) (S1 := S) rfl ?_
      refine px_P.ialdj (j := i) rfl (by assumption) rfl (by omega) (by decide) ?_
      refine px_P.if_le rfl rfl (fun h => ?_) (fun h => ?_)
      · refine px_P.sn 2 (f1 := (4, [(0, .ref y), (1, .int (nI (ct (fun i => decide (0 < D i)) i))), (2, .int ((nI i) + 1))], [])) (S1 := S) rfl ?_
        rw [show ct (fun i => decide (0 < D i)) (i + 1) = ct (fun i => decide (0 < D i)) i from by simp [ct, Int32.not_lt.mpr h], ← nI_1 i] at h9
        exact h9
      · refine px_P.sn 3 (f1 := (4, [(0, .ref y), (1, .int ((nI (ct (fun i => decide (0 < D i)) i)) + 1)), (2, .int ((nI i) + 1))], [])) (S1 := S) rfl ?_
        rw [show ct (fun i => decide (0 < D i)) (i + 1) = ct (fun i => decide (0 < D i)) i + 1 from by simp [ct, Int32.not_le.mp h], ← nI_1 i, ← nI_1] at h9
        exact h9
  exact lp 208 0 rfl
