/-! ===== how many bits; Line ===== -/
def bc_1 (x : Int64) : Int64 := x - ((x.toUInt64 >>> ((1 : Int32).toInt64.toUInt64 &&& Int64.toUInt64 63)).toInt64 &&& 6148914691236517205)
def bc_2 (x : Int64) : Int64 := (x &&& 3689348814741910323) + ((x.toUInt64 >>> ((2 : Int32).toInt64.toUInt64 &&& Int64.toUInt64 63)).toInt64 &&& 3689348814741910323)
def bc_3 (x : Int64) : Int64 := (x + (x.toUInt64 >>> ((4 : Int32).toInt64.toUInt64 &&& Int64.toUInt64 63)).toInt64) &&& 1085102592571150095
def bc_4 (x : Int64) : Int64 := x + (x.toUInt64 >>> ((8 : Int32).toInt64.toUInt64 &&& Int64.toUInt64 63)).toInt64
def bc_5 (x : Int64) : Int64 := x + (x.toUInt64 >>> ((16 : Int32).toInt64.toUInt64 &&& Int64.toUInt64 63)).toInt64
def bc_6 (x : Int64) : Int64 := x + (x.toUInt64 >>> ((32 : Int32).toInt64.toUInt64 &&& Int64.toUInt64 63)).toInt64
def bc (x : Int64) : Int32 := (bc_6 (bc_5 (bc_4 (bc_3 (bc_2 (bc_1 x)))))).toInt32 &&& 127
set_option maxHeartbeats 2000000 in
theorem pm_bitCount {d : Nat} {x : Int64} {S : px_S} {Q : Option Value → px_S → Prop} (hd : 1 ≤ d) (k : Q (some (.int (bc x))) S) : px_M d px_m_Long_bitCount [.long x] S Q := by
  refine px_M.go hd (Nat.le_of_ble_eq_true rfl) ?_
  refine px_P.sn 8 (f1 := (10, [(0, .long (x - (((x.toUInt64 >>> ((1 : Int32).toInt64.toUInt64 &&& Int64.toUInt64 63)).toInt64) &&& 6148914691236517205)))], [])) (S1 := S) rfl ?_
  show px_P _ _ (10, [(0, .long (bc_1 x))], []) S _
  refine px_P.sn 10 (f1 := (24, [(0, .long (((bc_1 x) &&& 3689348814741910323) + ((((bc_1 x).toUInt64 >>> ((2 : Int32).toInt64.toUInt64 &&& Int64.toUInt64 63)).toInt64) &&& 3689348814741910323)))], [])) (S1 := S) rfl ?_
  show px_P _ _ (24, [(0, .long (bc_2 (bc_1 x)))], []) S _
  refine px_P.sn 8 (f1 := (34, [(0, .long (((bc_2 (bc_1 x)) + (((bc_2 (bc_1 x)).toUInt64 >>> ((4 : Int32).toInt64.toUInt64 &&& Int64.toUInt64 63)).toInt64)) &&& 1085102592571150095))], [])) (S1 := S) rfl ?_
  show px_P _ _ (34, [(0, .long (bc_3 (bc_2 (bc_1 x))))], []) S _
  refine px_P.sn 6 (f1 := (41, [(0, .long ((bc_3 (bc_2 (bc_1 x))) + (((bc_3 (bc_2 (bc_1 x))).toUInt64 >>> ((8 : Int32).toInt64.toUInt64 &&& Int64.toUInt64 63)).toInt64)))], [])) (S1 := S) rfl ?_
  show px_P _ _ (41, [(0, .long (bc_4 (bc_3 (bc_2 (bc_1 x)))))], []) S _
  refine px_P.sn 6 (f1 := (48, [(0, .long ((bc_4 (bc_3 (bc_2 (bc_1 x)))) + (((bc_4 (bc_3 (bc_2 (bc_1 x)))).toUInt64 >>> ((16 : Int32).toInt64.toUInt64 &&& Int64.toUInt64 63)).toInt64)))], [])) (S1 := S) rfl ?_
  show px_P _ _ (48, [(0, .long (bc_5 (bc_4 (bc_3 (bc_2 (bc_1 x))))))], []) S _
  refine px_P.sn 6 (f1 := (55, [(0, .long ((bc_5 (bc_4 (bc_3 (bc_2 (bc_1 x))))) + (((bc_5 (bc_4 (bc_3 (bc_2 (bc_1 x))))).toUInt64 >>> ((32 : Int32).toInt64.toUInt64 &&& Int64.toUInt64 63)).toInt64)))], [])) (S1 := S) rfl ?_
  show px_P _ _ (55, [(0, .long (bc_6 (bc_5 (bc_4 (bc_3 (bc_2 (bc_1 x)))))))], []) S _
  refine px_P.sn 4 (f1 := (60, [(0, .long (bc_6 (bc_5 (bc_4 (bc_3 (bc_2 (bc_1 x)))))))], [.int (((bc_6 (bc_5 (bc_4 (bc_3 (bc_2 (bc_1 x)))))).toInt32) &&& 127)])) (S1 := S) rfl ?_
  refine px_P.ret rfl ?_
  exact k
def sbc (f : Nat → Int64) : Nat → Int32
  | 0 => 0
  | n + 1 => sbc f n + bc (f n)
theorem pm_ss_size {d a t : Nat} {f : Nat → Int64} {S : px_S} {Q : Option Value → px_S → Prop} (hd : 2 ≤ d) (ha : S.1 a = some (.inr (6, [.ref t]))) (ht : S.1 t = some (.inl (1, 4, .inr (.inl f)))) (k : Q (some (.int (sbc f 4))) S) : px_M d px_m_SymbolSet_size [.ref a] S Q := by
  have lp : ∀ (m i : Nat), i + m = 4 → px_P (d - 1) px_m_SymbolSet_size (4, [(0, .ref a), (1, .int (sbc f i)), (2, .int (nI i))], []) S Q := by
    intro m
    induction m with
    | zero =>
      intro i hi
      refine px_P.sn 2 (f1 := (6, [(0, .ref a), (1, .int (sbc f i)), (2, .int (nI i))], [.int 4, .int (nI i)])) (S1 := S) rfl ?_
      refine px_P.ic_ge rfl rfl (fun _ => ?_) (fun h => absurd (nI_le (a := 4) (by omega) (by omega)) h)
      refine px_P.sn 1 (f1 := (28, [(0, .ref a), (1, .int (sbc f i)), (2, .int (nI i))], [.int (sbc f i)])) (S1 := S) rfl ?_
      refine px_P.ret rfl ?_
      rw [show i = 4 by omega]
      exact k
    | succ m ih =>
      intro i hi
      refine px_P.sn 2 (f1 := (6, [(0, .ref a), (1, .int (sbc f i)), (2, .int (nI i))], [.int 4, .int (nI i)])) (S1 := S) rfl ?_
      refine px_P.ic_ge rfl rfl (fun h => absurd h (nI_ge (b := 4) (by omega) (by decide))) (fun _ => ?_)
      refine px_P.sn 2 (f1 := (11, [(0, .ref a), (1, .int (sbc f i)), (2, .int (nI i))], [.ref a, .int (sbc f i)])) (S1 := S) rfl ?_
      refine px_P.gf rfl rfl (by assumption) (v := .ref t) rfl ?_
      refine px_P.sn 1 (f1 := (15, [(0, .ref a), (1, .int (sbc f i)), (2, .int (nI i))], [.int (nI i), .ref t, .int (sbc f i)])) (S1 := S) rfl ?_
      refine px_P.laldj (j := i) rfl (by assumption) rfl (by omega) (by decide) ?_
      refine px_P.call rfl ?_
      show px_M _ px_m_Long_bitCount [.long (f i)] S _
      refine pm_bitCount (by omega) ?_
      show px_P _ _ (19, [(0, .ref a), (1, .int (sbc f i)), (2, .int (nI i))], [.int (bc (f i)), .int (sbc f i)]) S _
      refine px_P.sn 4 (f1 := (4, [(0, .ref a), (1, .int ((sbc f i) + (bc (f i)))), (2, .int ((nI i) + 1))], [])) (S1 := S) rfl ?_
      rw [nI_1]
      exact ih (i + 1) (by omega)
  refine px_M.go (by omega) (Nat.le_of_ble_eq_true rfl) ?_
  refine px_P.sn 4 (f1 := (4, [(0, .ref a), (1, .int 0), (2, .int 0)], [])) (S1 := S) rfl ?_
  exact lp 4 0 rfl
/-- what stands fast of a line: length, what it defines and declares, places of = and of what is wrong, steps, what it reads -/
abbrev ln_S : Type := Nat × Int32 × Int32 × Int32 × Int32 × Nat × xe_T × (Nat → Int64)
abbrev ln_L (s : ln_S) : Nat := s.1
abbrev ln_df (s : ln_S) : Int32 := s.2.1
abbrev ln_dc (s : ln_S) : Int32 := s.2.2.1
abbrev ln_eq (s : ln_S) : Int32 := s.2.2.2.1
abbrev ln_wr (s : ln_S) : Int32 := s.2.2.2.2.1
abbrev ln_n (s : ln_S) : Nat := s.2.2.2.2.2.1
abbrev ln_st (s : ln_S) : xe_T := s.2.2.2.2.2.2.1
abbrev ln_W (s : ln_S) : Nat → Int64 := s.2.2.2.2.2.2.2
/-- what changes: the type, the values, the faults' codes and number -/
abbrev ln_D : Type := Int32 × (Nat → Int32) × (Nat → Int32) × Nat
def ln_lay (b e fa : Nat) (s : ln_S) : Prop := (e + 8 = b ∧ 1 ≤ e ∧ fa = b + 1 ∧ ln_wr s = -1) ∨ (e = b + 1 ∧ fa = b + 9 ∧ 9 ≤ b ∧ ¬ ln_wr s = -1)
def ln_in (b q : Nat) : Prop := b ≤ q + 8 ∧ q < b + 11
/-- a line's own cells -/
def ln_own (b : Nat) (s : ln_S) (q : Nat) : Prop := b ≤ q + 8 ∧ ((ln_wr s = -1 ∧ q < b + 3) ∨ (¬ ln_wr s = -1 ∧ b ≤ q ∧ q < b + 11))
def ln_at (S : px_S) (b : Nat) (s : ln_S) (D : ln_D) : Prop := ∃ (e fa M : Nat) (K F C P : Nat → Int32), ln_lay b e fa s ∧ M ≤ 60 ∧ ln_L s ≤ 60 ∧ ln_n s ≤ M ∧ xe_st (ln_st s) (ln_n s) K F C P ∧
  S.1 b = some (.inr (4, [.int (nI (ln_L s)), .int (ln_df s), .int (ln_dc s), .int (ln_eq s), .int (ln_wr s), .ref e, .ref fa, .int D.1])) ∧ xe_at S e M (ln_n s) (ln_W s) K F C P D.2.1 ∧
  S.1 fa = some (.inr (2, [.ref (fa + 1), .int (nI D.2.2.2)])) ∧ S.1 (fa + 1) = some (.inl (0, ln_L s + 1, .inl D.2.2.1))
theorem ln_at.keep {S S' : px_S} {b : Nat} {s : ln_S} {D : ln_D} (h : ln_at S b s D) (hk : ∀ q, ln_own b s q → S'.1 q = S.1 q) : ln_at S' b s D := by
  obtain ⟨e, fa, M, K, F, C, P, h1, h2, h3, h4, h5, h6, ⟨q0, q1, q2, q3, q4, q5, q6, q7⟩, h8, h9⟩ := h
  have ow : ∀ q, (q = b ∨ (e ≤ q ∧ q < e + 8) ∨ q = fa ∨ q = fa + 1) → ln_own b s q := by
    intro q hq
    rcases h1 with ⟨a1, a2, a3, a4⟩ | ⟨a1, a2, a3, a4⟩
    · exact ⟨by omega, Or.inl ⟨a4, by omega⟩⟩
    · exact ⟨by omega, Or.inr ⟨a4, by omega, by omega⟩⟩
  exact ⟨e, fa, M, K, F, C, P, h1, h2, h3, h4, h5, (hk _ (ow _ (by omega))).trans h6, ⟨(hk _ (ow _ (by omega))).trans q0, (hk _ (ow _ (by omega))).trans q1, (hk _ (ow _ (by omega))).trans q2, (hk _ (ow _ (by omega))).trans q3, (hk _ (ow _ (by omega))).trans q4, (hk _ (ow _ (by omega))).trans q5, (hk _ (ow _ (by omega))).trans q6, (hk _ (ow _ (by omega))).trans q7⟩, (hk _ (ow _ (by omega))).trans h8, (hk _ (ow _ (by omega))).trans h9⟩
theorem pm_lnDefined {d b : Nat} {s : ln_S} {D : ln_D} {S : px_S} {Q : Option Value → px_S → Prop} (hd : 1 ≤ d) (h : ln_at S b s D) (k : Q (some (.int (ln_df s))) S) : px_M d px_m_Line_defined [.ref b] S Q := by
  obtain ⟨e, fa, M, K, F, C, P, h1, h2, h3, h4, h5, h6, h7, h8, h9⟩ := h
  refine px_M.go hd (Nat.le_of_ble_eq_true rfl) ?_
  refine px_P.sn 1 (f1 := (1, [(0, .ref b)], [.ref b])) (S1 := S) rfl ?_
  refine px_P.gf rfl rfl (by assumption) (v := .int (ln_df s)) rfl ?_
  refine px_P.ret rfl ?_
  exact k
theorem pm_lnReads {d b : Nat} {s : ln_S} {D : ln_D} {x : Int32} {S : px_S} {Q : Option Value → px_S → Prop} (hd : 2 ≤ d) (h : ln_at S b s D) (k : Q (some (.int (bif ss_hs (ln_W s) x then 1 else 0))) S) : px_M d px_m_Line_reads [.ref b, .int x] S Q := by
  obtain ⟨e, fa, M, K, F, C, P, h1, h2, h3, h4, h5, h6, ⟨q0, q1, q2, q3, q4, q5, q6, q7⟩, h8, h9⟩ := h
  refine px_M.go (by omega) (Nat.le_of_ble_eq_true rfl) ?_
  refine px_P.sn 1 (f1 := (1, [(0, .ref b), (1, .int x)], [.ref b])) (S1 := S) rfl ?_
  refine px_P.gf rfl rfl (by assumption) (v := .ref e) rfl ?_
  refine px_P.gf rfl rfl (by assumption) (v := .ref (e + 1)) rfl ?_
  refine px_P.sn 1 (f1 := (8, [(0, .ref b), (1, .int x)], [.int x, .ref (e + 1)])) (S1 := S) rfl ?_
  refine px_P.cv rfl rfl rfl (by assumption) rfl ?_
  show px_M _ px_m_SymbolSet_has [.ref (e + 1), .int x] S _
  refine pm_ss_has (by omega) q1 q2 ?_
  generalize ss_hs (ln_W s) x = v at k ⊢
  cases v with
  | true =>
    show px_P _ _ (11, [(0, .ref b), (1, .int x)], [.int 1]) S _
    refine px_P.ret rfl ?_
    exact k
  | false =>
    show px_P _ _ (11, [(0, .ref b), (1, .int x)], [.int 0]) S _
    refine px_P.ret rfl ?_
    exact k
theorem pm_lnSymbolsRead {d b : Nat} {s : ln_S} {D : ln_D} {S : px_S} {Q : Option Value → px_S → Prop} (hd : 1 ≤ d) (h : ln_at S b s D) (k : ∀ a, ln_own b s a → ln_own b s (a + 1) → S.1 a = some (.inr (6, [.ref (a + 1)])) → S.1 (a + 1) = some (.inl (1, 4, .inr (.inl (ln_W s)))) → Q (some (.ref a)) S) : px_M d px_m_Line_symbolsRead [.ref b] S Q := by
  obtain ⟨e, fa, M, K, F, C, P, h1, h2, h3, h4, h5, h6, ⟨q0, q1, q2, q3, q4, q5, q6, q7⟩, h8, h9⟩ := h
  refine px_M.go hd (Nat.le_of_ble_eq_true rfl) ?_
  refine px_P.sn 1 (f1 := (1, [(0, .ref b)], [.ref b])) (S1 := S) rfl ?_
  refine px_P.gf rfl rfl (by assumption) (v := .ref e) rfl ?_
  refine px_P.gf rfl rfl (by assumption) (v := .ref (e + 1)) rfl ?_
  refine px_P.ret rfl ?_
  have ow : ∀ q, (e ≤ q ∧ q < e + 8) → ln_own b s q := by
    intro q hq
    rcases h1 with ⟨a1, a2, a3, a4⟩ | ⟨a1, a2, a3, a4⟩
    · exact ⟨by omega, Or.inl ⟨a4, by omega⟩⟩
    · exact ⟨by omega, Or.inr ⟨a4, by omega, by omega⟩⟩
  exact k (e + 1) (ow _ (by omega)) (ow _ (by omega)) q1 q2
theorem pm_lnFaults {d b : Nat} {s : ln_S} {D : ln_D} {S : px_S} {Q : Option Value → px_S → Prop} (hd : 1 ≤ d) (h : ln_at S b s D) (k : ∀ fa, S.1 fa = some (.inr (2, [.ref (fa + 1), .int (nI D.2.2.2)])) → S.1 (fa + 1) = some (.inl (0, ln_L s + 1, .inl D.2.2.1)) → Q (some (.ref fa)) S) : px_M d px_m_Line_faults [.ref b] S Q := by
  obtain ⟨e, fa, M, K, F, C, P, h1, h2, h3, h4, h5, h6, h7, h8, h9⟩ := h
  refine px_M.go hd (Nat.le_of_ble_eq_true rfl) ?_
  refine px_P.sn 1 (f1 := (1, [(0, .ref b)], [.ref b])) (S1 := S) rfl ?_
  refine px_P.gf rfl rfl (by assumption) (v := .ref fa) rfl ?_
  refine px_P.ret rfl ?_
  exact k fa h8 h9
def ln_says (s : ln_S) (ty : Int32) : Int32 := if ln_dc s = -1 then ty else ln_dc s
theorem pm_lnSays {d b : Nat} {s : ln_S} {D : ln_D} {S : px_S} {Q : Option Value → px_S → Prop} (hd : 1 ≤ d) (h : ln_at S b s D) (k : Q (some (.int (ln_says s D.1))) S) : px_M d px_m_Line_says [.ref b] S Q := by
  obtain ⟨e, fa, M, K, F, C, P, h1, h2, h3, h4, h5, h6, h7, h8, h9⟩ := h
  refine px_M.go hd (Nat.le_of_ble_eq_true rfl) ?_
  refine px_P.sn 1 (f1 := (1, [(0, .ref b)], [.ref b])) (S1 := S) rfl ?_
  refine px_P.gf rfl rfl (by assumption) (v := .int (ln_dc s)) rfl ?_
  refine px_P.sn 1 (f1 := (5, [(0, .ref b)], [.int (-1), .int (ln_dc s)])) (S1 := S) rfl ?_
  refine px_P.ic_ne rfl rfl (fun hq => ?_) (fun hq => ?_)
  · refine px_P.sn 1 (f1 := (16, [(0, .ref b)], [.ref b])) (S1 := S) rfl ?_
    refine px_P.gf rfl rfl (by assumption) (v := .int (ln_dc s)) rfl ?_
    refine px_P.ret rfl ?_
    rw [show ln_says s D.1 = _ from if_neg hq] at k
    exact k
  · refine px_P.sn 1 (f1 := (9, [(0, .ref b)], [.ref b])) (S1 := S) rfl ?_
    refine px_P.gf rfl rfl (by assumption) (v := .int D.1) rfl ?_
    refine px_P.sn 1 (f1 := (19, [(0, .ref b)], [.int D.1])) (S1 := S) rfl ?_
    refine px_P.ret rfl ?_
    rw [show ln_says s D.1 = _ from if_pos hq] at k
    exact k
