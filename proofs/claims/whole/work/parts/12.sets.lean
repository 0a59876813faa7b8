/-! ===== SymbolSet ===== -/
def ss_hs (f : Nat → Int64) (x : Int32) : Bool := decide (0 ≤ x) && (decide (x < 208) && ss_in f x.toNatClampNeg)
theorem ss_hs_in {f : Nat → Int64} {n : Nat} (hn : n < 208) : ss_hs f (nI n) = ss_in f n := by
  have h1 : (0 : Int32) ≤ nI n := nI_pos' (by omega)
  have h2 : nI n < (208 : Int32) := nI_lt (b := 208) hn (by decide)
  simp only [ss_hs, h1, h2, decide_true, Bool.true_and]
  rw [nI_clamp (by omega)]
theorem ss_hs_neg {f : Nat → Int64} {x : Int32} (h : x < 0) : ss_hs f x = false := by
  have h1 : ¬ (0 : Int32) ≤ x := Int32.not_le.mpr h
  simp only [ss_hs, h1, decide_false, Bool.false_and]
theorem ss_hs_big {f : Nat → Int64} {x : Int32} (h : (208 : Int32) ≤ x) : ss_hs f x = false := by
  have h1 : ¬ x < (208 : Int32) := Int32.not_lt.mpr h
  simp only [ss_hs, h1, decide_false, Bool.false_and, Bool.and_false]
set_option maxHeartbeats 1000000 in
theorem pm_ss_has {d a t : Nat} {x : Int32} {f : Nat → Int64} {S : px_S} {Q : Option Value → px_S → Prop} (hd : 1 ≤ d) (ha : S.1 a = some (.inr (6, [.ref t]))) (ht : S.1 t = some (.inl (1, 4, .inr (.inl f))))
    (k : Q (some (.int (bif ss_hs f x then 1 else 0))) S) : px_M d px_m_SymbolSet_has [.ref a, .int x] S Q := by
  refine px_M.go hd (Nat.le_of_ble_eq_true rfl) ?_
  refine px_P.sn 1 (f1 := (1, [(0, .ref a), (1, .int x)], [.int x])) (S1 := S) rfl ?_
  refine px_P.if_lt rfl rfl (fun h0 => ?_) (fun h0 => ?_)
  · refine px_P.sn 1 (f1 := (37, [(0, .ref a), (1, .int x)], [.int 0])) (S1 := S) rfl ?_
    refine px_P.ret rfl ?_
    rw [ss_hs_neg h0] at k
    exact k
  · refine px_P.sn 2 (f1 := (8, [(0, .ref a), (1, .int x)], [.int 208, .int x])) (S1 := S) rfl ?_
    refine px_P.ic_ge rfl rfl (fun h1 => ?_) (fun h1 => ?_)
    · refine px_P.sn 1 (f1 := (37, [(0, .ref a), (1, .int x)], [.int 0])) (S1 := S) rfl ?_
      refine px_P.ret rfl ?_
      rw [ss_hs_big h1] at k
      exact k
    · obtain ⟨n, hn, rfl⟩ := nN_of (n := 208) (by decide) (Int32.not_lt.mp h0) (Int32.not_le.mp h1)
      refine px_P.sn 1 (f1 := (12, [(0, .ref a), (1, .int (nI n))], [.ref a])) (S1 := S) rfl ?_
      refine px_P.gf rfl rfl (by assumption) (v := .ref t) rfl ?_
      refine px_P.sn 3 (f1 := (19, [(0, .ref a), (1, .int (nI n))], [.int ((nI n) >>> (6 &&& 31)), .ref t])) (S1 := S) rfl ?_
      refine px_P.laldj (j := n / 64) rfl (by assumption) (ss_6 (by omega)) (by omega) (by decide) ?_
      refine px_P.sn 8 (f1 := (29, [(0, .ref a), (1, .int (nI n))], [.int (lg_cmp ((((f (n / 64)).toUInt64 >>> (((nI n) &&& 63).toInt64.toUInt64 &&& Int64.toUInt64 63)).toInt64) &&& 1) 0)])) (S1 := S) rfl ?_
      have hb := ss_bit (f (n / 64)) (s := (nI n &&& 63).toInt64.toUInt64 &&& Int64.toUInt64 63) (j := n % 64) (by omega) (by rw [ss_63 (by omega)]; exact ss_cnt _ (by omega))
      rw [ss_hs_in hn] at k
      refine px_P.if_eq rfl rfl (fun h2 => ?_) (fun h2 => ?_)
      · refine px_P.sn 1 (f1 := (37, [(0, .ref a), (1, .int (nI n))], [.int 0])) (S1 := S) rfl ?_
        refine px_P.ret rfl ?_
        rw [show ss_in f n = false from hb.mp (lc_ne.mp h2)] at k
        exact k
      · refine px_P.sn 2 (f1 := (37, [(0, .ref a), (1, .int (nI n))], [.int 1])) (S1 := S) rfl ?_
        refine px_P.ret rfl ?_
        have h4 : ss_in f n = true := by
          cases hq : ss_in f n with
          | true => rfl
          | false => exact absurd (lc_ne.mpr (hb.mpr hq)) h2
        rw [h4] at k
        exact k
/-- the set with one more -/
def ss_put (f : Nat → Int64) (n : Nat) : Nat → Int64 := vp_updL f (n / 64) (f (n / 64) ||| ((1 : Int64) <<< ((nI n &&& 63).toInt64 &&& 63)))
theorem ss_put_in {f : Nat → Int64} {n : Nat} (hn : n < 208) (y : Nat) : ss_in (ss_put f n) y = (ss_in f y || decide (y = n)) := by
  have e : (f (n / 64) ||| ((1 : Int64) <<< ((nI n &&& 63).toInt64 &&& 63))).toBitVec = (f (n / 64)).toBitVec ||| BitVec.twoPow 64 (n % 64) := by
    rw [ss_63 (by omega)]
    show (f (n / 64)).toBitVec ||| ((1 : Int64) <<< ((nI (n % 64)).toInt64 &&& 63)).toBitVec = _
    rw [ss_shl _ (by omega)]
  unfold ss_in ss_put
  by_cases h : y / 64 = n / 64
  · rw [h]
    simp only [vp_updL, if_true]
    rw [e, BitVec.getLsbD_or, BitVec.getLsbD_twoPow]
    congr 1
    by_cases h2 : y % 64 = n % 64
    · have : y = n := by omega
      simp [this]
      omega
    · have : ¬ y = n := fun z => h2 (by rw [z])
      simp [this]
      intro _; omega
  · have : ¬ y = n := fun z => h (by rw [z])
    simp [vp_updL, h, this]
set_option maxHeartbeats 1000000 in
theorem pm_ss_add {d a t n : Nat} {f : Nat → Int64} {S : px_S} {Q : Option Value → px_S → Prop} (hd : 1 ≤ d) (ha : S.1 a = some (.inr (6, [.ref t]))) (ht : S.1 t = some (.inl (1, 4, .inr (.inl f)))) (hn : n < 208)
    (k : ∀ S1, px_Up S S1 t (.inl (1, 4, .inr (.inl (ss_put f n)))) → Q none S1) : px_M d px_m_SymbolSet_add [.ref a, .int (nI n)] S Q := by
  refine px_M.go hd (Nat.le_of_ble_eq_true rfl) ?_
  refine px_P.sn 1 (f1 := (1, [(0, .ref a), (1, .int (nI n))], [.int (nI n)])) (S1 := S) rfl ?_
  refine px_P.if_lt rfl rfl (fun h => absurd h (nI_pos (by omega))) (fun _ => ?_)
  refine px_P.sn 2 (f1 := (8, [(0, .ref a), (1, .int (nI n))], [.int 208, .int (nI n)])) (S1 := S) rfl ?_
  refine px_P.ic_ge rfl rfl (fun h => absurd h (nI_ge (b := 208) hn (by decide))) (fun _ => ?_)
  refine px_P.sn 1 (f1 := (12, [(0, .ref a), (1, .int (nI n))], [.ref a])) (S1 := S) rfl ?_
  refine px_P.gf rfl rfl (by assumption) (v := .ref t) rfl ?_
  refine px_P.sn 4 (f1 := (20, [(0, .ref a), (1, .int (nI n))], [.int ((nI n) >>> (6 &&& 31)), .ref t, .int ((nI n) >>> (6 &&& 31)), .ref t])) (S1 := S) rfl ?_
  refine px_P.laldj (j := n / 64) rfl (by assumption) (ss_6 (by omega)) (by omega) (by decide) ?_
  refine px_P.sn 6 (f1 := (28, [(0, .ref a), (1, .int (nI n))], [.long ((f (n / 64)) ||| ((1 : Int64) <<< (((nI n) &&& 63).toInt64 &&& 63))), .int ((nI n) >>> (6 &&& 31)), .ref t])) (S1 := S) rfl ?_
  refine px_P.lastj (j := n / 64) rfl (by assumption) (ss_6 (by omega)) (by omega) (by decide) (fun S1 u1 => ?_)
  refine px_P.ret rfl ?_
  exact k S1 u1
set_option maxHeartbeats 1000000 in
theorem pm_ss_clear {d a t : Nat} {f : Nat → Int64} {S : px_S} {Q : Option Value → px_S → Prop} (hd : 1 ≤ d) (hat : a ≠ t) (ha : S.1 a = some (.inr (6, [.ref t]))) (ht : S.1 t = some (.inl (1, 4, .inr (.inl f))))
    (k : ∀ S1 f', px_Up S S1 t (.inl (1, 4, .inr (.inl f'))) → (∀ j, j < 4 → f' j = 0) → Q none S1) : px_M d px_m_SymbolSet_clear [.ref a] S Q := by
  refine px_M.go hd (Nat.le_of_ble_eq_true rfl) ?_
  refine px_P.sn 2 (f1 := (2, [(0, .ref a), (1, .int 0)], [])) (S1 := S) rfl ?_
  have lp : ∀ (m i : Nat), i + m = 4 → ∀ (S1 : px_S) (g : Nat → Int64), px_Up S S1 t (.inl (1, 4, .inr (.inl g))) → (∀ j, j < i → g j = 0) → px_P (d - 1) px_m_SymbolSet_clear (2, [(0, .ref a), (1, .int (nI i))], []) S1 Q := by
    intro m
    induction m with
    | zero =>
      intro i hi S1 g u hg
      refine px_P.sn 2 (f1 := (4, [(0, .ref a), (1, .int (nI i))], [.int 4, .int (nI i)])) (S1 := S1) rfl ?_
      refine px_P.ic_ge rfl rfl (fun _ => ?_) (fun h => absurd (nI_le (a := 4) (by omega) (by omega)) h)
      refine px_P.ret rfl ?_
      exact k S1 g u (by rw [show i = 4 by omega] at hg; exact hg)
    | succ m ih =>
      intro i hi S1 g u hg
      have ha1 := u.n ha hat
      have ht1 := u.s
      refine px_P.sn 2 (f1 := (4, [(0, .ref a), (1, .int (nI i))], [.int 4, .int (nI i)])) (S1 := S1) rfl ?_
      refine px_P.ic_ge rfl rfl (fun h => absurd h (nI_ge (b := 4) (by omega) (by decide))) (fun _ => ?_)
      refine px_P.sn 1 (f1 := (8, [(0, .ref a), (1, .int (nI i))], [.ref a])) (S1 := S1) rfl ?_
      refine px_P.gf rfl rfl (by assumption) (v := .ref t) rfl ?_
      refine px_P.sn 2 (f1 := (13, [(0, .ref a), (1, .int (nI i))], [.long 0, .int (nI i), .ref t])) (S1 := S1) rfl ?_
      refine px_P.lastj (j := i) rfl (by assumption) rfl (by omega) (by decide) (fun S2 u2 => ?_)
      refine px_P.sn 2 (f1 := (2, [(0, .ref a), (1, .int ((nI i) + 1))], [])) (S1 := S2) rfl ?_
      rw [nI_1]
      exact ih (i + 1) (by omega) S2 _ (u.u u2) (fun j hj => by
        by_cases h : j = i
        · subst h; simp [vp_updL]
        · simp only [vp_updL, if_neg h]; exact hg j (by omega))
  exact lp 4 0 rfl S f (px_Up.rf ht) (fun j hj => absurd hj (by omega))
set_option maxHeartbeats 1000000 in
theorem pm_ss_addAll {d a t b s : Nat} {f g : Nat → Int64} {S : px_S} {Q : Option Value → px_S → Prop} (hd : 1 ≤ d) (hat : a ≠ t) (hbt : b ≠ t) (hst : s ≠ t) (ha : S.1 a = some (.inr (6, [.ref t]))) (ht : S.1 t = some (.inl (1, 4, .inr (.inl f))))
    (hb : S.1 b = some (.inr (6, [.ref s]))) (hs : S.1 s = some (.inl (1, 4, .inr (.inl g))))
    (k : ∀ S1 f', px_Up S S1 t (.inl (1, 4, .inr (.inl f'))) → (∀ j, j < 4 → f' j = f j ||| g j) → Q none S1) : px_M d px_m_SymbolSet_addAll [.ref a, .ref b] S Q := by
  refine px_M.go hd (Nat.le_of_ble_eq_true rfl) ?_
  refine px_P.sn 2 (f1 := (2, [(0, .ref a), (1, .ref b), (2, .int 0)], [])) (S1 := S) rfl ?_
  have lp : ∀ (m i : Nat), i + m = 4 → ∀ (S1 : px_S) (h : Nat → Int64), px_Up S S1 t (.inl (1, 4, .inr (.inl h))) → (∀ j, j < i → h j = f j ||| g j) → (∀ j, i ≤ j → h j = f j) → px_P (d - 1) px_m_SymbolSet_addAll (2, [(0, .ref a), (1, .ref b), (2, .int (nI i))], []) S1 Q := by
    intro m
    induction m with
    | zero =>
      intro i hi S1 h u h1 h2
      refine px_P.sn 2 (f1 := (4, [(0, .ref a), (1, .ref b), (2, .int (nI i))], [.int 4, .int (nI i)])) (S1 := S1) rfl ?_
      refine px_P.ic_ge rfl rfl (fun _ => ?_) (fun h => absurd (nI_le (a := 4) (by omega) (by omega)) h)
      refine px_P.ret rfl ?_
      exact k S1 h u (by rw [show i = 4 by omega] at h1; exact h1)
    | succ m ih =>
      intro i hi S1 h u h1 h2
      have ha1 := u.n ha hat
      have ht1 := u.s
      have hb1 := u.n hb hbt
      have hs1 := u.n hs hst
      refine px_P.sn 2 (f1 := (4, [(0, .ref a), (1, .ref b), (2, .int (nI i))], [.int 4, .int (nI i)])) (S1 := S1) rfl ?_
      refine px_P.ic_ge rfl rfl (fun h => absurd h (nI_ge (b := 4) (by omega) (by decide))) (fun _ => ?_)
      refine px_P.sn 1 (f1 := (8, [(0, .ref a), (1, .ref b), (2, .int (nI i))], [.ref a])) (S1 := S1) rfl ?_
      refine px_P.gf rfl rfl (by assumption) (v := .ref t) rfl ?_
      refine px_P.sn 2 (f1 := (13, [(0, .ref a), (1, .ref b), (2, .int (nI i))], [.int (nI i), .ref t, .int (nI i), .ref t])) (S1 := S1) rfl ?_
      refine px_P.laldj (j := i) rfl (by assumption) rfl (by omega) (by decide) ?_
      refine px_P.sn 1 (f1 := (15, [(0, .ref a), (1, .ref b), (2, .int (nI i))], [.ref b, .long (h i), .int (nI i), .ref t])) (S1 := S1) rfl ?_
      refine px_P.gf rfl rfl (by assumption) (v := .ref s) rfl ?_
      refine px_P.sn 1 (f1 := (19, [(0, .ref a), (1, .ref b), (2, .int (nI i))], [.int (nI i), .ref s, .long (h i), .int (nI i), .ref t])) (S1 := S1) rfl ?_
      refine px_P.laldj (j := i) rfl (by assumption) rfl (by omega) (by decide) ?_
      refine px_P.sn 1 (f1 := (21, [(0, .ref a), (1, .ref b), (2, .int (nI i))], [.long ((h i) ||| (g i)), .int (nI i), .ref t])) (S1 := S1) rfl ?_
      refine px_P.lastj (j := i) rfl (by assumption) rfl (by omega) (by decide) (fun S2 u2 => ?_)
      refine px_P.sn 2 (f1 := (2, [(0, .ref a), (1, .ref b), (2, .int ((nI i) + 1))], [])) (S1 := S2) rfl ?_
      rw [nI_1]
      refine ih (i + 1) (by omega) S2 _ (u.u u2) (fun j hj => ?_) (fun j hj => ?_)
      · by_cases e : j = i
        · subst e; simp only [vp_updL, if_true]; rw [h2 j (Nat.le_refl _)]
        · simp only [vp_updL, if_neg e]; exact h1 j (by omega)
      · have e : ¬ j = i := by omega
        simp only [vp_updL, if_neg e]; exact h2 j (by omega)
  exact lp 4 0 rfl S f (px_Up.rf ht) (fun j hj => absurd hj (by omega)) (fun _ _ => rfl)
theorem ss_or {f g h : Nat → Int64} (hh : ∀ j, j < 4 → h j = f j ||| g j) {y : Nat} (hy : y < 208) : ss_in h y = (ss_in f y || ss_in g y) := by
  unfold ss_in
  rw [hh (y / 64) (by omega)]
  show ((f (y / 64)).toBitVec ||| (g (y / 64)).toBitVec).getLsbD _ = _
  rw [BitVec.getLsbD_or]
theorem ss_none {f : Nat → Int64} (hf : ∀ j, j < 4 → f j = 0) {y : Nat} (hy : y < 208) : ss_in f y = false := by
  unfold ss_in
  rw [hf (y / 64) (by omega)]
  simp
