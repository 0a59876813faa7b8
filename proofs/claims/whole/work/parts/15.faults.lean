/-! ===== Faults ===== -/
theorem ct_s {p : Nat → Bool} {n : Nat} (h : p n = true) : ct p (n + 1) = ct p n + 1 := by simp [ct, h]
theorem ct_z {p : Nat → Bool} {n : Nat} (h : p n = false) : ct p (n + 1) = ct p n := by simp [ct, h]
theorem ofNat_nI (n : Nat) : Int32.ofNat n = nI n := rfl
theorem pm_faultsInit {d a L : Nat} {S : px_S} {Q : Option Value → px_S → Prop} (hd : 1 ≤ d) (hL : L ≤ 1000) (ha : S.1 a = some (.inr (2, [.null, .int 0]))) (haS : a < S.2.1)
    (k : ∀ S', S'.1 a = some (.inr (2, [.ref S.2.1, .int 0])) → S'.1 S.2.1 = some (.inl (0, L + 1, .inl (fun _ => 0))) → (∀ b, b ≠ a → b ≠ S.2.1 → S'.1 b = S.1 b) → S'.2 = (S.2.1 + 1, S.2.2 + (L + 1)) → Q none S') :
    px_M d px_m_Faults_init [.ref a, .int (nI L)] S Q := by
  refine px_M.go hd (Nat.le_of_ble_eq_true rfl) ?_
  refine px_P.sn 4 (f1 := (6, [(0, .ref a), (1, .int (nI L))], [.int 0, .ref a])) (S1 := S) rfl ?_
  refine px_P.pf rfl rfl (by assumption) rfl (fun S1 u1 => ?_)
  have ha1 := u1.s
  refine px_P.sn 2 (f1 := (11, [(0, .ref a), (1, .int (nI L))], [.int (nI L), .ref a])) (S1 := S1) rfl ?_
  refine px_P.if_ge rfl rfl (fun _ => ?_) (fun h => absurd (nI_pos' (by omega)) h)
  refine px_P.sn 3 (f1 := (21, [(0, .ref a), (1, .int (nI L))], [.int ((nI L) + 1), .ref a])) (S1 := S1) rfl ?_
  rw [nI_1]
  refine px_P.newI rfl (decide_eq_false (fun h => h.elim (nI_pos (by omega)) (by rw [nI_clamp (by omega)]; omega))) (fun S2 u2 => ?_)
  have e1 : S1.2 = S.2 := u1.t
  rw [nI_clamp (by omega)] at u2
  have ha2 := u2.n ha1 (by rw [e1]; omega)
  refine px_P.pf rfl rfl (by assumption) rfl (fun S3 u3 => ?_)
  refine px_P.ret rfl ?_
  have hne : S1.2.1 ≠ a := by rw [e1]; omega
  refine k S3 ?_ ?_ ?_ ?_
  · rw [u3.s, e1]; rfl
  · rw [← e1, u3.o hne, u2.s]
  · intro b hb hb2
    rw [u3.o hb, u2.o (by rw [e1]; exact hb2), u1.o hb]
  · rw [u3.t, u2.t, e1]
theorem pm_faultsSize {d a c : Nat} {z : Int32} {S : px_S} {Q : Option Value → px_S → Prop} (hd : 1 ≤ d) (ha : S.1 a = some (.inr (2, [.ref c, .int z]))) (k : Q (some (.int z)) S) : px_M d px_m_Faults_size [.ref a] S Q := by
  refine px_M.go hd (Nat.le_of_ble_eq_true rfl) ?_
  refine px_P.sn 1 (f1 := (1, [(0, .ref a)], [.ref a])) (S1 := S) rfl ?_
  refine px_P.gf rfl rfl (by assumption) (v := .int z) rfl ?_
  refine px_P.ret rfl ?_
  exact k
theorem pm_faultsClear {d a c N : Nat} {z : Int32} {f : Nat → Int32} {S : px_S} {Q : Option Value → px_S → Prop} (hd : 1 ≤ d) (hN : N ≤ 1001) (hac : a ≠ c) (ha : S.1 a = some (.inr (2, [.ref c, .int z]))) (hc : S.1 c = some (.inl (0, N, .inl f)))
    (k : ∀ S' f', S'.1 a = some (.inr (2, [.ref c, .int 0])) → S'.1 c = some (.inl (0, N, .inl f')) → (∀ j, j < N → f' j = 0) → (∀ b, b ≠ a → b ≠ c → S'.1 b = S.1 b) → S'.2 = S.2 → Q none S') :
    px_M d px_m_Faults_clear [.ref a] S Q := by
  refine px_M.go hd (Nat.le_of_ble_eq_true rfl) ?_
  refine px_P.sn 2 (f1 := (2, [(0, .ref a), (1, .int 0)], [])) (S1 := S) rfl ?_
  have lp : ∀ (m i : Nat), i + m = N → ∀ (S1 : px_S) (g : Nat → Int32), px_Up S S1 c (.inl (0, N, .inl g)) → (∀ j, j < i → g j = 0) → px_P (d - 1) px_m_Faults_clear (2, [(0, .ref a), (1, .int (nI i))], []) S1 Q := by
    intro m
    induction m with
    | zero =>
      intro i hi S1 g u hg
      have ha1 := u.n ha hac
      have hc1 := u.s
      refine px_P.sn 2 (f1 := (4, [(0, .ref a), (1, .int (nI i))], [.ref a, .int (nI i)])) (S1 := S1) rfl ?_
      refine px_P.gf rfl rfl (by assumption) (v := .ref c) rfl ?_
      refine px_P.alen rfl (by assumption) rfl ?_
      refine px_P.ic_ge rfl rfl (fun _ => ?_) (fun h => absurd (nI_le (by omega) (by omega)) h)
      refine px_P.sn 2 (f1 := (26, [(0, .ref a), (1, .int (nI i))], [.int 0, .ref a])) (S1 := S1) rfl ?_
      refine px_P.pf rfl rfl (by assumption) rfl (fun S2 u2 => ?_)
      refine px_P.ret rfl ?_
      refine k S2 g ?_ ?_ ?_ ?_ ?_
      · exact u2.s
      · exact u2.n hc1 (Ne.symm hac)
      · rw [show N = i by omega]; exact hg
      · intro b hb hb2; rw [u2.o hb, u.o hb2]
      · rw [u2.t, u.t]
    | succ m ih =>
      intro i hi S1 g u hg
      have ha1 := u.n ha hac
      have hc1 := u.s
      refine px_P.sn 2 (f1 := (4, [(0, .ref a), (1, .int (nI i))], [.ref a, .int (nI i)])) (S1 := S1) rfl ?_
      refine px_P.gf rfl rfl (by assumption) (v := .ref c) rfl ?_
      refine px_P.alen rfl (by assumption) rfl ?_
      refine px_P.ic_ge rfl rfl (fun h => absurd h (nI_ge (by omega) (by omega))) (fun _ => ?_)
      refine px_P.sn 1 (f1 := (12, [(0, .ref a), (1, .int (nI i))], [.ref a])) (S1 := S1) rfl ?_
      refine px_P.gf rfl rfl (by assumption) (v := .ref c) rfl ?_
      refine px_P.sn 2 (f1 := (17, [(0, .ref a), (1, .int (nI i))], [.int 0, .int (nI i), .ref c])) (S1 := S1) rfl ?_
      refine px_P.iastj (j := i) rfl (by assumption) rfl (by omega) (by omega) (fun S2 u2 => ?_)
      refine px_P.sn 2 (f1 := (2, [(0, .ref a), (1, .int ((nI i) + 1))], [])) (S1 := S2) rfl ?_
      rw [nI_1]
      exact ih (i + 1) (by omega) S2 _ (u.u u2) (fun j hj => by
        by_cases h : j = i
        · subst h; simp [upd]
        · simp only [upd, if_neg h]; exact hg j (by omega))
  exact lp N 0 (by omega) S f (px_Up.rf hc) (fun j hj => absurd hj (by omega))
theorem pm_faultsAdd {d a c N p : Nat} {z x : Int32} {f : Nat → Int32} {S : px_S} {Q : Option Value → px_S → Prop} (hd : 1 ≤ d) (hN : N ≤ 1001) (hac : a ≠ c) (ha : S.1 a = some (.inr (2, [.ref c, .int z]))) (hc : S.1 c = some (.inl (0, N, .inl f)))
    (hp : p < N) (h0 : f p = 0) (k : ∀ S', S'.1 a = some (.inr (2, [.ref c, .int (z + 1)])) → S'.1 c = some (.inl (0, N, .inl (upd f p x))) → (∀ b, b ≠ a → b ≠ c → S'.1 b = S.1 b) → S'.2 = S.2 → Q none S') :
    px_M d px_m_Faults_add [.ref a, .int (nI p), .int x] S Q := by
  refine px_M.go hd (Nat.le_of_ble_eq_true rfl) ?_
  refine px_P.sn 1 (f1 := (1, [(0, .ref a), (1, .int (nI p)), (2, .int x)], [.int (nI p)])) (S1 := S) rfl ?_
  refine px_P.if_lt rfl rfl (fun h => absurd h (nI_pos (by omega))) (fun _ => ?_)
  refine px_P.sn 2 (f1 := (6, [(0, .ref a), (1, .int (nI p)), (2, .int x)], [.ref a, .int (nI p)])) (S1 := S) rfl ?_
  refine px_P.gf rfl rfl (by assumption) (v := .ref c) rfl ?_
  refine px_P.alen rfl (by assumption) rfl ?_
  refine px_P.ic_ge rfl rfl (fun h => absurd h (nI_ge hp (by omega))) (fun _ => ?_)
  refine px_P.sn 1 (f1 := (14, [(0, .ref a), (1, .int (nI p)), (2, .int x)], [.ref a])) (S1 := S) rfl ?_
  refine px_P.gf rfl rfl (by assumption) (v := .ref c) rfl ?_
  refine px_P.sn 1 (f1 := (18, [(0, .ref a), (1, .int (nI p)), (2, .int x)], [.int (nI p), .ref c])) (S1 := S) rfl ?_
  refine px_P.ialdj (j := p) rfl (by assumption) rfl (by omega) (by omega) ?_
  refine px_P.if_ne rfl rfl (fun h => absurd (h0) h) (fun _ => ?_)
  refine px_P.sn 1 (f1 := (23, [(0, .ref a), (1, .int (nI p)), (2, .int x)], [.ref a])) (S1 := S) rfl ?_
  refine px_P.gf rfl rfl (by assumption) (v := .ref c) rfl ?_
  refine px_P.sn 2 (f1 := (28, [(0, .ref a), (1, .int (nI p)), (2, .int x)], [.int x, .int (nI p), .ref c])) (S1 := S) rfl ?_
  refine px_P.iastj (j := p) rfl (by assumption) rfl (by omega) (by omega) (fun S1 u1 => ?_)
  have ha1 := u1.n ha hac
  refine px_P.sn 2 (f1 := (31, [(0, .ref a), (1, .int (nI p)), (2, .int x)], [.ref a, .ref a])) (S1 := S1) rfl ?_
  refine px_P.gf rfl rfl (by assumption) (v := .int z) rfl ?_
  refine px_P.sn 2 (f1 := (36, [(0, .ref a), (1, .int (nI p)), (2, .int x)], [.int (z + 1), .ref a])) (S1 := S1) rfl ?_
  refine px_P.pf rfl rfl (by assumption) rfl (fun S2 u2 => ?_)
  refine px_P.ret rfl ?_
  refine k S2 ?_ ?_ ?_ ?_
  · exact u2.s
  · exact u2.n u1.s (Ne.symm hac)
  · intro b hb hb2; rw [u2.o hb, u1.o hb2]
  · rw [u2.t, u1.t]
theorem pm_placeOf {d a c N q : Nat} {z : Int32} {f : Nat → Int32} {S : px_S} {Q : Option Value → px_S → Prop} (hd : 1 ≤ d) (hN : N ≤ 1001) (hq : q < 2 ^ 30) (ha : S.1 a = some (.inr (2, [.ref c, .int z]))) (hc : S.1 c = some (.inl (0, N, .inl f)))
    (k1 : ∀ i, i < N → ¬ f i = 0 → ct (fun j => decide (¬ f j = 0)) i = q → Q (some (.int (nI i))) S) (k2 : ct (fun j => decide (¬ f j = 0)) N ≤ q → Q (some (.int (-1))) S) :
    px_M d px_m_Faults_placeOf [.ref a, .int (nI q)] S Q := by
  refine px_M.go hd (Nat.le_of_ble_eq_true rfl) ?_
  refine px_P.sn 4 (f1 := (4, [(0, .ref a), (1, .int (nI q)), (2, .int (nI q)), (3, .int 0)], [])) (S1 := S) rfl ?_
  have lp : ∀ (m i : Nat), i + m = N → ∀ l : Nat, ct (fun j => decide (¬ f j = 0)) i + l = q → px_P (d - 1) px_m_Faults_placeOf (4, [(0, .ref a), (1, .int (nI q)), (2, .int (nI l)), (3, .int (nI i))], []) S Q := by
    intro m
    induction m with
    | zero =>
      intro i hi l hl
      refine px_P.sn 2 (f1 := (6, [(0, .ref a), (1, .int (nI q)), (2, .int (nI l)), (3, .int (nI i))], [.ref a, .int (nI i)])) (S1 := S) rfl ?_
      refine px_P.gf rfl rfl (by assumption) (v := .ref c) rfl ?_
      refine px_P.alen rfl (by assumption) rfl ?_
      refine px_P.ic_ge rfl rfl (fun _ => ?_) (fun h => absurd (nI_le (by omega) (by omega)) h)
      refine px_P.sn 1 (f1 := (38, [(0, .ref a), (1, .int (nI q)), (2, .int (nI l)), (3, .int (nI i))], [.int (-1)])) (S1 := S) rfl ?_
      refine px_P.ret rfl ?_
      refine k2 ?_
      rw [show N = i by omega]
      omega
    | succ m ih =>
      intro i hi l hl
      refine px_P.sn 2 (f1 := (6, [(0, .ref a), (1, .int (nI q)), (2, .int (nI l)), (3, .int (nI i))], [.ref a, .int (nI i)])) (S1 := S) rfl ?_
      refine px_P.gf rfl rfl (by assumption) (v := .ref c) rfl ?_
      refine px_P.alen rfl (by assumption) rfl ?_
      refine px_P.ic_ge rfl rfl (fun h => absurd h (nI_ge (by omega) (by omega))) (fun _ => ?_)
      refine px_P.sn 1 (f1 := (14, [(0, .ref a), (1, .int (nI q)), (2, .int (nI l)), (3, .int (nI i))], [.ref a])) (S1 := S) rfl ?_
      refine px_P.gf rfl rfl (by assumption) (v := .ref c) rfl ?_
      refine px_P.sn 1 (f1 := (18, [(0, .ref a), (1, .int (nI q)), (2, .int (nI l)), (3, .int (nI i))], [.int (nI i), .ref c])) (S1 := S) rfl ?_
      refine px_P.ialdj (j := i) rfl (by assumption) rfl (by omega) (by omega) ?_
      refine px_P.if_eq rfl rfl (fun h => ?_) (fun h => ?_)
      · refine px_P.sn 2 (f1 := (4, [(0, .ref a), (1, .int (nI q)), (2, .int (nI l)), (3, .int ((nI i) + 1))], [])) (S1 := S) rfl ?_
        rw [nI_1]
        exact ih (i + 1) (by omega) l (by simp only [ct, h]; simpa using hl)
      · refine px_P.sn 1 (f1 := (23, [(0, .ref a), (1, .int (nI q)), (2, .int (nI l)), (3, .int (nI i))], [.int (nI l)])) (S1 := S) rfl ?_
        refine px_P.if_ne rfl rfl (fun h2 => ?_) (fun h2 => ?_)
        · have hl0 : l ≠ 0 := fun e => h2 (by rw [e]; rfl)
          refine px_P.sn 3 (f1 := (4, [(0, .ref a), (1, .int (nI q)), (2, .int ((nI l) + (-1))), (3, .int ((nI i) + 1))], [])) (S1 := S) rfl ?_
          rw [nI_1, sb_m1 (by omega)]
          exact ih (i + 1) (by omega) (l - 1) (by rw [ct_s (decide_eq_true h)]; omega)
        · have hl0 : l = 0 := (nI_eq (b := 0) (by omega) (by decide)).mp h2
          refine px_P.sn 1 (f1 := (27, [(0, .ref a), (1, .int (nI q)), (2, .int (nI l)), (3, .int (nI i))], [.int (nI i)])) (S1 := S) rfl ?_
          refine px_P.ret rfl ?_
          exact k1 i (by omega) h (by omega)
  exact lp N 0 (by omega) q (by simp [ct])
theorem pm_codeOf {d a c N q : Nat} {z : Int32} {f : Nat → Int32} {S : px_S} {Q : Option Value → px_S → Prop} (hd : 2 ≤ d) (hN : N ≤ 1001) (hq : q < 2 ^ 30) (ha : S.1 a = some (.inr (2, [.ref c, .int z]))) (hc : S.1 c = some (.inl (0, N, .inl f)))
    (k1 : ∀ i, i < N → ¬ f i = 0 → ct (fun j => decide (¬ f j = 0)) i = q → Q (some (.int (f i))) S) (k2 : ct (fun j => decide (¬ f j = 0)) N ≤ q → Q (some (.int (-1))) S) :
    px_M d px_m_Faults_codeOf [.ref a, .int (nI q)] S Q := by
  refine px_M.go (by omega) (Nat.le_of_ble_eq_true rfl) ?_
  refine px_P.sn 2 (f1 := (2, [(0, .ref a), (1, .int (nI q))], [.int (nI q), .ref a])) (S1 := S) rfl ?_
  refine px_P.cv rfl rfl rfl (by assumption) rfl ?_
  show px_M _ px_m_Faults_placeOf [.ref a, .int (nI q)] S _
  refine pm_placeOf (by omega) hN hq ha hc (fun i hi h0 hct => ?_) (fun hct => ?_)
  · show px_P _ _ (5, [(0, .ref a), (1, .int (nI q))], [.int (nI i)]) S _
    refine px_P.sn 2 (f1 := (7, [(0, .ref a), (1, .int (nI q)), (2, .int (nI i))], [.int (nI i)])) (S1 := S) rfl ?_
    refine px_P.if_lt rfl rfl (fun h => absurd h (nI_pos (by omega))) (fun _ => ?_)
    refine px_P.sn 2 (f1 := (12, [(0, .ref a), (1, .int (nI q)), (2, .int (nI i))], [.ref a, .int (nI i)])) (S1 := S) rfl ?_
    refine px_P.gf rfl rfl (by assumption) (v := .ref c) rfl ?_
    refine px_P.alen rfl (by assumption) rfl ?_
    refine px_P.ic_ge rfl rfl (fun h => absurd h (nI_ge hi (by omega))) (fun _ => ?_)
    refine px_P.sn 1 (f1 := (20, [(0, .ref a), (1, .int (nI q)), (2, .int (nI i))], [.ref a])) (S1 := S) rfl ?_
    refine px_P.gf rfl rfl (by assumption) (v := .ref c) rfl ?_
    refine px_P.sn 1 (f1 := (24, [(0, .ref a), (1, .int (nI q)), (2, .int (nI i))], [.int (nI i), .ref c])) (S1 := S) rfl ?_
    refine px_P.ialdj (j := i) rfl (by assumption) rfl (by omega) (by omega) ?_
    refine px_P.sn 1 (f1 := (29, [(0, .ref a), (1, .int (nI q)), (2, .int (nI i))], [.int (f i)])) (S1 := S) rfl ?_
    refine px_P.ret rfl ?_
    exact k1 i hi h0 hct
  · show px_P _ _ (5, [(0, .ref a), (1, .int (nI q))], [.int (-1)]) S _
    refine px_P.sn 2 (f1 := (7, [(0, .ref a), (1, .int (nI q)), (2, .int (-1))], [.int (-1)])) (S1 := S) rfl ?_
    refine px_P.if_lt rfl rfl (fun _ => ?_) (fun h => absurd ((by decide)) h)
    refine px_P.sn 1 (f1 := (29, [(0, .ref a), (1, .int (nI q)), (2, .int (-1))], [.int (-1)])) (S1 := S) rfl ?_
    refine px_P.ret rfl ?_
    exact k2 hct
