/-! ===== the model: the state while a line is read ===== -/
theorem lt_mo : ∀ k, k < 256 → lt k = (if nI k = 105 then some 0 else if nI k = 102 then some 1 else if nI k = 115 then some 2 else if nI k = 110 then some 3 else if nI k = 63 then some 4 else none) := by decide +kernel
theorem pm_moLetter {d k : Nat} {S : px_S} {Q : Option Value → px_S → Prop} (hd : 1 ≤ d) (hk : k ≤ 255) (kk : Q (some (.int (rv (lt k)))) S) : px_M d px_m_Model_letterOf [.int (nI k)] S Q := by
  rw [lt_mo k (by omega)] at kk
  refine px_M.go (by omega) (Nat.le_of_ble_eq_true rfl) ?_
  refine px_P.sn 2 (f1 := (3, [(0, .int (nI k))], [.int 105, .int (nI k)])) (S1 := S) rfl ?_
  refine px_P.ic_ne rfl rfl (fun h1 => ?_) (fun h1 => ?_)
  · rw [if_neg h1] at kk
    refine px_P.sn 2 (f1 := (13, [(0, .int (nI k))], [.int 102, .int (nI k)])) (S1 := S) rfl ?_
    refine px_P.ic_ne rfl rfl (fun h2 => ?_) (fun h2 => ?_)
    · rw [if_neg h2] at kk
      refine px_P.sn 2 (f1 := (23, [(0, .int (nI k))], [.int 115, .int (nI k)])) (S1 := S) rfl ?_
      refine px_P.ic_ne rfl rfl (fun h3 => ?_) (fun h3 => ?_)
      · rw [if_neg h3] at kk
        refine px_P.sn 2 (f1 := (33, [(0, .int (nI k))], [.int 110, .int (nI k)])) (S1 := S) rfl ?_
        refine px_P.ic_ne rfl rfl (fun h4 => ?_) (fun h4 => ?_)
        · rw [if_neg h4] at kk
          refine px_P.sn 2 (f1 := (43, [(0, .int (nI k))], [.int 63, .int (nI k)])) (S1 := S) rfl ?_
          refine px_P.ic_ne rfl rfl (fun h5 => ?_) (fun h5 => ?_)
          · rw [if_neg h5] at kk
            refine px_P.sn 1 (f1 := (51, [(0, .int (nI k))], [.int (-1)])) (S1 := S) rfl ?_
            refine px_P.ret rfl ?_
            exact kk
          · rw [if_pos h5] at kk
            refine px_P.sn 2 (f1 := (51, [(0, .int (nI k))], [.int 4])) (S1 := S) rfl ?_
            refine px_P.ret rfl ?_
            exact kk
        · rw [if_pos h4] at kk
          refine px_P.sn 2 (f1 := (51, [(0, .int (nI k))], [.int 3])) (S1 := S) rfl ?_
          refine px_P.ret rfl ?_
          exact kk
      · rw [if_pos h3] at kk
        refine px_P.sn 2 (f1 := (51, [(0, .int (nI k))], [.int 2])) (S1 := S) rfl ?_
        refine px_P.ret rfl ?_
        exact kk
    · rw [if_pos h2] at kk
      refine px_P.sn 2 (f1 := (51, [(0, .int (nI k))], [.int 1])) (S1 := S) rfl ?_
      refine px_P.ret rfl ?_
      exact kk
  · rw [if_pos h1] at kk
    refine px_P.sn 2 (f1 := (51, [(0, .int (nI k))], [.int 0])) (S1 := S) rfl ?_
    refine px_P.ret rfl ?_
    exact kk
theorem pm_moIsSym {d k : Nat} {S : px_S} {Q : Option Value → px_S → Prop} (hd : 1 ≤ d) (hk : k ≤ 255) (kk : Q (some (.int (bif isN k then 1 else 0))) S) : px_M d px_m_Model_isSymbol [.int (nI k)] S Q := by
  refine px_M.go (by omega) (Nat.le_of_ble_eq_true rfl) ?_
  refine px_P.sn 2 (f1 := (3, [(0, .int (nI k))], [.int 65, .int (nI k)])) (S1 := S) rfl ?_
  by_cases h1 : 65 ≤ k
  · refine px_P.ic_lt rfl rfl (fun h => absurd h ((nI_nlt (b := 65) h1 (by omega)))) (fun _ => ?_)
    refine px_P.sn 2 (f1 := (9, [(0, .int (nI k))], [.int 90, .int (nI k)])) (S1 := S) rfl ?_
    by_cases h2 : k ≤ 90
    · refine px_P.ic_gt rfl rfl (fun h => absurd h ((nI_nlt (a := 90) h2 (by decide)))) (fun _ => ?_)
      refine px_P.sn 2 (f1 := (17, [(0, .int (nI k))], [.int 1])) (S1 := S) rfl ?_
      refine px_P.ret rfl ?_
      rw [show isN k = true from by unfold isN; rw [decide_eq_true h1, decide_eq_true h2]; rfl] at kk
      exact kk
    · refine px_P.ic_gt rfl rfl (fun _ => ?_) (fun h => absurd ((nI_lt (a := 90) (by omega) (by omega))) h)
      refine px_P.sn 1 (f1 := (17, [(0, .int (nI k))], [.int 0])) (S1 := S) rfl ?_
      refine px_P.ret rfl ?_
      rw [show isN k = false from by unfold isN; rw [decide_eq_false h2, Bool.and_false]] at kk
      exact kk
  · refine px_P.ic_lt rfl rfl (fun _ => ?_) (fun h => absurd ((nI_lt (b := 65) (by omega) (by decide))) h)
    refine px_P.sn 1 (f1 := (17, [(0, .int (nI k))], [.int 0])) (S1 := S) rfl ?_
    refine px_P.ret rfl ?_
    rw [show isN k = false from by unfold isN; rw [decide_eq_false h1]; rfl] at kk
    exact kk
/-! the state: place a, n steps st, open things O (the newest ahead) -/
def mq (q : Nat → Int32) (x y z : Int32) : Nat → Int32 := fun i => if i = 5 then x else if i = 6 then y else if i = 7 then z else q i
theorem mq_5 (q : Nat → Int32) (x x' y z : Int32) : upd (mq q x y z) 5 x' = mq q x' y z := by
  funext i
  unfold upd mq
  by_cases e : i = 5
  · simp [e]
  · simp [e]
theorem mq_7 (q : Nat → Int32) (x y z z' : Int32) : upd (mq q x y z) 7 z' = mq q x y z' := by
  funext i
  unfold upd mq
  by_cases e : i = 7
  · simp [e]
  · simp [e]
def wth (q : Nat × Nat × Nat × Nat) : Nat := if q.1 ≤ 1 then q.2.1 else if q.1 = 5 then q.2.2.1 else 0
def sth (A0 A : Nat → Nat → Int32) (p : Nat) : Prop := (∀ i, i ≠ 8 → i ≠ 9 → i ≠ 10 → i ≠ 11 → i ≠ 24 → A i = A0 i) ∧ (∀ j, j ≠ p → A 8 j = A0 8 j) ∧ ∀ i j, 9 ≤ i → i ≤ 11 → (j < 64 * p ∨ 64 * p + 64 ≤ j) → A i j = A0 i j
def st1 (A : Nat → Nat → Int32) (b : Nat) (q : Nat × Nat × Nat × Nat) : Prop := A 9 b = nI (q.1 + 1) ∧ A 10 b = nI (wth q) ∧ (q.1 ≠ 2 → A 11 b = nI q.2.2.2)
def ste (A : Nat → Nat → Int32) (p n : Nat) (st : xe_T) : Prop := A 8 p = nI n ∧ ∀ k, k < n → st1 A (64 * p + k) (st k)
def stO (A : Nat → Nat → Int32) (O : List Nat) : Prop := (∀ j, j < O.length → A 24 j = nI (O.getD (O.length - 1 - j) 0)) ∧ ∀ o, o ∈ O → o ≤ 6100
def stm (S0 S : px_S) (m p : Nat) (q0 : Nat → Int32) (A0 A : Nat → Nat → Int32) (a n : Nat) (st : xe_T) (O : List Nat) : Prop := mo_at S m (mq q0 (nI a) (nI p) (nI O.length)) A ∧ mF S0 S m ∧ sth A0 A p ∧ ste A p n st ∧ stO A O
theorem mt.sth {A0 A : Nat → Nat → Int32} {p N : Nat} {tx : Nat → Nat} (h : mt A0 p tx N) (k : sth A0 A p) : mt A p tx N := by
  unfold mt
  rw [k.1 2 (by decide) (by decide) (by decide) (by decide) (by decide), k.1 3 (by decide) (by decide) (by decide) (by decide) (by decide)]
  exact h
/-- another place -/
theorem stm.pl {S0 S S' : px_S} {m p a a' n : Nat} {q0 : Nat → Int32} {A0 A : Nat → Nat → Int32} {st : xe_T} {O : List Nat} (h : stm S0 S m p q0 A0 A a n st O) (u : px_Up S S' m (.inr (10, mo_ob m (mq q0 (nI a') (nI p) (nI O.length))))) : stm S0 S' m p q0 A0 A a' n st O :=
  ⟨h.1.ob u, h.2.1.tr (mF.u (Nat.le_refl _) (by omega) u), h.2.2⟩
theorem pm_stLook {d m p a N n : Nat} {tx : Nat → Nat} {q0 : Nat → Int32} {A0 A : Nat → Nat → Int32} {st : xe_T} {O : List Nat} {S0 S : px_S} {Q : Option Value → px_S → Prop} (hd : 2 ≤ d) (ht : mt A0 p tx N) (h : stm S0 S m p q0 A0 A a n st O) (ha : a ≤ N)
    (k : ∀ S', stm S0 S' m p q0 A0 A (nx tx N a) n st O → Q (some (.int (nI (cn tx N (nx tx N a))))) S') : px_M d px_m_Model_look [.ref m] S Q := by
  obtain ⟨h1, h2, h3, h4⟩ := h
  refine pm_moLook hd h1 rfl rfl (ht.sth h3) ha (fun S' g1 g2 => k S' ⟨?_, h2.tr g2, h3, h4⟩)
  rw [mq_5] at g1
  exact g1
theorem sth.st {A0 A A' : Nat → Nat → Int32} {p n : Nat} (h : sth A0 A p) (hn : n < 64) (h1 : ∀ i, i ≠ 8 → i ≠ 9 → i ≠ 10 → i ≠ 11 → A' i = A i) (h2 : ∀ j, j ≠ p → A' 8 j = A 8 j) (h3 : ∀ i j, 9 ≤ i → i ≤ 11 → j ≠ 64 * p + n → A' i j = A i j) : sth A0 A' p :=
  ⟨fun i e8 e9 e10 e11 e24 => (h1 i e8 e9 e10 e11).trans (h.1 i e8 e9 e10 e11 e24), fun j hj => (h2 j hj).trans (h.2.1 j hj), fun i j i1 i2 hj => (h3 i j i1 i2 (by omega)).trans (h.2.2 i j i1 i2 hj)⟩
theorem pm_moStep {d m p n kd w pl a : Nat} {q0 : Nat → Int32} {A0 A : Nat → Nat → Int32} {st : xe_T} {O : List Nat} {q4 : Nat × Nat × Nat × Nat} {S0 S : px_S} {Q : Option Value → px_S → Prop} (hd : 1 ≤ d) (hp : p < 96) (hn : n < 64) (h : stm S0 S m p q0 A0 A a n st O) (e1 : kd = q4.1 + 1) (e2 : w = wth q4) (e3 : q4.1 ≠ 2 → pl = q4.2.2.2)
    (k : ∀ S' A', stm S0 S' m p q0 A0 A' a (n + 1) (va_up st n q4) O → Q none S') : px_M d px_m_Model_step [.ref m, .int (nI kd), .int (nI w), .int (nI pl)] S Q := by
  obtain ⟨h1, h2, h3, h4, h5⟩ := h
  have c0 := h1.1
  have r8 : S.1 (m + 8) = some (.inl (0, 96, .inl (A 8))) := h1.2 8 (by decide) (by decide)
  have r9 : S.1 (m + 9) = some (.inl (0, 6144, .inl (A 9))) := h1.2 9 (by decide) (by decide)
  have r10 : S.1 (m + 10) = some (.inl (0, 6144, .inl (A 10))) := h1.2 10 (by decide) (by decide)
  have r11 : S.1 (m + 11) = some (.inl (0, 6144, .inl (A 11))) := h1.2 11 (by decide) (by decide)
  refine px_M.go (by omega) (Nat.le_of_ble_eq_true rfl) ?_
  refine px_P.sn 2 (f1 := (3, [(0, .ref m), (1, .int (nI kd)), (2, .int (nI w)), (3, .int (nI pl))], [.ref m, .int 64])) (S1 := S) rfl ?_
  refine px_P.gf rfl rfl (by assumption) (v := .int (nI p)) rfl ?_
  refine px_P.sn 2 (f1 := (8, [(0, .ref m), (1, .int (nI kd)), (2, .int (nI w)), (3, .int (nI pl))], [.ref m, .int (64 * (nI p))])) (S1 := S) rfl ?_
  refine px_P.gf rfl rfl (by assumption) (v := .ref (m + 8)) rfl ?_
  refine px_P.sn 1 (f1 := (12, [(0, .ref m), (1, .int (nI kd)), (2, .int (nI w)), (3, .int (nI pl))], [.ref m, .ref (m + 8), .int (64 * (nI p))])) (S1 := S) rfl ?_
  refine px_P.gf rfl rfl (by assumption) (v := .int (nI p)) rfl ?_
  refine px_P.ialdj (j := p) rfl (by assumption) rfl (by omega) (by decide) ?_
  rw [h4.1]
  refine px_P.sn 2 (f1 := (19, [(0, .ref m), (1, .int (nI kd)), (2, .int (nI w)), (3, .int (nI pl)), (4, .int ((64 * (nI p)) + (nI n)))], [])) (S1 := S) rfl ?_
  have ei : 64 * nI p + nI n = nI (64 * p + n) := by rw [show (64 : Int32) = nI 64 from rfl, pk_mul, nI_add]
  rw [ei]
  show px_P _ _ (19, [(0, .ref m), (1, .int (nI kd)), (2, .int (nI w)), (3, .int (nI pl)), (4, .int (nI (64 * p + n)))], []) S _
  refine px_P.sn 1 (f1 := (20, [(0, .ref m), (1, .int (nI kd)), (2, .int (nI w)), (3, .int (nI pl)), (4, .int (nI (64 * p + n)))], [.ref m])) (S1 := S) rfl ?_
  refine px_P.gf rfl rfl (by assumption) (v := .ref (m + 9)) rfl ?_
  refine px_P.sn 2 (f1 := (26, [(0, .ref m), (1, .int (nI kd)), (2, .int (nI w)), (3, .int (nI pl)), (4, .int (nI (64 * p + n)))], [.int (nI kd), .int (nI (64 * p + n)), .ref (m + 9)])) (S1 := S) rfl ?_
  refine px_P.iastj (j := 64 * p + n) rfl (by assumption) rfl (by omega) (by decide) (fun S1 u1 => ?_)
  have g1 := h1.ar (i := 9) (by decide) (by decide) u1
  have c1 := g1.1
  have r10b : S1.1 (m + 10) = some (.inl (0, 6144, .inl (A 10))) := g1.2 10 (by decide) (by decide)
  refine px_P.sn 1 (f1 := (28, [(0, .ref m), (1, .int (nI kd)), (2, .int (nI w)), (3, .int (nI pl)), (4, .int (nI (64 * p + n)))], [.ref m])) (S1 := S1) rfl ?_
  refine px_P.gf rfl rfl (by assumption) (v := .ref (m + 10)) rfl ?_
  refine px_P.sn 2 (f1 := (34, [(0, .ref m), (1, .int (nI kd)), (2, .int (nI w)), (3, .int (nI pl)), (4, .int (nI (64 * p + n)))], [.int (nI w), .int (nI (64 * p + n)), .ref (m + 10)])) (S1 := S1) rfl ?_
  refine px_P.iastj (j := 64 * p + n) rfl (by assumption) rfl (by omega) (by decide) (fun S2 u2 => ?_)
  have g2 := g1.ar (i := 10) (by decide) (by decide) u2
  have c2 := g2.1
  have r11b : S2.1 (m + 11) = some (.inl (0, 6144, .inl (A 11))) := g2.2 11 (by decide) (by decide)
  refine px_P.sn 1 (f1 := (36, [(0, .ref m), (1, .int (nI kd)), (2, .int (nI w)), (3, .int (nI pl)), (4, .int (nI (64 * p + n)))], [.ref m])) (S1 := S2) rfl ?_
  refine px_P.gf rfl rfl (by assumption) (v := .ref (m + 11)) rfl ?_
  refine px_P.sn 2 (f1 := (42, [(0, .ref m), (1, .int (nI kd)), (2, .int (nI w)), (3, .int (nI pl)), (4, .int (nI (64 * p + n)))], [.int (nI pl), .int (nI (64 * p + n)), .ref (m + 11)])) (S1 := S2) rfl ?_
  refine px_P.iastj (j := 64 * p + n) rfl (by assumption) rfl (by omega) (by decide) (fun S3 u3 => ?_)
  have g3 := g2.ar (i := 11) (by decide) (by decide) u3
  have c3 := g3.1
  have r8c : S3.1 (m + 8) = some (.inl (0, 96, .inl (A 8))) := g3.2 8 (by decide) (by decide)
  refine px_P.sn 1 (f1 := (44, [(0, .ref m), (1, .int (nI kd)), (2, .int (nI w)), (3, .int (nI pl)), (4, .int (nI (64 * p + n)))], [.ref m])) (S1 := S3) rfl ?_
  refine px_P.gf rfl rfl (by assumption) (v := .ref (m + 8)) rfl ?_
  refine px_P.sn 1 (f1 := (48, [(0, .ref m), (1, .int (nI kd)), (2, .int (nI w)), (3, .int (nI pl)), (4, .int (nI (64 * p + n)))], [.ref m, .ref (m + 8)])) (S1 := S3) rfl ?_
  refine px_P.gf rfl rfl (by assumption) (v := .int (nI p)) rfl ?_
  refine px_P.sn 1 (f1 := (52, [(0, .ref m), (1, .int (nI kd)), (2, .int (nI w)), (3, .int (nI pl)), (4, .int (nI (64 * p + n)))], [.int (nI p), .ref (m + 8), .int (nI p), .ref (m + 8)])) (S1 := S3) rfl ?_
  refine px_P.ialdj (j := p) rfl (by assumption) rfl (by omega) (by decide) ?_
  rw [h4.1]
  refine px_P.sn 2 (f1 := (55, [(0, .ref m), (1, .int (nI kd)), (2, .int (nI w)), (3, .int (nI pl)), (4, .int (nI (64 * p + n)))], [.int ((nI n) + 1), .int (nI p), .ref (m + 8)])) (S1 := S3) rfl ?_
  rw [nI_1]
  refine px_P.iastj (j := p) rfl (by assumption) rfl (by omega) (by decide) (fun S4 u4 => ?_)
  have g4 := g3.ar (i := 8) (by decide) (by decide) u4
  refine px_P.ret rfl ?_
  refine k S4 _ ⟨g4, (((h2.tr (mF.u (by omega) (by omega) u1)).tr (mF.u (by omega) (by omega) u2)).tr (mF.u (by omega) (by omega) u3)).tr (mF.u (by omega) (by omega) u4), ?_, ?_, ?_⟩
  · refine h3.st hn (fun i e8 e9 e10 e11 => ?_) (fun j hj => ?_) (fun i j i1 i2 hj => ?_)
    · simp only [va_up, if_neg e8, if_neg e9, if_neg e10, if_neg e11]
    · show upd (A 8) p (nI (n + 1)) j = A 8 j
      rw [pk_un hj]
    · have : i = 9 ∨ i = 10 ∨ i = 11 := by omega
      rcases this with rfl | rfl | rfl
      · show upd (A 9) (64 * p + n) (nI kd) j = A 9 j
        rw [pk_un hj]
      · show upd (A 10) (64 * p + n) (nI w) j = A 10 j
        rw [pk_un hj]
      · show upd (A 11) (64 * p + n) (nI pl) j = A 11 j
        rw [pk_un hj]
  · refine ⟨?_, fun j hj => ?_⟩
    · show upd (A 8) p (nI (n + 1)) p = _
      rw [pk_us]
    · show upd (A 9) (64 * p + n) (nI kd) (64 * p + j) = _ ∧ upd (A 10) (64 * p + n) (nI w) (64 * p + j) = _ ∧ (_ → upd (A 11) (64 * p + n) (nI pl) (64 * p + j) = _)
      by_cases e : j = n
      · subst e
        simp only [va_up, if_true]
        rw [pk_us, pk_us, pk_us]
        exact ⟨by rw [e1], by rw [e2], fun z => by rw [e3 z]⟩
      · rw [pk_un (by omega), pk_un (by omega), pk_un (by omega)]
        simp only [va_up, if_neg e]
        exact h4.2 j (by omega)
  · exact h5
theorem pm_moWrong {d m p n a : Nat} {q0 : Nat → Int32} {A0 A : Nat → Nat → Int32} {st : xe_T} {O : List Nat} {S0 S : px_S} {Q : Option Value → px_S → Prop} (hd : 1 ≤ d) (hp : p < 96) (h : stm S0 S m p q0 A0 A a n st O)
    (k : ∀ S', px_Up S S' (m + 4) (.inl (0, 96, .inl (upd (A 4) p (nI a)))) → Q (some (.int 0)) S') : px_M d px_m_Model_wrong [.ref m] S Q := by
  have c0 := h.1.1
  have r4 : S.1 (m + 4) = some (.inl (0, 96, .inl (A 4))) := h.1.2 4 (by decide) (by decide)
  refine px_M.go (by omega) (Nat.le_of_ble_eq_true rfl) ?_
  refine px_P.sn 1 (f1 := (1, [(0, .ref m)], [.ref m])) (S1 := S) rfl ?_
  refine px_P.gf rfl rfl (by assumption) (v := .ref (m + 4)) rfl ?_
  refine px_P.sn 1 (f1 := (5, [(0, .ref m)], [.ref m, .ref (m + 4)])) (S1 := S) rfl ?_
  refine px_P.gf rfl rfl (by assumption) (v := .int (nI p)) rfl ?_
  refine px_P.sn 1 (f1 := (9, [(0, .ref m)], [.ref m, .int (nI p), .ref (m + 4)])) (S1 := S) rfl ?_
  refine px_P.gf rfl rfl (by assumption) (v := .int (nI a)) rfl ?_
  refine px_P.iastj (j := p) rfl (by assumption) rfl (by omega) (by decide) (fun S1 u1 => ?_)
  refine px_P.sn 1 (f1 := (14, [(0, .ref m)], [.int 0])) (S1 := S1) rfl ?_
  refine px_P.ret rfl ?_
  exact k S1 u1
