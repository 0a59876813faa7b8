/-! ===== the model: what is found; the state while a line's value is worked out ===== -/
abbrev fl_T : Type := List (Nat × Nat × Int32)
def fl (A : Nat → Nat → Int32) (FL : fl_T) : Prop := ∀ k x, FL[k]? = some x → A 15 k = nI x.1 ∧ A 16 k = nI x.2.1 ∧ A 17 k = x.2.2
def mq2 (q : Nat → Int32) (f t : Int32) : Nat → Int32 := fun i => if i = 2 then f else if i = 8 then t else q i
theorem fl.cg {A A' : Nat → Nat → Int32} {FL : fl_T} (h : fl A FL) (e15 : A' 15 = A 15) (e16 : A' 16 = A 16) (e17 : A' 17 = A 17) : fl A' FL := by
  intro k x hx
  rw [e15, e16, e17]
  exact h k x hx
theorem pm_moNote {d m p pl : Nat} {c t : Int32} {q : Nat → Int32} {A : Nat → Nat → Int32} {FL : fl_T} {S : px_S} {Q : Option Value → px_S → Prop} (hd : 1 ≤ d) (h : mo_at S m (mq2 q (nI FL.length) t) A) (hf : fl A FL) (hn : FL.length < 6000)
    (k : ∀ S' A', mo_at S' m (mq2 q (nI (FL.length + 1)) t) A' → mF S S' m → fl A' (FL ++ [(p, pl, c)]) → (∀ i, i ≠ 15 → i ≠ 16 → i ≠ 17 → A' i = A i) → Q none S') : px_M d px_m_Model_note [.ref m, .int (nI p), .int (nI pl), .int c] S Q := by
  have c0 := h.1
  have r15 : S.1 (m + 15) = some (.inl (0, 6000, .inl (A 15))) := h.2 15 (by decide) (by decide)
  refine px_M.go (by omega) (Nat.le_of_ble_eq_true rfl) ?_
  refine px_P.sn 1 (f1 := (1, [(0, .ref m), (1, .int (nI p)), (2, .int (nI pl)), (3, .int c)], [.ref m])) (S1 := S) rfl ?_
  refine px_P.gf rfl rfl (by assumption) (v := .ref (m + 15)) rfl ?_
  refine px_P.sn 1 (f1 := (5, [(0, .ref m), (1, .int (nI p)), (2, .int (nI pl)), (3, .int c)], [.ref m, .ref (m + 15)])) (S1 := S) rfl ?_
  refine px_P.gf rfl rfl (by assumption) (v := .int (nI FL.length)) rfl ?_
  refine px_P.sn 1 (f1 := (9, [(0, .ref m), (1, .int (nI p)), (2, .int (nI pl)), (3, .int c)], [.int (nI p), .int (nI FL.length), .ref (m + 15)])) (S1 := S) rfl ?_
  refine px_P.iastj (j := FL.length) rfl (by assumption) rfl (by omega) (by decide) (fun S1 u1 => ?_)
  have h1 := h.ar (i := 15) (by decide) (by decide) u1
  have c1 := h1.1
  have r16 : S1.1 (m + 16) = some (.inl (0, 6000, .inl (A 16))) := h1.2 16 (by decide) (by decide)
  refine px_P.sn 1 (f1 := (11, [(0, .ref m), (1, .int (nI p)), (2, .int (nI pl)), (3, .int c)], [.ref m])) (S1 := S1) rfl ?_
  refine px_P.gf rfl rfl (by assumption) (v := .ref (m + 16)) rfl ?_
  refine px_P.sn 1 (f1 := (15, [(0, .ref m), (1, .int (nI p)), (2, .int (nI pl)), (3, .int c)], [.ref m, .ref (m + 16)])) (S1 := S1) rfl ?_
  refine px_P.gf rfl rfl (by assumption) (v := .int (nI FL.length)) rfl ?_
  refine px_P.sn 1 (f1 := (19, [(0, .ref m), (1, .int (nI p)), (2, .int (nI pl)), (3, .int c)], [.int (nI pl), .int (nI FL.length), .ref (m + 16)])) (S1 := S1) rfl ?_
  refine px_P.iastj (j := FL.length) rfl (by assumption) rfl (by omega) (by decide) (fun S2 u2 => ?_)
  have h2 := h1.ar (i := 16) (by decide) (by decide) u2
  have c2 := h2.1
  have r17 : S2.1 (m + 17) = some (.inl (0, 6000, .inl (A 17))) := h2.2 17 (by decide) (by decide)
  refine px_P.sn 1 (f1 := (21, [(0, .ref m), (1, .int (nI p)), (2, .int (nI pl)), (3, .int c)], [.ref m])) (S1 := S2) rfl ?_
  refine px_P.gf rfl rfl (by assumption) (v := .ref (m + 17)) rfl ?_
  refine px_P.sn 1 (f1 := (25, [(0, .ref m), (1, .int (nI p)), (2, .int (nI pl)), (3, .int c)], [.ref m, .ref (m + 17)])) (S1 := S2) rfl ?_
  refine px_P.gf rfl rfl (by assumption) (v := .int (nI FL.length)) rfl ?_
  refine px_P.sn 1 (f1 := (29, [(0, .ref m), (1, .int (nI p)), (2, .int (nI pl)), (3, .int c)], [.int c, .int (nI FL.length), .ref (m + 17)])) (S1 := S2) rfl ?_
  refine px_P.iastj (j := FL.length) rfl (by assumption) rfl (by omega) (by decide) (fun S3 u3 => ?_)
  have h3 := h2.ar (i := 17) (by decide) (by decide) u3
  have c3 := h3.1
  refine px_P.sn 2 (f1 := (32, [(0, .ref m), (1, .int (nI p)), (2, .int (nI pl)), (3, .int c)], [.ref m, .ref m])) (S1 := S3) rfl ?_
  refine px_P.gf rfl rfl (by assumption) (v := .int (nI FL.length)) rfl ?_
  refine px_P.sn 2 (f1 := (37, [(0, .ref m), (1, .int (nI p)), (2, .int (nI pl)), (3, .int c)], [.int ((nI FL.length) + 1), .ref m])) (S1 := S3) rfl ?_
  rw [nI_1]
  refine px_P.pf rfl rfl (by assumption) rfl (fun S4 u4 => ?_)
  refine px_P.ret rfl ?_
  refine k S4 _ (h3.ob u4) (((mF.u (by omega) (by omega) u1).tr (mF.u (by omega) (by omega) u2)).tr ((mF.u (by omega) (by omega) u3).tr (mF.u (Nat.le_refl _) (by omega) u4))) ?_ (fun i e15 e16 e17 => ?_)
  · intro j x hx
    show upd (A 15) FL.length (nI p) j = _ ∧ upd (A 16) FL.length (nI pl) j = _ ∧ upd (A 17) FL.length c j = _
    by_cases e : j < FL.length
    · rw [List.getElem?_append_left e] at hx
      rw [pk_un (by omega), pk_un (by omega), pk_un (by omega)]
      exact hf j x hx
    · have hj : j = FL.length := by
        have := (List.getElem?_eq_some_iff.mp hx).1
        simp only [List.length_append, List.length_cons, List.length_nil] at this
        omega
      subst hj
      rw [pk_us, pk_us, pk_us]
      rw [List.getElem?_append_right (Nat.le_refl _), Nat.sub_self] at hx
      simp only [List.getElem?_cons_zero, Option.some.injEq] at hx
      subst hx
      exact ⟨rfl, rfl, rfl⟩
  · rw [va_un e17, va_un e16, va_un e15]
theorem pm_moIsRead {d m p : Nat} {q : Nat → Int32} {A : Nat → Nat → Int32} {S : px_S} {Q : Option Value → px_S → Prop} (hd : 1 ≤ d) (hp : p < 96) (h : mo_at S m q A) (k : Q (some (.int (bif decide (0 < A 2 p) && decide (A 4 p < 0) then 1 else 0))) S) : px_M d px_m_Model_isRead [.ref m, .int (nI p)] S Q := by
  have c0 := h.1
  have r2 : S.1 (m + 2) = some (.inl (0, 96, .inl (A 2))) := h.2 2 (by decide) (by decide)
  have r4 : S.1 (m + 4) = some (.inl (0, 96, .inl (A 4))) := h.2 4 (by decide) (by decide)
  refine px_M.go (by omega) (Nat.le_of_ble_eq_true rfl) ?_
  refine px_P.sn 1 (f1 := (1, [(0, .ref m), (1, .int (nI p))], [.ref m])) (S1 := S) rfl ?_
  refine px_P.gf rfl rfl (by assumption) (v := .ref (m + 2)) rfl ?_
  refine px_P.sn 1 (f1 := (5, [(0, .ref m), (1, .int (nI p))], [.int (nI p), .ref (m + 2)])) (S1 := S) rfl ?_
  refine px_P.ialdj (j := p) rfl (by assumption) rfl (by omega) (by decide) ?_
  refine px_P.if_le rfl rfl (fun z1 => ?_) (fun z1 => ?_)
  · rw [show (decide (0 < A 2 p) && decide (A 4 p < 0)) = false by rw [decide_eq_false (Int32.not_lt.mpr z1)]; rfl] at k
    refine px_P.sn 1 (f1 := (23, [(0, .ref m), (1, .int (nI p))], [.int 0])) (S1 := S) rfl ?_
    refine px_P.ret rfl ?_
    exact k
  · refine px_P.sn 1 (f1 := (10, [(0, .ref m), (1, .int (nI p))], [.ref m])) (S1 := S) rfl ?_
    refine px_P.gf rfl rfl (by assumption) (v := .ref (m + 4)) rfl ?_
    refine px_P.sn 1 (f1 := (14, [(0, .ref m), (1, .int (nI p))], [.int (nI p), .ref (m + 4)])) (S1 := S) rfl ?_
    refine px_P.ialdj (j := p) rfl (by assumption) rfl (by omega) (by decide) ?_
    refine px_P.if_ge rfl rfl (fun z2 => ?_) (fun z2 => ?_)
    · rw [show (decide (0 < A 2 p) && decide (A 4 p < 0)) = false by rw [decide_eq_false (Int32.not_lt.mpr z2), Bool.and_false]] at k
      refine px_P.sn 1 (f1 := (23, [(0, .ref m), (1, .int (nI p))], [.int 0])) (S1 := S) rfl ?_
      refine px_P.ret rfl ?_
      exact k
    · rw [show (decide (0 < A 2 p) && decide (A 4 p < 0)) = true by rw [decide_eq_true (Int32.not_le.mp z1), decide_eq_true (Int32.not_le.mp z2)]; rfl] at k
      refine px_P.sn 2 (f1 := (23, [(0, .ref m), (1, .int (nI p))], [.int 1])) (S1 := S) rfl ?_
      refine px_P.ret rfl ?_
      exact k
def vS (S0 S : px_S) (m : Nat) (q : Nat → Int32) (A0 A : Nat → Nat → Int32) (FL : fl_T) (y : (Nat → Int32) × Nat) : Prop := mo_at S m (mq2 q (nI FL.length) (nI y.2)) A ∧ mF S0 S m ∧ fl A FL ∧ (∀ i, i ≠ 15 → i ≠ 16 → i ≠ 17 → i ≠ 25 → A i = A0 i) ∧ ∀ j, j < y.2 → A 25 j = y.1 j
theorem vS.ar {S0 S : px_S} {m : Nat} {q : Nat → Int32} {A0 A : Nat → Nat → Int32} {FL : fl_T} {y : (Nat → Int32) × Nat} (h : vS S0 S m q A0 A FL y) (i : Nat) (h1 : 1 ≤ i) (h2 : i < 26) (e1 : i ≠ 15) (e2 : i ≠ 16) (e3 : i ≠ 17) (e4 : i ≠ 25) : S.1 (m + i) = some (.inl (mo_ty i, mo_ln i, .inl (A0 i))) := by
  rw [← h.2.2.2.1 i e1 e2 e3 e4]
  exact h.1.2 i h1 h2
theorem vS.set {S0 S S' : px_S} {m j : Nat} {x : Int32} {q : Nat → Int32} {A0 A : Nat → Nat → Int32} {FL : fl_T} {y : (Nat → Int32) × Nat} (h : vS S0 S m q A0 A FL y) (u : px_Up S S' (m + 25) (.inl (0, 64, .inl (upd (A 25) j x)))) : vS S0 S' m q A0 (va_up A 25 (upd (A 25) j x)) FL (upd y.1 j x, y.2) := by
  refine ⟨h.1.ar (i := 25) (by decide) (by decide) u, h.2.1.tr (mF.u (by omega) (by omega) u), h.2.2.1.cg (va_un (by decide)) (va_un (by decide)) (va_un (by decide)), fun i e1 e2 e3 e4 => (va_un e4).trans (h.2.2.2.1 i e1 e2 e3 e4), fun i hi => ?_⟩
  rw [va_us]
  by_cases e : i = j
  · subst e; rw [pk_us]; exact pk_us.symm
  · rw [pk_un e]
    show A 25 i = upd y.1 j x i
    rw [pk_un e]
    exact h.2.2.2.2 i hi
/-- another top: at most one more is on the pile, which is written already -/
theorem vS.tp {S0 S S' : px_S} {m t : Nat} {q : Nat → Int32} {A0 A : Nat → Nat → Int32} {FL : fl_T} {y : (Nat → Int32) × Nat} (h : vS S0 S m q A0 A FL y) (u : px_Up S S' m (.inr (10, mo_ob m (mq2 q (nI FL.length) (nI t))))) (ht : ∀ j, j < t → A 25 j = y.1 j) : vS S0 S' m q A0 A FL (y.1, t) :=
  ⟨h.1.ob u, h.2.1.tr (mF.u (Nat.le_refl _) (by omega) u), h.2.2.1, h.2.2.2.1, ht⟩
theorem pm_vsNote {d m p pl : Nat} {c : Int32} {q : Nat → Int32} {A0 A : Nat → Nat → Int32} {FL : fl_T} {y : (Nat → Int32) × Nat} {S0 S : px_S} {Q : Option Value → px_S → Prop} (hd : 1 ≤ d) (h : vS S0 S m q A0 A FL y) (hn : FL.length < 6000)
    (k : ∀ S' A', vS S0 S' m q A0 A' (FL ++ [(p, pl, c)]) y → Q none S') : px_M d px_m_Model_note [.ref m, .int (nI p), .int (nI pl), .int c] S Q := by
  refine pm_moNote hd h.1 h.2.2.1 hn (fun S' A' g1 g2 g3 g4 => k S' A' ⟨?_, h.2.1.tr g2, g3, fun i e1 e2 e3 e4 => (g4 i e1 e2 e3).trans (h.2.2.2.1 i e1 e2 e3 e4), fun j hj => ?_⟩)
  · rw [List.length_append]
    exact g1
  · rw [g4 25 (by decide) (by decide) (by decide)]
    exact h.2.2.2.2 j hj
/-- the notes of the first n steps -/
def nts (p : Nat) (st : xe_T) (T D : Nat → Int32) : Nat → fl_T
  | 0 => []
  | k + 1 => nts p st T D k ++ (if xe_f (xe_ev st T k) D (st k) = -1 then [] else [(p, (st k).2.2.2, xe_f (xe_ev st T k) D (st k))])
theorem nts_le (p : Nat) (st : xe_T) (T D : Nat → Int32) : ∀ n, (nts p st T D n).length ≤ n
  | 0 => Nat.le_refl _
  | n + 1 => by
    have := nts_le p st T D n
    unfold nts
    rw [List.length_append]
    split
    · simp only [List.length_nil]; omega
    · simp only [List.length_cons, List.length_nil]; omega
theorem vmr_le {st : xe_T} {T : Nat → Int32} {y : (Nat → Int32) × Nat} : ∀ k, (vmr st T 0 k y).2 ≤ y.2 + k
  | 0 => Nat.le_refl _
  | k + 1 => by
    have := vmr_le (st := st) (T := T) (y := y) k
    show (vm1 T (st (0 + k)) (vmr st T 0 k y)).2 ≤ _
    unfold vm1
    split
    · show _ + 1 ≤ _; omega
    · split
      · show (vmr st T 0 k y).2 ≤ _; omega
      · show (vmr st T 0 k y).2 - 1 ≤ _; omega
