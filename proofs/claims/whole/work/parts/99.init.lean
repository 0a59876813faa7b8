/-! ===== the model is made ===== -/
theorem flc_nil {L : Nat → Option ln_S} {T D : Nat → Int32} (h : ∀ p, L p = none) : ∀ n, flc L T D n = []
  | 0 => rfl
  | n + 1 => by
    unfold flc
    rw [flc_nil h n, h n]
    rfl
theorem lf_16 {L : Nat → Option ln_S} (h : ∀ p, L p = none) : lf_is L (fun _ => 16) := ⟨fun _ _ => lF16, fun p z t _ hz => (by rw [h p] at hz; cases hz), fun _ _ _ => le32.rf _, fun X _ _ x3 t ht => x3 t ht (fun p z _ hz => by rw [h p] at hz; cases hz)⟩
set_option maxRecDepth 20000 in
set_option maxHeartbeats 4000000 in
theorem pm_mmInit {d m : Nat} {S : px_S} {Q : Option Value → px_S → Prop} (hd : 1 ≤ d) (hm : S.1 m = some (.inr (10, [.int 0, .null, .int 0, .null, .null, .null, .null, .null, .null, .null, .null, .null, .null, .null, .null, .null, .int 0, .null, .null, .null, .int 0, .null, .null, .null, .int 0, .null, .null, .null, .int 0, .int 0, .int 0, .null, .null, .int 0]))) (hS : S.2.1 = m + 1)
    (k : ∀ S', mI S' m [] (fun _ => []) [] → (∀ q, q < m → S'.1 q = S.1 q) → S'.2 = (m + 26, S.2.2 + 88028) → Q none S') : px_M d px_m_Model_init [.ref m] S Q := by
  have lp := px_for (d := d - 1) (mi := px_m_Model_init) (Q := Q) (X := Nat → Nat → Int32) 96 (fun i _ => (217, [(0, .ref m), (1, .int (nI i))], []))
    (fun i A S' => mo_at S' m (fun _ => 0) A ∧ (∀ q, q < m → S'.1 q = S.1 q) ∧ S'.2 = (m + 26, S.2.2 + 88028) ∧ (∀ p, p < i → A 4 p = -1 ∧ A 5 p = -1 ∧ A 6 p = -1) ∧ ∀ j, j ≠ 4 → j ≠ 5 → j ≠ 6 → A j = fun _ => 0)
    (by
      intro i hi A S1 ⟨g1, g2, g3, g4, g5⟩ kk
      have c1 := g1.1
      show px_P _ _ (217, [(0, .ref m), (1, .int (nI i))], []) S1 _
      have r4 : S1.1 (m + 4) = some (.inl (0, 96, .inl (A 4))) := g1.2 4 (by decide) (by decide)
      refine px_P.sn 2 (f1 := (220, [(0, .ref m), (1, .int (nI i))], [.int 96, .int (nI i)])) (S1 := S1) rfl ?_
      refine px_P.ic_ge rfl rfl (fun h => absurd h (nI_ge (b := 96) hi (by decide))) (fun _ => ?_)
      refine px_P.sn 1 (f1 := (224, [(0, .ref m), (1, .int (nI i))], [.ref m])) (S1 := S1) rfl ?_
      refine px_P.gf rfl rfl (by assumption) (v := .ref (m + 4)) rfl ?_
      refine px_P.sn 2 (f1 := (229, [(0, .ref m), (1, .int (nI i))], [.int (-1), .int (nI i), .ref (m + 4)])) (S1 := S1) rfl ?_
      refine px_P.iastj (j := i) rfl (by assumption) rfl (by omega) (by decide) (fun S2 u2 => ?_)
      have f2 := g1.ar (i := 4) (by decide) (by decide) u2
      have c2 := f2.1
      have r5 : S2.1 (m + 5) = some (.inl (0, 96, .inl (A 5))) := f2.2 5 (by decide) (by decide)
      refine px_P.sn 1 (f1 := (231, [(0, .ref m), (1, .int (nI i))], [.ref m])) (S1 := S2) rfl ?_
      refine px_P.gf rfl rfl (by assumption) (v := .ref (m + 5)) rfl ?_
      refine px_P.sn 2 (f1 := (236, [(0, .ref m), (1, .int (nI i))], [.int (-1), .int (nI i), .ref (m + 5)])) (S1 := S2) rfl ?_
      refine px_P.iastj (j := i) rfl (by assumption) rfl (by omega) (by decide) (fun S3 u3 => ?_)
      have f3 := f2.ar (i := 5) (by decide) (by decide) u3
      have c3 := f3.1
      have r6 : S3.1 (m + 6) = some (.inl (0, 96, .inl (A 6))) := f3.2 6 (by decide) (by decide)
      refine px_P.sn 1 (f1 := (238, [(0, .ref m), (1, .int (nI i))], [.ref m])) (S1 := S3) rfl ?_
      refine px_P.gf rfl rfl (by assumption) (v := .ref (m + 6)) rfl ?_
      refine px_P.sn 2 (f1 := (243, [(0, .ref m), (1, .int (nI i))], [.int (-1), .int (nI i), .ref (m + 6)])) (S1 := S3) rfl ?_
      refine px_P.iastj (j := i) rfl (by assumption) rfl (by omega) (by decide) (fun S4 u4 => ?_)
      have f4 := f3.ar (i := 6) (by decide) (by decide) u4
      refine px_P.sn 2 (f1 := (217, [(0, .ref m), (1, .int ((nI i) + 1))], [])) (S1 := S4) rfl ?_
      rw [nI_1]
      refine kk _ S4 ⟨f4, fun q hq => by rw [u4.o (by omega), u3.o (by omega), u2.o (by omega)]; exact g2 q hq, by rw [u4.t, u3.t, u2.t, g3], fun p hp => ?_, fun j j4 j5 j6 => by rw [va_un j6, va_un j5, va_un j4]; exact g5 j j4 j5 j6⟩
      show upd (A 4) i (-1) p = -1 ∧ upd (A 5) i (-1) p = -1 ∧ upd (A 6) i (-1) p = -1
      by_cases e : p = i
      · rw [e, pk_us, pk_us, pk_us]; exact ⟨rfl, rfl, rfl⟩
      · rw [pk_un e, pk_un e, pk_un e]; exact g4 p (by omega))
    (by
      intro A S1 ⟨g1, g2, g3, g4, g5⟩
      show px_P _ _ (217, [(0, .ref m), (1, .int (nI 96))], []) S1 _
      refine px_P.sn 2 (f1 := (220, [(0, .ref m), (1, .int (nI 96))], [.int 96, .int (nI 96)])) (S1 := S1) rfl ?_
      refine px_P.ic_ge rfl rfl (fun _ => ?_) (fun h => absurd ((by decide)) h)
      refine px_P.ret rfl ?_
      have hn : ∀ p, sL (fun _ => []) p = none := fun _ => rfl
      have hdc : ∀ t, dc (sL (fun _ => [])) t = 0 := fun t => dc_no.mpr (fun p z _ hz => by cases hz)
      refine k S1 ⟨_, A, g1, ⟨rfl, ⟨Nat.zero_le _, fun c hc => (by cases hc)⟩, fun j hj => absurd hj (Nat.not_lt_zero _)⟩, ⟨fun _ => ⟨Nat.zero_le _, fun c hc => (by cases hc)⟩, fun _ _ => rfl⟩, fun p hp => ⟨by rw [g5 2 (by decide) (by decide) (by decide)]; rfl, fun j hj => absurd hj (Nat.not_lt_zero _)⟩, fun p hp => ⟨fun _ => ⟨by rw [g5 2 (by decide) (by decide) (by decide)], (g4 p hp).1, (g4 p hp).2.1, (g4 p hp).2.2, by rw [g5 8 (by decide) (by decide) (by decide)]⟩, fun s hs => (by cases hs)⟩, ⟨fun _ => 16, fun t => nI (dc (sL (fun _ => [])) t), fun t ht => by rw [g5 14 (by decide) (by decide) (by decide), if_pos (hdc t)], fun t ht => by unfold eT; rw [if_pos (hdc t)], lf_16 hn, fun p hp hne => absurd (hn p) hne, fun _ _ => rfl, by rw [flc_nil hn]; rfl, by rw [flc_nil hn]; exact fun k x hx => (by cases hx)⟩, ⟨rfl, Nat.zero_le _, fun j hj => absurd hj (Nat.not_lt_zero _), fun c hc => ⟨0, by omega, by rw [g5 20 (by decide) (by decide) (by decide)]; rfl⟩⟩, Or.inl rfl⟩ g2 g3)
  refine px_M.go (by omega) (Nat.le_of_ble_eq_true rfl) ?_
  have z0 : S.2.1 = m + 1 := hS
  have y0 : S.2.2 = S.2.2 + 0 := rfl
  have h0 : ∀ i, 1 ≤ i → i ≤ 0 → S.1 (m + i) = some (.inl (mo_ty i, mo_ln i, .inl (fun _ => 0))) := fun i i1 i2 => absurd i1 (by omega)
  have f0 : ∀ q, q < m → S.1 q = S.1 q := fun _ _ => rfl
  have c0 := hm
  refine px_P.sn 4 (f1 := (7, [(0, .ref m)], [.int 60, .ref m])) (S1 := S) rfl ?_
  refine px_P.newC rfl (by decide) (fun T1 a1 => ?_)
  have s1 := a1.s
  rw [z0] at s1
  rw [z0]
  show px_P _ _ (9, [(0, .ref m)], [.ref (m + 1), .ref m]) T1 _
  have e1 := a1.n c0 (by rw [z0]; omega)
  refine px_P.pf rfl rfl (by assumption) rfl (fun S1 u1 => ?_)
  have c1 : S1.1 m = some (.inr (10, [.int 0, .ref (m + 1), .int 0, .null, .null, .null, .null, .null, .null, .null, .null, .null, .null, .null, .null, .null, .int 0, .null, .null, .null, .int 0, .null, .null, .null, .int 0, .null, .null, .null, .int 0, .int 0, .int 0, .null, .null, .int 0])) := u1.s
  have z1 : S1.2.1 = m + 2 := by
    rw [u1.t, a1.t]
    show S.2.1 + 1 = m + 2
    rw [z0]
  have y1 : S1.2.2 = S.2.2 + 60 := by
    rw [u1.t, a1.t]
    show S.2.2 + 60 = _
    rw [y0, Nat.add_assoc]
  have h1 : ∀ i, 1 ≤ i → i ≤ 1 → S1.1 (m + i) = some (.inl (mo_ty i, mo_ln i, .inl (fun _ => 0))) := by
    intro i i1 i2
    rw [u1.o (show m + i ≠ m by omega)]
    by_cases e : i = 1
    · subst e; exact s1
    · rw [a1.o (by rw [z0]; omega)]; exact h0 i i1 (by omega)
  have f1 : ∀ q, q < m → S1.1 q = S.1 q := fun q hq => by rw [u1.o (show q ≠ m by omega), a1.o (by rw [z0]; omega)]
  refine px_P.sn 2 (f1 := (15, [(0, .ref m)], [.int 96, .ref m])) (S1 := S1) rfl ?_
  refine px_P.newI rfl (by decide) (fun T2 a2 => ?_)
  have s2 := a2.s
  rw [z1] at s2
  rw [z1]
  show px_P _ _ (17, [(0, .ref m)], [.ref (m + 2), .ref m]) T2 _
  have e2 := a2.n c1 (by rw [z1]; omega)
  refine px_P.pf rfl rfl (by assumption) rfl (fun S2 u2 => ?_)
  have c2 : S2.1 m = some (.inr (10, [.int 0, .ref (m + 1), .int 0, .ref (m + 2), .null, .null, .null, .null, .null, .null, .null, .null, .null, .null, .null, .null, .int 0, .null, .null, .null, .int 0, .null, .null, .null, .int 0, .null, .null, .null, .int 0, .int 0, .int 0, .null, .null, .int 0])) := u2.s
  have z2 : S2.2.1 = m + 3 := by
    rw [u2.t, a2.t]
    show S1.2.1 + 1 = m + 3
    rw [z1]
  have y2 : S2.2.2 = S.2.2 + 156 := by
    rw [u2.t, a2.t]
    show S1.2.2 + 96 = _
    rw [y1, Nat.add_assoc]
  have h2 : ∀ i, 1 ≤ i → i ≤ 2 → S2.1 (m + i) = some (.inl (mo_ty i, mo_ln i, .inl (fun _ => 0))) := by
    intro i i1 i2
    rw [u2.o (show m + i ≠ m by omega)]
    by_cases e : i = 2
    · subst e; exact s2
    · rw [a2.o (by rw [z1]; omega)]; exact h1 i i1 (by omega)
  have f2 : ∀ q, q < m → S2.1 q = S.1 q := fun q hq => by rw [u2.o (show q ≠ m by omega), a2.o (by rw [z1]; omega)]; exact f1 q hq
  clear c1 e2 z1 y1 h1 f1 s2 u2 a2
  refine px_P.sn 2 (f1 := (24, [(0, .ref m)], [.int 5760, .ref m])) (S1 := S2) rfl ?_
  refine px_P.newC rfl (by decide) (fun T3 a3 => ?_)
  have s3 := a3.s
  rw [z2] at s3
  rw [z2]
  show px_P _ _ (26, [(0, .ref m)], [.ref (m + 3), .ref m]) T3 _
  have e3 := a3.n c2 (by rw [z2]; omega)
  refine px_P.pf rfl rfl (by assumption) rfl (fun S3 u3 => ?_)
  have c3 : S3.1 m = some (.inr (10, [.int 0, .ref (m + 1), .int 0, .ref (m + 2), .ref (m + 3), .null, .null, .null, .null, .null, .null, .null, .null, .null, .null, .null, .int 0, .null, .null, .null, .int 0, .null, .null, .null, .int 0, .null, .null, .null, .int 0, .int 0, .int 0, .null, .null, .int 0])) := u3.s
  have z3 : S3.2.1 = m + 4 := by
    rw [u3.t, a3.t]
    show S2.2.1 + 1 = m + 4
    rw [z2]
  have y3 : S3.2.2 = S.2.2 + 5916 := by
    rw [u3.t, a3.t]
    show S2.2.2 + 5760 = _
    rw [y2, Nat.add_assoc]
  have h3 : ∀ i, 1 ≤ i → i ≤ 3 → S3.1 (m + i) = some (.inl (mo_ty i, mo_ln i, .inl (fun _ => 0))) := by
    intro i i1 i2
    rw [u3.o (show m + i ≠ m by omega)]
    by_cases e : i = 3
    · subst e; exact s3
    · rw [a3.o (by rw [z2]; omega)]; exact h2 i i1 (by omega)
  have f3 : ∀ q, q < m → S3.1 q = S.1 q := fun q hq => by rw [u3.o (show q ≠ m by omega), a3.o (by rw [z2]; omega)]; exact f2 q hq
  clear c2 e3 z2 y2 h2 f2 s3 u3 a3
  refine px_P.sn 2 (f1 := (32, [(0, .ref m)], [.int 96, .ref m])) (S1 := S3) rfl ?_
  refine px_P.newI rfl (by decide) (fun T4 a4 => ?_)
  have s4 := a4.s
  rw [z3] at s4
  rw [z3]
  show px_P _ _ (34, [(0, .ref m)], [.ref (m + 4), .ref m]) T4 _
  have e4 := a4.n c3 (by rw [z3]; omega)
  refine px_P.pf rfl rfl (by assumption) rfl (fun S4 u4 => ?_)
  have c4 : S4.1 m = some (.inr (10, [.int 0, .ref (m + 1), .int 0, .ref (m + 2), .ref (m + 3), .ref (m + 4), .null, .null, .null, .null, .null, .null, .null, .null, .null, .null, .int 0, .null, .null, .null, .int 0, .null, .null, .null, .int 0, .null, .null, .null, .int 0, .int 0, .int 0, .null, .null, .int 0])) := u4.s
  have z4 : S4.2.1 = m + 5 := by
    rw [u4.t, a4.t]
    show S3.2.1 + 1 = m + 5
    rw [z3]
  have y4 : S4.2.2 = S.2.2 + 6012 := by
    rw [u4.t, a4.t]
    show S3.2.2 + 96 = _
    rw [y3, Nat.add_assoc]
  have h4 : ∀ i, 1 ≤ i → i ≤ 4 → S4.1 (m + i) = some (.inl (mo_ty i, mo_ln i, .inl (fun _ => 0))) := by
    intro i i1 i2
    rw [u4.o (show m + i ≠ m by omega)]
    by_cases e : i = 4
    · subst e; exact s4
    · rw [a4.o (by rw [z3]; omega)]; exact h3 i i1 (by omega)
  have f4 : ∀ q, q < m → S4.1 q = S.1 q := fun q hq => by rw [u4.o (show q ≠ m by omega), a4.o (by rw [z3]; omega)]; exact f3 q hq
  clear c3 e4 z3 y3 h3 f3 s4 u4 a4
  refine px_P.sn 2 (f1 := (40, [(0, .ref m)], [.int 96, .ref m])) (S1 := S4) rfl ?_
  refine px_P.newI rfl (by decide) (fun T5 a5 => ?_)
  have s5 := a5.s
  rw [z4] at s5
  rw [z4]
  show px_P _ _ (42, [(0, .ref m)], [.ref (m + 5), .ref m]) T5 _
  have e5 := a5.n c4 (by rw [z4]; omega)
  refine px_P.pf rfl rfl (by assumption) rfl (fun S5 u5 => ?_)
  have c5 : S5.1 m = some (.inr (10, [.int 0, .ref (m + 1), .int 0, .ref (m + 2), .ref (m + 3), .ref (m + 4), .ref (m + 5), .null, .null, .null, .null, .null, .null, .null, .null, .null, .int 0, .null, .null, .null, .int 0, .null, .null, .null, .int 0, .null, .null, .null, .int 0, .int 0, .int 0, .null, .null, .int 0])) := u5.s
  have z5 : S5.2.1 = m + 6 := by
    rw [u5.t, a5.t]
    show S4.2.1 + 1 = m + 6
    rw [z4]
  have y5 : S5.2.2 = S.2.2 + 6108 := by
    rw [u5.t, a5.t]
    show S4.2.2 + 96 = _
    rw [y4, Nat.add_assoc]
  have h5 : ∀ i, 1 ≤ i → i ≤ 5 → S5.1 (m + i) = some (.inl (mo_ty i, mo_ln i, .inl (fun _ => 0))) := by
    intro i i1 i2
    rw [u5.o (show m + i ≠ m by omega)]
    by_cases e : i = 5
    · subst e; exact s5
    · rw [a5.o (by rw [z4]; omega)]; exact h4 i i1 (by omega)
  have f5 : ∀ q, q < m → S5.1 q = S.1 q := fun q hq => by rw [u5.o (show q ≠ m by omega), a5.o (by rw [z4]; omega)]; exact f4 q hq
  clear c4 e5 z4 y4 h4 f4 s5 u5 a5
  refine px_P.sn 2 (f1 := (48, [(0, .ref m)], [.int 96, .ref m])) (S1 := S5) rfl ?_
  refine px_P.newI rfl (by decide) (fun T6 a6 => ?_)
  have s6 := a6.s
  rw [z5] at s6
  rw [z5]
  show px_P _ _ (50, [(0, .ref m)], [.ref (m + 6), .ref m]) T6 _
  have e6 := a6.n c5 (by rw [z5]; omega)
  refine px_P.pf rfl rfl (by assumption) rfl (fun S6 u6 => ?_)
  have c6 : S6.1 m = some (.inr (10, [.int 0, .ref (m + 1), .int 0, .ref (m + 2), .ref (m + 3), .ref (m + 4), .ref (m + 5), .ref (m + 6), .null, .null, .null, .null, .null, .null, .null, .null, .int 0, .null, .null, .null, .int 0, .null, .null, .null, .int 0, .null, .null, .null, .int 0, .int 0, .int 0, .null, .null, .int 0])) := u6.s
  have z6 : S6.2.1 = m + 7 := by
    rw [u6.t, a6.t]
    show S5.2.1 + 1 = m + 7
    rw [z5]
  have y6 : S6.2.2 = S.2.2 + 6204 := by
    rw [u6.t, a6.t]
    show S5.2.2 + 96 = _
    rw [y5, Nat.add_assoc]
  have h6 : ∀ i, 1 ≤ i → i ≤ 6 → S6.1 (m + i) = some (.inl (mo_ty i, mo_ln i, .inl (fun _ => 0))) := by
    intro i i1 i2
    rw [u6.o (show m + i ≠ m by omega)]
    by_cases e : i = 6
    · subst e; exact s6
    · rw [a6.o (by rw [z5]; omega)]; exact h5 i i1 (by omega)
  have f6 : ∀ q, q < m → S6.1 q = S.1 q := fun q hq => by rw [u6.o (show q ≠ m by omega), a6.o (by rw [z5]; omega)]; exact f5 q hq
  clear c5 e6 z5 y5 h5 f5 s6 u6 a6
  refine px_P.sn 2 (f1 := (56, [(0, .ref m)], [.int 96, .ref m])) (S1 := S6) rfl ?_
  refine px_P.newI rfl (by decide) (fun T7 a7 => ?_)
  have s7 := a7.s
  rw [z6] at s7
  rw [z6]
  show px_P _ _ (58, [(0, .ref m)], [.ref (m + 7), .ref m]) T7 _
  have e7 := a7.n c6 (by rw [z6]; omega)
  refine px_P.pf rfl rfl (by assumption) rfl (fun S7 u7 => ?_)
  have c7 : S7.1 m = some (.inr (10, [.int 0, .ref (m + 1), .int 0, .ref (m + 2), .ref (m + 3), .ref (m + 4), .ref (m + 5), .ref (m + 6), .ref (m + 7), .null, .null, .null, .null, .null, .null, .null, .int 0, .null, .null, .null, .int 0, .null, .null, .null, .int 0, .null, .null, .null, .int 0, .int 0, .int 0, .null, .null, .int 0])) := u7.s
  have z7 : S7.2.1 = m + 8 := by
    rw [u7.t, a7.t]
    show S6.2.1 + 1 = m + 8
    rw [z6]
  have y7 : S7.2.2 = S.2.2 + 6300 := by
    rw [u7.t, a7.t]
    show S6.2.2 + 96 = _
    rw [y6, Nat.add_assoc]
  have h7 : ∀ i, 1 ≤ i → i ≤ 7 → S7.1 (m + i) = some (.inl (mo_ty i, mo_ln i, .inl (fun _ => 0))) := by
    intro i i1 i2
    rw [u7.o (show m + i ≠ m by omega)]
    by_cases e : i = 7
    · subst e; exact s7
    · rw [a7.o (by rw [z6]; omega)]; exact h6 i i1 (by omega)
  have f7 : ∀ q, q < m → S7.1 q = S.1 q := fun q hq => by rw [u7.o (show q ≠ m by omega), a7.o (by rw [z6]; omega)]; exact f6 q hq
  clear c6 e7 z6 y6 h6 f6 s7 u7 a7
  refine px_P.sn 2 (f1 := (64, [(0, .ref m)], [.int 96, .ref m])) (S1 := S7) rfl ?_
  refine px_P.newI rfl (by decide) (fun T8 a8 => ?_)
  have s8 := a8.s
  rw [z7] at s8
  rw [z7]
  show px_P _ _ (66, [(0, .ref m)], [.ref (m + 8), .ref m]) T8 _
  have e8 := a8.n c7 (by rw [z7]; omega)
  refine px_P.pf rfl rfl (by assumption) rfl (fun S8 u8 => ?_)
  have c8 : S8.1 m = some (.inr (10, [.int 0, .ref (m + 1), .int 0, .ref (m + 2), .ref (m + 3), .ref (m + 4), .ref (m + 5), .ref (m + 6), .ref (m + 7), .ref (m + 8), .null, .null, .null, .null, .null, .null, .int 0, .null, .null, .null, .int 0, .null, .null, .null, .int 0, .null, .null, .null, .int 0, .int 0, .int 0, .null, .null, .int 0])) := u8.s
  have z8 : S8.2.1 = m + 9 := by
    rw [u8.t, a8.t]
    show S7.2.1 + 1 = m + 9
    rw [z7]
  have y8 : S8.2.2 = S.2.2 + 6396 := by
    rw [u8.t, a8.t]
    show S7.2.2 + 96 = _
    rw [y7, Nat.add_assoc]
  have h8 : ∀ i, 1 ≤ i → i ≤ 8 → S8.1 (m + i) = some (.inl (mo_ty i, mo_ln i, .inl (fun _ => 0))) := by
    intro i i1 i2
    rw [u8.o (show m + i ≠ m by omega)]
    by_cases e : i = 8
    · subst e; exact s8
    · rw [a8.o (by rw [z7]; omega)]; exact h7 i i1 (by omega)
  have f8 : ∀ q, q < m → S8.1 q = S.1 q := fun q hq => by rw [u8.o (show q ≠ m by omega), a8.o (by rw [z7]; omega)]; exact f7 q hq
  clear c7 e8 z7 y7 h7 f7 s8 u8 a8
  refine px_P.sn 2 (f1 := (73, [(0, .ref m)], [.int 6144, .ref m])) (S1 := S8) rfl ?_
  refine px_P.newI rfl (by decide) (fun T9 a9 => ?_)
  have s9 := a9.s
  rw [z8] at s9
  rw [z8]
  show px_P _ _ (75, [(0, .ref m)], [.ref (m + 9), .ref m]) T9 _
  have e9 := a9.n c8 (by rw [z8]; omega)
  refine px_P.pf rfl rfl (by assumption) rfl (fun S9 u9 => ?_)
  have c9 : S9.1 m = some (.inr (10, [.int 0, .ref (m + 1), .int 0, .ref (m + 2), .ref (m + 3), .ref (m + 4), .ref (m + 5), .ref (m + 6), .ref (m + 7), .ref (m + 8), .ref (m + 9), .null, .null, .null, .null, .null, .int 0, .null, .null, .null, .int 0, .null, .null, .null, .int 0, .null, .null, .null, .int 0, .int 0, .int 0, .null, .null, .int 0])) := u9.s
  have z9 : S9.2.1 = m + 10 := by
    rw [u9.t, a9.t]
    show S8.2.1 + 1 = m + 10
    rw [z8]
  have y9 : S9.2.2 = S.2.2 + 12540 := by
    rw [u9.t, a9.t]
    show S8.2.2 + 6144 = _
    rw [y8, Nat.add_assoc]
  have h9 : ∀ i, 1 ≤ i → i ≤ 9 → S9.1 (m + i) = some (.inl (mo_ty i, mo_ln i, .inl (fun _ => 0))) := by
    intro i i1 i2
    rw [u9.o (show m + i ≠ m by omega)]
    by_cases e : i = 9
    · subst e; exact s9
    · rw [a9.o (by rw [z8]; omega)]; exact h8 i i1 (by omega)
  have f9 : ∀ q, q < m → S9.1 q = S.1 q := fun q hq => by rw [u9.o (show q ≠ m by omega), a9.o (by rw [z8]; omega)]; exact f8 q hq
  clear c8 e9 z8 y8 h8 f8 s9 u9 a9
  refine px_P.sn 2 (f1 := (82, [(0, .ref m)], [.int 6144, .ref m])) (S1 := S9) rfl ?_
  refine px_P.newI rfl (by decide) (fun T10 a10 => ?_)
  have s10 := a10.s
  rw [z9] at s10
  rw [z9]
  show px_P _ _ (84, [(0, .ref m)], [.ref (m + 10), .ref m]) T10 _
  have e10 := a10.n c9 (by rw [z9]; omega)
  refine px_P.pf rfl rfl (by assumption) rfl (fun S10 u10 => ?_)
  have c10 : S10.1 m = some (.inr (10, [.int 0, .ref (m + 1), .int 0, .ref (m + 2), .ref (m + 3), .ref (m + 4), .ref (m + 5), .ref (m + 6), .ref (m + 7), .ref (m + 8), .ref (m + 9), .ref (m + 10), .null, .null, .null, .null, .int 0, .null, .null, .null, .int 0, .null, .null, .null, .int 0, .null, .null, .null, .int 0, .int 0, .int 0, .null, .null, .int 0])) := u10.s
  have z10 : S10.2.1 = m + 11 := by
    rw [u10.t, a10.t]
    show S9.2.1 + 1 = m + 11
    rw [z9]
  have y10 : S10.2.2 = S.2.2 + 18684 := by
    rw [u10.t, a10.t]
    show S9.2.2 + 6144 = _
    rw [y9, Nat.add_assoc]
  have h10 : ∀ i, 1 ≤ i → i ≤ 10 → S10.1 (m + i) = some (.inl (mo_ty i, mo_ln i, .inl (fun _ => 0))) := by
    intro i i1 i2
    rw [u10.o (show m + i ≠ m by omega)]
    by_cases e : i = 10
    · subst e; exact s10
    · rw [a10.o (by rw [z9]; omega)]; exact h9 i i1 (by omega)
  have f10 : ∀ q, q < m → S10.1 q = S.1 q := fun q hq => by rw [u10.o (show q ≠ m by omega), a10.o (by rw [z9]; omega)]; exact f9 q hq
  clear c9 e10 z9 y9 h9 f9 s10 u10 a10
  refine px_P.sn 2 (f1 := (91, [(0, .ref m)], [.int 6144, .ref m])) (S1 := S10) rfl ?_
  refine px_P.newI rfl (by decide) (fun T11 a11 => ?_)
  have s11 := a11.s
  rw [z10] at s11
  rw [z10]
  show px_P _ _ (93, [(0, .ref m)], [.ref (m + 11), .ref m]) T11 _
  have e11 := a11.n c10 (by rw [z10]; omega)
  refine px_P.pf rfl rfl (by assumption) rfl (fun S11 u11 => ?_)
  have c11 : S11.1 m = some (.inr (10, [.int 0, .ref (m + 1), .int 0, .ref (m + 2), .ref (m + 3), .ref (m + 4), .ref (m + 5), .ref (m + 6), .ref (m + 7), .ref (m + 8), .ref (m + 9), .ref (m + 10), .ref (m + 11), .null, .null, .null, .int 0, .null, .null, .null, .int 0, .null, .null, .null, .int 0, .null, .null, .null, .int 0, .int 0, .int 0, .null, .null, .int 0])) := u11.s
  have z11 : S11.2.1 = m + 12 := by
    rw [u11.t, a11.t]
    show S10.2.1 + 1 = m + 12
    rw [z10]
  have y11 : S11.2.2 = S.2.2 + 24828 := by
    rw [u11.t, a11.t]
    show S10.2.2 + 6144 = _
    rw [y10, Nat.add_assoc]
  have h11 : ∀ i, 1 ≤ i → i ≤ 11 → S11.1 (m + i) = some (.inl (mo_ty i, mo_ln i, .inl (fun _ => 0))) := by
    intro i i1 i2
    rw [u11.o (show m + i ≠ m by omega)]
    by_cases e : i = 11
    · subst e; exact s11
    · rw [a11.o (by rw [z10]; omega)]; exact h10 i i1 (by omega)
  have f11 : ∀ q, q < m → S11.1 q = S.1 q := fun q hq => by rw [u11.o (show q ≠ m by omega), a11.o (by rw [z10]; omega)]; exact f10 q hq
  clear c10 e11 z10 y10 h10 f10 s11 u11 a11
  refine px_P.sn 2 (f1 := (99, [(0, .ref m)], [.int 96, .ref m])) (S1 := S11) rfl ?_
  refine px_P.newI rfl (by decide) (fun T12 a12 => ?_)
  have s12 := a12.s
  rw [z11] at s12
  rw [z11]
  show px_P _ _ (101, [(0, .ref m)], [.ref (m + 12), .ref m]) T12 _
  have e12 := a12.n c11 (by rw [z11]; omega)
  refine px_P.pf rfl rfl (by assumption) rfl (fun S12 u12 => ?_)
  have c12 : S12.1 m = some (.inr (10, [.int 0, .ref (m + 1), .int 0, .ref (m + 2), .ref (m + 3), .ref (m + 4), .ref (m + 5), .ref (m + 6), .ref (m + 7), .ref (m + 8), .ref (m + 9), .ref (m + 10), .ref (m + 11), .ref (m + 12), .null, .null, .int 0, .null, .null, .null, .int 0, .null, .null, .null, .int 0, .null, .null, .null, .int 0, .int 0, .int 0, .null, .null, .int 0])) := u12.s
  have z12 : S12.2.1 = m + 13 := by
    rw [u12.t, a12.t]
    show S11.2.1 + 1 = m + 13
    rw [z11]
  have y12 : S12.2.2 = S.2.2 + 24924 := by
    rw [u12.t, a12.t]
    show S11.2.2 + 96 = _
    rw [y11, Nat.add_assoc]
  have h12 : ∀ i, 1 ≤ i → i ≤ 12 → S12.1 (m + i) = some (.inl (mo_ty i, mo_ln i, .inl (fun _ => 0))) := by
    intro i i1 i2
    rw [u12.o (show m + i ≠ m by omega)]
    by_cases e : i = 12
    · subst e; exact s12
    · rw [a12.o (by rw [z11]; omega)]; exact h11 i i1 (by omega)
  have f12 : ∀ q, q < m → S12.1 q = S.1 q := fun q hq => by rw [u12.o (show q ≠ m by omega), a12.o (by rw [z11]; omega)]; exact f11 q hq
  clear c11 e12 z11 y11 h11 f11 s12 u12 a12
  refine px_P.sn 2 (f1 := (108, [(0, .ref m)], [.int 208, .ref m])) (S1 := S12) rfl ?_
  refine px_P.newI rfl (by decide) (fun T13 a13 => ?_)
  have s13 := a13.s
  rw [z12] at s13
  rw [z12]
  show px_P _ _ (110, [(0, .ref m)], [.ref (m + 13), .ref m]) T13 _
  have e13 := a13.n c12 (by rw [z12]; omega)
  refine px_P.pf rfl rfl (by assumption) rfl (fun S13 u13 => ?_)
  have c13 : S13.1 m = some (.inr (10, [.int 0, .ref (m + 1), .int 0, .ref (m + 2), .ref (m + 3), .ref (m + 4), .ref (m + 5), .ref (m + 6), .ref (m + 7), .ref (m + 8), .ref (m + 9), .ref (m + 10), .ref (m + 11), .ref (m + 12), .ref (m + 13), .null, .int 0, .null, .null, .null, .int 0, .null, .null, .null, .int 0, .null, .null, .null, .int 0, .int 0, .int 0, .null, .null, .int 0])) := u13.s
  have z13 : S13.2.1 = m + 14 := by
    rw [u13.t, a13.t]
    show S12.2.1 + 1 = m + 14
    rw [z12]
  have y13 : S13.2.2 = S.2.2 + 25132 := by
    rw [u13.t, a13.t]
    show S12.2.2 + 208 = _
    rw [y12, Nat.add_assoc]
  have h13 : ∀ i, 1 ≤ i → i ≤ 13 → S13.1 (m + i) = some (.inl (mo_ty i, mo_ln i, .inl (fun _ => 0))) := by
    intro i i1 i2
    rw [u13.o (show m + i ≠ m by omega)]
    by_cases e : i = 13
    · subst e; exact s13
    · rw [a13.o (by rw [z12]; omega)]; exact h12 i i1 (by omega)
  have f13 : ∀ q, q < m → S13.1 q = S.1 q := fun q hq => by rw [u13.o (show q ≠ m by omega), a13.o (by rw [z12]; omega)]; exact f12 q hq
  clear c12 e13 z12 y12 h12 f12 s13 u13 a13
  refine px_P.sn 2 (f1 := (117, [(0, .ref m)], [.int 208, .ref m])) (S1 := S13) rfl ?_
  refine px_P.newZ rfl (by decide) (fun T14 a14 => ?_)
  have s14 := a14.s
  rw [z13] at s14
  rw [z13]
  show px_P _ _ (119, [(0, .ref m)], [.ref (m + 14), .ref m]) T14 _
  have e14 := a14.n c13 (by rw [z13]; omega)
  refine px_P.pf rfl rfl (by assumption) rfl (fun S14 u14 => ?_)
  have c14 : S14.1 m = some (.inr (10, [.int 0, .ref (m + 1), .int 0, .ref (m + 2), .ref (m + 3), .ref (m + 4), .ref (m + 5), .ref (m + 6), .ref (m + 7), .ref (m + 8), .ref (m + 9), .ref (m + 10), .ref (m + 11), .ref (m + 12), .ref (m + 13), .ref (m + 14), .int 0, .null, .null, .null, .int 0, .null, .null, .null, .int 0, .null, .null, .null, .int 0, .int 0, .int 0, .null, .null, .int 0])) := u14.s
  have z14 : S14.2.1 = m + 15 := by
    rw [u14.t, a14.t]
    show S13.2.1 + 1 = m + 15
    rw [z13]
  have y14 : S14.2.2 = S.2.2 + 25340 := by
    rw [u14.t, a14.t]
    show S13.2.2 + 208 = _
    rw [y13, Nat.add_assoc]
  have h14 : ∀ i, 1 ≤ i → i ≤ 14 → S14.1 (m + i) = some (.inl (mo_ty i, mo_ln i, .inl (fun _ => 0))) := by
    intro i i1 i2
    rw [u14.o (show m + i ≠ m by omega)]
    by_cases e : i = 14
    · subst e; exact s14
    · rw [a14.o (by rw [z13]; omega)]; exact h13 i i1 (by omega)
  have f14 : ∀ q, q < m → S14.1 q = S.1 q := fun q hq => by rw [u14.o (show q ≠ m by omega), a14.o (by rw [z13]; omega)]; exact f13 q hq
  clear c13 e14 z13 y13 h13 f13 s14 u14 a14
  refine px_P.sn 2 (f1 := (126, [(0, .ref m)], [.int 6000, .ref m])) (S1 := S14) rfl ?_
  refine px_P.newI rfl (by decide) (fun T15 a15 => ?_)
  have s15 := a15.s
  rw [z14] at s15
  rw [z14]
  show px_P _ _ (128, [(0, .ref m)], [.ref (m + 15), .ref m]) T15 _
  have e15 := a15.n c14 (by rw [z14]; omega)
  refine px_P.pf rfl rfl (by assumption) rfl (fun S15 u15 => ?_)
  have c15 : S15.1 m = some (.inr (10, [.int 0, .ref (m + 1), .int 0, .ref (m + 2), .ref (m + 3), .ref (m + 4), .ref (m + 5), .ref (m + 6), .ref (m + 7), .ref (m + 8), .ref (m + 9), .ref (m + 10), .ref (m + 11), .ref (m + 12), .ref (m + 13), .ref (m + 14), .int 0, .ref (m + 15), .null, .null, .int 0, .null, .null, .null, .int 0, .null, .null, .null, .int 0, .int 0, .int 0, .null, .null, .int 0])) := u15.s
  have z15 : S15.2.1 = m + 16 := by
    rw [u15.t, a15.t]
    show S14.2.1 + 1 = m + 16
    rw [z14]
  have y15 : S15.2.2 = S.2.2 + 31340 := by
    rw [u15.t, a15.t]
    show S14.2.2 + 6000 = _
    rw [y14, Nat.add_assoc]
  have h15 : ∀ i, 1 ≤ i → i ≤ 15 → S15.1 (m + i) = some (.inl (mo_ty i, mo_ln i, .inl (fun _ => 0))) := by
    intro i i1 i2
    rw [u15.o (show m + i ≠ m by omega)]
    by_cases e : i = 15
    · subst e; exact s15
    · rw [a15.o (by rw [z14]; omega)]; exact h14 i i1 (by omega)
  have f15 : ∀ q, q < m → S15.1 q = S.1 q := fun q hq => by rw [u15.o (show q ≠ m by omega), a15.o (by rw [z14]; omega)]; exact f14 q hq
  clear c14 e15 z14 y14 h14 f14 s15 u15 a15
  refine px_P.sn 2 (f1 := (135, [(0, .ref m)], [.int 6000, .ref m])) (S1 := S15) rfl ?_
  refine px_P.newI rfl (by decide) (fun T16 a16 => ?_)
  have s16 := a16.s
  rw [z15] at s16
  rw [z15]
  show px_P _ _ (137, [(0, .ref m)], [.ref (m + 16), .ref m]) T16 _
  have e16 := a16.n c15 (by rw [z15]; omega)
  refine px_P.pf rfl rfl (by assumption) rfl (fun S16 u16 => ?_)
  have c16 : S16.1 m = some (.inr (10, [.int 0, .ref (m + 1), .int 0, .ref (m + 2), .ref (m + 3), .ref (m + 4), .ref (m + 5), .ref (m + 6), .ref (m + 7), .ref (m + 8), .ref (m + 9), .ref (m + 10), .ref (m + 11), .ref (m + 12), .ref (m + 13), .ref (m + 14), .int 0, .ref (m + 15), .ref (m + 16), .null, .int 0, .null, .null, .null, .int 0, .null, .null, .null, .int 0, .int 0, .int 0, .null, .null, .int 0])) := u16.s
  have z16 : S16.2.1 = m + 17 := by
    rw [u16.t, a16.t]
    show S15.2.1 + 1 = m + 17
    rw [z15]
  have y16 : S16.2.2 = S.2.2 + 37340 := by
    rw [u16.t, a16.t]
    show S15.2.2 + 6000 = _
    rw [y15, Nat.add_assoc]
  have h16 : ∀ i, 1 ≤ i → i ≤ 16 → S16.1 (m + i) = some (.inl (mo_ty i, mo_ln i, .inl (fun _ => 0))) := by
    intro i i1 i2
    rw [u16.o (show m + i ≠ m by omega)]
    by_cases e : i = 16
    · subst e; exact s16
    · rw [a16.o (by rw [z15]; omega)]; exact h15 i i1 (by omega)
  have f16 : ∀ q, q < m → S16.1 q = S.1 q := fun q hq => by rw [u16.o (show q ≠ m by omega), a16.o (by rw [z15]; omega)]; exact f15 q hq
  clear c15 e16 z15 y15 h15 f15 s16 u16 a16
  refine px_P.sn 2 (f1 := (144, [(0, .ref m)], [.int 6000, .ref m])) (S1 := S16) rfl ?_
  refine px_P.newI rfl (by decide) (fun T17 a17 => ?_)
  have s17 := a17.s
  rw [z16] at s17
  rw [z16]
  show px_P _ _ (146, [(0, .ref m)], [.ref (m + 17), .ref m]) T17 _
  have e17 := a17.n c16 (by rw [z16]; omega)
  refine px_P.pf rfl rfl (by assumption) rfl (fun S17 u17 => ?_)
  have c17 : S17.1 m = some (.inr (10, [.int 0, .ref (m + 1), .int 0, .ref (m + 2), .ref (m + 3), .ref (m + 4), .ref (m + 5), .ref (m + 6), .ref (m + 7), .ref (m + 8), .ref (m + 9), .ref (m + 10), .ref (m + 11), .ref (m + 12), .ref (m + 13), .ref (m + 14), .int 0, .ref (m + 15), .ref (m + 16), .ref (m + 17), .int 0, .null, .null, .null, .int 0, .null, .null, .null, .int 0, .int 0, .int 0, .null, .null, .int 0])) := u17.s
  have z17 : S17.2.1 = m + 18 := by
    rw [u17.t, a17.t]
    show S16.2.1 + 1 = m + 18
    rw [z16]
  have y17 : S17.2.2 = S.2.2 + 43340 := by
    rw [u17.t, a17.t]
    show S16.2.2 + 6000 = _
    rw [y16, Nat.add_assoc]
  have h17 : ∀ i, 1 ≤ i → i ≤ 17 → S17.1 (m + i) = some (.inl (mo_ty i, mo_ln i, .inl (fun _ => 0))) := by
    intro i i1 i2
    rw [u17.o (show m + i ≠ m by omega)]
    by_cases e : i = 17
    · subst e; exact s17
    · rw [a17.o (by rw [z16]; omega)]; exact h16 i i1 (by omega)
  have f17 : ∀ q, q < m → S17.1 q = S.1 q := fun q hq => by rw [u17.o (show q ≠ m by omega), a17.o (by rw [z16]; omega)]; exact f16 q hq
  clear c16 e17 z16 y16 h16 f16 s17 u17 a17
  refine px_P.sn 2 (f1 := (152, [(0, .ref m)], [.int 16, .ref m])) (S1 := S17) rfl ?_
  refine px_P.newI rfl (by decide) (fun T18 a18 => ?_)
  have s18 := a18.s
  rw [z17] at s18
  rw [z17]
  show px_P _ _ (154, [(0, .ref m)], [.ref (m + 18), .ref m]) T18 _
  have e18 := a18.n c17 (by rw [z17]; omega)
  refine px_P.pf rfl rfl (by assumption) rfl (fun S18 u18 => ?_)
  have c18 : S18.1 m = some (.inr (10, [.int 0, .ref (m + 1), .int 0, .ref (m + 2), .ref (m + 3), .ref (m + 4), .ref (m + 5), .ref (m + 6), .ref (m + 7), .ref (m + 8), .ref (m + 9), .ref (m + 10), .ref (m + 11), .ref (m + 12), .ref (m + 13), .ref (m + 14), .int 0, .ref (m + 15), .ref (m + 16), .ref (m + 17), .int 0, .ref (m + 18), .null, .null, .int 0, .null, .null, .null, .int 0, .int 0, .int 0, .null, .null, .int 0])) := u18.s
  have z18 : S18.2.1 = m + 19 := by
    rw [u18.t, a18.t]
    show S17.2.1 + 1 = m + 19
    rw [z17]
  have y18 : S18.2.2 = S.2.2 + 43356 := by
    rw [u18.t, a18.t]
    show S17.2.2 + 16 = _
    rw [y17, Nat.add_assoc]
  have h18 : ∀ i, 1 ≤ i → i ≤ 18 → S18.1 (m + i) = some (.inl (mo_ty i, mo_ln i, .inl (fun _ => 0))) := by
    intro i i1 i2
    rw [u18.o (show m + i ≠ m by omega)]
    by_cases e : i = 18
    · subst e; exact s18
    · rw [a18.o (by rw [z17]; omega)]; exact h17 i i1 (by omega)
  have f18 : ∀ q, q < m → S18.1 q = S.1 q := fun q hq => by rw [u18.o (show q ≠ m by omega), a18.o (by rw [z17]; omega)]; exact f17 q hq
  clear c17 e18 z17 y17 h17 f17 s18 u18 a18
  refine px_P.sn 2 (f1 := (160, [(0, .ref m)], [.int 16, .ref m])) (S1 := S18) rfl ?_
  refine px_P.newI rfl (by decide) (fun T19 a19 => ?_)
  have s19 := a19.s
  rw [z18] at s19
  rw [z18]
  show px_P _ _ (162, [(0, .ref m)], [.ref (m + 19), .ref m]) T19 _
  have e19 := a19.n c18 (by rw [z18]; omega)
  refine px_P.pf rfl rfl (by assumption) rfl (fun S19 u19 => ?_)
  have c19 : S19.1 m = some (.inr (10, [.int 0, .ref (m + 1), .int 0, .ref (m + 2), .ref (m + 3), .ref (m + 4), .ref (m + 5), .ref (m + 6), .ref (m + 7), .ref (m + 8), .ref (m + 9), .ref (m + 10), .ref (m + 11), .ref (m + 12), .ref (m + 13), .ref (m + 14), .int 0, .ref (m + 15), .ref (m + 16), .ref (m + 17), .int 0, .ref (m + 18), .ref (m + 19), .null, .int 0, .null, .null, .null, .int 0, .int 0, .int 0, .null, .null, .int 0])) := u19.s
  have z19 : S19.2.1 = m + 20 := by
    rw [u19.t, a19.t]
    show S18.2.1 + 1 = m + 20
    rw [z18]
  have y19 : S19.2.2 = S.2.2 + 43372 := by
    rw [u19.t, a19.t]
    show S18.2.2 + 16 = _
    rw [y18, Nat.add_assoc]
  have h19 : ∀ i, 1 ≤ i → i ≤ 19 → S19.1 (m + i) = some (.inl (mo_ty i, mo_ln i, .inl (fun _ => 0))) := by
    intro i i1 i2
    rw [u19.o (show m + i ≠ m by omega)]
    by_cases e : i = 19
    · subst e; exact s19
    · rw [a19.o (by rw [z18]; omega)]; exact h18 i i1 (by omega)
  have f19 : ∀ q, q < m → S19.1 q = S.1 q := fun q hq => by rw [u19.o (show q ≠ m by omega), a19.o (by rw [z18]; omega)]; exact f18 q hq
  clear c18 e19 z18 y18 h18 f18 s19 u19 a19
  refine px_P.sn 2 (f1 := (169, [(0, .ref m)], [.int 960, .ref m])) (S1 := S19) rfl ?_
  refine px_P.newC rfl (by decide) (fun T20 a20 => ?_)
  have s20 := a20.s
  rw [z19] at s20
  rw [z19]
  show px_P _ _ (171, [(0, .ref m)], [.ref (m + 20), .ref m]) T20 _
  have e20 := a20.n c19 (by rw [z19]; omega)
  refine px_P.pf rfl rfl (by assumption) rfl (fun S20 u20 => ?_)
  have c20 : S20.1 m = some (.inr (10, [.int 0, .ref (m + 1), .int 0, .ref (m + 2), .ref (m + 3), .ref (m + 4), .ref (m + 5), .ref (m + 6), .ref (m + 7), .ref (m + 8), .ref (m + 9), .ref (m + 10), .ref (m + 11), .ref (m + 12), .ref (m + 13), .ref (m + 14), .int 0, .ref (m + 15), .ref (m + 16), .ref (m + 17), .int 0, .ref (m + 18), .ref (m + 19), .ref (m + 20), .int 0, .null, .null, .null, .int 0, .int 0, .int 0, .null, .null, .int 0])) := u20.s
  have z20 : S20.2.1 = m + 21 := by
    rw [u20.t, a20.t]
    show S19.2.1 + 1 = m + 21
    rw [z19]
  have y20 : S20.2.2 = S.2.2 + 44332 := by
    rw [u20.t, a20.t]
    show S19.2.2 + 960 = _
    rw [y19, Nat.add_assoc]
  have h20 : ∀ i, 1 ≤ i → i ≤ 20 → S20.1 (m + i) = some (.inl (mo_ty i, mo_ln i, .inl (fun _ => 0))) := by
    intro i i1 i2
    rw [u20.o (show m + i ≠ m by omega)]
    by_cases e : i = 20
    · subst e; exact s20
    · rw [a20.o (by rw [z19]; omega)]; exact h19 i i1 (by omega)
  have f20 : ∀ q, q < m → S20.1 q = S.1 q := fun q hq => by rw [u20.o (show q ≠ m by omega), a20.o (by rw [z19]; omega)]; exact f19 q hq
  clear c19 e20 z19 y19 h19 f19 s20 u20 a20
  refine px_P.sn 2 (f1 := (177, [(0, .ref m)], [.int 43264, .ref m])) (S1 := S20) rfl ?_
  refine px_P.newZ rfl (by decide) (fun T21 a21 => ?_)
  have s21 := a21.s
  rw [z20] at s21
  rw [z20]
  show px_P _ _ (179, [(0, .ref m)], [.ref (m + 21), .ref m]) T21 _
  have e21 := a21.n c20 (by rw [z20]; omega)
  refine px_P.pf rfl rfl (by assumption) rfl (fun S21 u21 => ?_)
  have c21 : S21.1 m = some (.inr (10, [.int 0, .ref (m + 1), .int 0, .ref (m + 2), .ref (m + 3), .ref (m + 4), .ref (m + 5), .ref (m + 6), .ref (m + 7), .ref (m + 8), .ref (m + 9), .ref (m + 10), .ref (m + 11), .ref (m + 12), .ref (m + 13), .ref (m + 14), .int 0, .ref (m + 15), .ref (m + 16), .ref (m + 17), .int 0, .ref (m + 18), .ref (m + 19), .ref (m + 20), .int 0, .ref (m + 21), .null, .null, .int 0, .int 0, .int 0, .null, .null, .int 0])) := u21.s
  have z21 : S21.2.1 = m + 22 := by
    rw [u21.t, a21.t]
    show S20.2.1 + 1 = m + 22
    rw [z20]
  have y21 : S21.2.2 = S.2.2 + 87596 := by
    rw [u21.t, a21.t]
    show S20.2.2 + 43264 = _
    rw [y20, Nat.add_assoc]
  have h21 : ∀ i, 1 ≤ i → i ≤ 21 → S21.1 (m + i) = some (.inl (mo_ty i, mo_ln i, .inl (fun _ => 0))) := by
    intro i i1 i2
    rw [u21.o (show m + i ≠ m by omega)]
    by_cases e : i = 21
    · subst e; exact s21
    · rw [a21.o (by rw [z20]; omega)]; exact h20 i i1 (by omega)
  have f21 : ∀ q, q < m → S21.1 q = S.1 q := fun q hq => by rw [u21.o (show q ≠ m by omega), a21.o (by rw [z20]; omega)]; exact f20 q hq
  clear c20 e21 z20 y20 h20 f20 s21 u21 a21
  refine px_P.sn 2 (f1 := (185, [(0, .ref m)], [.int 96, .ref m])) (S1 := S21) rfl ?_
  refine px_P.newZ rfl (by decide) (fun T22 a22 => ?_)
  have s22 := a22.s
  rw [z21] at s22
  rw [z21]
  show px_P _ _ (187, [(0, .ref m)], [.ref (m + 22), .ref m]) T22 _
  have e22 := a22.n c21 (by rw [z21]; omega)
  refine px_P.pf rfl rfl (by assumption) rfl (fun S22 u22 => ?_)
  have c22 : S22.1 m = some (.inr (10, [.int 0, .ref (m + 1), .int 0, .ref (m + 2), .ref (m + 3), .ref (m + 4), .ref (m + 5), .ref (m + 6), .ref (m + 7), .ref (m + 8), .ref (m + 9), .ref (m + 10), .ref (m + 11), .ref (m + 12), .ref (m + 13), .ref (m + 14), .int 0, .ref (m + 15), .ref (m + 16), .ref (m + 17), .int 0, .ref (m + 18), .ref (m + 19), .ref (m + 20), .int 0, .ref (m + 21), .ref (m + 22), .null, .int 0, .int 0, .int 0, .null, .null, .int 0])) := u22.s
  have z22 : S22.2.1 = m + 23 := by
    rw [u22.t, a22.t]
    show S21.2.1 + 1 = m + 23
    rw [z21]
  have y22 : S22.2.2 = S.2.2 + 87692 := by
    rw [u22.t, a22.t]
    show S21.2.2 + 96 = _
    rw [y21, Nat.add_assoc]
  have h22 : ∀ i, 1 ≤ i → i ≤ 22 → S22.1 (m + i) = some (.inl (mo_ty i, mo_ln i, .inl (fun _ => 0))) := by
    intro i i1 i2
    rw [u22.o (show m + i ≠ m by omega)]
    by_cases e : i = 22
    · subst e; exact s22
    · rw [a22.o (by rw [z21]; omega)]; exact h21 i i1 (by omega)
  have f22 : ∀ q, q < m → S22.1 q = S.1 q := fun q hq => by rw [u22.o (show q ≠ m by omega), a22.o (by rw [z21]; omega)]; exact f21 q hq
  clear c21 e22 z21 y21 h21 f21 s22 u22 a22
  refine px_P.sn 2 (f1 := (194, [(0, .ref m)], [.int 208, .ref m])) (S1 := S22) rfl ?_
  refine px_P.newZ rfl (by decide) (fun T23 a23 => ?_)
  have s23 := a23.s
  rw [z22] at s23
  rw [z22]
  show px_P _ _ (196, [(0, .ref m)], [.ref (m + 23), .ref m]) T23 _
  have e23 := a23.n c22 (by rw [z22]; omega)
  refine px_P.pf rfl rfl (by assumption) rfl (fun S23 u23 => ?_)
  have c23 : S23.1 m = some (.inr (10, [.int 0, .ref (m + 1), .int 0, .ref (m + 2), .ref (m + 3), .ref (m + 4), .ref (m + 5), .ref (m + 6), .ref (m + 7), .ref (m + 8), .ref (m + 9), .ref (m + 10), .ref (m + 11), .ref (m + 12), .ref (m + 13), .ref (m + 14), .int 0, .ref (m + 15), .ref (m + 16), .ref (m + 17), .int 0, .ref (m + 18), .ref (m + 19), .ref (m + 20), .int 0, .ref (m + 21), .ref (m + 22), .ref (m + 23), .int 0, .int 0, .int 0, .null, .null, .int 0])) := u23.s
  have z23 : S23.2.1 = m + 24 := by
    rw [u23.t, a23.t]
    show S22.2.1 + 1 = m + 24
    rw [z22]
  have y23 : S23.2.2 = S.2.2 + 87900 := by
    rw [u23.t, a23.t]
    show S22.2.2 + 208 = _
    rw [y22, Nat.add_assoc]
  have h23 : ∀ i, 1 ≤ i → i ≤ 23 → S23.1 (m + i) = some (.inl (mo_ty i, mo_ln i, .inl (fun _ => 0))) := by
    intro i i1 i2
    rw [u23.o (show m + i ≠ m by omega)]
    by_cases e : i = 23
    · subst e; exact s23
    · rw [a23.o (by rw [z22]; omega)]; exact h22 i i1 (by omega)
  have f23 : ∀ q, q < m → S23.1 q = S.1 q := fun q hq => by rw [u23.o (show q ≠ m by omega), a23.o (by rw [z22]; omega)]; exact f22 q hq
  clear c22 e23 z22 y22 h22 f22 s23 u23 a23
  refine px_P.sn 2 (f1 := (202, [(0, .ref m)], [.int 64, .ref m])) (S1 := S23) rfl ?_
  refine px_P.newI rfl (by decide) (fun T24 a24 => ?_)
  have s24 := a24.s
  rw [z23] at s24
  rw [z23]
  show px_P _ _ (204, [(0, .ref m)], [.ref (m + 24), .ref m]) T24 _
  have e24 := a24.n c23 (by rw [z23]; omega)
  refine px_P.pf rfl rfl (by assumption) rfl (fun S24 u24 => ?_)
  have c24 : S24.1 m = some (.inr (10, [.int 0, .ref (m + 1), .int 0, .ref (m + 2), .ref (m + 3), .ref (m + 4), .ref (m + 5), .ref (m + 6), .ref (m + 7), .ref (m + 8), .ref (m + 9), .ref (m + 10), .ref (m + 11), .ref (m + 12), .ref (m + 13), .ref (m + 14), .int 0, .ref (m + 15), .ref (m + 16), .ref (m + 17), .int 0, .ref (m + 18), .ref (m + 19), .ref (m + 20), .int 0, .ref (m + 21), .ref (m + 22), .ref (m + 23), .int 0, .int 0, .int 0, .ref (m + 24), .null, .int 0])) := u24.s
  have z24 : S24.2.1 = m + 25 := by
    rw [u24.t, a24.t]
    show S23.2.1 + 1 = m + 25
    rw [z23]
  have y24 : S24.2.2 = S.2.2 + 87964 := by
    rw [u24.t, a24.t]
    show S23.2.2 + 64 = _
    rw [y23, Nat.add_assoc]
  have h24 : ∀ i, 1 ≤ i → i ≤ 24 → S24.1 (m + i) = some (.inl (mo_ty i, mo_ln i, .inl (fun _ => 0))) := by
    intro i i1 i2
    rw [u24.o (show m + i ≠ m by omega)]
    by_cases e : i = 24
    · subst e; exact s24
    · rw [a24.o (by rw [z23]; omega)]; exact h23 i i1 (by omega)
  have f24 : ∀ q, q < m → S24.1 q = S.1 q := fun q hq => by rw [u24.o (show q ≠ m by omega), a24.o (by rw [z23]; omega)]; exact f23 q hq
  clear c23 e24 z23 y23 h23 f23 s24 u24 a24
  refine px_P.sn 2 (f1 := (210, [(0, .ref m)], [.int 64, .ref m])) (S1 := S24) rfl ?_
  refine px_P.newI rfl (by decide) (fun T25 a25 => ?_)
  have s25 := a25.s
  rw [z24] at s25
  rw [z24]
  show px_P _ _ (212, [(0, .ref m)], [.ref (m + 25), .ref m]) T25 _
  have e25 := a25.n c24 (by rw [z24]; omega)
  refine px_P.pf rfl rfl (by assumption) rfl (fun S25 u25 => ?_)
  have c25 : S25.1 m = some (.inr (10, [.int 0, .ref (m + 1), .int 0, .ref (m + 2), .ref (m + 3), .ref (m + 4), .ref (m + 5), .ref (m + 6), .ref (m + 7), .ref (m + 8), .ref (m + 9), .ref (m + 10), .ref (m + 11), .ref (m + 12), .ref (m + 13), .ref (m + 14), .int 0, .ref (m + 15), .ref (m + 16), .ref (m + 17), .int 0, .ref (m + 18), .ref (m + 19), .ref (m + 20), .int 0, .ref (m + 21), .ref (m + 22), .ref (m + 23), .int 0, .int 0, .int 0, .ref (m + 24), .ref (m + 25), .int 0])) := u25.s
  have z25 : S25.2.1 = m + 26 := by
    rw [u25.t, a25.t]
    show S24.2.1 + 1 = m + 26
    rw [z24]
  have y25 : S25.2.2 = S.2.2 + 88028 := by
    rw [u25.t, a25.t]
    show S24.2.2 + 64 = _
    rw [y24, Nat.add_assoc]
  have h25 : ∀ i, 1 ≤ i → i ≤ 25 → S25.1 (m + i) = some (.inl (mo_ty i, mo_ln i, .inl (fun _ => 0))) := by
    intro i i1 i2
    rw [u25.o (show m + i ≠ m by omega)]
    by_cases e : i = 25
    · subst e; exact s25
    · rw [a25.o (by rw [z24]; omega)]; exact h24 i i1 (by omega)
  have f25 : ∀ q, q < m → S25.1 q = S.1 q := fun q hq => by rw [u25.o (show q ≠ m by omega), a25.o (by rw [z24]; omega)]; exact f24 q hq
  clear c24 e25 z24 y24 h24 f24 s25 u25 a25
  refine px_P.sn 2 (f1 := (217, [(0, .ref m), (1, .int 0)], [])) (S1 := S25) rfl ?_
  exact lp 96 0 rfl (fun _ _ => 0) S25 ⟨⟨c25, fun i i1 i2 => h25 i i1 (by omega)⟩, f25, Prod.ext z25 y25, fun p hp => absurd hp (by omega), fun _ _ _ _ => rfl⟩
