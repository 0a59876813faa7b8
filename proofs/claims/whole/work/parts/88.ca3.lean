/-! ===== the model's calls: drop ===== -/
theorem drp_s {tt : Nat → List Nat} {mo i : Nat} : drp tt mo (i + 1) = va_up (drp tt mo i) (12 * mo + i) [] := by
  funext p
  unfold drp
  by_cases e : p = 12 * mo + i
  · simp only [va_up, if_pos e]
    rw [if_pos (by omega)]
  · simp only [va_up, if_neg e]
    by_cases z : 12 * mo ≤ p ∧ p < 12 * mo + i
    · rw [if_pos z, if_pos (by omega)]
    · rw [if_neg z, if_neg (by omega)]
theorem drp_0 {tt : Nat → List Nat} {mo : Nat} : drp tt mo 0 = tt := by
  funext p
  unfold drp
  rw [if_neg (by omega)]
theorem drp_O {tt : Nat → List Nat} (h : ttO tt) {mo : Nat} (hm : mo < 8) : ∀ i, i ≤ 12 → ttO (drp tt mo i)
  | 0, _ => by rw [drp_0]; exact h
  | i + 1, hi => by rw [drp_s]; exact ttO_up (drp_O h hm i (by omega)) (by omega) ⟨Nat.zero_le _, fun c hc => (by cases hc)⟩
set_option maxHeartbeats 1000000 in
theorem pm_mmDrop {d m mo : Nat} {ty : List Nat} {tt : Nat → List Nat} {hh : List (Nat × List Nat)} {S : px_S} {Q : Option Value → px_S → Prop} (hd : 9 ≤ d) (h : mI S m ty tt hh) (hm : mo < 8)
    (k : ∀ S', mI S' m ty (drp tt mo 12) [] → mf S' m 0 → mF S S' m → Q (some (.int (nI (ct (nep tt mo) 12)))) S') :
    px_M d px_m_Model_drop [.ref m, .int (nI mo)] S Q := by
  obtain ⟨q, A, h0, ⟨q1, t1, t2⟩, b2, b3, b4, b5, ⟨b6, b7⟩, b8⟩ := h
  have c0 := h0.1
  have e12 : (12 : Int32) * nI mo = nI (12 * mo + 0) := by rw [show (12 : Int32) = nI 12 from rfl, pk_mul, Nat.add_zero]
  have e12' : (12 : Int32) * nI mo + 12 = nI (12 * mo + 12) := by rw [show (12 : Int32) = nI 12 from rfl, pk_mul, nI_add]
  obtain ⟨FL, l1, l2, l3⟩ := b5.fl (sL_wf b2)
  have lp := px_for (d := d - 1) (mi := px_m_Model_drop) (Q := Q) (X := (Nat → Nat → Int32) × (Nat → Int32)) 12 (fun i _ => (31, [(0, .ref m), (1, .int (nI mo)), (2, .int (nI (ct (nep tt mo) i))), (3, .int (nI (12 * mo + i)))], []))
    (fun i y S' => mo_at S' m y.2 y.1 ∧ mF S S' m ∧ mtx y.1 (drp tt mo i) ∧ ml y.1 (sL (drp tt mo i)) ∧ (∀ j, j = 1 ∨ (11 < j ∧ j ≠ 24) → y.1 j = A j) ∧ y.2 0 = 0 ∧ y.2 1 = q 1 ∧ y.2 2 = q 2)
    (by
      intro i hi ⟨A1, p1⟩ S1 ⟨g1, g2, g3, g4, g5, g6, g7, g8⟩ kk
      dsimp only at g1 g2 g3 g4 g5 g6 g7 g8
      have hp : 12 * mo + i < 96 := by omega
      have ho := drp_O b2 hm i (by omega)
      have etp : drp tt mo i (12 * mo + i) = tt (12 * mo + i) := by unfold drp; rw [if_neg (by omega)]
      obtain ⟨x1, x2⟩ := g3 _ hp
      rw [etp] at x1
      have hlt := (b2.1 (12 * mo + i)).1
      have tail : ∀ v : Int32, v = nI (ct (nep tt mo) (i + 1)) → px_P (d - 1) px_m_Model_drop (58, [(0, .ref m), (1, .int (nI mo)), (2, .int (nI (ct (nep tt mo) i))), (3, .int (nI (12 * mo + i)))], [.int v]) S1 Q := by
        intro v hv
        subst hv
        have c1 := g1.1
        have r2 : S1.1 (m + 2) = some (.inl (0, 96, .inl (A1 2))) := g1.2 2 (by decide) (by decide)
        refine px_P.sn 2 (f1 := (60, [(0, .ref m), (1, .int (nI mo)), (2, .int (nI (ct (nep tt mo) (i + 1)))), (3, .int (nI (12 * mo + i)))], [.ref m])) (S1 := S1) rfl ?_
        refine px_P.gf rfl rfl (by assumption) (v := .ref (m + 2)) rfl ?_
        refine px_P.sn 2 (f1 := (65, [(0, .ref m), (1, .int (nI mo)), (2, .int (nI (ct (nep tt mo) (i + 1)))), (3, .int (nI (12 * mo + i)))], [.int 0, .int (nI (12 * mo + i)), .ref (m + 2)])) (S1 := S1) rfl ?_
        refine px_P.iastj (j := 12 * mo + i) rfl (by assumption) rfl (by omega) (by decide) (fun S2 u2 => ?_)
        have f1 := g1.ar (i := 2) (by decide) (by decide) u2
        have f2 := g2.tr (mF.u (by omega) (by omega) u2)
        have c2 := f1.1
        refine px_P.sn 2 (f1 := (68, [(0, .ref m), (1, .int (nI mo)), (2, .int (nI (ct (nep tt mo) (i + 1)))), (3, .int (nI (12 * mo + i)))], [.int (nI (12 * mo + i)), .ref m])) (S1 := S2) rfl ?_
        refine px_P.cv rfl rfl rfl (by assumption) rfl ?_
        show px_M _ px_m_Model_read [.ref m, .int (nI (12 * mo + i))] S2 _
        refine pm_moRead (tx := tf []) (N := 0) (by omega) ⟨by rw [va_us, pk_us]; rfl, fun j hj => absurd hj (by omega), fun j hj => absurd hj (by omega), by omega, hp⟩ f1 (fun S3 A3 x z f3 f4 rF k0 k1 => ?_)
        show px_P _ _ (71, [(0, .ref m), (1, .int (nI mo)), (2, .int (nI (ct (nep tt mo) (i + 1)))), (3, .int (nI (12 * mo + i)))], []) S3 _
        refine px_P.sn 2 (f1 := (31, [(0, .ref m), (1, .int (nI mo)), (2, .int (nI (ct (nep tt mo) (i + 1)))), (3, .int ((nI (12 * mo + i)) + 1))], [])) (S1 := S3) rfl ?_
        rw [nI_1, show 12 * mo + i + 1 = 12 * mo + (i + 1) by omega]
        refine kk (A3, mq p1 x (nI (12 * mo + i)) z) S3 ⟨f3, f2.tr f4, ?_, ?_, fun j hj => ?_, g6, g7, g8⟩
        · show mtx A3 (drp tt mo (i + 1))
          rw [drp_s]
          refine mtx_up g3 ho hp ?_ (fun j hj => ?_) (fun j hj => absurd hj (Nat.not_lt_zero _)) (fun c hc => ?_)
          · rw [rF.1 2 (by omega), va_us, pk_us]; rfl
          · rw [rF.1 2 (by omega), va_us, pk_un hj]
          · rw [rF.1 3 (by omega), va_un (by decide)]
        · show ml A3 (sL (drp tt mo (i + 1)))
          rw [drp_s]
          refine ml_read (A3 := va_up A1 2 (upd (A1 2) (12 * mo + i) 0)) hp ho ⟨Nat.zero_le _, fun c hc => (by cases hc)⟩ g4 (fun j hj => by rw [va_us, pk_un hj]) (by rw [va_us, pk_us]; rfl) (fun j j1 j2 => va_un (by omega)) rF k0 k1
        · show A3 j = A j
          rw [rF.1 j (by omega), va_un (by omega)]
          exact g5 j hj
      have c1 := g1.1
      show px_P _ _ (31, [(0, .ref m), (1, .int (nI mo)), (2, .int (nI (ct (nep tt mo) i))), (3, .int (nI (12 * mo + i)))], []) S1 _
      have r2 : S1.1 (m + 2) = some (.inl (0, 96, .inl (A1 2))) := g1.2 2 (by decide) (by decide)
      refine px_P.sn 6 (f1 := (39, [(0, .ref m), (1, .int (nI mo)), (2, .int (nI (ct (nep tt mo) i))), (3, .int (nI (12 * mo + i)))], [.int ((12 * (nI mo)) + 12), .int (nI (12 * mo + i))])) (S1 := S1) rfl ?_
      rw [e12']
      refine px_P.ic_ge rfl rfl (fun h => absurd h (nI_ge (by omega) (by omega))) (fun _ => ?_)
      refine px_P.sn 1 (f1 := (43, [(0, .ref m), (1, .int (nI mo)), (2, .int (nI (ct (nep tt mo) i))), (3, .int (nI (12 * mo + i)))], [.ref m])) (S1 := S1) rfl ?_
      refine px_P.gf rfl rfl (by assumption) (v := .ref (m + 2)) rfl ?_
      refine px_P.sn 1 (f1 := (47, [(0, .ref m), (1, .int (nI mo)), (2, .int (nI (ct (nep tt mo) i))), (3, .int (nI (12 * mo + i)))], [.int (nI (12 * mo + i)), .ref (m + 2)])) (S1 := S1) rfl ?_
      refine px_P.ialdj (j := 12 * mo + i) rfl (by assumption) rfl (by omega) (by decide) ?_
      rw [x1]
      by_cases he : tt (12 * mo + i) = []
      · rw [he]
        show px_P _ _ (48, [(0, .ref m), (1, .int (nI mo)), (2, .int (nI (ct (nep tt mo) i))), (3, .int (nI (12 * mo + i)))], [.int (nI 0)]) S1 _
        refine px_P.if_le rfl rfl (fun _ => ?_) (fun h => absurd ((by decide)) h)
        refine px_P.sn 1 (f1 := (58, [(0, .ref m), (1, .int (nI mo)), (2, .int (nI (ct (nep tt mo) i))), (3, .int (nI (12 * mo + i)))], [.int (nI (ct (nep tt mo) i))])) (S1 := S1) rfl ?_
        exact tail _ (by rw [ct_z (p := nep tt mo) (n := i) (decide_eq_false (fun z => z he))])
      · have hpos : 0 < (tt (12 * mo + i)).length := List.length_pos_iff.mpr he
        refine px_P.if_le rfl rfl (fun h => absurd h (nI_nle hpos (by omega))) (fun _ => ?_)
        refine px_P.sn 4 (f1 := (58, [(0, .ref m), (1, .int (nI mo)), (2, .int (nI (ct (nep tt mo) i))), (3, .int (nI (12 * mo + i)))], [.int ((nI (ct (nep tt mo) i)) + 1)])) (S1 := S1) rfl ?_
        rw [nI_1]
        exact tail _ (by rw [ct_s (p := nep tt mo) (n := i) (decide_eq_true he)]))
    (by
      intro ⟨A1, p1⟩ S1 ⟨g1, g2, g3, g4, g5, g6, g7, g8⟩
      dsimp only at g1 g2 g3 g4 g5 g6 g7 g8
      have ho := drp_O b2 hm 12 (by omega)
      have hw' := sL_wf ho
      have c1 := g1.1
      show px_P _ _ (31, [(0, .ref m), (1, .int (nI mo)), (2, .int (nI (ct (nep tt mo) 12))), (3, .int (nI (12 * mo + 12)))], []) S1 _
      refine px_P.sn 6 (f1 := (39, [(0, .ref m), (1, .int (nI mo)), (2, .int (nI (ct (nep tt mo) 12))), (3, .int (nI (12 * mo + 12)))], [.int ((12 * (nI mo)) + 12), .int (nI (12 * mo + 12))])) (S1 := S1) rfl ?_
      rw [e12']
      refine px_P.ic_ge rfl rfl (fun _ => ?_) (fun h => absurd (Int32.le_refl _) h)
      refine px_P.sn 2 (f1 := (79, [(0, .ref m), (1, .int (nI mo)), (2, .int (nI (ct (nep tt mo) 12))), (3, .int (nI (12 * mo + 12)))], [.int 0, .ref m])) (S1 := S1) rfl ?_
      refine px_P.pf rfl rfl (by assumption) rfl (fun S2 u2 => ?_)
      have f1 : mo_at S2 m (upd p1 3 0) A1 := g1.ob u2
      have c2 := f1.1
      refine px_P.sn 2 (f1 := (84, [(0, .ref m), (1, .int (nI mo)), (2, .int (nI (ct (nep tt mo) 12))), (3, .int (nI (12 * mo + 12)))], [.int 0, .ref m])) (S1 := S2) rfl ?_
      refine px_P.pf rfl rfl (by assumption) rfl (fun S3 u3 => ?_)
      have f2 : mo_at S3 m (upd (upd p1 3 0) 4 0) A1 := f1.ob u3
      have c3 := f2.1
      refine px_P.sn 1 (f1 := (88, [(0, .ref m), (1, .int (nI mo)), (2, .int (nI (ct (nep tt mo) 12))), (3, .int (nI (12 * mo + 12)))], [.ref m])) (S1 := S3) rfl ?_
      refine px_P.cv rfl rfl rfl (by assumption) rfl ?_
      show px_M _ px_m_Model_grow [.ref m] S3 _
      refine pm_moGrow (FL := FL) (by omega) f2 (g8.trans l1) (l2.cg (g5 15 (by omega)) (g5 16 (by omega)) (g5 17 (by omega))) g4 hw' l3 (fun S6 A6 t6 T h1 h2 h3 h4 h5 => ?_)
      have c6 := h1.1.1
      show px_P _ _ (91, [(0, .ref m), (1, .int (nI mo)), (2, .int (nI (ct (nep tt mo) 12))), (3, .int (nI (12 * mo + 12)))], []) S6 _
      refine px_P.sn 1 (f1 := (92, [(0, .ref m), (1, .int (nI mo)), (2, .int (nI (ct (nep tt mo) 12))), (3, .int (nI (12 * mo + 12)))], [.ref m])) (S1 := S6) rfl ?_
      refine px_P.cv rfl rfl rfl (by assumption) rfl ?_
      show px_M _ px_m_Model_judgeAll [.ref m] S6 _
      refine pm_moJudgeAll (D := fun t => nI (dc (sL (drp tt mo 12)) t)) (by omega) h1.1 (h1.ml g4) hw' (lf_cg h2 h3) h4.1 h2.D h5 (fun S7 A7 t7 h6 => ?_)
      obtain ⟨q7, y1, y2, y3, y4, y5⟩ := gj_of h1 h2 h3 h4 h5 h6
      show px_P _ _ (95, [(0, .ref m), (1, .int (nI mo)), (2, .int (nI (ct (nep tt mo) 12))), (3, .int (nI (12 * mo + 12)))], []) S7 _
      refine px_P.sn 1 (f1 := (96, [(0, .ref m), (1, .int (nI mo)), (2, .int (nI (ct (nep tt mo) 12))), (3, .int (nI (12 * mo + 12)))], [.int (nI (ct (nep tt mo) 12))])) (S1 := S7) rfl ?_
      refine px_P.ret rfl ?_
      have a7 : ∀ i, i ≠ 12 → i ≠ 13 → i ≠ 14 → i ≠ 15 → i ≠ 16 → i ≠ 17 → i ≠ 25 → A7 i = A1 i := y3
      refine k S7 ⟨q7, A7, y1, ⟨?_, t1, ?_⟩, ho, ?_, g4.cg (fun i i1 i2 => a7 i (by omega) (by omega) (by omega) (by omega) (by omega) (by omega) (by omega)), y5, ⟨?_, Nat.zero_le _, fun j hj => absurd hj (Nat.not_lt_zero _), ?_⟩, Or.inl ?_⟩ ⟨q7, y1.1, ?_⟩ ((g2.tr (mF.u (Nat.le_refl _) (by omega) u2)).tr ((mF.u (Nat.le_refl _) (by omega) u3).tr y2))
      · rw [y4 1 (by decide) (by decide)]; exact g7.trans q1
      · rw [a7 1 (by decide) (by decide) (by decide) (by decide) (by decide) (by decide) (by decide), g5 1 (by omega)]; exact t2
      · unfold mtx
        rw [a7 2 (by decide) (by decide) (by decide) (by decide) (by decide) (by decide) (by decide), a7 3 (by decide) (by decide) (by decide) (by decide) (by decide) (by decide) (by decide)]
        exact g3
      · rw [y4 3 (by decide) (by decide)]; rfl
      · rw [a7 20 (by decide) (by decide) (by decide) (by decide) (by decide) (by decide) (by decide), g5 20 (by omega)]; exact b7.2.2
      · rw [y4 4 (by decide) (by decide)]; rfl
      · rw [y4 0 (by decide) (by decide)]; exact g6)
  refine px_M.go (by omega) (Nat.le_of_ble_eq_true rfl) ?_
  refine px_P.sn 4 (f1 := (5, [(0, .ref m), (1, .int (nI mo))], [.int 7, .int 0, .int (nI mo), .ref m])) (S1 := S) rfl ?_
  refine px_P.call rfl ?_
  show px_M _ px_m_Model_isIn [.int (nI mo), .int 0, .int 7] S _
  refine pm_moIsIn (by omega) ?_
  rw [show (decide ((0 : Int32) ≤ nI mo) && decide (nI mo ≤ 7)) = true from in_ok (b := 7) (by omega) (by decide)]
  show px_P _ _ (8, [(0, .ref m), (1, .int (nI mo))], [.int 1, .ref m]) S _
  show px_P _ _ (8, [(0, .ref m), (1, .int (nI mo))], [.int 1, .ref m]) S _
  refine px_P.if_eq rfl rfl (fun h => absurd h ((by decide))) (fun _ => ?_)
  refine px_P.sn 2 (f1 := (16, [(0, .ref m), (1, .int (nI mo))], [.int 0, .ref m])) (S1 := S) rfl ?_
  refine px_P.cv rfl rfl rfl (by assumption) rfl ?_
  show px_M _ px_m_Model_refused [.ref m, .int 0] S _
  refine pm_moRefused (b := false) (by omega) h0 (fun S1 g1 m1 => ?_)
  show px_P _ _ (19, [(0, .ref m), (1, .int (nI mo))], [.int 0]) S1 _
  show px_P _ _ (19, [(0, .ref m), (1, .int (nI mo))], [.int 0]) S1 _
  refine px_P.if_eq rfl rfl (fun _ => ?_) (fun h => absurd ((by decide)) h)
  refine px_P.sn 6 (f1 := (31, [(0, .ref m), (1, .int (nI mo)), (2, .int 0), (3, .int (12 * (nI mo)))], [])) (S1 := S1) rfl ?_
  rw [e12]
  refine lp 12 0 rfl (A, upd q 0 0) S1 ⟨g1, m1, ?_, ?_, fun _ _ => rfl, rfl, rfl, rfl⟩
  · rw [drp_0]; exact b3
  · rw [drp_0]; exact b4
theorem pm_mmDropBad {d m : Nat} {v : Int32} {ty : List Nat} {tt : Nat → List Nat} {hh : List (Nat × List Nat)} {S : px_S} {Q : Option Value → px_S → Prop} (hd : 2 ≤ d) (h : mI S m ty tt hh) (hbad : (decide (0 ≤ v) && decide (v ≤ 7)) = false)
    (k : ∀ S', mI S' m ty tt hh → mf S' m 1 → mF S S' m → Q (some (.int 0)) S') : px_M d px_m_Model_drop [.ref m, .int v] S Q := by
  obtain ⟨q, A, h0, hr⟩ := h
  have c0 := h0.1
  refine px_M.go (by omega) (Nat.le_of_ble_eq_true rfl) ?_
  refine px_P.sn 4 (f1 := (5, [(0, .ref m), (1, .int v)], [.int 7, .int 0, .int v, .ref m])) (S1 := S) rfl ?_
  refine px_P.call rfl ?_
  show px_M _ px_m_Model_isIn [.int v, .int 0, .int 7] S _
  refine pm_moIsIn (by omega) ?_
  rw [hbad]
  show px_P _ _ (8, [(0, .ref m), (1, .int v)], [.int 0, .ref m]) S _
  show px_P _ _ (8, [(0, .ref m), (1, .int v)], [.int 0, .ref m]) S _
  refine px_P.if_eq rfl rfl (fun _ => ?_) (fun h => absurd ((by decide)) h)
  refine px_P.sn 1 (f1 := (16, [(0, .ref m), (1, .int v)], [.int 1, .ref m])) (S1 := S) rfl ?_
  refine px_P.cv rfl rfl rfl (by assumption) rfl ?_
  show px_M _ px_m_Model_refused [.ref m, .int 1] S _
  refine pm_moRefused (b := true) (by omega) h0 (fun S1 g1 m1 => ?_)
  show px_P _ _ (19, [(0, .ref m), (1, .int v)], [.int 1]) S1 _
  show px_P _ _ (19, [(0, .ref m), (1, .int v)], [.int 1]) S1 _
  refine px_P.if_eq rfl rfl (fun h => absurd h ((by decide))) (fun _ => ?_)
  refine px_P.sn 1 (f1 := (23, [(0, .ref m), (1, .int v)], [.int 0])) (S1 := S1) rfl ?_
  refine px_P.ret rfl ?_
  exact k S1 (mI.q hr g1 rfl rfl rfl rfl (fun _ _ => rfl) hr.1.2.2) ⟨_, g1.1, rfl⟩ m1
