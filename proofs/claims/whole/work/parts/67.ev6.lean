/-! ===== the model: both and sum; a line's value ===== -/
theorem vl_bin {d m p x kd pl : Nat} {b : Bool} {q : Nat → Int32} {A0 A : Nat → Nat → Int32} {FL : fl_T} {y : (Nat → Int32) × Nat} {S0 S : px_S} {Q : Option Value → px_S → Prop} (hd : 3 ≤ d) (h : vS S0 S m q A0 A FL y) (hy2 : 2 ≤ y.2) (hy : y.2 < 64) (hx : x < 6144) (hk : kd = 6 ∨ kd = 7) (hb1 : le32 (y.1 (y.2 - 2)) lF) (hb2 : le32 (y.1 (y.2 - 1)) lF) (a11 : A0 11 x = nI pl) (hFL : FL.length < 6000)
    (k : ∀ S' A', vS S0 S' m q A0 A' (FL ++ (bif b && (decide (kd = 7) && fm_sumL (y.1 (y.2 - 2)) (y.1 (y.2 - 1))) then [(p, pl, 4)] else [])) (upd y.1 (y.2 - 2) (if kd = 6 then y.1 (y.2 - 2) ||| y.1 (y.2 - 1) else fm_sum (y.1 (y.2 - 2)) (y.1 (y.2 - 1))), y.2 - 1) → px_P d px_m_Model_value (365, [(0, .ref m), (1, .int (nI p)), (2, .int (bif b then 1 else 0)), (3, .int (nI x)), (4, .int (nI (kd + 1)))], []) S' Q) : px_P d px_m_Model_value (33, [(0, .ref m), (1, .int (nI p)), (2, .int (bif b then 1 else 0)), (3, .int (nI x)), (4, .int (nI (kd + 1)))], []) S Q := by
  obtain ⟨t, ht⟩ : ∃ t, y.2 = t + 2 := ⟨y.2 - 2, by omega⟩
  rw [ht] at k hb1 hb2
  rw [show t + 2 - 2 = t by omega] at k hb1
  rw [show t + 2 - 1 = t + 1 by omega] at k hb2
  have fin : ∀ (S1 : px_S) (A1 : Nat → Nat → Int32), vS S0 S1 m q A0 A1 (FL ++ (bif b && (decide (kd = 7) && fm_sumL (y.1 t) (y.1 (t + 1))) then [(p, pl, 4)] else [])) (y.1, t + 1) → A1 25 (t + 1) = y.1 (t + 1) → px_P d px_m_Model_value (225, [(0, .ref m), (1, .int (nI p)), (2, .int (bif b then 1 else 0)), (3, .int (nI x)), (4, .int (nI (kd + 1)))], []) S1 Q := by
    intro S1 A1 h1 e2
    generalize (FL ++ (bif b && (decide (kd = 7) && fm_sumL (y.1 t) (y.1 (t + 1))) then [(p, pl, (4 : Int32))] else [])) = FL1 at h1 k
    have c1 : S1.1 m = some (.inr (10, mo_ob m (mq2 q (nI FL1.length) (nI (t + 1))))) := h1.1.1
    have r25 : S1.1 (m + 25) = some (.inl (0, 64, .inl (A1 25))) := h1.1.2 25 (by decide) (by decide)
    have e1 : A1 25 t = y.1 t := h1.2.2.2.2 t (by show t < t + 1; omega)
    refine px_P.sn 1 (f1 := (226, [(0, .ref m), (1, .int (nI p)), (2, .int (bif b then 1 else 0)), (3, .int (nI x)), (4, .int (nI (kd + 1)))], [.ref m])) (S1 := S1) rfl ?_
    refine px_P.gf rfl rfl (by assumption) (v := .ref (m + 25)) rfl ?_
    refine px_P.sn 1 (f1 := (230, [(0, .ref m), (1, .int (nI p)), (2, .int (bif b then 1 else 0)), (3, .int (nI x)), (4, .int (nI (kd + 1)))], [.ref m, .ref (m + 25)])) (S1 := S1) rfl ?_
    refine px_P.gf rfl rfl (by assumption) (v := .int (nI (t + 1))) rfl ?_
    refine px_P.sn 4 (f1 := (239, [(0, .ref m), (1, .int (nI p)), (2, .int (bif b then 1 else 0)), (3, .int (nI x)), (4, .int (nI (kd + 1)))], [.int 7, .int (nI (kd + 1)), .int ((nI (t + 1)) - 1), .ref (m + 25)])) (S1 := S1) rfl ?_
    rw [nI_pred]
    show px_P _ _ (239, [(0, .ref m), (1, .int (nI p)), (2, .int (bif b then 1 else 0)), (3, .int (nI x)), (4, .int (nI (kd + 1)))], [.int 7, .int (nI (kd + 1)), .int (nI t), .ref (m + 25)]) S1 _
    rcases hk with hk | hk
    · rw [if_pos hk] at k
      refine px_P.ic_ne rfl rfl (fun h => absurd ((show nI (kd + 1) = 7 by rw [hk]; rfl)) h) (fun _ => ?_)
      refine px_P.sn 1 (f1 := (243, [(0, .ref m), (1, .int (nI p)), (2, .int (bif b then 1 else 0)), (3, .int (nI x)), (4, .int (nI (kd + 1)))], [.ref m, .int (nI t), .ref (m + 25)])) (S1 := S1) rfl ?_
      refine px_P.gf rfl rfl (by assumption) (v := .ref (m + 25)) rfl ?_
      refine px_P.sn 1 (f1 := (247, [(0, .ref m), (1, .int (nI p)), (2, .int (bif b then 1 else 0)), (3, .int (nI x)), (4, .int (nI (kd + 1)))], [.ref m, .ref (m + 25), .int (nI t), .ref (m + 25)])) (S1 := S1) rfl ?_
      refine px_P.gf rfl rfl (by assumption) (v := .int (nI (t + 1))) rfl ?_
      refine px_P.sn 2 (f1 := (252, [(0, .ref m), (1, .int (nI p)), (2, .int (bif b then 1 else 0)), (3, .int (nI x)), (4, .int (nI (kd + 1)))], [.int ((nI (t + 1)) - 1), .ref (m + 25), .int (nI t), .ref (m + 25)])) (S1 := S1) rfl ?_
      rw [nI_pred]
      show px_P _ _ (252, [(0, .ref m), (1, .int (nI p)), (2, .int (bif b then 1 else 0)), (3, .int (nI x)), (4, .int (nI (kd + 1)))], [.int (nI t), .ref (m + 25), .int (nI t), .ref (m + 25)]) S1 _
      refine px_P.ialdj (j := t) rfl (by assumption) rfl (by omega) (by decide) ?_
      rw [e1]
      refine px_P.sn 1 (f1 := (254, [(0, .ref m), (1, .int (nI p)), (2, .int (bif b then 1 else 0)), (3, .int (nI x)), (4, .int (nI (kd + 1)))], [.ref m, .int (y.1 t), .int (nI t), .ref (m + 25)])) (S1 := S1) rfl ?_
      refine px_P.gf rfl rfl (by assumption) (v := .ref (m + 25)) rfl ?_
      refine px_P.sn 1 (f1 := (258, [(0, .ref m), (1, .int (nI p)), (2, .int (bif b then 1 else 0)), (3, .int (nI x)), (4, .int (nI (kd + 1)))], [.ref m, .ref (m + 25), .int (y.1 t), .int (nI t), .ref (m + 25)])) (S1 := S1) rfl ?_
      refine px_P.gf rfl rfl (by assumption) (v := .int (nI (t + 1))) rfl ?_
      refine px_P.ialdj (j := t + 1) rfl (by assumption) rfl (by omega) (by decide) ?_
      rw [e2]
      refine px_P.sn 2 (f1 := (289, [(0, .ref m), (1, .int (nI p)), (2, .int (bif b then 1 else 0)), (3, .int (nI x)), (4, .int (nI (kd + 1)))], [.int ((y.1 t) ||| (y.1 (t + 1))), .int (nI t), .ref (m + 25)])) (S1 := S1) rfl ?_
      refine px_P.iastj (j := t) rfl (by assumption) rfl (by omega) (by decide) (fun S2 u2 => ?_)
      refine px_P.sn 1 (f1 := (365, [(0, .ref m), (1, .int (nI p)), (2, .int (bif b then 1 else 0)), (3, .int (nI x)), (4, .int (nI (kd + 1)))], [])) (S1 := S2) rfl ?_
      exact k S2 _ (h1.set u2)
    · rw [if_neg (show ¬ kd = 6 by omega)] at k
      refine px_P.ic_ne rfl rfl (fun _ => ?_) (fun h => absurd h ((show ¬ nI (kd + 1) = 7 by rw [hk]; decide)))
      refine px_P.sn 1 (f1 := (267, [(0, .ref m), (1, .int (nI p)), (2, .int (bif b then 1 else 0)), (3, .int (nI x)), (4, .int (nI (kd + 1)))], [.ref m, .int (nI t), .ref (m + 25)])) (S1 := S1) rfl ?_
      refine px_P.gf rfl rfl (by assumption) (v := .ref (m + 25)) rfl ?_
      refine px_P.sn 1 (f1 := (271, [(0, .ref m), (1, .int (nI p)), (2, .int (bif b then 1 else 0)), (3, .int (nI x)), (4, .int (nI (kd + 1)))], [.ref m, .ref (m + 25), .int (nI t), .ref (m + 25)])) (S1 := S1) rfl ?_
      refine px_P.gf rfl rfl (by assumption) (v := .int (nI (t + 1))) rfl ?_
      refine px_P.sn 2 (f1 := (276, [(0, .ref m), (1, .int (nI p)), (2, .int (bif b then 1 else 0)), (3, .int (nI x)), (4, .int (nI (kd + 1)))], [.int ((nI (t + 1)) - 1), .ref (m + 25), .int (nI t), .ref (m + 25)])) (S1 := S1) rfl ?_
      rw [nI_pred]
      show px_P _ _ (276, [(0, .ref m), (1, .int (nI p)), (2, .int (bif b then 1 else 0)), (3, .int (nI x)), (4, .int (nI (kd + 1)))], [.int (nI t), .ref (m + 25), .int (nI t), .ref (m + 25)]) S1 _
      refine px_P.ialdj (j := t) rfl (by assumption) rfl (by omega) (by decide) ?_
      rw [e1]
      refine px_P.sn 1 (f1 := (278, [(0, .ref m), (1, .int (nI p)), (2, .int (bif b then 1 else 0)), (3, .int (nI x)), (4, .int (nI (kd + 1)))], [.ref m, .int (y.1 t), .int (nI t), .ref (m + 25)])) (S1 := S1) rfl ?_
      refine px_P.gf rfl rfl (by assumption) (v := .ref (m + 25)) rfl ?_
      refine px_P.sn 1 (f1 := (282, [(0, .ref m), (1, .int (nI p)), (2, .int (bif b then 1 else 0)), (3, .int (nI x)), (4, .int (nI (kd + 1)))], [.ref m, .ref (m + 25), .int (y.1 t), .int (nI t), .ref (m + 25)])) (S1 := S1) rfl ?_
      refine px_P.gf rfl rfl (by assumption) (v := .int (nI (t + 1))) rfl ?_
      refine px_P.ialdj (j := t + 1) rfl (by assumption) rfl (by omega) (by decide) ?_
      rw [e2]
      refine px_P.call rfl ?_
      show px_M _ px_m_Model_sum [.int (y.1 t), .int (y.1 (t + 1))] S1 _
      refine pm_moSum (by omega) hb1 hb2 ?_
      show px_P _ _ (289, [(0, .ref m), (1, .int (nI p)), (2, .int (bif b then 1 else 0)), (3, .int (nI x)), (4, .int (nI (kd + 1)))], [.int (fm_sum (y.1 t) (y.1 (t + 1))), .int (nI t), .ref (m + 25)]) S1 _
      refine px_P.iastj (j := t) rfl (by assumption) rfl (by omega) (by decide) (fun S2 u2 => ?_)
      refine px_P.sn 1 (f1 := (365, [(0, .ref m), (1, .int (nI p)), (2, .int (bif b then 1 else 0)), (3, .int (nI x)), (4, .int (nI (kd + 1)))], [])) (S1 := S2) rfl ?_
      exact k S2 _ (h1.set u2)
  have c0 : S.1 m = some (.inr (10, mo_ob m (mq2 q (nI FL.length) (nI (t + 1 + 1))))) := by rw [show t + 1 + 1 = y.2 by omega]; exact h.1.1
  have pop : px_P d px_m_Model_value (166, [(0, .ref m), (1, .int (nI p)), (2, .int (bif b then 1 else 0)), (3, .int (nI x)), (4, .int (nI (kd + 1)))], []) S Q := by
    refine px_P.sn 2 (f1 := (168, [(0, .ref m), (1, .int (nI p)), (2, .int (bif b then 1 else 0)), (3, .int (nI x)), (4, .int (nI (kd + 1)))], [.ref m, .ref m])) (S1 := S) rfl ?_
    refine px_P.gf rfl rfl (by assumption) (v := .int (nI (t + 1 + 1))) rfl ?_
    refine px_P.sn 2 (f1 := (173, [(0, .ref m), (1, .int (nI p)), (2, .int (bif b then 1 else 0)), (3, .int (nI x)), (4, .int (nI (kd + 1)))], [.int ((nI (t + 1 + 1)) - 1), .ref m])) (S1 := S) rfl ?_
    rw [nI_pred]
    refine px_P.pf rfl rfl (by assumption) rfl (fun S1 u1 => ?_)
    have h1 : vS S0 S1 m q A0 A FL (y.1, t + 1) := h.tp (t := t + 1) u1 (fun j hj => h.2.2.2.2 j (by omega))
    have c1 : S1.1 m = some (.inr (10, mo_ob m (mq2 q (nI FL.length) (nI (t + 1))))) := h1.1.1
    have r25 : S1.1 (m + 25) = some (.inl (0, 64, .inl (A 25))) := h1.1.2 25 (by decide) (by decide)
    have r11 : S1.1 (m + 11) = some (.inl (0, 6144, .inl (A0 11))) := h1.ar 11 (by decide) (by decide) (by decide) (by decide) (by decide) (by decide)
    have e1 : A 25 t = y.1 t := h.2.2.2.2 t (by omega)
    have e2 : A 25 (t + 1) = y.1 (t + 1) := h.2.2.2.2 (t + 1) (by omega)
    have nok : (bif b && (decide (kd = 7) && fm_sumL (y.1 t) (y.1 (t + 1))) then [(p, pl, (4 : Int32))] else []) = [] → px_P d px_m_Model_value (225, [(0, .ref m), (1, .int (nI p)), (2, .int (bif b then 1 else 0)), (3, .int (nI x)), (4, .int (nI (kd + 1)))], []) S1 Q := by
      intro e
      refine fin S1 A ?_ e2
      rw [e, List.append_nil]
      exact h1
    refine px_P.sn 1 (f1 := (177, [(0, .ref m), (1, .int (nI p)), (2, .int (bif b then 1 else 0)), (3, .int (nI x)), (4, .int (nI (kd + 1)))], [.int (bif b then 1 else 0)])) (S1 := S1) rfl ?_
    cases b with
    | false =>
      show px_P _ _ (177, [(0, .ref m), (1, .int (nI p)), (2, .int 0), (3, .int (nI x)), (4, .int (nI (kd + 1)))], [.int 0]) S1 _
      refine px_P.if_eq rfl rfl (fun _ => ?_) (fun h => absurd ((by decide)) h)
      exact nok rfl
    | true =>
      show px_P _ _ (177, [(0, .ref m), (1, .int (nI p)), (2, .int 1), (3, .int (nI x)), (4, .int (nI (kd + 1)))], [.int 1]) S1 _
      refine px_P.if_eq rfl rfl (fun h => absurd h ((by decide))) (fun _ => ?_)
      refine px_P.sn 2 (f1 := (184, [(0, .ref m), (1, .int (nI p)), (2, .int 1), (3, .int (nI x)), (4, .int (nI (kd + 1)))], [.int 8, .int (nI (kd + 1))])) (S1 := S1) rfl ?_
      refine px_P.ic_ne rfl rfl (fun z => ?_) (fun z => ?_)
      · exact nok (by rw [decide_eq_false (fun w => z (by rw [w]; rfl))]; rfl)
      · have hkd : kd = 7 := by have := (nI_eq (b := 8) (by omega) (by decide)).mp z; omega
        refine px_P.sn 1 (f1 := (188, [(0, .ref m), (1, .int (nI p)), (2, .int 1), (3, .int (nI x)), (4, .int (nI (kd + 1)))], [.ref m])) (S1 := S1) rfl ?_
        refine px_P.gf rfl rfl (by assumption) (v := .ref (m + 25)) rfl ?_
        refine px_P.sn 1 (f1 := (192, [(0, .ref m), (1, .int (nI p)), (2, .int 1), (3, .int (nI x)), (4, .int (nI (kd + 1)))], [.ref m, .ref (m + 25)])) (S1 := S1) rfl ?_
        refine px_P.gf rfl rfl (by assumption) (v := .int (nI (t + 1))) rfl ?_
        refine px_P.sn 2 (f1 := (197, [(0, .ref m), (1, .int (nI p)), (2, .int 1), (3, .int (nI x)), (4, .int (nI (kd + 1)))], [.int ((nI (t + 1)) - 1), .ref (m + 25)])) (S1 := S1) rfl ?_
        rw [nI_pred]
        show px_P _ _ (197, [(0, .ref m), (1, .int (nI p)), (2, .int 1), (3, .int (nI x)), (4, .int (nI (kd + 1)))], [.int (nI t), .ref (m + 25)]) S1 _
        refine px_P.ialdj (j := t) rfl (by assumption) rfl (by omega) (by decide) ?_
        rw [e1]
        refine px_P.sn 1 (f1 := (199, [(0, .ref m), (1, .int (nI p)), (2, .int 1), (3, .int (nI x)), (4, .int (nI (kd + 1)))], [.ref m, .int (y.1 t)])) (S1 := S1) rfl ?_
        refine px_P.gf rfl rfl (by assumption) (v := .ref (m + 25)) rfl ?_
        refine px_P.sn 1 (f1 := (203, [(0, .ref m), (1, .int (nI p)), (2, .int 1), (3, .int (nI x)), (4, .int (nI (kd + 1)))], [.ref m, .ref (m + 25), .int (y.1 t)])) (S1 := S1) rfl ?_
        refine px_P.gf rfl rfl (by assumption) (v := .int (nI (t + 1))) rfl ?_
        refine px_P.ialdj (j := t + 1) rfl (by assumption) rfl (by omega) (by decide) ?_
        rw [e2]
        refine px_P.call rfl ?_
        show px_M _ px_m_Model_lacksSum [.int (y.1 t), .int (y.1 (t + 1))] S1 _
        refine pm_moLacks (by omega) hb1 hb2 ?_
        cases hu : fm_sumL (y.1 t) (y.1 (t + 1)) with
        | false =>
          show px_P _ _ (210, [(0, .ref m), (1, .int (nI p)), (2, .int 1), (3, .int (nI x)), (4, .int (nI (kd + 1)))], [.int 0]) S1 _
          refine px_P.if_eq rfl rfl (fun _ => ?_) (fun h => absurd ((by decide)) h)
          exact nok (by rw [hu, Bool.and_false]; rfl)
        | true =>
          show px_P _ _ (210, [(0, .ref m), (1, .int (nI p)), (2, .int 1), (3, .int (nI x)), (4, .int (nI (kd + 1)))], [.int 1]) S1 _
          refine px_P.if_eq rfl rfl (fun h => absurd h ((by decide))) (fun _ => ?_)
          refine px_P.sn 3 (f1 := (216, [(0, .ref m), (1, .int (nI p)), (2, .int 1), (3, .int (nI x)), (4, .int (nI (kd + 1)))], [.ref m, .int (nI p), .ref m])) (S1 := S1) rfl ?_
          refine px_P.gf rfl rfl (by assumption) (v := .ref (m + 11)) rfl ?_
          refine px_P.sn 1 (f1 := (220, [(0, .ref m), (1, .int (nI p)), (2, .int 1), (3, .int (nI x)), (4, .int (nI (kd + 1)))], [.int (nI x), .ref (m + 11), .int (nI p), .ref m])) (S1 := S1) rfl ?_
          refine px_P.ialdj (j := x) rfl (by assumption) rfl (by omega) (by decide) ?_
          rw [a11]
          refine px_P.sn 1 (f1 := (222, [(0, .ref m), (1, .int (nI p)), (2, .int 1), (3, .int (nI x)), (4, .int (nI (kd + 1)))], [.int 4, .int (nI pl), .int (nI p), .ref m])) (S1 := S1) rfl ?_
          refine px_P.cv rfl rfl rfl (by assumption) rfl ?_
          show px_M _ px_m_Model_note [.ref m, .int (nI p), .int (nI pl), .int 4] S1 _
          have e2' := h1
          refine pm_moNote (by omega) h1.1 h1.2.2.1 hFL (fun S3 A3 g1 g2 g3 g4 => ?_)
          show px_P _ _ (225, [(0, .ref m), (1, .int (nI p)), (2, .int 1), (3, .int (nI x)), (4, .int (nI (kd + 1)))], []) S3 _
          refine fin S3 A3 ⟨?_, h1.2.1.tr g2, ?_, fun i e1 e2 e3 e4 => (g4 i e1 e2 e3).trans (h1.2.2.2.1 i e1 e2 e3 e4), fun j hj => ?_⟩ ?_
          · rw [hu, decide_eq_true hkd, List.length_append]
            exact g1
          · rw [hu, decide_eq_true hkd]
            exact g3
          · rw [g4 25 (by decide) (by decide) (by decide)]
            exact h1.2.2.2.2 j hj
          · rw [g4 25 (by decide) (by decide) (by decide)]
            exact e2
  show px_P _ _ (33, [(0, .ref m), (1, .int (nI p)), (2, .int (bif b then 1 else 0)), (3, .int (nI x)), (4, .int (nI (kd + 1)))], []) S _
  refine px_P.sn 2 (f1 := (36, [(0, .ref m), (1, .int (nI p)), (2, .int (bif b then 1 else 0)), (3, .int (nI x)), (4, .int (nI (kd + 1)))], [.int 1, .int (nI (kd + 1))])) (S1 := S) rfl ?_
  refine px_P.ic_ne rfl rfl (fun _ => ?_) (fun h => absurd h ((fun z => absurd ((nI_eq (b := 1) (by omega) (by decide)).mp z) (by omega))))
  refine px_P.sn 2 (f1 := (72, [(0, .ref m), (1, .int (nI p)), (2, .int (bif b then 1 else 0)), (3, .int (nI x)), (4, .int (nI (kd + 1)))], [.int 2, .int (nI (kd + 1))])) (S1 := S) rfl ?_
  refine px_P.ic_ne rfl rfl (fun _ => ?_) (fun h => absurd h ((fun z => absurd ((nI_eq (b := 2) (by omega) (by decide)).mp z) (by omega))))
  refine px_P.sn 2 (f1 := (156, [(0, .ref m), (1, .int (nI p)), (2, .int (bif b then 1 else 0)), (3, .int (nI x)), (4, .int (nI (kd + 1)))], [.int 7, .int (nI (kd + 1))])) (S1 := S) rfl ?_
  refine px_P.ic_eq rfl rfl (fun z => ?_) (fun z => ?_)
  · exact pop
  · have z8 : nI (kd + 1) = 8 := by
      rcases hk with hk | hk
      · exact absurd (by rw [hk]; rfl) z
      · rw [hk]; rfl
    refine px_P.sn 2 (f1 := (163, [(0, .ref m), (1, .int (nI p)), (2, .int (bif b then 1 else 0)), (3, .int (nI x)), (4, .int (nI (kd + 1)))], [.int 8, .int (nI (kd + 1))])) (S1 := S) rfl ?_
    refine px_P.ic_ne rfl rfl (fun h => absurd (z8) h) (fun _ => ?_)
    exact pop
