/-! ===== the model: a step of a line's value ===== -/
theorem vl_form {d m p x fs : Nat} {bv : Int32} {q : Nat → Int32} {A0 A : Nat → Nat → Int32} {FL : fl_T} {y : (Nat → Int32) × Nat} {S0 S : px_S} {Q : Option Value → px_S → Prop} (h : vS S0 S m q A0 A FL y) (hy : y.2 < 64) (hx : x < 6144) (a10 : A0 10 x = nI fs)
    (k : ∀ S' A', vS S0 S' m q A0 A' FL (upd y.1 y.2 (1 <<< (nI fs &&& 31)), y.2 + 1) → px_P d px_m_Model_value (365, [(0, .ref m), (1, .int (nI p)), (2, .int bv), (3, .int (nI x)), (4, .int 1)], []) S' Q) : px_P d px_m_Model_value (33, [(0, .ref m), (1, .int (nI p)), (2, .int bv), (3, .int (nI x)), (4, .int 1)], []) S Q := by
  have c0 := h.1.1
  have r10 : S.1 (m + 10) = some (.inl (0, 6144, .inl (A0 10))) := h.ar 10 (by decide) (by decide) (by decide) (by decide) (by decide) (by decide)
  have r25 : S.1 (m + 25) = some (.inl (0, 64, .inl (A 25))) := h.1.2 25 (by decide) (by decide)
  refine px_P.sn 2 (f1 := (36, [(0, .ref m), (1, .int (nI p)), (2, .int bv), (3, .int (nI x)), (4, .int 1)], [.int 1, .int 1])) (S1 := S) rfl ?_
  refine px_P.ic_ne rfl rfl (fun h => absurd ((by decide)) h) (fun _ => ?_)
  refine px_P.sn 1 (f1 := (40, [(0, .ref m), (1, .int (nI p)), (2, .int bv), (3, .int (nI x)), (4, .int 1)], [.ref m])) (S1 := S) rfl ?_
  refine px_P.gf rfl rfl (by assumption) (v := .ref (m + 25)) rfl ?_
  refine px_P.sn 1 (f1 := (44, [(0, .ref m), (1, .int (nI p)), (2, .int bv), (3, .int (nI x)), (4, .int 1)], [.ref m, .ref (m + 25)])) (S1 := S) rfl ?_
  refine px_P.gf rfl rfl (by assumption) (v := .int (nI y.2)) rfl ?_
  refine px_P.sn 2 (f1 := (49, [(0, .ref m), (1, .int (nI p)), (2, .int bv), (3, .int (nI x)), (4, .int 1)], [.ref m, .int 1, .int (nI y.2), .ref (m + 25)])) (S1 := S) rfl ?_
  refine px_P.gf rfl rfl (by assumption) (v := .ref (m + 10)) rfl ?_
  refine px_P.sn 1 (f1 := (53, [(0, .ref m), (1, .int (nI p)), (2, .int bv), (3, .int (nI x)), (4, .int 1)], [.int (nI x), .ref (m + 10), .int 1, .int (nI y.2), .ref (m + 25)])) (S1 := S) rfl ?_
  refine px_P.ialdj (j := x) rfl (by assumption) rfl (by omega) (by decide) ?_
  rw [a10]
  refine px_P.sn 1 (f1 := (55, [(0, .ref m), (1, .int (nI p)), (2, .int bv), (3, .int (nI x)), (4, .int 1)], [.int (1 <<< ((nI fs) &&& 31)), .int (nI y.2), .ref (m + 25)])) (S1 := S) rfl ?_
  refine px_P.iastj (j := y.2) rfl (by assumption) rfl (by omega) (by decide) (fun S1 u1 => ?_)
  have h1 := h.set u1
  have c1 := h1.1.1
  refine px_P.sn 2 (f1 := (58, [(0, .ref m), (1, .int (nI p)), (2, .int bv), (3, .int (nI x)), (4, .int 1)], [.ref m, .ref m])) (S1 := S1) rfl ?_
  refine px_P.gf rfl rfl (by assumption) (v := .int (nI y.2)) rfl ?_
  refine px_P.sn 2 (f1 := (63, [(0, .ref m), (1, .int (nI p)), (2, .int bv), (3, .int (nI x)), (4, .int 1)], [.int ((nI y.2) + 1), .ref m])) (S1 := S1) rfl ?_
  rw [nI_1]
  refine px_P.pf rfl rfl (by assumption) rfl (fun S2 u2 => ?_)
  have h2 := h1.tp (t := y.2 + 1) u2 (fun j hj => by
    by_cases e : j = y.2
    · subst e; rw [va_us, pk_us]; exact pk_us.symm
    · exact h1.2.2.2.2 j (by show j < y.2; omega))
  refine px_P.sn 1 (f1 := (365, [(0, .ref m), (1, .int (nI p)), (2, .int bv), (3, .int (nI x)), (4, .int 1)], [])) (S1 := S2) rfl ?_
  exact k S2 _ h2
theorem vl_sym {d m p x fs pl : Nat} {b : Bool} {q : Nat → Int32} {A0 A : Nat → Nat → Int32} {FL : fl_T} {y : (Nat → Int32) × Nat} {S0 S : px_S} {Q : Option Value → px_S → Prop} (hd : 1 ≤ d) (h : vS S0 S m q A0 A FL y) (hy : y.2 < 64) (hx : x < 6144) (hfs : fs < 208) (a10 : A0 10 x = nI fs) (a11 : A0 11 x = nI pl) (hFL : FL.length < 6000)
    (k : ∀ S' A', vS S0 S' m q A0 A' (FL ++ (bif b && decide (A0 14 fs = 0) then [(p, pl, 2)] else [])) (upd y.1 y.2 (if A0 14 fs = 0 then 16 else A0 13 fs), y.2 + 1) → px_P d px_m_Model_value (365, [(0, .ref m), (1, .int (nI p)), (2, .int (bif b then 1 else 0)), (3, .int (nI x)), (4, .int 2)], []) S' Q) : px_P d px_m_Model_value (33, [(0, .ref m), (1, .int (nI p)), (2, .int (bif b then 1 else 0)), (3, .int (nI x)), (4, .int 2)], []) S Q := by
  have c0 := h.1.1
  have r10 : S.1 (m + 10) = some (.inl (0, 6144, .inl (A0 10))) := h.ar 10 (by decide) (by decide) (by decide) (by decide) (by decide) (by decide)
  have r13 : S.1 (m + 13) = some (.inl (0, 208, .inl (A0 13))) := h.ar 13 (by decide) (by decide) (by decide) (by decide) (by decide) (by decide)
  have r14 : S.1 (m + 14) = some (.inl (2, 208, .inl (A0 14))) := h.ar 14 (by decide) (by decide) (by decide) (by decide) (by decide) (by decide)
  have r25 : S.1 (m + 25) = some (.inl (0, 64, .inl (A 25))) := h.1.2 25 (by decide) (by decide)
  have fin : ∀ (v : Int32), v = (if A0 14 fs = 0 then 16 else A0 13 fs) → px_P d px_m_Model_value (117, [(0, .ref m), (1, .int (nI p)), (2, .int (bif b then 1 else 0)), (3, .int (nI x)), (4, .int 2), (5, .int (A0 14 fs))], [.int v, .int (nI y.2), .ref (m + 25)]) S Q := by
    intro v hv
    rw [← hv] at k
    refine px_P.iastj (j := y.2) rfl (by assumption) rfl (by omega) (by decide) (fun S1 u1 => ?_)
    have h1 := h.set u1
    have c1 := h1.1.1
    refine px_P.sn 2 (f1 := (120, [(0, .ref m), (1, .int (nI p)), (2, .int (bif b then 1 else 0)), (3, .int (nI x)), (4, .int 2), (5, .int (A0 14 fs))], [.ref m, .ref m])) (S1 := S1) rfl ?_
    refine px_P.gf rfl rfl (by assumption) (v := .int (nI y.2)) rfl ?_
    refine px_P.sn 2 (f1 := (125, [(0, .ref m), (1, .int (nI p)), (2, .int (bif b then 1 else 0)), (3, .int (nI x)), (4, .int 2), (5, .int (A0 14 fs))], [.int ((nI y.2) + 1), .ref m])) (S1 := S1) rfl ?_
    rw [nI_1]
    refine px_P.pf rfl rfl (by assumption) rfl (fun S2 u2 => ?_)
    have h2 := h1.tp (t := y.2 + 1) u2 (fun j hj => by
      by_cases e : j = y.2
      · subst e; rw [va_us, pk_us]; exact pk_us.symm
      · exact h1.2.2.2.2 j (by show j < y.2; omega))
    have c2 := h2.1.1
    have r11 : S2.1 (m + 11) = some (.inl (0, 6144, .inl (A0 11))) := h2.ar 11 (by decide) (by decide) (by decide) (by decide) (by decide) (by decide)
    have out : (bif b && decide (A0 14 fs = 0) then [(p, pl, (2 : Int32))] else []) = [] → ∀ S3 A3, vS S0 S3 m q A0 A3 FL (upd y.1 y.2 v, y.2 + 1) → px_P d px_m_Model_value (149, [(0, .ref m), (1, .int (nI p)), (2, .int (bif b then 1 else 0)), (3, .int (nI x)), (4, .int 2), (5, .int (A0 14 fs))], []) S3 Q := by
      intro e S3 A3 h3
      refine px_P.sn 1 (f1 := (365, [(0, .ref m), (1, .int (nI p)), (2, .int (bif b then 1 else 0)), (3, .int (nI x)), (4, .int 2), (5, .int (A0 14 fs))], [])) (S1 := S3) rfl ?_
      show px_P _ _ (365, [(0, .ref m), (1, .int (nI p)), (2, .int (bif b then 1 else 0)), (3, .int (nI x)), (4, .int 2), (5, .int (A0 14 fs))], []) S3 _
      refine px_P.wk (ls := [(0, .ref m), (1, .int (nI p)), (2, .int (bif b then 1 else 0)), (3, .int (nI x)), (4, .int 2)]) rfl (.cons_cons _ (.cons_cons _ (.cons_cons _ (.cons_cons _ (.cons_cons _ (.cons _ .slnil)))))) ?_
      rw [e, List.append_nil] at k
      exact k S3 A3 h3
    refine px_P.sn 1 (f1 := (129, [(0, .ref m), (1, .int (nI p)), (2, .int (bif b then 1 else 0)), (3, .int (nI x)), (4, .int 2), (5, .int (A0 14 fs))], [.int (bif b then 1 else 0)])) (S1 := S2) rfl ?_
    cases b with
    | false =>
      show px_P _ _ (129, [(0, .ref m), (1, .int (nI p)), (2, .int 0), (3, .int (nI x)), (4, .int 2), (5, .int (A0 14 fs))], [.int 0]) S2 _
      refine px_P.if_eq rfl rfl (fun _ => ?_) (fun h => absurd ((by decide)) h)
      exact out rfl S2 _ h2
    | true =>
      show px_P _ _ (129, [(0, .ref m), (1, .int (nI p)), (2, .int 1), (3, .int (nI x)), (4, .int 2), (5, .int (A0 14 fs))], [.int 1]) S2 _
      refine px_P.if_eq rfl rfl (fun h => absurd h ((by decide))) (fun _ => ?_)
      refine px_P.sn 1 (f1 := (134, [(0, .ref m), (1, .int (nI p)), (2, .int 1), (3, .int (nI x)), (4, .int 2), (5, .int (A0 14 fs))], [.int (A0 14 fs)])) (S1 := S2) rfl ?_
      refine px_P.if_ne rfl rfl (fun z => ?_) (fun z => ?_)
      · exact out (by rw [decide_eq_false z]; rfl) S2 _ h2
      · rw [decide_eq_true z] at k
        refine px_P.sn 3 (f1 := (140, [(0, .ref m), (1, .int (nI p)), (2, .int 1), (3, .int (nI x)), (4, .int 2), (5, .int (A0 14 fs))], [.ref m, .int (nI p), .ref m])) (S1 := S2) rfl ?_
        refine px_P.gf rfl rfl (by assumption) (v := .ref (m + 11)) rfl ?_
        refine px_P.sn 1 (f1 := (144, [(0, .ref m), (1, .int (nI p)), (2, .int 1), (3, .int (nI x)), (4, .int 2), (5, .int (A0 14 fs))], [.int (nI x), .ref (m + 11), .int (nI p), .ref m])) (S1 := S2) rfl ?_
        refine px_P.ialdj (j := x) rfl (by assumption) rfl (by omega) (by decide) ?_
        rw [a11]
        refine px_P.sn 1 (f1 := (146, [(0, .ref m), (1, .int (nI p)), (2, .int 1), (3, .int (nI x)), (4, .int 2), (5, .int (A0 14 fs))], [.int 2, .int (nI pl), .int (nI p), .ref m])) (S1 := S2) rfl ?_
        refine px_P.cv rfl rfl rfl (by assumption) rfl ?_
        show px_M _ px_m_Model_note [.ref m, .int (nI p), .int (nI pl), .int 2] S2 _
        refine pm_vsNote hd h2 hFL (fun S3 A3 h3 => ?_)
        show px_P _ _ (149, [(0, .ref m), (1, .int (nI p)), (2, .int 1), (3, .int (nI x)), (4, .int 2), (5, .int (A0 14 fs))], []) S3 _
        refine px_P.sn 1 (f1 := (365, [(0, .ref m), (1, .int (nI p)), (2, .int 1), (3, .int (nI x)), (4, .int 2), (5, .int (A0 14 fs))], [])) (S1 := S3) rfl ?_
        show px_P _ _ (365, [(0, .ref m), (1, .int (nI p)), (2, .int 1), (3, .int (nI x)), (4, .int 2), (5, .int (A0 14 fs))], []) S3 _
        refine px_P.wk (ls := [(0, .ref m), (1, .int (nI p)), (2, .int 1), (3, .int (nI x)), (4, .int 2)]) rfl (.cons_cons _ (.cons_cons _ (.cons_cons _ (.cons_cons _ (.cons_cons _ (.cons _ .slnil)))))) ?_
        exact k S3 A3 h3
  refine px_P.sn 2 (f1 := (36, [(0, .ref m), (1, .int (nI p)), (2, .int (bif b then 1 else 0)), (3, .int (nI x)), (4, .int 2)], [.int 1, .int 2])) (S1 := S) rfl ?_
  refine px_P.ic_ne rfl rfl (fun _ => ?_) (fun h => absurd h ((by decide)))
  refine px_P.sn 2 (f1 := (72, [(0, .ref m), (1, .int (nI p)), (2, .int (bif b then 1 else 0)), (3, .int (nI x)), (4, .int 2)], [.int 2, .int 2])) (S1 := S) rfl ?_
  refine px_P.ic_ne rfl rfl (fun h => absurd ((by decide)) h) (fun _ => ?_)
  refine px_P.sn 1 (f1 := (76, [(0, .ref m), (1, .int (nI p)), (2, .int (bif b then 1 else 0)), (3, .int (nI x)), (4, .int 2)], [.ref m])) (S1 := S) rfl ?_
  refine px_P.gf rfl rfl (by assumption) (v := .ref (m + 14)) rfl ?_
  refine px_P.sn 1 (f1 := (80, [(0, .ref m), (1, .int (nI p)), (2, .int (bif b then 1 else 0)), (3, .int (nI x)), (4, .int 2)], [.ref m, .ref (m + 14)])) (S1 := S) rfl ?_
  refine px_P.gf rfl rfl (by assumption) (v := .ref (m + 10)) rfl ?_
  refine px_P.sn 1 (f1 := (84, [(0, .ref m), (1, .int (nI p)), (2, .int (bif b then 1 else 0)), (3, .int (nI x)), (4, .int 2)], [.int (nI x), .ref (m + 10), .ref (m + 14)])) (S1 := S) rfl ?_
  refine px_P.ialdj (j := x) rfl (by assumption) rfl (by omega) (by decide) ?_
  rw [a10]
  refine px_P.zaldj (j := fs) rfl (by assumption) rfl (by omega) (by decide) ?_
  refine px_P.sn 2 (f1 := (89, [(0, .ref m), (1, .int (nI p)), (2, .int (bif b then 1 else 0)), (3, .int (nI x)), (4, .int 2), (5, .int (A0 14 fs))], [.ref m])) (S1 := S) rfl ?_
  refine px_P.gf rfl rfl (by assumption) (v := .ref (m + 25)) rfl ?_
  refine px_P.sn 1 (f1 := (93, [(0, .ref m), (1, .int (nI p)), (2, .int (bif b then 1 else 0)), (3, .int (nI x)), (4, .int 2), (5, .int (A0 14 fs))], [.ref m, .ref (m + 25)])) (S1 := S) rfl ?_
  refine px_P.gf rfl rfl (by assumption) (v := .int (nI y.2)) rfl ?_
  refine px_P.sn 1 (f1 := (98, [(0, .ref m), (1, .int (nI p)), (2, .int (bif b then 1 else 0)), (3, .int (nI x)), (4, .int 2), (5, .int (A0 14 fs))], [.int (A0 14 fs), .int (nI y.2), .ref (m + 25)])) (S1 := S) rfl ?_
  refine px_P.if_eq rfl rfl (fun z => ?_) (fun z => ?_)
  · refine px_P.sn 1 (f1 := (117, [(0, .ref m), (1, .int (nI p)), (2, .int (bif b then 1 else 0)), (3, .int (nI x)), (4, .int 2), (5, .int (A0 14 fs))], [.int 16, .int (nI y.2), .ref (m + 25)])) (S1 := S) rfl ?_
    exact fin 16 (by rw [if_pos z])
  · refine px_P.sn 1 (f1 := (102, [(0, .ref m), (1, .int (nI p)), (2, .int (bif b then 1 else 0)), (3, .int (nI x)), (4, .int 2), (5, .int (A0 14 fs))], [.ref m, .int (nI y.2), .ref (m + 25)])) (S1 := S) rfl ?_
    refine px_P.gf rfl rfl (by assumption) (v := .ref (m + 13)) rfl ?_
    refine px_P.sn 1 (f1 := (106, [(0, .ref m), (1, .int (nI p)), (2, .int (bif b then 1 else 0)), (3, .int (nI x)), (4, .int 2), (5, .int (A0 14 fs))], [.ref m, .ref (m + 13), .int (nI y.2), .ref (m + 25)])) (S1 := S) rfl ?_
    refine px_P.gf rfl rfl (by assumption) (v := .ref (m + 10)) rfl ?_
    refine px_P.sn 1 (f1 := (110, [(0, .ref m), (1, .int (nI p)), (2, .int (bif b then 1 else 0)), (3, .int (nI x)), (4, .int 2), (5, .int (A0 14 fs))], [.int (nI x), .ref (m + 10), .ref (m + 13), .int (nI y.2), .ref (m + 25)])) (S1 := S) rfl ?_
    refine px_P.ialdj (j := x) rfl (by assumption) rfl (by omega) (by decide) ?_
    rw [a10]
    refine px_P.ialdj (j := fs) rfl (by assumption) rfl (by omega) (by decide) ?_
    refine px_P.sn 1 (f1 := (117, [(0, .ref m), (1, .int (nI p)), (2, .int (bif b then 1 else 0)), (3, .int (nI x)), (4, .int 2), (5, .int (A0 14 fs))], [.int (A0 13 fs), .int (nI y.2), .ref (m + 25)])) (S1 := S) rfl ?_
    exact fin _ (by rw [if_neg z])
/-- kinds 2 to 5 -/
theorem vl_un {d m p x kd fs l pl : Nat} {T : Nat → Int32} {b : Bool} {q : Nat → Int32} {A0 A : Nat → Nat → Int32} {FL : fl_T} {y : (Nat → Int32) × Nat} {S0 S : px_S} {Q : Option Value → px_S → Prop} (hd : 2 ≤ d) (h : vS S0 S m q A0 A FL y) (hy1 : 1 ≤ y.2) (hy : y.2 < 64) (hx : x < 6144) (h2 : 2 ≤ kd) (h6 : kd < 6) (hl : kd = 5 → l < 5) (hb : le32 (y.1 (y.2 - 1)) lF) (a10 : A0 10 x = nI (wth (kd, fs, l, pl))) (a11 : kd ≠ 2 → A0 11 x = nI pl) (hFL : FL.length < 6000)
    (k : ∀ S' A', vS S0 S' m q A0 A' (FL ++ (bif b && (decide (kd = 3) && fm_unL (y.1 (y.2 - 1))) then [(p, pl, 3)] else [])) (upd y.1 (y.2 - 1) (xe_v (fun _ => y.1 (y.2 - 1)) T (kd, fs, l, pl)), y.2) → px_P d px_m_Model_value (365, [(0, .ref m), (1, .int (nI p)), (2, .int (bif b then 1 else 0)), (3, .int (nI x)), (4, .int (nI (kd + 1)))], []) S' Q) : px_P d px_m_Model_value (33, [(0, .ref m), (1, .int (nI p)), (2, .int (bif b then 1 else 0)), (3, .int (nI x)), (4, .int (nI (kd + 1)))], []) S Q := by
  obtain ⟨t, ht⟩ : ∃ t, y.2 = t + 1 := ⟨y.2 - 1, by omega⟩
  rw [ht] at k hb
  simp only [Nat.add_sub_cancel] at k hb
  have e25 : A 25 t = y.1 t := h.2.2.2.2 t (by omega)
  have fin : ∀ (S1 : px_S) (A1 : Nat → Nat → Int32), vS S0 S1 m q A0 A1 (FL ++ (bif b && (decide (kd = 3) && fm_unL (y.1 t)) then [(p, pl, 3)] else [])) y → px_P d px_m_Model_value (332, [(0, .ref m), (1, .int (nI p)), (2, .int (bif b then 1 else 0)), (3, .int (nI x)), (4, .int (nI (kd + 1)))], []) S1 Q := by
    intro S1 A1 h1
    generalize (FL ++ (bif b && (decide (kd = 3) && fm_unL (y.1 t)) then [(p, pl, (3 : Int32))] else [])) = FL1 at h1 k
    have c1 : S1.1 m = some (.inr (10, mo_ob m (mq2 q (nI FL1.length) (nI (t + 1))))) := by rw [← ht]; exact h1.1.1
    have r10 : S1.1 (m + 10) = some (.inl (0, 6144, .inl (A0 10))) := h1.ar 10 (by decide) (by decide) (by decide) (by decide) (by decide) (by decide)
    have r25 : S1.1 (m + 25) = some (.inl (0, 64, .inl (A1 25))) := h1.1.2 25 (by decide) (by decide)
    have e25 : A1 25 t = y.1 t := h1.2.2.2.2 t (by omega)
    refine px_P.sn 1 (f1 := (333, [(0, .ref m), (1, .int (nI p)), (2, .int (bif b then 1 else 0)), (3, .int (nI x)), (4, .int (nI (kd + 1)))], [.ref m])) (S1 := S1) rfl ?_
    refine px_P.gf rfl rfl (by assumption) (v := .ref (m + 25)) rfl ?_
    refine px_P.sn 1 (f1 := (337, [(0, .ref m), (1, .int (nI p)), (2, .int (bif b then 1 else 0)), (3, .int (nI x)), (4, .int (nI (kd + 1)))], [.ref m, .ref (m + 25)])) (S1 := S1) rfl ?_
    refine px_P.gf rfl rfl (by assumption) (v := .int (nI (t + 1))) rfl ?_
    refine px_P.sn 3 (f1 := (343, [(0, .ref m), (1, .int (nI p)), (2, .int (bif b then 1 else 0)), (3, .int (nI x)), (4, .int (nI (kd + 1)))], [.ref m, .int ((nI (t + 1)) - 1), .ref (m + 25)])) (S1 := S1) rfl ?_
    refine px_P.gf rfl rfl (by assumption) (v := .ref (m + 25)) rfl ?_
    refine px_P.sn 1 (f1 := (347, [(0, .ref m), (1, .int (nI p)), (2, .int (bif b then 1 else 0)), (3, .int (nI x)), (4, .int (nI (kd + 1)))], [.ref m, .ref (m + 25), .int ((nI (t + 1)) - 1), .ref (m + 25)])) (S1 := S1) rfl ?_
    refine px_P.gf rfl rfl (by assumption) (v := .int (nI (t + 1))) rfl ?_
    refine px_P.sn 2 (f1 := (352, [(0, .ref m), (1, .int (nI p)), (2, .int (bif b then 1 else 0)), (3, .int (nI x)), (4, .int (nI (kd + 1)))], [.int ((nI (t + 1)) - 1), .ref (m + 25), .int ((nI (t + 1)) - 1), .ref (m + 25)])) (S1 := S1) rfl ?_
    rw [nI_pred]
    show px_P _ _ (352, [(0, .ref m), (1, .int (nI p)), (2, .int (bif b then 1 else 0)), (3, .int (nI x)), (4, .int (nI (kd + 1)))], [.int (nI t), .ref (m + 25), .int (nI t), .ref (m + 25)]) S1 _
    refine px_P.ialdj (j := t) rfl (by assumption) rfl (by omega) (by decide) ?_
    rw [e25]
    refine px_P.sn 2 (f1 := (356, [(0, .ref m), (1, .int (nI p)), (2, .int (bif b then 1 else 0)), (3, .int (nI x)), (4, .int (nI (kd + 1)))], [.ref m, .int (nI (kd + 1)), .int (y.1 t), .int (nI t), .ref (m + 25)])) (S1 := S1) rfl ?_
    refine px_P.gf rfl rfl (by assumption) (v := .ref (m + 10)) rfl ?_
    refine px_P.sn 1 (f1 := (360, [(0, .ref m), (1, .int (nI p)), (2, .int (bif b then 1 else 0)), (3, .int (nI x)), (4, .int (nI (kd + 1)))], [.int (nI x), .ref (m + 10), .int (nI (kd + 1)), .int (y.1 t), .int (nI t), .ref (m + 25)])) (S1 := S1) rfl ?_
    refine px_P.ialdj (j := x) rfl (by assumption) rfl (by omega) (by decide) ?_
    rw [a10]
    refine px_P.call rfl ?_
    show px_M _ px_m_Model_changed [.int (y.1 t), .int (nI (kd + 1)), .int (nI (wth (kd, fs, l, pl)))] S1 _
    refine pm_moChanged (T := T) hd hb h2 h6 hl fs pl ?_
    show px_P _ _ (364, [(0, .ref m), (1, .int (nI p)), (2, .int (bif b then 1 else 0)), (3, .int (nI x)), (4, .int (nI (kd + 1)))], [.int (xe_v (fun _ => y.1 t) T (kd, fs, l, pl)), .int (nI t), .ref (m + 25)]) S1 _
    refine px_P.iastj (j := t) rfl (by assumption) rfl (by omega) (by decide) (fun S2 u2 => ?_)
    have h2 := h1.set u2
    rw [ht] at h2
    exact k S2 _ h2
  have c0 : S.1 m = some (.inr (10, mo_ob m (mq2 q (nI FL.length) (nI (t + 1))))) := by rw [← ht]; exact h.1.1
  have r11 : S.1 (m + 11) = some (.inl (0, 6144, .inl (A0 11))) := h.ar 11 (by decide) (by decide) (by decide) (by decide) (by decide) (by decide)
  have r25 : S.1 (m + 25) = some (.inl (0, 64, .inl (A 25))) := h.1.2 25 (by decide) (by decide)
  have nok : (bif b && (decide (kd = 3) && fm_unL (y.1 t)) then [(p, pl, (3 : Int32))] else []) = [] → px_P d px_m_Model_value (332, [(0, .ref m), (1, .int (nI p)), (2, .int (bif b then 1 else 0)), (3, .int (nI x)), (4, .int (nI (kd + 1)))], []) S Q := by
    intro e
    refine fin S A ?_
    rw [e, List.append_nil]
    exact h
  refine px_P.sn 2 (f1 := (36, [(0, .ref m), (1, .int (nI p)), (2, .int (bif b then 1 else 0)), (3, .int (nI x)), (4, .int (nI (kd + 1)))], [.int 1, .int (nI (kd + 1))])) (S1 := S) rfl ?_
  refine px_P.ic_ne rfl rfl (fun _ => ?_) (fun h => absurd h ((fun z => absurd ((nI_eq (b := 1) (by omega) (by decide)).mp z) (by omega))))
  refine px_P.sn 2 (f1 := (72, [(0, .ref m), (1, .int (nI p)), (2, .int (bif b then 1 else 0)), (3, .int (nI x)), (4, .int (nI (kd + 1)))], [.int 2, .int (nI (kd + 1))])) (S1 := S) rfl ?_
  refine px_P.ic_ne rfl rfl (fun _ => ?_) (fun h => absurd h ((fun z => absurd ((nI_eq (b := 2) (by omega) (by decide)).mp z) (by omega))))
  refine px_P.sn 2 (f1 := (156, [(0, .ref m), (1, .int (nI p)), (2, .int (bif b then 1 else 0)), (3, .int (nI x)), (4, .int (nI (kd + 1)))], [.int 7, .int (nI (kd + 1))])) (S1 := S) rfl ?_
  refine px_P.ic_eq rfl rfl (fun h => absurd h ((fun z => absurd ((nI_eq (b := 7) (by omega) (by decide)).mp z) (by omega)))) (fun _ => ?_)
  refine px_P.sn 2 (f1 := (163, [(0, .ref m), (1, .int (nI p)), (2, .int (bif b then 1 else 0)), (3, .int (nI x)), (4, .int (nI (kd + 1)))], [.int 8, .int (nI (kd + 1))])) (S1 := S) rfl ?_
  refine px_P.ic_ne rfl rfl (fun _ => ?_) (fun h => absurd h ((fun z => absurd ((nI_eq (b := 8) (by omega) (by decide)).mp z) (by omega))))
  refine px_P.sn 1 (f1 := (294, [(0, .ref m), (1, .int (nI p)), (2, .int (bif b then 1 else 0)), (3, .int (nI x)), (4, .int (nI (kd + 1)))], [.int (bif b then 1 else 0)])) (S1 := S) rfl ?_
  cases b with
  | false =>
    show px_P _ _ (294, [(0, .ref m), (1, .int (nI p)), (2, .int 0), (3, .int (nI x)), (4, .int (nI (kd + 1)))], [.int 0]) S _
    refine px_P.if_eq rfl rfl (fun _ => ?_) (fun h => absurd ((by decide)) h)
    exact nok rfl
  | true =>
    show px_P _ _ (294, [(0, .ref m), (1, .int (nI p)), (2, .int 1), (3, .int (nI x)), (4, .int (nI (kd + 1)))], [.int 1]) S _
    refine px_P.if_eq rfl rfl (fun h => absurd h ((by decide))) (fun _ => ?_)
    refine px_P.sn 2 (f1 := (300, [(0, .ref m), (1, .int (nI p)), (2, .int 1), (3, .int (nI x)), (4, .int (nI (kd + 1)))], [.int 4, .int (nI (kd + 1))])) (S1 := S) rfl ?_
    refine px_P.ic_ne rfl rfl (fun z => ?_) (fun z => ?_)
    · exact nok (by rw [decide_eq_false (fun w => z (by rw [w]; rfl))]; rfl)
    · have hkd : kd = 3 := by have := (nI_eq (b := 4) (by omega) (by decide)).mp z; omega
      refine px_P.sn 1 (f1 := (304, [(0, .ref m), (1, .int (nI p)), (2, .int 1), (3, .int (nI x)), (4, .int (nI (kd + 1)))], [.ref m])) (S1 := S) rfl ?_
      refine px_P.gf rfl rfl (by assumption) (v := .ref (m + 25)) rfl ?_
      refine px_P.sn 1 (f1 := (308, [(0, .ref m), (1, .int (nI p)), (2, .int 1), (3, .int (nI x)), (4, .int (nI (kd + 1)))], [.ref m, .ref (m + 25)])) (S1 := S) rfl ?_
      refine px_P.gf rfl rfl (by assumption) (v := .int (nI (t + 1))) rfl ?_
      refine px_P.sn 2 (f1 := (313, [(0, .ref m), (1, .int (nI p)), (2, .int 1), (3, .int (nI x)), (4, .int (nI (kd + 1)))], [.int ((nI (t + 1)) - 1), .ref (m + 25)])) (S1 := S) rfl ?_
      rw [nI_pred]
      show px_P _ _ (313, [(0, .ref m), (1, .int (nI p)), (2, .int 1), (3, .int (nI x)), (4, .int (nI (kd + 1)))], [.int (nI t), .ref (m + 25)]) S _
      refine px_P.ialdj (j := t) rfl (by assumption) rfl (by omega) (by decide) ?_
      rw [e25]
      refine px_P.call rfl ?_
      show px_M _ px_m_Model_isFirst [.int (y.1 t)] S _
      refine pm_moIsFirst (by omega) ?_
      cases hu : fm_unL (y.1 t) with
      | false =>
        show px_P _ _ (317, [(0, .ref m), (1, .int (nI p)), (2, .int 1), (3, .int (nI x)), (4, .int (nI (kd + 1)))], [.int 0]) S _
        refine px_P.if_eq rfl rfl (fun _ => ?_) (fun h => absurd ((by decide)) h)
        exact nok (by rw [hu, Bool.and_false]; rfl)
      | true =>
        show px_P _ _ (317, [(0, .ref m), (1, .int (nI p)), (2, .int 1), (3, .int (nI x)), (4, .int (nI (kd + 1)))], [.int 1]) S _
        refine px_P.if_eq rfl rfl (fun h => absurd h ((by decide))) (fun _ => ?_)
        refine px_P.sn 3 (f1 := (323, [(0, .ref m), (1, .int (nI p)), (2, .int 1), (3, .int (nI x)), (4, .int (nI (kd + 1)))], [.ref m, .int (nI p), .ref m])) (S1 := S) rfl ?_
        refine px_P.gf rfl rfl (by assumption) (v := .ref (m + 11)) rfl ?_
        refine px_P.sn 1 (f1 := (327, [(0, .ref m), (1, .int (nI p)), (2, .int 1), (3, .int (nI x)), (4, .int (nI (kd + 1)))], [.int (nI x), .ref (m + 11), .int (nI p), .ref m])) (S1 := S) rfl ?_
        refine px_P.ialdj (j := x) rfl (by assumption) rfl (by omega) (by decide) ?_
        rw [a11 (by omega)]
        refine px_P.sn 1 (f1 := (329, [(0, .ref m), (1, .int (nI p)), (2, .int 1), (3, .int (nI x)), (4, .int (nI (kd + 1)))], [.int 3, .int (nI pl), .int (nI p), .ref m])) (S1 := S) rfl ?_
        refine px_P.cv rfl rfl rfl (by assumption) rfl ?_
        show px_M _ px_m_Model_note [.ref m, .int (nI p), .int (nI pl), .int 3] S _
        refine pm_vsNote (by omega) h hFL (fun S3 A3 h3 => ?_)
        show px_P _ _ (332, [(0, .ref m), (1, .int (nI p)), (2, .int 1), (3, .int (nI x)), (4, .int (nI (kd + 1)))], []) S3 _
        refine fin S3 A3 ?_
        rw [hu, decide_eq_true hkd]
        exact h3
