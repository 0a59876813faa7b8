/-! ===== Expression: workOut, faults ===== -/
def xe_st (st : xe_T) (n : Nat) (K F C P : Nat → Int32) : Prop := ∀ j, j < n → K j = nI (st j).1 ∧ F j = nI (st j).2.1 ∧ C j = nI (st j).2.2.1 ∧ P j = nI (st j).2.2.2 ∧ xe_ok1 (st j) j
def xe_ev (st : xe_T) (T : Nat → Int32) : Nat → Nat → Int32
  | 0 => fun _ => 0
  | n + 1 => upd (xe_ev st T n) n (xe_v (xe_ev st T n) T (st n))
theorem xe_v_congr {V V' T : Nat → Int32} {q : Nat × Nat × Nat × Nat} {k : Nat} (hq : xe_ok1 q k) (h : ∀ j, j < k → V j = V' j) : xe_v V T q = xe_v V' T q := by
  obtain ⟨kd, fs, sc, pl⟩ := q
  obtain ⟨o1, o2, o3, o4, o5, o6⟩ := hq
  dsimp only at o1 o2 o3 o4 o5 o6
  unfold xe_v
  dsimp only
  by_cases h0 : kd = 0
  · rw [if_pos h0, if_pos h0]
  rw [if_neg h0, if_neg h0]
  by_cases h1 : kd = 1
  · rw [if_pos h1, if_pos h1]
  rw [if_neg h1, if_neg h1]
  have e1 := h fs (o4 (by omega))
  by_cases h6 : 6 ≤ kd
  · have e2 := h sc (o6 h6)
    rw [e1, e2]
  · rw [e1]
    repeat' split
    all_goals first | rfl | omega
theorem xe_ev_at {st : xe_T} {T : Nat → Int32} : ∀ {n j : Nat}, j < n → xe_ev st T n j = xe_ev st T (j + 1) j
  | 0, _, h => absurd h (by omega)
  | n + 1, j, h => by
    by_cases e : j = n
    · subst e; rfl
    · show upd (xe_ev st T n) n _ j = _
      rw [pk_un e, xe_ev_at (by omega)]
theorem xe_ev_step {st : xe_T} {T : Nat → Int32} {n j : Nat} (hj : j < n) (hok : xe_ok1 (st j) j) : xe_ev st T n j = xe_v (xe_ev st T n) T (st j) := by
  rw [xe_ev_at hj]
  show upd (xe_ev st T j) j _ j = _
  rw [pk_us]
  exact xe_v_congr hok (fun i hi => by rw [xe_ev_at hi, xe_ev_at (n := n) (by omega)])
set_option maxHeartbeats 2000000 in
theorem pm_exprWork {d e M n y tT tD : Nat} {W : Nat → Int64} {K F C P V T : Nat → Int32} {st : xe_T} {S : px_S} {Q : Option Value → px_S → Prop} (hd : 4 ≤ d) (hM : M ≤ 1000) (hnM : n ≤ M) (he : xe_at S e M n W K F C P V) (hst : xe_st st n K F C P)
    (hy : S.1 y = some (.inr (7, [.ref tT, .ref tD]))) (hT : S.1 tT = some (.inl (0, 208, .inl T))) (hyv : y ≠ e + 7) (htv : tT ≠ e + 7)
    (k : ∀ S' V', xe_at S' e M n W K F C P V' → (∀ j, j < n → V' j = xe_ev st T n j) → (∀ b, b ≠ e + 7 → S'.1 b = S.1 b) → S'.2 = S.2 → Q (some (.int (if n = 0 then 0 else xe_ev st T n (n - 1)))) S') :
    px_M d px_m_Expression_workOut [.ref e, .ref y] S Q := by
  have fin : ∀ (S1 : px_S) (V1 : Nat → Int32), xe_at S1 e M n W K F C P V1 → (∀ j, j < n → V1 j = xe_ev st T n j) → (∀ b, b ≠ e + 7 → S1.1 b = S.1 b) → S1.2 = S.2 → ∀ i : Nat, px_P (d - 1) px_m_Expression_workOut (37, [(0, .ref e), (1, .ref y), (2, .int (nI i))], []) S1 Q := by
    intro S1 V1 h1 h2 h3 h4 i
    have h1' := h1
    obtain ⟨q0, q1, q2, q3, q4, q5, q6, q7⟩ := h1
    have kk := k S1 V1 h1' h2 h3 h4
    refine px_P.sn 2 (f1 := (39, [(0, .ref e), (1, .ref y), (2, .int (nI i))], [.ref e, .ref e])) (S1 := S1) rfl ?_
    refine px_P.gf rfl rfl (by assumption) (v := .int (nI n)) rfl ?_
    refine px_P.sn 2 (f1 := (44, [(0, .ref e), (1, .ref y), (2, .int (nI i))], [.int ((nI n) - 1), .ref e])) (S1 := S1) rfl ?_
    by_cases hn : n = 0
    · subst hn
      refine px_P.cv rfl rfl rfl (by assumption) rfl ?_
      show px_M _ px_m_Expression_valueAt [.ref e, .int ((nI 0) - 1)] S1 _
      refine pm_valueAtN (by omega) ?_
      show px_P _ _ (47, [(0, .ref e), (1, .ref y), (2, .int (nI i))], [.int 0]) S1 _
      refine px_P.ret rfl ?_
      exact kk
    · obtain ⟨n', rfl⟩ : ∃ n', n = n' + 1 := ⟨n - 1, by omega⟩
      rw [nI_pred n']
      refine px_P.cv rfl rfl rfl (by assumption) rfl ?_
      show px_M _ px_m_Expression_valueAt [.ref e, .int (nI n')] S1 _
      refine pm_valueAt (by omega) hM (by omega) h1' ?_
      show px_P _ _ (47, [(0, .ref e), (1, .ref y), (2, .int (nI i))], [.int (V1 n')]) S1 _
      refine px_P.ret rfl ?_
      rw [if_neg hn] at kk
      rw [h2 n' (by omega)]
      exact kk
  have lp : ∀ (m i : Nat), i + m = n → ∀ (S1 : px_S) (V1 : Nat → Int32), xe_at S1 e M n W K F C P V1 → (∀ j, j < i → V1 j = xe_ev st T i j) → (∀ b, b ≠ e + 7 → S1.1 b = S.1 b) → S1.2 = S.2 → px_P (d - 1) px_m_Expression_workOut (2, [(0, .ref e), (1, .ref y), (2, .int (nI i))], []) S1 Q := by
    intro m
    induction m with
    | zero =>
      intro i hi S1 V1 h1 h2 h3 h4
      have h1' := h1
      obtain ⟨q0, q1, q2, q3, q4, q5, q6, q7⟩ := h1
      refine px_P.sn 2 (f1 := (4, [(0, .ref e), (1, .ref y), (2, .int (nI i))], [.ref e, .int (nI i)])) (S1 := S1) rfl ?_
      refine px_P.gf rfl rfl (by assumption) (v := .int (nI n)) rfl ?_
      refine px_P.ic_ge rfl rfl (fun _ => ?_) (fun h => absurd (nI_le (by omega) (by omega)) h)
      exact fin S1 V1 h1' (by rw [show n = i by omega]; exact h2) h3 h4 i
    | succ m ih =>
      intro i hi S1 V1 h1 h2 h3 h4
      have h1' := h1
      obtain ⟨q0, q1, q2, q3, q4, q5, q6, q7⟩ := h1
      obtain ⟨s1, s2, s3, s4, s5⟩ := hst i (by omega)
      refine px_P.sn 2 (f1 := (4, [(0, .ref e), (1, .ref y), (2, .int (nI i))], [.ref e, .int (nI i)])) (S1 := S1) rfl ?_
      refine px_P.gf rfl rfl (by assumption) (v := .int (nI n)) rfl ?_
      refine px_P.ic_ge rfl rfl (fun h => absurd h (nI_ge (by omega) (by omega))) (fun _ => ?_)
      refine px_P.sn 2 (f1 := (12, [(0, .ref e), (1, .ref y), (2, .int (nI i))], [.ref e, .int (nI i)])) (S1 := S1) rfl ?_
      refine px_P.gf rfl rfl (by assumption) (v := .ref (e + 7)) rfl ?_
      refine px_P.alen rfl (by assumption) rfl ?_
      refine px_P.ic_ge rfl rfl (fun h => absurd h (nI_ge (by omega) (by omega))) (fun _ => ?_)
      refine px_P.sn 1 (f1 := (20, [(0, .ref e), (1, .ref y), (2, .int (nI i))], [.ref e])) (S1 := S1) rfl ?_
      refine px_P.gf rfl rfl (by assumption) (v := .ref (e + 7)) rfl ?_
      refine px_P.sn 4 (f1 := (27, [(0, .ref e), (1, .ref y), (2, .int (nI i))], [.ref y, .int (nI i), .ref e, .int (nI i), .ref (e + 7)])) (S1 := S1) rfl ?_
      refine px_P.cv rfl rfl rfl (by assumption) rfl ?_
      show px_M _ px_m_Expression_valueOf [.ref e, .int (nI i), .ref y] S1 _
      refine pm_valueOf (q := st i) (by omega) hM (by omega) h1' s1 s2 s3 s5 ((h3 y hyv).trans hy) ((h3 tT htv).trans hT) ?_
      show px_P _ _ (30, [(0, .ref e), (1, .ref y), (2, .int (nI i))], [.int (xe_v V1 T (st i)), .int (nI i), .ref (e + 7)]) S1 _
      refine px_P.iastj (j := i) rfl (by assumption) rfl (by omega) (by omega) (fun S2 u2 => ?_)
      refine px_P.sn 2 (f1 := (2, [(0, .ref e), (1, .ref y), (2, .int ((nI i) + 1))], [])) (S1 := S2) rfl ?_
      rw [nI_1]
      refine ih (i + 1) (by omega) S2 _ ⟨u2.n q0 (by omega), u2.n q1 (by omega), u2.n q2 (by omega), u2.n q3 (by omega), u2.n q4 (by omega), u2.n q5 (by omega), u2.n q6 (by omega), u2.s⟩ (fun j hj => ?_) (fun b hb => by rw [u2.o hb]; exact h3 b hb) (by rw [u2.t, h4])
      by_cases ej : j = i
      · subst ej
        rw [pk_us]
        show _ = upd (xe_ev st T j) j _ j
        rw [pk_us]
        exact xe_v_congr s5 h2
      · rw [pk_un ej, h2 j (by omega)]
        show _ = upd (xe_ev st T i) i _ j
        rw [pk_un ej]
  refine px_M.go (by omega) (Nat.le_of_ble_eq_true rfl) ?_
  refine px_P.sn 2 (f1 := (2, [(0, .ref e), (1, .ref y), (2, .int 0)], [])) (S1 := S) rfl ?_
  exact lp n 0 (by omega) S V he (fun j hj => absurd hj (by omega)) (fun _ _ => rfl) rfl
/-- which fault a step has -/
def xe_f (V D : Nat → Int32) (q : Nat × Nat × Nat × Nat) : Int32 :=
  if q.1 = 1 then (if D q.2.1 = 0 then 2 else -1) else if q.1 = 3 then (bif fm_unL (V q.2.1) then 3 else -1) else if q.1 = 7 then (bif fm_sumL (V q.2.1) (V q.2.2.1) then 4 else -1) else -1
set_option maxHeartbeats 2000000 in
theorem pm_faultOf {d e M n j y tT tD : Nat} {W : Nat → Int64} {K F C P V D : Nat → Int32} {q : Nat × Nat × Nat × Nat} {S : px_S} {Q : Option Value → px_S → Prop} (hd : 3 ≤ d) (hM : M ≤ 1000) (hj : j < M) (he : xe_at S e M n W K F C P V)
    (hK : K j = nI q.1) (hF : F j = nI q.2.1) (hC : C j = nI q.2.2.1) (hq : xe_ok1 q j) (hy : S.1 y = some (.inr (7, [.ref tT, .ref tD]))) (hD : S.1 tD = some (.inl (0, 208, .inl D)))
    (k : Q (some (.int (xe_f V D q))) S) : px_M d px_m_Expression_faultOf [.ref e, .int (nI j), .ref y] S Q := by
  have he' := he
  obtain ⟨h0, h1, h2, h3, h4, h5, h6, h7⟩ := he
  obtain ⟨kd, fs, sc, pl⟩ := q
  obtain ⟨o1, o2, o3, o4, o5, o6⟩ := hq
  dsimp only at hK hF hC o1 o2 o3 o4 o5 o6 k
  refine px_M.go (by omega) (Nat.le_of_ble_eq_true rfl) ?_
  refine px_P.sn 1 (f1 := (1, [(0, .ref e), (1, .int (nI j)), (2, .ref y)], [.ref e])) (S1 := S) rfl ?_
  refine px_P.gf rfl rfl (by assumption) (v := .ref (e + 3)) rfl ?_
  refine px_P.sn 1 (f1 := (5, [(0, .ref e), (1, .int (nI j)), (2, .ref y)], [.int (nI j), .ref (e + 3)])) (S1 := S) rfl ?_
  refine px_P.ialdj (j := j) rfl (by assumption) rfl (by omega) (by omega) ?_
  rw [hK]
  show px_P _ _ (6, [(0, .ref e), (1, .int (nI j)), (2, .ref y)], [.int ((nI kd))]) S _
  rcases (show kd = 0 ∨ kd = 1 ∨ kd = 2 ∨ kd = 3 ∨ kd = 4 ∨ kd = 5 ∨ kd = 6 ∨ kd = 7 by omega) with rfl | rfl | rfl | rfl | rfl | rfl | rfl | rfl
  · refine px_P.sn 1 (f1 := (113, [(0, .ref e), (1, .int (nI j)), (2, .ref y)], [])) (S1 := S) rfl ?_
    refine px_P.sn 1 (f1 := (114, [(0, .ref e), (1, .int (nI j)), (2, .ref y)], [.int (-1)])) (S1 := S) rfl ?_
    refine px_P.ret rfl ?_
    exact k
  · refine px_P.sn 1 (f1 := (40, [(0, .ref e), (1, .int (nI j)), (2, .ref y)], [])) (S1 := S) rfl ?_
    refine px_P.sn 2 (f1 := (42, [(0, .ref e), (1, .int (nI j)), (2, .ref y)], [.ref e, .ref y])) (S1 := S) rfl ?_
    refine px_P.gf rfl rfl (by assumption) (v := .ref (e + 4)) rfl ?_
    refine px_P.sn 1 (f1 := (46, [(0, .ref e), (1, .int (nI j)), (2, .ref y)], [.int (nI j), .ref (e + 4), .ref y])) (S1 := S) rfl ?_
    refine px_P.ialdj (j := j) rfl (by assumption) rfl (by omega) (by omega) ?_
    rw [hF]
    refine px_P.cv rfl rfl rfl (by assumption) rfl ?_
    show px_M _ px_m_Symbols_definersOf [.ref y, .int (nI fs)] S _
    refine pm_definersOf (by omega) hy hD (o3 rfl) ?_
    show px_P _ _ (50, [(0, .ref e), (1, .int (nI j)), (2, .ref y)], [.int (D fs)]) S _
    refine px_P.if_ne rfl rfl (fun h => ?_) (fun h => ?_)
    · refine px_P.sn 1 (f1 := (58, [(0, .ref e), (1, .int (nI j)), (2, .ref y)], [.int (-1)])) (S1 := S) rfl ?_
      refine px_P.ret rfl ?_
      rw [show xe_f V D (1, fs, sc, pl) = -1 from if_neg h] at k
      exact k
    · refine px_P.sn 2 (f1 := (58, [(0, .ref e), (1, .int (nI j)), (2, .ref y)], [.int 2])) (S1 := S) rfl ?_
      refine px_P.ret rfl ?_
      rw [show xe_f V D (1, fs, sc, pl) = 2 from if_pos h] at k
      exact k
  · refine px_P.sn 1 (f1 := (113, [(0, .ref e), (1, .int (nI j)), (2, .ref y)], [])) (S1 := S) rfl ?_
    refine px_P.sn 1 (f1 := (114, [(0, .ref e), (1, .int (nI j)), (2, .ref y)], [.int (-1)])) (S1 := S) rfl ?_
    refine px_P.ret rfl ?_
    exact k
  · refine px_P.sn 1 (f1 := (59, [(0, .ref e), (1, .int (nI j)), (2, .ref y)], [])) (S1 := S) rfl ?_
    refine px_P.sn 2 (f1 := (61, [(0, .ref e), (1, .int (nI j)), (2, .ref y)], [.ref e, .ref e])) (S1 := S) rfl ?_
    refine px_P.gf rfl rfl (by assumption) (v := .ref (e + 4)) rfl ?_
    refine px_P.sn 1 (f1 := (65, [(0, .ref e), (1, .int (nI j)), (2, .ref y)], [.int (nI j), .ref (e + 4), .ref e])) (S1 := S) rfl ?_
    refine px_P.ialdj (j := j) rfl (by assumption) rfl (by omega) (by omega) ?_
    rw [hF]
    refine px_P.cv rfl rfl rfl (by assumption) rfl ?_
    show px_M _ px_m_Expression_valueAt [.ref e, .int (nI fs)] S _
    refine pm_valueAt (by omega) hM (by have := o4 (by decide); omega) he' ?_
    show px_P _ _ (69, [(0, .ref e), (1, .int (nI j)), (2, .ref y)], [.int (V fs)]) S _
    refine px_P.call rfl ?_
    show px_M _ px_m_Forms_unlistingLoses [.int (V fs)] S _
    refine pm_unlistingLoses (by omega) ?_
    have kk : Q (some (.int (bif fm_unL (V fs) then 3 else -1))) S := k
    cases hb : fm_unL (V fs) with
    | true =>
      rw [hb] at kk
      show px_P _ _ (72, [(0, .ref e), (1, .int (nI j)), (2, .ref y)], [.int 1]) S _
      refine px_P.if_eq rfl rfl (fun h => absurd h ((by decide))) (fun _ => ?_)
      refine px_P.sn 2 (f1 := (80, [(0, .ref e), (1, .int (nI j)), (2, .ref y)], [.int 3])) (S1 := S) rfl ?_
      refine px_P.ret rfl ?_
      exact kk
    | false =>
      rw [hb] at kk
      show px_P _ _ (72, [(0, .ref e), (1, .int (nI j)), (2, .ref y)], [.int 0]) S _
      refine px_P.if_eq rfl rfl (fun _ => ?_) (fun h => absurd (rfl) h)
      refine px_P.sn 1 (f1 := (80, [(0, .ref e), (1, .int (nI j)), (2, .ref y)], [.int (-1)])) (S1 := S) rfl ?_
      refine px_P.ret rfl ?_
      exact kk
  · refine px_P.sn 1 (f1 := (113, [(0, .ref e), (1, .int (nI j)), (2, .ref y)], [])) (S1 := S) rfl ?_
    refine px_P.sn 1 (f1 := (114, [(0, .ref e), (1, .int (nI j)), (2, .ref y)], [.int (-1)])) (S1 := S) rfl ?_
    refine px_P.ret rfl ?_
    exact k
  · refine px_P.sn 1 (f1 := (113, [(0, .ref e), (1, .int (nI j)), (2, .ref y)], [])) (S1 := S) rfl ?_
    refine px_P.sn 1 (f1 := (114, [(0, .ref e), (1, .int (nI j)), (2, .ref y)], [.int (-1)])) (S1 := S) rfl ?_
    refine px_P.ret rfl ?_
    exact k
  · refine px_P.sn 1 (f1 := (113, [(0, .ref e), (1, .int (nI j)), (2, .ref y)], [])) (S1 := S) rfl ?_
    refine px_P.sn 1 (f1 := (114, [(0, .ref e), (1, .int (nI j)), (2, .ref y)], [.int (-1)])) (S1 := S) rfl ?_
    refine px_P.ret rfl ?_
    exact k
  · refine px_P.sn 1 (f1 := (81, [(0, .ref e), (1, .int (nI j)), (2, .ref y)], [])) (S1 := S) rfl ?_
    refine px_P.sn 2 (f1 := (83, [(0, .ref e), (1, .int (nI j)), (2, .ref y)], [.ref e, .ref e])) (S1 := S) rfl ?_
    refine px_P.gf rfl rfl (by assumption) (v := .ref (e + 4)) rfl ?_
    refine px_P.sn 1 (f1 := (87, [(0, .ref e), (1, .int (nI j)), (2, .ref y)], [.int (nI j), .ref (e + 4), .ref e])) (S1 := S) rfl ?_
    refine px_P.ialdj (j := j) rfl (by assumption) rfl (by omega) (by omega) ?_
    rw [hF]
    refine px_P.cv rfl rfl rfl (by assumption) rfl ?_
    show px_M _ px_m_Expression_valueAt [.ref e, .int (nI fs)] S _
    refine pm_valueAt (by omega) hM (by have := o4 (by decide); omega) he' ?_
    show px_P _ _ (91, [(0, .ref e), (1, .int (nI j)), (2, .ref y)], [.int (V fs)]) S _
    refine px_P.sn 2 (f1 := (93, [(0, .ref e), (1, .int (nI j)), (2, .ref y)], [.ref e, .ref e, .int (V fs)])) (S1 := S) rfl ?_
    refine px_P.gf rfl rfl (by assumption) (v := .ref (e + 5)) rfl ?_
    refine px_P.sn 1 (f1 := (97, [(0, .ref e), (1, .int (nI j)), (2, .ref y)], [.int (nI j), .ref (e + 5), .ref e, .int (V fs)])) (S1 := S) rfl ?_
    refine px_P.ialdj (j := j) rfl (by assumption) rfl (by omega) (by omega) ?_
    rw [hC]
    refine px_P.cv rfl rfl rfl (by assumption) rfl ?_
    show px_M _ px_m_Expression_valueAt [.ref e, .int (nI sc)] S _
    refine pm_valueAt (by omega) hM (by have := o6 (by decide); omega) he' ?_
    show px_P _ _ (101, [(0, .ref e), (1, .int (nI j)), (2, .ref y)], [.int (V sc), .int (V fs)]) S _
    refine px_P.call rfl ?_
    show px_M _ px_m_Forms_summingLoses [.int (V fs), .int (V sc)] S _
    refine pm_summingLoses (by omega) ?_
    have kk : Q (some (.int (bif fm_sumL (V fs) (V sc) then 4 else -1))) S := k
    cases hb : fm_sumL (V fs) (V sc) with
    | true =>
      rw [hb] at kk
      show px_P _ _ (104, [(0, .ref e), (1, .int (nI j)), (2, .ref y)], [.int 1]) S _
      refine px_P.if_eq rfl rfl (fun h => absurd h ((by decide))) (fun _ => ?_)
      refine px_P.sn 2 (f1 := (112, [(0, .ref e), (1, .int (nI j)), (2, .ref y)], [.int 4])) (S1 := S) rfl ?_
      refine px_P.ret rfl ?_
      exact kk
    | false =>
      rw [hb] at kk
      show px_P _ _ (104, [(0, .ref e), (1, .int (nI j)), (2, .ref y)], [.int 0]) S _
      refine px_P.if_eq rfl rfl (fun _ => ?_) (fun h => absurd (rfl) h)
      refine px_P.sn 1 (f1 := (112, [(0, .ref e), (1, .int (nI j)), (2, .ref y)], [.int (-1)])) (S1 := S) rfl ?_
      refine px_P.ret rfl ?_
      exact kk
/-- the faults of the first n steps, laid over c -/
def xe_fc (st : xe_T) (V D : Nat → Int32) (c : Nat → Int32) : Nat → Nat → Int32
  | 0 => c
  | n + 1 => if xe_f V D (st n) = -1 then xe_fc st V D c n else upd (xe_fc st V D c n) (st n).2.2.2 (xe_f V D (st n))
set_option maxHeartbeats 2000000 in
theorem pm_exprFaults {d e M n y tT tD fa fc N : Nat} {W : Nat → Int64} {K F C P V D c : Nat → Int32} {z : Nat} {st : xe_T} {S : px_S} {Q : Option Value → px_S → Prop} (hd : 4 ≤ d) (hM : M ≤ 1000) (hN : N ≤ 1001) (hnM : n ≤ M) (he : xe_at S e M n W K F C P V) (hst : xe_st st n K F C P)
    (hy : S.1 y = some (.inr (7, [.ref tT, .ref tD]))) (hD : S.1 tD = some (.inl (0, 208, .inl D))) (hfa : S.1 fa = some (.inr (2, [.ref fc, .int (nI z)]))) (hfc : S.1 fc = some (.inl (0, N, .inl c)))
    (hne : fa ≠ fc ∧ (fa < e ∨ e + 8 ≤ fa) ∧ (fc < e ∨ e + 8 ≤ fc) ∧ y ≠ fa ∧ y ≠ fc ∧ tD ≠ fa ∧ tD ≠ fc) (hpl : ∀ j, j < n → (st j).2.2.2 < N) (hfree : ∀ j, j < n → ¬ xe_f V D (st j) = -1 → xe_fc st V D c j (st j).2.2.2 = 0)
    (k : ∀ S', S'.1 fa = some (.inr (2, [.ref fc, .int (nI (z + ct (fun j => decide (¬ xe_f V D (st j) = -1)) n))])) → S'.1 fc = some (.inl (0, N, .inl (xe_fc st V D c n))) → (∀ b, b ≠ fa → b ≠ fc → S'.1 b = S.1 b) → S'.2 = S.2 → Q none S') :
    px_M d px_m_Expression_findFaults [.ref e, .ref y, .ref fa] S Q := by
  obtain ⟨n1, n2, n3, n4, n5, n6, n7⟩ := hne
  have keep : ∀ S1 : px_S, (∀ b, b ≠ fa → b ≠ fc → S1.1 b = S.1 b) → xe_at S1 e M n W K F C P V := by
    intro S1 h
    obtain ⟨q0, q1, q2, q3, q4, q5, q6, q7⟩ := he
    exact ⟨(h _ (by omega) (by omega)).trans q0, (h _ (by omega) (by omega)).trans q1, (h _ (by omega) (by omega)).trans q2, (h _ (by omega) (by omega)).trans q3, (h _ (by omega) (by omega)).trans q4, (h _ (by omega) (by omega)).trans q5, (h _ (by omega) (by omega)).trans q6, (h _ (by omega) (by omega)).trans q7⟩
  have lp : ∀ (m i : Nat), i + m = n → ∀ (S1 : px_S) (o : List (Nat × Value)), (o = [] ∨ ∃ q, o = [(4, .int q)]) → S1.1 fa = some (.inr (2, [.ref fc, .int (nI (z + ct (fun j => decide (¬ xe_f V D (st j) = -1)) i))])) → S1.1 fc = some (.inl (0, N, .inl (xe_fc st V D c i))) → (∀ b, b ≠ fa → b ≠ fc → S1.1 b = S.1 b) → S1.2 = S.2 →
      px_P (d - 1) px_m_Expression_findFaults (2, [(0, .ref e), (1, .ref y), (2, .ref fa), (3, .int (nI i))] ++ o, []) S1 Q := by
    intro m
    induction m with
    | zero =>
      intro i hi S1 o ho h1 h2 h3 h4
      obtain ⟨q0, q1, q2, q3, q4, q5, q6, q7⟩ := keep S1 h3
      rw [show i = n by omega] at h1 h2
      rcases ho with rfl | ⟨q, rfl⟩
      · refine px_P.sn 2 (f1 := (4, [(0, .ref e), (1, .ref y), (2, .ref fa), (3, .int (nI i))], [.ref e, .int (nI i)])) (S1 := S1) rfl ?_
        refine px_P.gf rfl rfl (by assumption) (v := .int (nI n)) rfl ?_
        refine px_P.ic_ge rfl rfl (fun _ => ?_) (fun h => absurd (nI_le (by omega) (by omega)) h)
        refine px_P.ret rfl ?_
        exact k S1 h1 h2 h3 h4
      · refine px_P.sn 2 (f1 := (4, [(0, .ref e), (1, .ref y), (2, .ref fa), (3, .int (nI i)), (4, .int q)], [.ref e, .int (nI i)])) (S1 := S1) rfl ?_
        refine px_P.gf rfl rfl (by assumption) (v := .int (nI n)) rfl ?_
        refine px_P.ic_ge rfl rfl (fun _ => ?_) (fun h => absurd (nI_le (by omega) (by omega)) h)
        refine px_P.ret rfl ?_
        exact k S1 h1 h2 h3 h4
    | succ m ih =>
      intro i hi S1 o ho h1 h2 h3 h4
      have hk := keep S1 h3
      obtain ⟨q0, q1, q2, q3, q4, q5, q6, q7⟩ := keep S1 h3
      obtain ⟨s1, s2, s3, s4, s5⟩ := hst i (by omega)
      have body : px_P (d - 1) px_m_Expression_findFaults (27, [(0, .ref e), (1, .ref y), (2, .ref fa), (3, .int (nI i)), (4, .int (xe_f V D (st i)))], []) S1 Q := by
        refine px_P.sn 2 (f1 := (30, [(0, .ref e), (1, .ref y), (2, .ref fa), (3, .int (nI i)), (4, .int (xe_f V D (st i)))], [.int (-1), .int (xe_f V D (st i))])) (S1 := S1) rfl ?_
        refine px_P.ic_eq rfl rfl (fun h => ?_) (fun h => ?_)
        · refine px_P.sn 2 (f1 := (2, [(0, .ref e), (1, .ref y), (2, .ref fa), (3, .int ((nI i) + 1)), (4, .int (xe_f V D (st i)))], [])) (S1 := S1) rfl ?_
          rw [nI_1]
          refine ih (i + 1) (by omega) S1 [(4, _)] (Or.inr ⟨_, rfl⟩) ?_ ?_ h3 h4
          · rw [ct_z (decide_eq_false (fun w => w h))]; exact h1
          · rw [show xe_fc st V D c (i + 1) = xe_fc st V D c i from if_pos h]; exact h2
        · refine px_P.sn 2 (f1 := (35, [(0, .ref e), (1, .ref y), (2, .ref fa), (3, .int (nI i)), (4, .int (xe_f V D (st i)))], [.ref e, .ref fa])) (S1 := S1) rfl ?_
          refine px_P.gf rfl rfl (by assumption) (v := .ref (e + 6)) rfl ?_
          refine px_P.sn 1 (f1 := (39, [(0, .ref e), (1, .ref y), (2, .ref fa), (3, .int (nI i)), (4, .int (xe_f V D (st i)))], [.int (nI i), .ref (e + 6), .ref fa])) (S1 := S1) rfl ?_
          refine px_P.ialdj (j := i) rfl (by assumption) rfl (by omega) (by omega) ?_
          rw [s4]
          refine px_P.sn 1 (f1 := (42, [(0, .ref e), (1, .ref y), (2, .ref fa), (3, .int (nI i)), (4, .int (xe_f V D (st i)))], [.int (xe_f V D (st i)), .int (nI (st i).2.2.2), .ref fa])) (S1 := S1) rfl ?_
          refine px_P.cv rfl rfl rfl (by assumption) rfl ?_
          show px_M _ px_m_Faults_add [.ref fa, .int (nI (st i).2.2.2), .int (xe_f V D (st i))] S1 _
          refine pm_faultsAdd (by omega) hN n1 h1 h2 (hpl i (by omega)) (hfree i (by omega) h) (fun S2 r1 r2 r3 r4 => ?_)
          show px_P _ _ (45, [(0, .ref e), (1, .ref y), (2, .ref fa), (3, .int (nI i)), (4, .int (xe_f V D (st i)))], []) S2 _
          refine px_P.sn 2 (f1 := (2, [(0, .ref e), (1, .ref y), (2, .ref fa), (3, .int ((nI i) + 1)), (4, .int (xe_f V D (st i)))], [])) (S1 := S2) rfl ?_
          rw [nI_1]
          refine ih (i + 1) (by omega) S2 [(4, _)] (Or.inr ⟨_, rfl⟩) ?_ ?_ (fun b hb hb2 => (r3 b hb hb2).trans (h3 b hb hb2)) (r4.trans h4)
          · rw [ct_s (decide_eq_true h), ← Nat.add_assoc, ← nI_1]; exact r1
          · rw [show xe_fc st V D c (i + 1) = _ from if_neg h]; exact r2
      rcases ho with rfl | ⟨q, rfl⟩
      · refine px_P.sn 2 (f1 := (4, [(0, .ref e), (1, .ref y), (2, .ref fa), (3, .int (nI i))], [.ref e, .int (nI i)])) (S1 := S1) rfl ?_
        refine px_P.gf rfl rfl (by assumption) (v := .int (nI n)) rfl ?_
        refine px_P.ic_ge rfl rfl (fun h => absurd h (nI_ge (by omega) (by omega))) (fun _ => ?_)
        refine px_P.sn 2 (f1 := (12, [(0, .ref e), (1, .ref y), (2, .ref fa), (3, .int (nI i))], [.ref e, .int (nI i)])) (S1 := S1) rfl ?_
        refine px_P.gf rfl rfl (by assumption) (v := .ref (e + 3)) rfl ?_
        refine px_P.alen rfl (by assumption) rfl ?_
        refine px_P.ic_ge rfl rfl (fun h => absurd h (nI_ge (by omega) (by omega))) (fun _ => ?_)
        refine px_P.sn 3 (f1 := (22, [(0, .ref e), (1, .ref y), (2, .ref fa), (3, .int (nI i))], [.ref y, .int (nI i), .ref e])) (S1 := S1) rfl ?_
        refine px_P.cv rfl rfl rfl (by assumption) rfl ?_
        show px_M _ px_m_Expression_faultOf [.ref e, .int (nI i), .ref y] S1 _
        refine pm_faultOf (q := st i) (by omega) hM (by omega) hk s1 s2 s3 s5 ((h3 y n4 n5).trans hy) ((h3 tD n6 n7).trans hD) ?_
        show px_P _ _ (25, [(0, .ref e), (1, .ref y), (2, .ref fa), (3, .int (nI i))], [.int (xe_f V D (st i))]) S1 _
        refine px_P.sn 1 (f1 := (27, [(0, .ref e), (1, .ref y), (2, .ref fa), (3, .int (nI i)), (4, .int (xe_f V D (st i)))], [])) (S1 := S1) rfl ?_
        exact body
      · refine px_P.sn 2 (f1 := (4, [(0, .ref e), (1, .ref y), (2, .ref fa), (3, .int (nI i)), (4, .int q)], [.ref e, .int (nI i)])) (S1 := S1) rfl ?_
        refine px_P.gf rfl rfl (by assumption) (v := .int (nI n)) rfl ?_
        refine px_P.ic_ge rfl rfl (fun h => absurd h (nI_ge (by omega) (by omega))) (fun _ => ?_)
        refine px_P.sn 2 (f1 := (12, [(0, .ref e), (1, .ref y), (2, .ref fa), (3, .int (nI i)), (4, .int q)], [.ref e, .int (nI i)])) (S1 := S1) rfl ?_
        refine px_P.gf rfl rfl (by assumption) (v := .ref (e + 3)) rfl ?_
        refine px_P.alen rfl (by assumption) rfl ?_
        refine px_P.ic_ge rfl rfl (fun h => absurd h (nI_ge (by omega) (by omega))) (fun _ => ?_)
        refine px_P.sn 3 (f1 := (22, [(0, .ref e), (1, .ref y), (2, .ref fa), (3, .int (nI i)), (4, .int q)], [.ref y, .int (nI i), .ref e])) (S1 := S1) rfl ?_
        refine px_P.cv rfl rfl rfl (by assumption) rfl ?_
        show px_M _ px_m_Expression_faultOf [.ref e, .int (nI i), .ref y] S1 _
        refine pm_faultOf (q := st i) (by omega) hM (by omega) hk s1 s2 s3 s5 ((h3 y n4 n5).trans hy) ((h3 tD n6 n7).trans hD) ?_
        show px_P _ _ (25, [(0, .ref e), (1, .ref y), (2, .ref fa), (3, .int (nI i)), (4, .int q)], [.int (xe_f V D (st i))]) S1 _
        refine px_P.sn 1 (f1 := (27, [(0, .ref e), (1, .ref y), (2, .ref fa), (3, .int (nI i)), (4, .int (xe_f V D (st i)))], [])) (S1 := S1) rfl ?_
        exact body
  refine px_M.go (by omega) (Nat.le_of_ble_eq_true rfl) ?_
  refine px_P.sn 2 (f1 := (2, [(0, .ref e), (1, .ref y), (2, .ref fa), (3, .int 0)], [])) (S1 := S) rfl ?_
  exact lp n 0 (by omega) S [] (Or.inl rfl) (by simpa [ct] using hfa) hfc (fun _ _ _ => rfl) rfl
