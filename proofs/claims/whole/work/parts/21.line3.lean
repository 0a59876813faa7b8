/-! ===== Line: makers ===== -/
set_option maxHeartbeats 4000000 in
theorem pm_lnInit0 {d b e M n L : Nat} {df dc eq : Int32} {W : Nat → Int64} {K F C P V : Nat → Int32} {st : xe_T} {S : px_S} {Q : Option Value → px_S → Prop} (hd : 2 ≤ d) (hL : L ≤ 60) (hM : M ≤ 60) (hn : n ≤ M) (heb : e + 8 = b) (he1 : 1 ≤ e)
    (hb : S.1 b = some (.inr (4, [.int 0, .int 0, .int 0, .int 0, .int 0, .null, .null, .int 0]))) (hS : S.2.1 = b + 1) (he : xe_at S e M n W K F C P V) (hst : xe_st st n K F C P)
    (k : ∀ S', ln_at S' b (L, df, dc, eq, -1, n, st, W) (0, V, (fun _ => 0), 0) → (∀ q, q < e → S'.1 q = S.1 q) → S'.2 = (b + 3, S.2.2 + (L + 3)) → Q none S') :
    px_M d px_m_Line_init0 [.ref b, .int (nI L), .int df, .int dc, .int eq, .ref e] S Q := by
  refine px_M.go (by omega) (Nat.le_of_ble_eq_true rfl) ?_
  refine px_P.sn 4 (f1 := (6, [(0, .ref b), (1, .int (nI L)), (2, .int df), (3, .int dc), (4, .int eq), (5, .ref e)], [.int 0, .ref b])) (S1 := S) rfl ?_
  refine px_P.pf rfl rfl (by assumption) rfl (fun S1 u1 => ?_)
  have hb1 := u1.s
  refine px_P.sn 2 (f1 := (11, [(0, .ref b), (1, .int (nI L)), (2, .int df), (3, .int dc), (4, .int eq), (5, .ref e)], [.int (nI L), .ref b])) (S1 := S1) rfl ?_
  refine px_P.pf rfl rfl (by assumption) rfl (fun S2 u2 => ?_)
  have hb2 := u2.s
  refine px_P.sn 2 (f1 := (16, [(0, .ref b), (1, .int (nI L)), (2, .int df), (3, .int dc), (4, .int eq), (5, .ref e)], [.int df, .ref b])) (S1 := S2) rfl ?_
  refine px_P.pf rfl rfl (by assumption) rfl (fun S3 u3 => ?_)
  have hb3 := u3.s
  refine px_P.sn 2 (f1 := (21, [(0, .ref b), (1, .int (nI L)), (2, .int df), (3, .int dc), (4, .int eq), (5, .ref e)], [.int dc, .ref b])) (S1 := S3) rfl ?_
  refine px_P.pf rfl rfl (by assumption) rfl (fun S4 u4 => ?_)
  have hb4 := u4.s
  refine px_P.sn 2 (f1 := (27, [(0, .ref b), (1, .int (nI L)), (2, .int df), (3, .int dc), (4, .int eq), (5, .ref e)], [.int eq, .ref b])) (S1 := S4) rfl ?_
  refine px_P.pf rfl rfl (by assumption) rfl (fun S5 u5 => ?_)
  have hb5 := u5.s
  refine px_P.sn 2 (f1 := (32, [(0, .ref b), (1, .int (nI L)), (2, .int df), (3, .int dc), (4, .int eq), (5, .ref e)], [.int (-1), .ref b])) (S1 := S5) rfl ?_
  refine px_P.pf rfl rfl (by assumption) rfl (fun S6 u6 => ?_)
  have hb6 := u6.s
  refine px_P.sn 2 (f1 := (38, [(0, .ref b), (1, .int (nI L)), (2, .int df), (3, .int dc), (4, .int eq), (5, .ref e)], [.ref e, .ref b])) (S1 := S6) rfl ?_
  refine px_P.pf rfl rfl (by assumption) rfl (fun S7 u7 => ?_)
  have hb7 := u7.s
  have o7 : ∀ q, q ≠ b → S7.1 q = S.1 q := fun q hq => by rw [u7.o hq, u6.o hq, u5.o hq, u4.o hq, u3.o hq, u2.o hq, u1.o hq]
  have t7 : S7.2 = S.2 := by rw [u7.t, u6.t, u5.t, u4.t, u3.t, u2.t, u1.t]
  refine px_P.sn 1 (f1 := (42, [(0, .ref b), (1, .int (nI L)), (2, .int df), (3, .int dc), (4, .int eq), (5, .ref e)], [.ref b])) (S1 := S7) rfl ?_
  refine px_P.nw rfl rfl (fun S8 u8 => ?_)
  have z7 : S7.2.1 = b + 1 := by rw [t7, hS]
  have t8 : S8.2 = (b + 2, S.2.2 + 2) := by rw [u8.t, z7, t7]; rfl
  rw [z7]
  show px_P _ _ (45, [(0, .ref b), (1, .int (nI L)), (2, .int df), (3, .int dc), (4, .int eq), (5, .ref e)], [.ref (b + 1), .ref b]) S8 _
  have hb8 := u8.n hb7 (by omega)
  have hf8 : S8.1 (b + 1) = some (.inr (2, [.null, .int 0])) := by have h := u8.s; rw [z7] at h; exact h
  refine px_P.sn 2 (f1 := (47, [(0, .ref b), (1, .int (nI L)), (2, .int df), (3, .int dc), (4, .int eq), (5, .ref e)], [.int (nI L), .ref (b + 1), .ref (b + 1), .ref b])) (S1 := S8) rfl ?_
  refine px_P.call rfl ?_
  show px_M _ px_m_Faults_init [.ref (b + 1), .int (nI L)] S8 _
  refine pm_faultsInit (by omega) (by omega) hf8 (by rw [t8]; exact Nat.lt_succ_self _) (fun S9 r1 r2 r3 r4 => ?_)
  have z8 : S8.2.1 = b + 2 := by rw [t8]
  rw [z8] at r1 r2 r3
  have hb9 := (r3 b (by omega) (by omega)).trans hb8
  show px_P _ _ (50, [(0, .ref b), (1, .int (nI L)), (2, .int df), (3, .int dc), (4, .int eq), (5, .ref e)], [.ref (b + 1), .ref b]) S9 _
  refine px_P.pf rfl rfl (by assumption) rfl (fun Sa ua => ?_)
  refine px_P.ret rfl ?_
  have fr : ∀ q, q ≠ b → q ≠ b + 1 → q ≠ b + 2 → Sa.1 q = S.1 q := fun q a1 a2 a3 => by rw [ua.o a1, r3 q a2 a3, u8.o (by rw [z7]; exact a2), o7 q a1]
  obtain ⟨q0, q1, q2, q3, q4, q5, q6, q7⟩ := he
  refine k Sa ⟨e, b + 1, M, K, F, C, P, Or.inl ⟨heb, he1, rfl, rfl⟩, hM, hL, hn, hst, ua.s, ⟨(fr _ (by omega) (by omega) (by omega)).trans q0, (fr _ (by omega) (by omega) (by omega)).trans q1, (fr _ (by omega) (by omega) (by omega)).trans q2, (fr _ (by omega) (by omega) (by omega)).trans q3, (fr _ (by omega) (by omega) (by omega)).trans q4, (fr _ (by omega) (by omega) (by omega)).trans q5, (fr _ (by omega) (by omega) (by omega)).trans q6, (fr _ (by omega) (by omega) (by omega)).trans q7⟩, ua.n r1 (by omega), ua.n r2 (by omega)⟩ (fun q hq => fr q (by omega) (by omega) (by omega)) ?_
  rw [ua.t, r4, t8]
  exact Prod.ext rfl (by show S.2.2 + 2 + (L + 1) = S.2.2 + (L + 3); omega)
set_option maxHeartbeats 4000000 in
theorem pm_lnInit1 {d b L w : Nat} {S : px_S} {Q : Option Value → px_S → Prop} (hd : 3 ≤ d) (hL : L ≤ 60) (hw : w ≤ 60) (hb9 : 9 ≤ b)
    (hb : S.1 b = some (.inr (4, [.int 0, .int 0, .int 0, .int 0, .int 0, .null, .null, .int 0]))) (hS : S.2.1 = b + 1)
    (k : ∀ S', ln_at S' b (L, -1, -1, -1, nI w, 0, (fun _ => (0, 0, 0, 0)), (fun _ => 0)) (0, (fun _ => 0), (fun _ => 0), 0) → (∀ q, q < b → S'.1 q = S.1 q) → S'.2 = (b + 11, S.2.2 + (L + 15)) → Q none S') :
    px_M d px_m_Line_init1 [.ref b, .int (nI L), .int (nI w)] S Q := by
  refine px_M.go (by omega) (Nat.le_of_ble_eq_true rfl) ?_
  refine px_P.sn 4 (f1 := (6, [(0, .ref b), (1, .int (nI L)), (2, .int (nI w))], [.int 0, .ref b])) (S1 := S) rfl ?_
  refine px_P.pf rfl rfl (by assumption) rfl (fun S1 u1 => ?_)
  have hb1 := u1.s
  refine px_P.sn 2 (f1 := (11, [(0, .ref b), (1, .int (nI L)), (2, .int (nI w))], [.int (nI L), .ref b])) (S1 := S1) rfl ?_
  refine px_P.pf rfl rfl (by assumption) rfl (fun S2 u2 => ?_)
  have hb2 := u2.s
  refine px_P.sn 2 (f1 := (16, [(0, .ref b), (1, .int (nI L)), (2, .int (nI w))], [.int (-1), .ref b])) (S1 := S2) rfl ?_
  refine px_P.pf rfl rfl (by assumption) rfl (fun S3 u3 => ?_)
  have hb3 := u3.s
  refine px_P.sn 2 (f1 := (21, [(0, .ref b), (1, .int (nI L)), (2, .int (nI w))], [.int (-1), .ref b])) (S1 := S3) rfl ?_
  refine px_P.pf rfl rfl (by assumption) rfl (fun S4 u4 => ?_)
  have hb4 := u4.s
  refine px_P.sn 2 (f1 := (26, [(0, .ref b), (1, .int (nI L)), (2, .int (nI w))], [.int (-1), .ref b])) (S1 := S4) rfl ?_
  refine px_P.pf rfl rfl (by assumption) rfl (fun S5 u5 => ?_)
  have hb5 := u5.s
  refine px_P.sn 2 (f1 := (31, [(0, .ref b), (1, .int (nI L)), (2, .int (nI w))], [.int (nI w), .ref b])) (S1 := S5) rfl ?_
  refine px_P.pf rfl rfl (by assumption) rfl (fun S6 u6 => ?_)
  have hb6 := u6.s
  have o6 : ∀ q, q ≠ b → S6.1 q = S.1 q := fun q hq => by rw [u6.o hq, u5.o hq, u4.o hq, u3.o hq, u2.o hq, u1.o hq]
  have t6 : S6.2 = S.2 := by rw [u6.t, u5.t, u4.t, u3.t, u2.t, u1.t]
  refine px_P.sn 1 (f1 := (35, [(0, .ref b), (1, .int (nI L)), (2, .int (nI w))], [.ref b])) (S1 := S6) rfl ?_
  refine px_P.nw rfl rfl (fun S7 u7 => ?_)
  have z6 : S6.2.1 = b + 1 := by rw [t6, hS]
  have t7 : S7.2 = (b + 2, S.2.2 + 7) := by rw [u7.t, z6, t6]; rfl
  rw [z6]
  show px_P _ _ (38, [(0, .ref b), (1, .int (nI L)), (2, .int (nI w))], [.ref (b + 1), .ref b]) S7 _
  have hb7 := u7.n hb6 (by omega)
  have he7 : S7.1 (b + 1) = some (.inr (1, [.null, .null, .null, .null, .null, .int 0, .null])) := by have h := u7.s; rw [z6] at h; exact h
  refine px_P.sn 2 (f1 := (40, [(0, .ref b), (1, .int (nI L)), (2, .int (nI w))], [.int 0, .ref (b + 1), .ref (b + 1), .ref b])) (S1 := S7) rfl ?_
  refine px_P.call rfl ?_
  show px_M _ px_m_Expression_init [.ref (b + 1), .int 0] S7 _
  refine pm_exprInit (M := 0) (by omega) (by omega) he7 (by rw [t7]) (fun S8 r1 r2 r3 => ?_)
  have hb8 := (r2 b (by omega)).trans hb7
  have t8 : S8.2 = (b + 9, S.2.2 + 12) := by rw [r3, t7]
  show px_P _ _ (43, [(0, .ref b), (1, .int (nI L)), (2, .int (nI w))], [.ref (b + 1), .ref b]) S8 _
  refine px_P.pf rfl rfl (by assumption) rfl (fun S9 u9 => ?_)
  have hb9' := u9.s
  have t9 : S9.2 = S8.2 := u9.t
  refine px_P.sn 1 (f1 := (47, [(0, .ref b), (1, .int (nI L)), (2, .int (nI w))], [.ref b])) (S1 := S9) rfl ?_
  refine px_P.nw rfl rfl (fun Sa ua => ?_)
  have z9 : S9.2.1 = b + 9 := by rw [t9, t8]
  have ta : Sa.2 = (b + 10, S.2.2 + 14) := by rw [ua.t, z9, t9, t8]; rfl
  rw [z9]
  show px_P _ _ (50, [(0, .ref b), (1, .int (nI L)), (2, .int (nI w))], [.ref (b + 9), .ref b]) Sa _
  have hba := ua.n hb9' (by omega)
  have hfa : Sa.1 (b + 9) = some (.inr (2, [.null, .int 0])) := by have h := ua.s; rw [z9] at h; exact h
  refine px_P.sn 2 (f1 := (52, [(0, .ref b), (1, .int (nI L)), (2, .int (nI w))], [.int (nI L), .ref (b + 9), .ref (b + 9), .ref b])) (S1 := Sa) rfl ?_
  refine px_P.call rfl ?_
  show px_M _ px_m_Faults_init [.ref (b + 9), .int (nI L)] Sa _
  refine pm_faultsInit (by omega) (by omega) hfa (by rw [ta]; exact Nat.lt_succ_self _) (fun Sb v1 v2 v3 v4 => ?_)
  have za : Sa.2.1 = b + 10 := by rw [ta]
  rw [za] at v1 v2 v3
  have hbb := (v3 b (by omega) (by omega)).trans hba
  show px_P _ _ (55, [(0, .ref b), (1, .int (nI L)), (2, .int (nI w))], [.ref (b + 9), .ref b]) Sb _
  refine px_P.pf rfl rfl (by assumption) rfl (fun Sc uc => ?_)
  refine px_P.ret rfl ?_
  have fr : ∀ q, q ≠ b → q ≠ b + 9 → q ≠ b + 10 → Sc.1 q = S8.1 q := fun q a1 a2 a3 => by rw [uc.o a1, v3 q a2 a3, ua.o (by rw [z9]; exact a2), u9.o a1]
  obtain ⟨q0, q1, q2, q3, q4, q5, q6, q7⟩ := r1
  refine k Sc ⟨b + 1, b + 9, 0, (fun _ => 0), (fun _ => 0), (fun _ => 0), (fun _ => 0), Or.inr ⟨rfl, rfl, hb9, ?_⟩, by omega, hL, Nat.le_refl _, (fun j hj => absurd hj (Nat.not_lt_zero j)), uc.s, ⟨(fr _ (by omega) (by omega) (by omega)).trans q0, (fr _ (by omega) (by omega) (by omega)).trans q1, (fr _ (by omega) (by omega) (by omega)).trans q2, (fr _ (by omega) (by omega) (by omega)).trans q3, (fr _ (by omega) (by omega) (by omega)).trans q4, (fr _ (by omega) (by omega) (by omega)).trans q5, (fr _ (by omega) (by omega) (by omega)).trans q6, (fr _ (by omega) (by omega) (by omega)).trans q7⟩, uc.n v1 (by omega), uc.n v2 (by omega)⟩ (fun q hq => ?_) ?_
  · intro z
    have h := nI_pos' (n := w) (by omega)
    rw [show nI w = -1 from z] at h
    exact absurd h (by decide)
  · rw [fr q (by omega) (by omega) (by omega), r2 q (by omega), u7.o (by omega), o6 q (by omega)]
  · rw [uc.t, v4, ta]
    exact Prod.ext rfl (by show S.2.2 + 14 + (L + 1) = S.2.2 + (L + 15); omega)
