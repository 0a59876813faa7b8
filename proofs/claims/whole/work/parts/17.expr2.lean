/-! ===== Expression: steps, values, faults ===== -/
set_option maxHeartbeats 2000000 in
theorem pm_exprAdd {d e M n : Nat} {W : Nat → Int64} {K F C P V : Nat → Int32} {x1 x2 x3 x4 : Int32} {S : px_S} {Q : Option Value → px_S → Prop} (hd : 1 ≤ d) (hM : M ≤ 1000) (hn : n < M) (he : xe_at S e M n W K F C P V)
    (k : ∀ S', xe_at S' e M (n + 1) W (upd K n x1) (upd F n x2) (upd C n x3) (upd P n x4) V → (∀ b, (b < e ∨ e + 8 ≤ b) → S'.1 b = S.1 b) → S'.2 = S.2 → Q (some (.int (nI n))) S') :
    px_M d px_m_Expression_add [.ref e, .int x1, .int x2, .int x3, .int x4] S Q := by
  obtain ⟨h0, h1, h2, h3, h4, h5, h6, h7⟩ := he
  refine px_M.go hd (Nat.le_of_ble_eq_true rfl) ?_
  refine px_P.sn 1 (f1 := (1, [(0, .ref e), (1, .int x1), (2, .int x2), (3, .int x3), (4, .int x4)], [.ref e])) (S1 := S) rfl ?_
  refine px_P.gf rfl rfl (by assumption) (v := .int (nI n)) rfl ?_
  refine px_P.sn 1 (f1 := (5, [(0, .ref e), (1, .int x1), (2, .int x2), (3, .int x3), (4, .int x4)], [.ref e, .int (nI n)])) (S1 := S) rfl ?_
  refine px_P.gf rfl rfl (by assumption) (v := .ref (e + 3)) rfl ?_
  refine px_P.alen rfl (by assumption) rfl ?_
  refine px_P.ic_lt rfl rfl (fun _ => ?_) (fun h => absurd (nI_lt hn (by omega)) h)
  refine px_P.sn 1 (f1 := (15, [(0, .ref e), (1, .int x1), (2, .int x2), (3, .int x3), (4, .int x4)], [.ref e])) (S1 := S) rfl ?_
  refine px_P.gf rfl rfl (by assumption) (v := .ref (e + 3)) rfl ?_
  refine px_P.sn 1 (f1 := (19, [(0, .ref e), (1, .int x1), (2, .int x2), (3, .int x3), (4, .int x4)], [.ref e, .ref (e + 3)])) (S1 := S) rfl ?_
  refine px_P.gf rfl rfl (by assumption) (v := .int (nI n)) rfl ?_
  refine px_P.sn 1 (f1 := (23, [(0, .ref e), (1, .int x1), (2, .int x2), (3, .int x3), (4, .int x4)], [.int x1, .int (nI n), .ref (e + 3)])) (S1 := S) rfl ?_
  refine px_P.iastj (j := n) rfl (by assumption) rfl (by omega) (by omega) (fun S1 u1 => ?_)
  have h01 := u1.n h0 (by omega)
  have h41 := u1.n h4 (by omega)
  refine px_P.sn 1 (f1 := (25, [(0, .ref e), (1, .int x1), (2, .int x2), (3, .int x3), (4, .int x4)], [.ref e])) (S1 := S1) rfl ?_
  refine px_P.gf rfl rfl (by assumption) (v := .ref (e + 4)) rfl ?_
  refine px_P.sn 1 (f1 := (29, [(0, .ref e), (1, .int x1), (2, .int x2), (3, .int x3), (4, .int x4)], [.ref e, .ref (e + 4)])) (S1 := S1) rfl ?_
  refine px_P.gf rfl rfl (by assumption) (v := .int (nI n)) rfl ?_
  refine px_P.sn 1 (f1 := (33, [(0, .ref e), (1, .int x1), (2, .int x2), (3, .int x3), (4, .int x4)], [.int x2, .int (nI n), .ref (e + 4)])) (S1 := S1) rfl ?_
  refine px_P.iastj (j := n) rfl (by assumption) rfl (by omega) (by omega) (fun S2 u2 => ?_)
  have h02 := u2.n h01 (by omega)
  have h52 := u2.n (u1.n h5 (by omega)) (by omega)
  refine px_P.sn 1 (f1 := (35, [(0, .ref e), (1, .int x1), (2, .int x2), (3, .int x3), (4, .int x4)], [.ref e])) (S1 := S2) rfl ?_
  refine px_P.gf rfl rfl (by assumption) (v := .ref (e + 5)) rfl ?_
  refine px_P.sn 1 (f1 := (39, [(0, .ref e), (1, .int x1), (2, .int x2), (3, .int x3), (4, .int x4)], [.ref e, .ref (e + 5)])) (S1 := S2) rfl ?_
  refine px_P.gf rfl rfl (by assumption) (v := .int (nI n)) rfl ?_
  refine px_P.sn 1 (f1 := (43, [(0, .ref e), (1, .int x1), (2, .int x2), (3, .int x3), (4, .int x4)], [.int x3, .int (nI n), .ref (e + 5)])) (S1 := S2) rfl ?_
  refine px_P.iastj (j := n) rfl (by assumption) rfl (by omega) (by omega) (fun S3 u3 => ?_)
  have h03 := u3.n h02 (by omega)
  have h63 := u3.n (u2.n (u1.n h6 (by omega)) (by omega)) (by omega)
  refine px_P.sn 1 (f1 := (45, [(0, .ref e), (1, .int x1), (2, .int x2), (3, .int x3), (4, .int x4)], [.ref e])) (S1 := S3) rfl ?_
  refine px_P.gf rfl rfl (by assumption) (v := .ref (e + 6)) rfl ?_
  refine px_P.sn 1 (f1 := (49, [(0, .ref e), (1, .int x1), (2, .int x2), (3, .int x3), (4, .int x4)], [.ref e, .ref (e + 6)])) (S1 := S3) rfl ?_
  refine px_P.gf rfl rfl (by assumption) (v := .int (nI n)) rfl ?_
  refine px_P.sn 1 (f1 := (54, [(0, .ref e), (1, .int x1), (2, .int x2), (3, .int x3), (4, .int x4)], [.int x4, .int (nI n), .ref (e + 6)])) (S1 := S3) rfl ?_
  refine px_P.iastj (j := n) rfl (by assumption) rfl (by omega) (by omega) (fun S4 u4 => ?_)
  have h04 := u4.n h03 (by omega)
  refine px_P.sn 2 (f1 := (57, [(0, .ref e), (1, .int x1), (2, .int x2), (3, .int x3), (4, .int x4)], [.ref e, .ref e])) (S1 := S4) rfl ?_
  refine px_P.gf rfl rfl (by assumption) (v := .int (nI n)) rfl ?_
  refine px_P.sn 2 (f1 := (62, [(0, .ref e), (1, .int x1), (2, .int x2), (3, .int x3), (4, .int x4)], [.int ((nI n) + 1), .ref e])) (S1 := S4) rfl ?_
  refine px_P.pf rfl rfl (by assumption) rfl (fun S5 u5 => ?_)
  have h05 := u5.s
  refine px_P.sn 1 (f1 := (66, [(0, .ref e), (1, .int x1), (2, .int x2), (3, .int x3), (4, .int x4)], [.ref e])) (S1 := S5) rfl ?_
  refine px_P.gf rfl rfl (by assumption) (v := .int ((nI n) + 1)) rfl ?_
  refine px_P.sn 2 (f1 := (71, [(0, .ref e), (1, .int x1), (2, .int x2), (3, .int x3), (4, .int x4)], [.int (((nI n) + 1) - 1)])) (S1 := S5) rfl ?_
  refine px_P.ret rfl ?_
  have ev : nI n + 1 - 1 = nI n := by rw [nI_1]; exact nI_pred n
  rw [ev]
  rw [nI_1] at h05
  refine k S5 ⟨h05, ?_, ?_, ?_, ?_, ?_, ?_, ?_⟩ ?_ ?_
  · rw [u5.o (by omega), u4.o (by omega), u3.o (by omega), u2.o (by omega), u1.o (by omega)]; exact h1
  · rw [u5.o (by omega), u4.o (by omega), u3.o (by omega), u2.o (by omega), u1.o (by omega)]; exact h2
  · rw [u5.o (by omega), u4.o (by omega), u3.o (by omega), u2.o (by omega)]; exact u1.s
  · rw [u5.o (by omega), u4.o (by omega), u3.o (by omega)]; exact u2.s
  · rw [u5.o (by omega), u4.o (by omega)]; exact u3.s
  · rw [u5.o (by omega)]; exact u4.s
  · rw [u5.o (by omega), u4.o (by omega), u3.o (by omega), u2.o (by omega), u1.o (by omega)]; exact h7
  · intro b hb
    rw [u5.o (by omega), u4.o (by omega), u3.o (by omega), u2.o (by omega), u1.o (by omega)]
  · rw [u5.t, u4.t, u3.t, u2.t, u1.t]
theorem pm_valueAt {d e M n j : Nat} {W : Nat → Int64} {K F C P V : Nat → Int32} {S : px_S} {Q : Option Value → px_S → Prop} (hd : 1 ≤ d) (hM : M ≤ 1000) (hj : j < M) (he : xe_at S e M n W K F C P V)
    (k : Q (some (.int (V j))) S) : px_M d px_m_Expression_valueAt [.ref e, .int (nI j)] S Q := by
  obtain ⟨h0, h1, h2, h3, h4, h5, h6, h7⟩ := he
  refine px_M.go hd (Nat.le_of_ble_eq_true rfl) ?_
  refine px_P.sn 1 (f1 := (1, [(0, .ref e), (1, .int (nI j))], [.int (nI j)])) (S1 := S) rfl ?_
  refine px_P.if_lt rfl rfl (fun h => absurd h (nI_pos (by omega))) (fun _ => ?_)
  refine px_P.sn 2 (f1 := (6, [(0, .ref e), (1, .int (nI j))], [.ref e, .int (nI j)])) (S1 := S) rfl ?_
  refine px_P.gf rfl rfl (by assumption) (v := .ref (e + 7)) rfl ?_
  refine px_P.alen rfl (by assumption) rfl ?_
  refine px_P.ic_ge rfl rfl (fun h => absurd h (nI_ge hj (by omega))) (fun _ => ?_)
  refine px_P.sn 1 (f1 := (14, [(0, .ref e), (1, .int (nI j))], [.ref e])) (S1 := S) rfl ?_
  refine px_P.gf rfl rfl (by assumption) (v := .ref (e + 7)) rfl ?_
  refine px_P.sn 1 (f1 := (18, [(0, .ref e), (1, .int (nI j))], [.int (nI j), .ref (e + 7)])) (S1 := S) rfl ?_
  refine px_P.ialdj (j := j) rfl (by assumption) rfl (by omega) (by omega) ?_
  refine px_P.sn 1 (f1 := (23, [(0, .ref e), (1, .int (nI j))], [.int (V j)])) (S1 := S) rfl ?_
  refine px_P.ret rfl ?_
  exact k
theorem pm_valueAtN {d e : Nat} {S : px_S} {Q : Option Value → px_S → Prop} (hd : 1 ≤ d) (k : Q (some (.int 0)) S) : px_M d px_m_Expression_valueAt [.ref e, .int (-1)] S Q := by
  refine px_M.go hd (Nat.le_of_ble_eq_true rfl) ?_
  refine px_P.sn 1 (f1 := (1, [(0, .ref e), (1, .int (-1))], [.int (-1)])) (S1 := S) rfl ?_
  refine px_P.if_lt rfl rfl (fun _ => ?_) (fun h => absurd ((by decide)) h)
  refine px_P.sn 1 (f1 := (23, [(0, .ref e), (1, .int (-1))], [.int 0])) (S1 := S) rfl ?_
  refine px_P.ret rfl ?_
  exact k
/-- a step: its kind, its first and second, its place; what it may be, as the k-th -/
abbrev xe_T : Type := Nat → Nat × Nat × Nat × Nat
def xe_ok1 (q : Nat × Nat × Nat × Nat) (k : Nat) : Prop := q.1 < 8 ∧ (q.1 = 0 → q.2.1 < 5) ∧ (q.1 = 1 → q.2.1 < 208) ∧ (2 ≤ q.1 → q.2.1 < k) ∧ (q.1 = 5 → q.2.2.1 < 4) ∧ (6 ≤ q.1 → q.2.2.1 < k)
/-- what a step comes to, by the values before it and the symbols' types -/
def xe_v (V T : Nat → Int32) (q : Nat × Nat × Nat × Nat) : Int32 :=
  if q.1 = 0 then 1 <<< (nI q.2.1 &&& 31) else if q.1 = 1 then T q.2.1 else if q.1 = 2 then fm_listed (V q.2.1) else if q.1 = 3 then fm_un (V q.2.1) else if q.1 = 4 then V q.2.1 &&& (-9)
  else if q.1 = 5 then fm_na (V q.2.1) (nI q.2.2.1) else if q.1 = 6 then V q.2.1 ||| V q.2.2.1 else fm_sum (V q.2.1) (V q.2.2.1)
set_option maxHeartbeats 2000000 in
theorem pm_valueOf {d e M n j y tT tD : Nat} {W : Nat → Int64} {K F C P V T : Nat → Int32} {q : Nat × Nat × Nat × Nat} {S : px_S} {Q : Option Value → px_S → Prop} (hd : 3 ≤ d) (hM : M ≤ 1000) (hj : j < M) (he : xe_at S e M n W K F C P V)
    (hK : K j = nI q.1) (hF : F j = nI q.2.1) (hC : C j = nI q.2.2.1) (hq : xe_ok1 q j) (hy : S.1 y = some (.inr (7, [.ref tT, .ref tD]))) (hT : S.1 tT = some (.inl (0, 208, .inl T)))
    (k : Q (some (.int (xe_v V T q))) S) : px_M d px_m_Expression_valueOf [.ref e, .int (nI j), .ref y] S Q := by
  have he' := he
  obtain ⟨h0, h1, h2, h3, h4, h5, h6, h7⟩ := he
  obtain ⟨kd, fs, sc, pl⟩ := q
  obtain ⟨o1, o2, o3, o4, o5, o6⟩ := hq
  dsimp only at hK hF hC o1 o2 o3 o4 o5 o6 k
  refine px_M.go (by omega) (Nat.le_of_ble_eq_true rfl) ?_
  refine px_P.sn 1 (f1 := (1, [(0, .ref e), (1, .int (nI j)), (2, .ref y)], [.ref e])) (S1 := S) rfl ?_
  refine px_P.gf rfl rfl (by assumption) (v := .ref (e + 4)) rfl ?_
  refine px_P.sn 1 (f1 := (5, [(0, .ref e), (1, .int (nI j)), (2, .ref y)], [.int (nI j), .ref (e + 4)])) (S1 := S) rfl ?_
  refine px_P.ialdj (j := j) rfl (by assumption) rfl (by omega) (by omega) ?_
  refine px_P.sn 2 (f1 := (8, [(0, .ref e), (1, .int (nI j)), (2, .ref y), (3, .int (F j))], [.ref e])) (S1 := S) rfl ?_
  refine px_P.gf rfl rfl (by assumption) (v := .ref (e + 5)) rfl ?_
  refine px_P.sn 1 (f1 := (12, [(0, .ref e), (1, .int (nI j)), (2, .ref y), (3, .int (F j))], [.int (nI j), .ref (e + 5)])) (S1 := S) rfl ?_
  refine px_P.ialdj (j := j) rfl (by assumption) rfl (by omega) (by omega) ?_
  refine px_P.sn 2 (f1 := (16, [(0, .ref e), (1, .int (nI j)), (2, .ref y), (3, .int (F j)), (4, .int (C j))], [.ref e])) (S1 := S) rfl ?_
  refine px_P.gf rfl rfl (by assumption) (v := .ref (e + 3)) rfl ?_
  refine px_P.sn 1 (f1 := (20, [(0, .ref e), (1, .int (nI j)), (2, .ref y), (3, .int (F j)), (4, .int (C j))], [.int (nI j), .ref (e + 3)])) (S1 := S) rfl ?_
  refine px_P.ialdj (j := j) rfl (by assumption) rfl (by omega) (by omega) ?_
  rw [hK, hF, hC]
  show px_P _ _ (21, [(0, .ref e), (1, .int (nI j)), (2, .ref y), (3, .int ((nI fs))), (4, .int ((nI sc)))], [.int ((nI kd))]) S _
  rcases (show kd = 0 ∨ kd = 1 ∨ kd = 2 ∨ kd = 3 ∨ kd = 4 ∨ kd = 5 ∨ kd = 6 ∨ kd = 7 by omega) with rfl | rfl | rfl | rfl | rfl | rfl | rfl | rfl
  · refine px_P.sn 1 (f1 := (64, [(0, .ref e), (1, .int (nI j)), (2, .ref y), (3, .int ((nI fs))), (4, .int ((nI sc)))], [])) (S1 := S) rfl ?_
    refine px_P.sn 3 (f1 := (67, [(0, .ref e), (1, .int (nI j)), (2, .ref y), (3, .int ((nI fs))), (4, .int ((nI sc)))], [.int (1 <<< (((nI fs)) &&& 31))])) (S1 := S) rfl ?_
    refine px_P.ret rfl ?_
    exact k
  · refine px_P.sn 1 (f1 := (68, [(0, .ref e), (1, .int (nI j)), (2, .ref y), (3, .int ((nI fs))), (4, .int ((nI sc)))], [])) (S1 := S) rfl ?_
    refine px_P.sn 2 (f1 := (70, [(0, .ref e), (1, .int (nI j)), (2, .ref y), (3, .int ((nI fs))), (4, .int ((nI sc)))], [.int ((nI fs)), .ref y])) (S1 := S) rfl ?_
    refine px_P.cv rfl rfl rfl (by assumption) rfl ?_
    show px_M _ px_m_Symbols_typeOf [.ref y, .int ((nI fs))] S _
    refine pm_typeOf (by omega) hy hT (o3 rfl) ?_
    show px_P _ _ (73, [(0, .ref e), (1, .int (nI j)), (2, .ref y), (3, .int ((nI fs))), (4, .int ((nI sc)))], [.int (T fs)]) S _
    refine px_P.ret rfl ?_
    exact k
  · refine px_P.sn 1 (f1 := (74, [(0, .ref e), (1, .int (nI j)), (2, .ref y), (3, .int ((nI fs))), (4, .int ((nI sc)))], [])) (S1 := S) rfl ?_
    refine px_P.sn 2 (f1 := (76, [(0, .ref e), (1, .int (nI j)), (2, .ref y), (3, .int ((nI fs))), (4, .int ((nI sc)))], [.int ((nI fs)), .ref e])) (S1 := S) rfl ?_
    refine px_P.cv rfl rfl rfl (by assumption) rfl ?_
    show px_M _ px_m_Expression_valueAt [.ref e, .int ((nI fs))] S _
    refine pm_valueAt (by omega) hM (by have := o4 (by decide); omega) he' ?_
    show px_P _ _ (79, [(0, .ref e), (1, .int (nI j)), (2, .ref y), (3, .int ((nI fs))), (4, .int ((nI sc)))], [.int (V fs)]) S _
    refine px_P.call rfl ?_
    show px_M _ px_m_Forms_listed [.int (V fs)] S _
    refine pm_listed (by omega) ?_
    show px_P _ _ (82, [(0, .ref e), (1, .int (nI j)), (2, .ref y), (3, .int ((nI fs))), (4, .int ((nI sc)))], [.int (fm_listed (V fs))]) S _
    refine px_P.ret rfl ?_
    exact k
  · refine px_P.sn 1 (f1 := (83, [(0, .ref e), (1, .int (nI j)), (2, .ref y), (3, .int ((nI fs))), (4, .int ((nI sc)))], [])) (S1 := S) rfl ?_
    refine px_P.sn 2 (f1 := (85, [(0, .ref e), (1, .int (nI j)), (2, .ref y), (3, .int ((nI fs))), (4, .int ((nI sc)))], [.int ((nI fs)), .ref e])) (S1 := S) rfl ?_
    refine px_P.cv rfl rfl rfl (by assumption) rfl ?_
    show px_M _ px_m_Expression_valueAt [.ref e, .int ((nI fs))] S _
    refine pm_valueAt (by omega) hM (by have := o4 (by decide); omega) he' ?_
    show px_P _ _ (88, [(0, .ref e), (1, .int (nI j)), (2, .ref y), (3, .int ((nI fs))), (4, .int ((nI sc)))], [.int (V fs)]) S _
    refine px_P.call rfl ?_
    show px_M _ px_m_Forms_unlisted [.int (V fs)] S _
    refine pm_unlisted (by omega) ?_
    show px_P _ _ (91, [(0, .ref e), (1, .int (nI j)), (2, .ref y), (3, .int ((nI fs))), (4, .int ((nI sc)))], [.int (fm_un (V fs))]) S _
    refine px_P.ret rfl ?_
    exact k
  · refine px_P.sn 1 (f1 := (92, [(0, .ref e), (1, .int (nI j)), (2, .ref y), (3, .int ((nI fs))), (4, .int ((nI sc)))], [])) (S1 := S) rfl ?_
    refine px_P.sn 2 (f1 := (94, [(0, .ref e), (1, .int (nI j)), (2, .ref y), (3, .int ((nI fs))), (4, .int ((nI sc)))], [.int ((nI fs)), .ref e])) (S1 := S) rfl ?_
    refine px_P.cv rfl rfl rfl (by assumption) rfl ?_
    show px_M _ px_m_Expression_valueAt [.ref e, .int ((nI fs))] S _
    refine pm_valueAt (by omega) hM (by have := o4 (by decide); omega) he' ?_
    show px_P _ _ (97, [(0, .ref e), (1, .int (nI j)), (2, .ref y), (3, .int ((nI fs))), (4, .int ((nI sc)))], [.int (V fs)]) S _
    refine px_P.call rfl ?_
    show px_M _ px_m_Forms_withoutNil [.int (V fs)] S _
    refine pm_withoutNil (by omega) ?_
    show px_P _ _ (100, [(0, .ref e), (1, .int (nI j)), (2, .ref y), (3, .int ((nI fs))), (4, .int ((nI sc)))], [.int (V fs &&& (-9))]) S _
    refine px_P.ret rfl ?_
    exact k
  · refine px_P.sn 1 (f1 := (101, [(0, .ref e), (1, .int (nI j)), (2, .ref y), (3, .int ((nI fs))), (4, .int ((nI sc)))], [])) (S1 := S) rfl ?_
    refine px_P.sn 2 (f1 := (103, [(0, .ref e), (1, .int (nI j)), (2, .ref y), (3, .int ((nI fs))), (4, .int ((nI sc)))], [.int ((nI fs)), .ref e])) (S1 := S) rfl ?_
    refine px_P.cv rfl rfl rfl (by assumption) rfl ?_
    show px_M _ px_m_Expression_valueAt [.ref e, .int ((nI fs))] S _
    refine pm_valueAt (by omega) hM (by have := o4 (by decide); omega) he' ?_
    show px_P _ _ (106, [(0, .ref e), (1, .int (nI j)), (2, .ref y), (3, .int ((nI fs))), (4, .int ((nI sc)))], [.int (V fs)]) S _
    refine px_P.sn 1 (f1 := (108, [(0, .ref e), (1, .int (nI j)), (2, .ref y), (3, .int ((nI fs))), (4, .int ((nI sc)))], [.int ((nI sc)), .int (V fs)])) (S1 := S) rfl ?_
    refine px_P.call rfl ?_
    show px_M _ px_m_Forms_narrowed [.int (V fs), .int ((nI sc))] S _
    refine pm_narrowed (by omega) ?_
    show px_P _ _ (111, [(0, .ref e), (1, .int (nI j)), (2, .ref y), (3, .int ((nI fs))), (4, .int ((nI sc)))], [.int (fm_na (V fs) (nI sc))]) S _
    refine px_P.ret rfl ?_
    exact k
  · refine px_P.sn 1 (f1 := (112, [(0, .ref e), (1, .int (nI j)), (2, .ref y), (3, .int ((nI fs))), (4, .int ((nI sc)))], [])) (S1 := S) rfl ?_
    refine px_P.sn 2 (f1 := (114, [(0, .ref e), (1, .int (nI j)), (2, .ref y), (3, .int ((nI fs))), (4, .int ((nI sc)))], [.int ((nI fs)), .ref e])) (S1 := S) rfl ?_
    refine px_P.cv rfl rfl rfl (by assumption) rfl ?_
    show px_M _ px_m_Expression_valueAt [.ref e, .int ((nI fs))] S _
    refine pm_valueAt (by omega) hM (by have := o4 (by decide); omega) he' ?_
    show px_P _ _ (117, [(0, .ref e), (1, .int (nI j)), (2, .ref y), (3, .int ((nI fs))), (4, .int ((nI sc)))], [.int (V fs)]) S _
    refine px_P.sn 2 (f1 := (120, [(0, .ref e), (1, .int (nI j)), (2, .ref y), (3, .int ((nI fs))), (4, .int ((nI sc)))], [.int ((nI sc)), .ref e, .int (V fs)])) (S1 := S) rfl ?_
    refine px_P.cv rfl rfl rfl (by assumption) rfl ?_
    show px_M _ px_m_Expression_valueAt [.ref e, .int ((nI sc))] S _
    refine pm_valueAt (by omega) hM (by have := o6 (by decide); omega) he' ?_
    show px_P _ _ (123, [(0, .ref e), (1, .int (nI j)), (2, .ref y), (3, .int ((nI fs))), (4, .int ((nI sc)))], [.int (V sc), .int (V fs)]) S _
    refine px_P.sn 1 (f1 := (124, [(0, .ref e), (1, .int (nI j)), (2, .ref y), (3, .int ((nI fs))), (4, .int ((nI sc)))], [.int ((V fs) ||| (V sc))])) (S1 := S) rfl ?_
    refine px_P.ret rfl ?_
    exact k
  · refine px_P.sn 1 (f1 := (125, [(0, .ref e), (1, .int (nI j)), (2, .ref y), (3, .int ((nI fs))), (4, .int ((nI sc)))], [])) (S1 := S) rfl ?_
    refine px_P.sn 2 (f1 := (127, [(0, .ref e), (1, .int (nI j)), (2, .ref y), (3, .int ((nI fs))), (4, .int ((nI sc)))], [.int ((nI fs)), .ref e])) (S1 := S) rfl ?_
    refine px_P.cv rfl rfl rfl (by assumption) rfl ?_
    show px_M _ px_m_Expression_valueAt [.ref e, .int ((nI fs))] S _
    refine pm_valueAt (by omega) hM (by have := o4 (by decide); omega) he' ?_
    show px_P _ _ (130, [(0, .ref e), (1, .int (nI j)), (2, .ref y), (3, .int ((nI fs))), (4, .int ((nI sc)))], [.int (V fs)]) S _
    refine px_P.sn 2 (f1 := (133, [(0, .ref e), (1, .int (nI j)), (2, .ref y), (3, .int ((nI fs))), (4, .int ((nI sc)))], [.int ((nI sc)), .ref e, .int (V fs)])) (S1 := S) rfl ?_
    refine px_P.cv rfl rfl rfl (by assumption) rfl ?_
    show px_M _ px_m_Expression_valueAt [.ref e, .int ((nI sc))] S _
    refine pm_valueAt (by omega) hM (by have := o6 (by decide); omega) he' ?_
    show px_P _ _ (136, [(0, .ref e), (1, .int (nI j)), (2, .ref y), (3, .int ((nI fs))), (4, .int ((nI sc)))], [.int (V sc), .int (V fs)]) S _
    refine px_P.call rfl ?_
    show px_M _ px_m_Forms_sum [.int (V fs), .int (V sc)] S _
    refine pm_sum (by omega) ?_
    show px_P _ _ (139, [(0, .ref e), (1, .int (nI j)), (2, .ref y), (3, .int ((nI fs))), (4, .int ((nI sc)))], [.int (fm_sum (V fs) (V sc))]) S _
    refine px_P.ret rfl ?_
    exact k
