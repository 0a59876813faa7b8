/-! ===== the roads to what the class throws: type, undo ===== -/
theorem pt_type {d x lo : Nat} {ty : List Nat} {tt : Nat → List Nat} {hh : List (Nat × List Nat)} {v1 v2 v3 v4 v5 : Int32} {S : px_S} (hd : 1 ≤ d) (h : dI S x lo ty tt hh) (hl : ¬ (ty ++ typ v1 v2 v3 v4 v5).length ≤ 60) : px_T d px_m_Daemon_type (0, [(0, .ref x), (1, .int v1), (2, .int v2), (3, .int v3), (4, .int v4), (5, .int v5)], []) S (toX 40 S) := by
  obtain ⟨f, T, D, lk, wt, to, ls, df, hp, la, hi, tW, H, tz, ds, cc, sc, old, G, a1, a2, a3, ar⟩ := h
  have c0 := a1.1
  have l1 := ch4_len v1
  have l2 := ch4_len v2
  have l3 := ch4_len v3
  have l4 := ch4_len v4
  have l5 := ch4_len v5
  have ht := a2.1
  have hsum : (typ v1 v2 v3 v4 v5).length = (ch4 v1).length + (ch4 v2).length + (ch4 v3).length + (ch4 v4).length + (ch4 v5).length := by
    unfold typ
    simp only [List.length_append]
    omega
  rw [List.length_append] at hl
  refine px_T.sn 1 (f1 := (1, [(0, .ref x), (1, .int v1), (2, .int v2), (3, .int v3), (4, .int v4), (5, .int v5)], [.int v1])) (S1 := S) rfl ?_
  refine px_T.call rfl ?_
  show px_M _ px_m_Daemon_charactersIn [.int v1] S _
  refine pm_dmChars hd ?_
  show px_T _ _ (4, [(0, .ref x), (1, .int v1), (2, .int v2), (3, .int v3), (4, .int v4), (5, .int v5)], [.int (nI (ch4 v1).length)]) S _
  refine px_T.sn 1 (f1 := (5, [(0, .ref x), (1, .int v1), (2, .int v2), (3, .int v3), (4, .int v4), (5, .int v5)], [.int v2, .int (nI (ch4 v1).length)])) (S1 := S) rfl ?_
  refine px_T.call rfl ?_
  show px_M _ px_m_Daemon_charactersIn [.int v2] S _
  refine pm_dmChars hd ?_
  show px_T _ _ (8, [(0, .ref x), (1, .int v1), (2, .int v2), (3, .int v3), (4, .int v4), (5, .int v5)], [.int (nI (ch4 v2).length), .int (nI (ch4 v1).length)]) S _
  refine px_T.sn 1 (f1 := (9, [(0, .ref x), (1, .int v1), (2, .int v2), (3, .int v3), (4, .int v4), (5, .int v5)], [.int ((nI (ch4 v1).length) + (nI (ch4 v2).length))])) (S1 := S) rfl ?_
  rw [nI_add]
  refine px_T.sn 1 (f1 := (10, [(0, .ref x), (1, .int v1), (2, .int v2), (3, .int v3), (4, .int v4), (5, .int v5)], [.int v3, .int (nI ((ch4 v1).length + (ch4 v2).length))])) (S1 := S) rfl ?_
  refine px_T.call rfl ?_
  show px_M _ px_m_Daemon_charactersIn [.int v3] S _
  refine pm_dmChars hd ?_
  show px_T _ _ (13, [(0, .ref x), (1, .int v1), (2, .int v2), (3, .int v3), (4, .int v4), (5, .int v5)], [.int (nI (ch4 v3).length), .int (nI ((ch4 v1).length + (ch4 v2).length))]) S _
  refine px_T.sn 1 (f1 := (14, [(0, .ref x), (1, .int v1), (2, .int v2), (3, .int v3), (4, .int v4), (5, .int v5)], [.int ((nI ((ch4 v1).length + (ch4 v2).length)) + (nI (ch4 v3).length))])) (S1 := S) rfl ?_
  rw [nI_add]
  refine px_T.sn 1 (f1 := (16, [(0, .ref x), (1, .int v1), (2, .int v2), (3, .int v3), (4, .int v4), (5, .int v5)], [.int v4, .int (nI ((ch4 v1).length + (ch4 v2).length + (ch4 v3).length))])) (S1 := S) rfl ?_
  refine px_T.call rfl ?_
  show px_M _ px_m_Daemon_charactersIn [.int v4] S _
  refine pm_dmChars hd ?_
  show px_T _ _ (19, [(0, .ref x), (1, .int v1), (2, .int v2), (3, .int v3), (4, .int v4), (5, .int v5)], [.int (nI (ch4 v4).length), .int (nI ((ch4 v1).length + (ch4 v2).length + (ch4 v3).length))]) S _
  refine px_T.sn 1 (f1 := (20, [(0, .ref x), (1, .int v1), (2, .int v2), (3, .int v3), (4, .int v4), (5, .int v5)], [.int ((nI ((ch4 v1).length + (ch4 v2).length + (ch4 v3).length)) + (nI (ch4 v4).length))])) (S1 := S) rfl ?_
  rw [nI_add]
  refine px_T.sn 1 (f1 := (22, [(0, .ref x), (1, .int v1), (2, .int v2), (3, .int v3), (4, .int v4), (5, .int v5)], [.int v5, .int (nI ((ch4 v1).length + (ch4 v2).length + (ch4 v3).length + (ch4 v4).length))])) (S1 := S) rfl ?_
  refine px_T.call rfl ?_
  show px_M _ px_m_Daemon_charactersIn [.int v5] S _
  refine pm_dmChars hd ?_
  show px_T _ _ (25, [(0, .ref x), (1, .int v1), (2, .int v2), (3, .int v3), (4, .int v4), (5, .int v5)], [.int (nI (ch4 v5).length), .int (nI ((ch4 v1).length + (ch4 v2).length + (ch4 v3).length + (ch4 v4).length))]) S _
  refine px_T.sn 1 (f1 := (26, [(0, .ref x), (1, .int v1), (2, .int v2), (3, .int v3), (4, .int v4), (5, .int v5)], [.int ((nI ((ch4 v1).length + (ch4 v2).length + (ch4 v3).length + (ch4 v4).length)) + (nI (ch4 v5).length))])) (S1 := S) rfl ?_
  rw [nI_add]
  generalize hN : (ch4 v1).length + (ch4 v2).length + (ch4 v3).length + (ch4 v4).length + (ch4 v5).length = N at *
  refine px_T.sn 2 (f1 := (29, [(0, .ref x), (1, .int v1), (2, .int v2), (3, .int v3), (4, .int v4), (5, .int v5), (6, .int (nI N))], [.ref x])) (S1 := S) rfl ?_
  refine px_T.gf rfl rfl (by assumption) (v := .int (nI ty.length)) rfl ?_
  refine px_T.sn 3 (f1 := (37, [(0, .ref x), (1, .int v1), (2, .int v2), (3, .int v3), (4, .int v4), (5, .int v5), (6, .int (nI N))], [.int 60, .int ((nI ty.length) + (nI N))])) (S1 := S) rfl ?_
  rw [nI_add]
  refine px_T.ic_le rfl rfl (fun h => absurd h (nI_ge (a := 60) (by omega) (by omega))) (fun _ => ?_)
  exact px_T.fin ⟨rfl, rfl, rfl⟩
theorem pt_undo {d x lo : Nat} {ty : List Nat} {tt : Nat → List Nat} {S : px_S} (hd : 1 ≤ d) (h : dI S x lo ty tt []) : px_T d px_m_Daemon_undo (0, [(0, .ref x)], []) S (toX 10 S) := by
  obtain ⟨f, T, D, lk, wt, to, ls, df, hp, la, hi, tW, H, tz, ds, cc, sc, old, G, a1, a2, a3, a4, a5, a6, ar⟩ := h
  have c0 := a1.1
  have h0 := a6.1
  refine px_T.sn 1 (f1 := (1, [(0, .ref x)], [.ref x])) (S1 := S) rfl ?_
  refine px_T.gf rfl rfl (by assumption) (v := .ref (x + 432)) rfl ?_
  refine px_T.cv rfl rfl rfl (by assumption) rfl ?_
  show px_M _ px_m_History_size [.ref (x + 432)] S _
  refine pm_hiSize hd a6 ?_
  show px_T _ _ (7, [(0, .ref x)], [.int (nI 0)]) S _
  show px_T _ _ (7, [(0, .ref x)], [.int (nI 0)]) S _
  refine px_T.if_ne rfl rfl (fun h => absurd ((by decide)) h) (fun _ => ?_)
  exact px_T.fin ⟨rfl, rfl, rfl⟩
/-! what is looked at is the same on both sides -/
theorem lk_un {L : Nat → Option ln_S} {p0 : Nat} {I R R' : Nat → Prop} {P P' : Nat → Bool} (h : lk_is L p0 I (fun p => P p = true) R) (h' : lk_is L p0 I (fun p => P' p = true) R') : ct P 96 = ct P' 96 := by
  refine ct_congr (fun p hp => Bool.eq_iff_iff.mpr ⟨fun w => ?_, fun w => ?_⟩)
  · exact (h.2.2.2 _ _ h'.2.2.1 h'.1 h'.2.1).1 p hp w
  · exact (h'.2.2.2 _ _ h.2.2.1 h.1 h.2.1).1 p hp w
