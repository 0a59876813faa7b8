/-! ===== the model: what is found in a line is brought in order ===== -/
def hS (S0 S : px_S) (m : Nat) (q : Nat → Int32) (A0 A : Nat → Nat → Int32) (FL : fl_T) (t : Int32) : Prop := mo_at S m (mq2 q (nI FL.length) t) A ∧ mF S0 S m ∧ fl A FL ∧ ∀ i, i ≠ 15 → i ≠ 16 → i ≠ 17 → i ≠ 25 → A i = A0 i
theorem get_z {α : Type} (W : List α) (z : α) (X : List α) : (W ++ z :: X)[W.length]? = some z := by
  rw [List.getElem?_append_right (Nat.le_refl _), Nat.sub_self]
  rfl
theorem get_y {α : Type} (W : List α) (z y : α) (X : List α) : (W ++ z :: y :: X)[W.length + 1]? = some y := by
  rw [List.getElem?_append_right (by omega), show W.length + 1 - W.length = 1 by omega]
  rfl
theorem fl_sw {A A' : Nat → Nat → Int32} {W X : fl_T} {z y : Nat × Nat × Int32} (h : fl A (W ++ z :: y :: X)) (e : z.1 = y.1) (e15 : A' 15 = A 15) (e16 : A' 16 = upd (upd (A 16) (W.length + 1) (nI z.2.1)) W.length (nI y.2.1)) (e17 : A' 17 = upd (upd (A 17) (W.length + 1) z.2.2) W.length y.2.2) : fl A' (W ++ y :: z :: X) := by
  intro k x hx
  rw [e15, e16, e17]
  by_cases h1 : k = W.length
  · subst h1
    rw [get_z] at hx
    cases hx
    rw [pk_us, pk_us]
    exact ⟨by rw [(h _ z (get_z W z _)).1, e], rfl, rfl⟩
  · by_cases h2 : k = W.length + 1
    · subst h2
      rw [get_y] at hx
      cases hx
      rw [pk_un (k := W.length) (by omega), pk_us, pk_un (k := W.length) (by omega), pk_us]
      exact ⟨by rw [(h _ y (get_y W z y _)).1, ← e], rfl, rfl⟩
    · rw [pk_un h1, pk_un h2, pk_un h1, pk_un h2]
      refine h k x ?_
      by_cases h3 : k < W.length
      · rw [List.getElem?_append_left h3] at hx ⊢
        exact hx
      · rw [List.getElem?_append_right (by omega)] at hx ⊢
        obtain ⟨j, hj⟩ : ∃ j, k - W.length = j + 2 := ⟨k - W.length - 2, by omega⟩
        rw [hj] at hx ⊢
        exact hx
set_option maxRecDepth 20000 in
theorem jd_in {d m p : Nat} {t ov kk : Int32} {q : Nat → Int32} {A0 : Nat → Nat → Int32} {P Rest : fl_T} {S0 : px_S} {Q : Option Value → px_S → Prop} {y : Nat × Nat × Int32} (hy : okx y) (hyp : y.1 = p) : ∀ (Lr R : fl_T) (S : px_S) (A : Nat → Nat → Int32), hS S0 S m q A0 A (P ++ ((Lr.reverse ++ y :: R) ++ Rest)) t → (∀ x, x ∈ Lr → okx x ∧ x.1 = p) → (Lr.reverse ++ R).Pairwise (fun a b => ky a ≤ ky b) → (∀ r, r ∈ R → ky y ≤ ky r) → (P ++ ((Lr.reverse ++ y :: R) ++ Rest)).length ≤ 6000 →
    (∀ S' A' V, hS S0 S' m q A0 A' (P ++ (V ++ Rest)) t → V.Pairwise (fun a b => ky a ≤ ky b) → V.Perm (Lr.reverse ++ y :: R) → px_P d px_m_Model_judge (243, [(0, .ref m), (1, .int (nI p)), (2, .int (nI P.length)), (3, .int ov), (4, .int kk)], []) S' Q) →
    px_P d px_m_Model_judge (116, [(0, .ref m), (1, .int (nI p)), (2, .int (nI P.length)), (3, .int ov), (4, .int kk), (5, .int (nI (P.length + Lr.length)))], []) S Q := by
  intro Lr
  induction Lr with
  | nil =>
    intro R S A h h1 h2 h3 h4 k
    show px_P _ _ (116, [(0, .ref m), (1, .int (nI p)), (2, .int (nI P.length)), (3, .int ov), (4, .int kk), (5, .int (nI (P.length + 0)))], []) S _
    refine px_P.sn 2 (f1 := (119, [(0, .ref m), (1, .int (nI p)), (2, .int (nI P.length)), (3, .int ov), (4, .int kk), (5, .int (nI (P.length + 0)))], [.int (nI P.length), .int (nI (P.length + 0))])) (S1 := S) rfl ?_
    refine px_P.ic_le rfl rfl (fun _ => ?_) (fun h => absurd (Int32.le_refl _) h)
    show px_P _ _ (243, [(0, .ref m), (1, .int (nI p)), (2, .int (nI P.length)), (3, .int ov), (4, .int kk), (5, .int (nI (P.length + 0)))], []) S _
    refine px_P.wk (ls := [(0, .ref m), (1, .int (nI p)), (2, .int (nI P.length)), (3, .int ov), (4, .int kk)]) rfl (.cons_cons _ (.cons_cons _ (.cons_cons _ (.cons_cons _ (.cons_cons _ (.cons _ .slnil)))))) ?_
    exact k S A (y :: R) h (srt_ins (Lr := []) h2 h3 (fun z Lr' e => by cases e)) (List.Perm.refl _)
  | cons z Lr ih =>
    intro R S A h h1 h2 h3 h4 k
    obtain ⟨hz, hzp⟩ := h1 z List.mem_cons_self
    have eW : P ++ (((z :: Lr).reverse ++ y :: R) ++ Rest) = (P ++ Lr.reverse) ++ z :: y :: (R ++ Rest) := by simp
    have eW2 : P ++ ((Lr.reverse ++ y :: z :: R) ++ Rest) = (P ++ Lr.reverse) ++ y :: z :: (R ++ Rest) := by simp
    have hwl : (P ++ Lr.reverse).length = P.length + Lr.length := by simp
    have hl : (P ++ (((z :: Lr).reverse ++ y :: R) ++ Rest)).length = (P ++ ((Lr.reverse ++ y :: z :: R) ++ Rest)).length := by simp
    have hf := h.2.2.1
    have hlen := h4
    rw [eW] at hf hlen
    simp only [List.length_append, List.length_cons] at hlen
    have gz := hf _ z (get_z _ _ _)
    have gy := hf _ y (get_y _ _ _ _)
    have hlr : Lr.reverse.length = Lr.length := List.length_reverse
    rw [hwl] at gz gy
    have kz := ky_nI hz
    have kyy := ky_nI hy
    generalize hw : P.length + Lr.length = w at *
    generalize hN : (P ++ (((z :: Lr).reverse ++ y :: R) ++ Rest)).length = N at *
    have c0 : S.1 m = some (.inr (10, mo_ob m (mq2 q (nI N) t))) := by rw [← hN]; exact h.1.1
    have r16 : S.1 (m + 16) = some (.inl (0, 6000, .inl (A 16))) := h.1.2 16 (by decide) (by decide)
    have r17 : S.1 (m + 17) = some (.inl (0, 6000, .inl (A 17))) := h.1.2 17 (by decide) (by decide)
    have e5 : P.length + (z :: Lr).length = w + 1 := by rw [List.length_cons]; omega
    rw [e5]
    show px_P _ _ (116, [(0, .ref m), (1, .int (nI p)), (2, .int (nI P.length)), (3, .int ov), (4, .int kk), (5, .int (nI (w + 1)))], []) S _
    refine px_P.sn 2 (f1 := (119, [(0, .ref m), (1, .int (nI p)), (2, .int (nI P.length)), (3, .int ov), (4, .int kk), (5, .int (nI (w + 1)))], [.int (nI P.length), .int (nI (w + 1))])) (S1 := S) rfl ?_
    refine px_P.ic_le rfl rfl (fun h => absurd h (nI_ge (by omega) (by omega))) (fun _ => ?_)
    refine px_P.sn 2 (f1 := (125, [(0, .ref m), (1, .int (nI p)), (2, .int (nI P.length)), (3, .int ov), (4, .int kk), (5, .int (nI (w + 1)))], [.ref m, .int 8])) (S1 := S) rfl ?_
    refine px_P.gf rfl rfl (by assumption) (v := .ref (m + 16)) rfl ?_
    refine px_P.sn 1 (f1 := (130, [(0, .ref m), (1, .int (nI p)), (2, .int (nI P.length)), (3, .int ov), (4, .int kk), (5, .int (nI (w + 1)))], [.int (nI (w + 1)), .ref (m + 16), .int 8])) (S1 := S) rfl ?_
    refine px_P.ialdj (j := w + 1) rfl (by assumption) rfl (by omega) (by decide) ?_
    rw [gy.2.1]
    refine px_P.sn 2 (f1 := (133, [(0, .ref m), (1, .int (nI p)), (2, .int (nI P.length)), (3, .int ov), (4, .int kk), (5, .int (nI (w + 1)))], [.ref m, .int (8 * (nI y.2.1))])) (S1 := S) rfl ?_
    refine px_P.gf rfl rfl (by assumption) (v := .ref (m + 17)) rfl ?_
    refine px_P.sn 1 (f1 := (138, [(0, .ref m), (1, .int (nI p)), (2, .int (nI P.length)), (3, .int ov), (4, .int kk), (5, .int (nI (w + 1)))], [.int (nI (w + 1)), .ref (m + 17), .int (8 * (nI y.2.1))])) (S1 := S) rfl ?_
    refine px_P.ialdj (j := w + 1) rfl (by assumption) rfl (by omega) (by decide) ?_
    rw [gy.2.2]
    refine px_P.sn 3 (f1 := (143, [(0, .ref m), (1, .int (nI p)), (2, .int (nI P.length)), (3, .int ov), (4, .int kk), (5, .int (nI (w + 1)))], [.ref m, .int 8, .int ((8 * (nI y.2.1)) + y.2.2)])) (S1 := S) rfl ?_
    refine px_P.gf rfl rfl (by assumption) (v := .ref (m + 16)) rfl ?_
    refine px_P.sn 3 (f1 := (150, [(0, .ref m), (1, .int (nI p)), (2, .int (nI P.length)), (3, .int ov), (4, .int kk), (5, .int (nI (w + 1)))], [.int ((nI (w + 1)) - 1), .ref (m + 16), .int 8, .int ((8 * (nI y.2.1)) + y.2.2)])) (S1 := S) rfl ?_
    rw [nI_pred, kyy.1]
    show px_P _ _ (150, [(0, .ref m), (1, .int (nI p)), (2, .int (nI P.length)), (3, .int ov), (4, .int kk), (5, .int (nI (w + 1)))], [.int (nI w), .ref (m + 16), .int 8, .int (nI (ky y))]) S _
    refine px_P.ialdj (j := w) rfl (by assumption) rfl (by omega) (by decide) ?_
    rw [gz.2.1]
    refine px_P.sn 2 (f1 := (153, [(0, .ref m), (1, .int (nI p)), (2, .int (nI P.length)), (3, .int ov), (4, .int kk), (5, .int (nI (w + 1)))], [.ref m, .int (8 * (nI z.2.1)), .int (nI (ky y))])) (S1 := S) rfl ?_
    refine px_P.gf rfl rfl (by assumption) (v := .ref (m + 17)) rfl ?_
    refine px_P.sn 3 (f1 := (160, [(0, .ref m), (1, .int (nI p)), (2, .int (nI P.length)), (3, .int ov), (4, .int kk), (5, .int (nI (w + 1)))], [.int ((nI (w + 1)) - 1), .ref (m + 17), .int (8 * (nI z.2.1)), .int (nI (ky y))])) (S1 := S) rfl ?_
    rw [nI_pred]
    show px_P _ _ (160, [(0, .ref m), (1, .int (nI p)), (2, .int (nI P.length)), (3, .int ov), (4, .int kk), (5, .int (nI (w + 1)))], [.int (nI w), .ref (m + 17), .int (8 * (nI z.2.1)), .int (nI (ky y))]) S _
    refine px_P.ialdj (j := w) rfl (by assumption) rfl (by omega) (by decide) ?_
    rw [gz.2.2]
    refine px_P.sn 1 (f1 := (162, [(0, .ref m), (1, .int (nI p)), (2, .int (nI P.length)), (3, .int ov), (4, .int kk), (5, .int (nI (w + 1)))], [.int ((8 * (nI z.2.1)) + z.2.2), .int (nI (ky y))])) (S1 := S) rfl ?_
    rw [kz.1]
    by_cases hc : ky y < ky z
    · refine px_P.ic_ge rfl rfl (fun h => absurd h (nI_ge hc (by omega))) (fun _ => ?_)
      refine px_P.sn 1 (f1 := (166, [(0, .ref m), (1, .int (nI p)), (2, .int (nI P.length)), (3, .int ov), (4, .int kk), (5, .int (nI (w + 1)))], [.ref m])) (S1 := S) rfl ?_
      refine px_P.gf rfl rfl (by assumption) (v := .ref (m + 16)) rfl ?_
      refine px_P.sn 1 (f1 := (171, [(0, .ref m), (1, .int (nI p)), (2, .int (nI P.length)), (3, .int ov), (4, .int kk), (5, .int (nI (w + 1)))], [.int (nI (w + 1)), .ref (m + 16)])) (S1 := S) rfl ?_
      refine px_P.ialdj (j := w + 1) rfl (by assumption) rfl (by omega) (by decide) ?_
      rw [gy.2.1]
      refine px_P.sn 2 (f1 := (175, [(0, .ref m), (1, .int (nI p)), (2, .int (nI P.length)), (3, .int ov), (4, .int kk), (5, .int (nI (w + 1))), (6, .int (nI y.2.1))], [.ref m])) (S1 := S) rfl ?_
      refine px_P.gf rfl rfl (by assumption) (v := .ref (m + 17)) rfl ?_
      refine px_P.sn 1 (f1 := (180, [(0, .ref m), (1, .int (nI p)), (2, .int (nI P.length)), (3, .int ov), (4, .int kk), (5, .int (nI (w + 1))), (6, .int (nI y.2.1))], [.int (nI (w + 1)), .ref (m + 17)])) (S1 := S) rfl ?_
      refine px_P.ialdj (j := w + 1) rfl (by assumption) rfl (by omega) (by decide) ?_
      rw [gy.2.2]
      refine px_P.sn 2 (f1 := (184, [(0, .ref m), (1, .int (nI p)), (2, .int (nI P.length)), (3, .int ov), (4, .int kk), (5, .int (nI (w + 1))), (6, .int (nI y.2.1)), (7, .int y.2.2)], [.ref m])) (S1 := S) rfl ?_
      refine px_P.gf rfl rfl (by assumption) (v := .ref (m + 16)) rfl ?_
      refine px_P.sn 2 (f1 := (190, [(0, .ref m), (1, .int (nI p)), (2, .int (nI P.length)), (3, .int ov), (4, .int kk), (5, .int (nI (w + 1))), (6, .int (nI y.2.1)), (7, .int y.2.2)], [.ref m, .int (nI (w + 1)), .ref (m + 16)])) (S1 := S) rfl ?_
      refine px_P.gf rfl rfl (by assumption) (v := .ref (m + 16)) rfl ?_
      refine px_P.sn 3 (f1 := (197, [(0, .ref m), (1, .int (nI p)), (2, .int (nI P.length)), (3, .int ov), (4, .int kk), (5, .int (nI (w + 1))), (6, .int (nI y.2.1)), (7, .int y.2.2)], [.int ((nI (w + 1)) - 1), .ref (m + 16), .int (nI (w + 1)), .ref (m + 16)])) (S1 := S) rfl ?_
      rw [nI_pred]
      show px_P _ _ (197, [(0, .ref m), (1, .int (nI p)), (2, .int (nI P.length)), (3, .int ov), (4, .int kk), (5, .int (nI (w + 1))), (6, .int (nI y.2.1)), (7, .int y.2.2)], [.int (nI w), .ref (m + 16), .int (nI (w + 1)), .ref (m + 16)]) S _
      refine px_P.ialdj (j := w) rfl (by assumption) rfl (by omega) (by decide) ?_
      rw [gz.2.1]
      refine px_P.iastj (j := w + 1) rfl (by assumption) rfl (by omega) (by decide) (fun S1 u1 => ?_)
      have g1 := h.1.ar (i := 16) (by decide) (by decide) u1
      have c1 : S1.1 m = some (.inr (10, mo_ob m (mq2 q (nI N) t))) := by rw [← hN]; exact g1.1
      have r17b : S1.1 (m + 17) = some (.inl (0, 6000, .inl (A 17))) := g1.2 17 (by decide) (by decide)
      refine px_P.sn 1 (f1 := (200, [(0, .ref m), (1, .int (nI p)), (2, .int (nI P.length)), (3, .int ov), (4, .int kk), (5, .int (nI (w + 1))), (6, .int (nI y.2.1)), (7, .int y.2.2)], [.ref m])) (S1 := S1) rfl ?_
      refine px_P.gf rfl rfl (by assumption) (v := .ref (m + 17)) rfl ?_
      refine px_P.sn 2 (f1 := (206, [(0, .ref m), (1, .int (nI p)), (2, .int (nI P.length)), (3, .int ov), (4, .int kk), (5, .int (nI (w + 1))), (6, .int (nI y.2.1)), (7, .int y.2.2)], [.ref m, .int (nI (w + 1)), .ref (m + 17)])) (S1 := S1) rfl ?_
      refine px_P.gf rfl rfl (by assumption) (v := .ref (m + 17)) rfl ?_
      refine px_P.sn 3 (f1 := (213, [(0, .ref m), (1, .int (nI p)), (2, .int (nI P.length)), (3, .int ov), (4, .int kk), (5, .int (nI (w + 1))), (6, .int (nI y.2.1)), (7, .int y.2.2)], [.int ((nI (w + 1)) - 1), .ref (m + 17), .int (nI (w + 1)), .ref (m + 17)])) (S1 := S1) rfl ?_
      rw [nI_pred]
      show px_P _ _ (213, [(0, .ref m), (1, .int (nI p)), (2, .int (nI P.length)), (3, .int ov), (4, .int kk), (5, .int (nI (w + 1))), (6, .int (nI y.2.1)), (7, .int y.2.2)], [.int (nI w), .ref (m + 17), .int (nI (w + 1)), .ref (m + 17)]) S1 _
      refine px_P.ialdj (j := w) rfl (by assumption) rfl (by omega) (by decide) ?_
      rw [gz.2.2]
      refine px_P.iastj (j := w + 1) rfl (by assumption) rfl (by omega) (by decide) (fun S2 u2 => ?_)
      have g2 := g1.ar (i := 17) (by decide) (by decide) u2
      have c2 : S2.1 m = some (.inr (10, mo_ob m (mq2 q (nI N) t))) := by rw [← hN]; exact g2.1
      have r16b : S2.1 (m + 16) = some (.inl (0, 6000, .inl (upd (A 16) (w + 1) (nI z.2.1)))) := g2.2 16 (by decide) (by decide)
      refine px_P.sn 1 (f1 := (216, [(0, .ref m), (1, .int (nI p)), (2, .int (nI P.length)), (3, .int ov), (4, .int kk), (5, .int (nI (w + 1))), (6, .int (nI y.2.1)), (7, .int y.2.2)], [.ref m])) (S1 := S2) rfl ?_
      refine px_P.gf rfl rfl (by assumption) (v := .ref (m + 16)) rfl ?_
      refine px_P.sn 4 (f1 := (225, [(0, .ref m), (1, .int (nI p)), (2, .int (nI P.length)), (3, .int ov), (4, .int kk), (5, .int (nI (w + 1))), (6, .int (nI y.2.1)), (7, .int y.2.2)], [.int (nI y.2.1), .int ((nI (w + 1)) - 1), .ref (m + 16)])) (S1 := S2) rfl ?_
      rw [nI_pred]
      show px_P _ _ (225, [(0, .ref m), (1, .int (nI p)), (2, .int (nI P.length)), (3, .int ov), (4, .int kk), (5, .int (nI (w + 1))), (6, .int (nI y.2.1)), (7, .int y.2.2)], [.int (nI y.2.1), .int (nI w), .ref (m + 16)]) S2 _
      refine px_P.iastj (j := w) rfl (by assumption) rfl (by omega) (by decide) (fun S3 u3 => ?_)
      have g3 := g2.ar (i := 16) (by decide) (by decide) u3
      have c3 : S3.1 m = some (.inr (10, mo_ob m (mq2 q (nI N) t))) := by rw [← hN]; exact g3.1
      have r17c : S3.1 (m + 17) = some (.inl (0, 6000, .inl (upd (A 17) (w + 1) z.2.2))) := g3.2 17 (by decide) (by decide)
      refine px_P.sn 1 (f1 := (227, [(0, .ref m), (1, .int (nI p)), (2, .int (nI P.length)), (3, .int ov), (4, .int kk), (5, .int (nI (w + 1))), (6, .int (nI y.2.1)), (7, .int y.2.2)], [.ref m])) (S1 := S3) rfl ?_
      refine px_P.gf rfl rfl (by assumption) (v := .ref (m + 17)) rfl ?_
      refine px_P.sn 4 (f1 := (236, [(0, .ref m), (1, .int (nI p)), (2, .int (nI P.length)), (3, .int ov), (4, .int kk), (5, .int (nI (w + 1))), (6, .int (nI y.2.1)), (7, .int y.2.2)], [.int y.2.2, .int ((nI (w + 1)) - 1), .ref (m + 17)])) (S1 := S3) rfl ?_
      rw [nI_pred]
      show px_P _ _ (236, [(0, .ref m), (1, .int (nI p)), (2, .int (nI P.length)), (3, .int ov), (4, .int kk), (5, .int (nI (w + 1))), (6, .int (nI y.2.1)), (7, .int y.2.2)], [.int y.2.2, .int (nI w), .ref (m + 17)]) S3 _
      refine px_P.iastj (j := w) rfl (by assumption) rfl (by omega) (by decide) (fun S4 u4 => ?_)
      have g4 := g3.ar (i := 17) (by decide) (by decide) u4
      refine px_P.sn 2 (f1 := (116, [(0, .ref m), (1, .int (nI p)), (2, .int (nI P.length)), (3, .int ov), (4, .int kk), (5, .int ((nI (w + 1)) + (-1))), (6, .int (nI y.2.1)), (7, .int y.2.2)], [])) (S1 := S4) rfl ?_
      show px_P _ _ (116, [(0, .ref m), (1, .int (nI p)), (2, .int (nI P.length)), (3, .int ov), (4, .int kk), (5, .int ((nI (w + 1)) + (-1))), (6, .int (nI y.2.1)), (7, .int y.2.2)], []) S4 _
      refine px_P.wk (ls := [(0, .ref m), (1, .int (nI p)), (2, .int (nI P.length)), (3, .int ov), (4, .int kk), (5, .int ((nI (w + 1)) + (-1)))]) rfl (.cons_cons _ (.cons_cons _ (.cons_cons _ (.cons_cons _ (.cons_cons _ (.cons_cons _ (.cons _ (.cons _ .slnil)))))))) ?_
      rw [pk_m1]
      obtain ⟨A4, eA4⟩ : ∃ A4, A4 = va_up (va_up (va_up (va_up A 16 (upd (A 16) (w + 1) (nI z.2.1))) 17 (upd (A 17) (w + 1) z.2.2)) 16 (upd (upd (A 16) (w + 1) (nI z.2.1)) w (nI y.2.1))) 17 (upd (upd (A 17) (w + 1) z.2.2) w y.2.2) := ⟨_, rfl⟩
      have g5 : mo_at S4 m (mq2 q (nI N) t) A4 := by rw [eA4, ← hN]; exact g4
      refine ih (z :: R) S4 A4 ⟨?_, (h.2.1.tr (mF.u (by omega) (by omega) u1)).tr ((mF.u (by omega) (by omega) u2).tr ((mF.u (by omega) (by omega) u3).tr (mF.u (by omega) (by omega) u4))), ?_, fun i e1 e2 e3 e4 => ?_⟩ (fun x hx => h1 x (List.mem_cons_of_mem _ hx)) ?_ (fun r hr => ?_) (by omega) (fun S' A' V f1 f2 f3 => k S' A' V f1 f2 (f3.trans ?_))
      · rw [← hl]
        exact g5
      · rw [eW2]
        refine fl_sw hf (by rw [hzp, hyp]) ?_ ?_ ?_
        · rw [eA4]; rfl
        · rw [hwl, eA4]; rfl
        · rw [hwl, eA4]; rfl
      · rw [eA4, va_un e3, va_un e2, va_un e3, va_un e2]
        exact h.2.2.2 i e1 e2 e3 e4
      · have : (z :: Lr).reverse ++ R = Lr.reverse ++ z :: R := by simp
        rw [← this]; exact h2
      · rcases List.mem_cons.mp hr with e | e
        · rw [e]; omega
        · exact h3 r e
      · have : (z :: Lr).reverse ++ y :: R = Lr.reverse ++ z :: y :: R := by simp
        rw [this]
        exact List.Perm.append_left _ (List.Perm.swap _ _ _)
    · refine px_P.ic_ge rfl rfl (fun _ => ?_) (fun h => absurd (nI_le (by omega) (by omega)) h)
      show px_P _ _ (243, [(0, .ref m), (1, .int (nI p)), (2, .int (nI P.length)), (3, .int ov), (4, .int kk), (5, .int (nI (w + 1)))], []) S _
      refine px_P.wk (ls := [(0, .ref m), (1, .int (nI p)), (2, .int (nI P.length)), (3, .int ov), (4, .int kk)]) rfl (.cons_cons _ (.cons_cons _ (.cons_cons _ (.cons_cons _ (.cons_cons _ (.cons _ .slnil)))))) ?_
      exact k S A _ h (srt_ins h2 h3 (fun z' Lr' e => by cases e; omega)) (List.Perm.refl _)
