/-! ===== the model's calls: put, undo, drop ===== -/
theorem in_ok {a b : Nat} (h : a ≤ b) (hb : b < 2 ^ 31) : (decide ((0 : Int32) ≤ nI a) && decide (nI a ≤ nI b)) = true := by
  rw [decide_eq_true (nI_pos' (by omega)), decide_eq_true (nI_le h hb)]
  rfl
theorem blk_ty {ty : List Nat} (h : tyo ty) : tyo (if blk ty = true then [] else ty) := by
  split
  · exact ⟨Nat.zero_le _, fun c hc => (by cases hc)⟩
  · exact h
set_option maxHeartbeats 1000000 in
theorem pm_mmPut {d m mo l : Nat} {ty : List Nat} {tt : Nat → List Nat} {hh : List (Nat × List Nat)} {S : px_S} {Q : Option Value → px_S → Prop} (hd : 9 ≤ d) (h : mI S m ty tt hh) (hm : mo < 8) (hl : l < 12)
    (k : ∀ S' (P : Nat → Bool) R, mI S' m [] (va_up tt (12 * mo + l) (if blk ty then [] else ty)) (hK hh (12 * mo + l, tt (12 * mo + l))) → mf S' m 0 → mF S S' m → lk_is (sL (va_up tt (12 * mo + l) (if blk ty then [] else ty))) (12 * mo + l) (fun t => dfb (sL tt) (12 * mo + l) t = true) (fun p => P p = true) R → Q (some (.int (nI (ct P 96)))) S') :
    px_M d px_m_Model_put [.ref m, .int (nI mo), .int (nI l)] S Q := by
  obtain ⟨q, A, h0, ⟨q1, t1, t2⟩, b2, b3, b4, b5, ⟨b6, b7⟩, b8⟩ := h
  have hp0 : 12 * mo + l < 96 := by omega
  have c0 := h0.1
  refine px_M.go (by omega) (Nat.le_of_ble_eq_true rfl) ?_
  refine px_P.sn 4 (f1 := (5, [(0, .ref m), (1, .int (nI mo)), (2, .int (nI l))], [.int 7, .int 0, .int (nI mo), .ref m])) (S1 := S) rfl ?_
  refine px_P.call rfl ?_
  show px_M _ px_m_Model_isIn [.int (nI mo), .int 0, .int 7] S _
  refine pm_moIsIn (by omega) ?_
  rw [show (decide ((0 : Int32) ≤ nI mo) && decide (nI mo ≤ 7)) = true from in_ok (b := 7) (by omega) (by decide)]
  show px_P _ _ (8, [(0, .ref m), (1, .int (nI mo)), (2, .int (nI l))], [.int 1, .ref m]) S _
  show px_P _ _ (8, [(0, .ref m), (1, .int (nI mo)), (2, .int (nI l))], [.int 1, .ref m]) S _
  refine px_P.if_eq rfl rfl (fun h => absurd h ((by decide))) (fun _ => ?_)
  refine px_P.sn 3 (f1 := (15, [(0, .ref m), (1, .int (nI mo)), (2, .int (nI l))], [.int 11, .int 0, .int (nI l), .ref m])) (S1 := S) rfl ?_
  refine px_P.call rfl ?_
  show px_M _ px_m_Model_isIn [.int (nI l), .int 0, .int 11] S _
  refine pm_moIsIn (by omega) ?_
  rw [show (decide ((0 : Int32) ≤ nI l) && decide (nI l ≤ 11)) = true from in_ok (b := 11) (by omega) (by decide)]
  show px_P _ _ (18, [(0, .ref m), (1, .int (nI mo)), (2, .int (nI l))], [.int 1, .ref m]) S _
  show px_P _ _ (18, [(0, .ref m), (1, .int (nI mo)), (2, .int (nI l))], [.int 1, .ref m]) S _
  refine px_P.if_eq rfl rfl (fun h => absurd h ((by decide))) (fun _ => ?_)
  refine px_P.sn 2 (f1 := (26, [(0, .ref m), (1, .int (nI mo)), (2, .int (nI l))], [.int 0, .ref m])) (S1 := S) rfl ?_
  refine px_P.cv rfl rfl rfl (by assumption) rfl ?_
  show px_M _ px_m_Model_refused [.ref m, .int 0] S _
  refine pm_moRefused (b := false) (by omega) h0 (fun S1 g1 m1 => ?_)
  show px_P _ _ (29, [(0, .ref m), (1, .int (nI mo)), (2, .int (nI l))], [.int 0]) S1 _
  show px_P _ _ (29, [(0, .ref m), (1, .int (nI mo)), (2, .int (nI l))], [.int 0]) S1 _
  refine px_P.if_eq rfl rfl (fun _ => ?_) (fun h => absurd ((by decide)) h)
  refine px_P.sn 5 (f1 := (40, [(0, .ref m), (1, .int (nI mo)), (2, .int (nI l))], [.int ((12 * (nI mo)) + (nI l))])) (S1 := S1) rfl ?_
  have ep : 12 * nI mo + nI l = nI (12 * mo + l) := by rw [show (12 : Int32) = nI 12 from rfl, pk_mul, nI_add]
  rw [ep]
  generalize hp : 12 * mo + l = p at *
  have c1 := g1.1
  refine px_P.sn 3 (f1 := (43, [(0, .ref m), (1, .int (nI mo)), (2, .int (nI l)), (3, .int (nI p))], [.int (nI p), .ref m])) (S1 := S1) rfl ?_
  refine px_P.cv rfl rfl rfl (by assumption) rfl ?_
  show px_M _ px_m_Model_remember [.ref m, .int (nI p)] S1 _
  obtain ⟨x1, x2⟩ := b3 p hp0
  refine pm_moRemember (hh := hh) (t := tt p) (by omega) hp0 g1 b6 b7 (b2.1 p) x1 x2 (fun S2 A2 g2 hM => ?_)
  have c2 := g2.1.1
  have e1A : A2 1 = A 1 := g2.2.2 1 (by decide) (by decide) (by decide)
  show px_P _ _ (46, [(0, .ref m), (1, .int (nI mo)), (2, .int (nI l)), (3, .int (nI p))], []) S2 _
  refine px_P.sn 2 (f1 := (48, [(0, .ref m), (1, .int (nI mo)), (2, .int (nI l)), (3, .int (nI p))], [.ref m, .ref m])) (S1 := S2) rfl ?_
  refine px_P.cv rfl rfl rfl (by assumption) rfl ?_
  show px_M _ px_m_Model_isBlank [.ref m] S2 _
  refine pm_moBlank (ty := ty) (by omega) g2.1 q1 t1 (by rw [e1A]; exact t2) ?_
  -- the typed text, blank or not
  have tail : ∀ v : Int32, v = nI (if blk ty = true then ([] : List Nat) else ty).length → px_P (d - 1) px_m_Model_put (62, [(0, .ref m), (1, .int (nI mo)), (2, .int (nI l)), (3, .int (nI p))], [.int v, .ref m]) S2 Q := by
    intro v hv
    refine px_P.pf rfl rfl (by assumption) rfl (fun S3 u3 => ?_)
    have g3 : mo_at S3 m (upd (upd (upd q 0 0) 3 (nI (hK hh (p, tt p)).length)) 1 v) A2 := g2.1.ob u3
    have c3 := g3.1
    refine px_P.sn 3 (f1 := (68, [(0, .ref m), (1, .int (nI mo)), (2, .int (nI l)), (3, .int (nI p))], [.int 0, .int (nI p), .ref m])) (S1 := S3) rfl ?_
    refine px_P.cv rfl rfl rfl (by assumption) rfl ?_
    show px_M _ px_m_Model_edit [.ref m, .int (nI p), .int 0] S3 _
    show px_M _ px_m_Model_edit [.ref m, .int (nI p), .int (bif false then 1 else 0)] S3 _
    have hno := blk_ty t1
    refine pm_moEdit (u := false) (z := 0) (nt := if blk ty = true then [] else ty) (tt := tt) (by omega) hp0 g3 b2 hno ⟨fun _ => ⟨by rw [pk_us]; exact hv, ?_⟩, fun w => (by cases w)⟩ ?_ (b4.cg (fun i i1 i2 => g2.2.2 i (by omega) (by omega) (by omega))) (b5.q rfl (fun i i1 i2 => g2.2.2 i (by omega) (by omega) (by omega))) (fun S4 A4 q4 P R g4 m4 x4 l4 mg4 k4 e4 a4 lk4 => ?_)
    · split
      · exact fun j hj => absurd hj (Nat.not_lt_zero _)
      · rw [e1A]; exact t2
    · unfold mtx
      rw [g2.2.2 2 (by decide) (by decide) (by decide), g2.2.2 3 (by decide) (by decide) (by decide)]
      exact b3
    · have c4 : S4.1 m = some (.inr (10, mo_ob m q4)) := g4.1
      show px_P _ _ (71, [(0, .ref m), (1, .int (nI mo)), (2, .int (nI l)), (3, .int (nI p))], [.int (nI (ct P 96))]) S4 _
      refine px_P.sn 3 (f1 := (75, [(0, .ref m), (1, .int (nI mo)), (2, .int (nI l)), (3, .int (nI p)), (4, .int (nI (ct P 96)))], [.int 0, .ref m])) (S1 := S4) rfl ?_
      refine px_P.pf rfl rfl (by assumption) rfl (fun S5 u5 => ?_)
      have g5 : mo_at S5 m (upd q4 1 0) A4 := g4.ob u5
      refine px_P.sn 1 (f1 := (80, [(0, .ref m), (1, .int (nI mo)), (2, .int (nI l)), (3, .int (nI p)), (4, .int (nI (ct P 96)))], [.int (nI (ct P 96))])) (S1 := S5) rfl ?_
      refine px_P.ret rfl ?_
      refine k S5 P R ⟨_, A4, g5, ⟨rfl, ⟨Nat.zero_le _, fun c hc => (by cases hc)⟩, fun j hj => absurd hj (Nat.not_lt_zero _)⟩, ttO_up b2 hp0 hno, x4, l4, mg4.q rfl (fun _ _ _ => rfl), ⟨?_, ?_⟩, Or.inl ?_⟩ ⟨_, g5.1, ?_⟩ ((m1.tr g2.2.1).tr ((mF.u (Nat.le_refl _) (by omega) u3).tr (m4.tr (mF.u (Nat.le_refl _) (by omega) u5)))) lk4
      · show q4 3 = _
        rw [e4 3 (by decide) (by decide) (by decide) (by decide) (by decide) (by decide)]
        rfl
      · unfold mhh
        rw [a4 18 (by omega), a4 19 (by omega), a4 20 (by omega)]
        exact hM
      · show q4 4 = 0
        exact k4
      · show q4 0 = 0
        rw [e4 0 (by decide) (by decide) (by decide) (by decide) (by decide) (by decide)]
        rfl
  have c2' : S2.1 m = some (.inr (10, mo_ob m (upd (upd (upd q 0 0) 3 (nI (hK hh (p, tt p)).length)) 1 (nI ty.length)))) := by
    rw [upd_self (i := 1) (q := upd (upd q 0 0) 3 (nI (hK hh (p, tt p)).length)) q1]
    exact c2
  cases hb : blk ty with
  | true =>
    show px_P _ _ (51, [(0, .ref m), (1, .int (nI mo)), (2, .int (nI l)), (3, .int (nI p))], [.int 1, .ref m]) S2 _
    show px_P _ _ (51, [(0, .ref m), (1, .int (nI mo)), (2, .int (nI l)), (3, .int (nI p))], [.int 1, .ref m]) S2 _
    refine px_P.if_eq rfl rfl (fun h => absurd h ((by decide))) (fun _ => ?_)
    refine px_P.sn 2 (f1 := (62, [(0, .ref m), (1, .int (nI mo)), (2, .int (nI l)), (3, .int (nI p))], [.int 0, .ref m])) (S1 := S2) rfl ?_
    exact tail 0 (by rw [hb]; rfl)
  | false =>
    show px_P _ _ (51, [(0, .ref m), (1, .int (nI mo)), (2, .int (nI l)), (3, .int (nI p))], [.int 0, .ref m]) S2 _
    show px_P _ _ (51, [(0, .ref m), (1, .int (nI mo)), (2, .int (nI l)), (3, .int (nI p))], [.int 0, .ref m]) S2 _
    refine px_P.if_eq rfl rfl (fun _ => ?_) (fun h => absurd ((by decide)) h)
    clear c2
    refine px_P.sn 1 (f1 := (59, [(0, .ref m), (1, .int (nI mo)), (2, .int (nI l)), (3, .int (nI p))], [.ref m, .ref m])) (S1 := S2) rfl ?_
    refine px_P.gf rfl rfl (by assumption) (v := .int (nI ty.length)) rfl ?_
    exact tail _ (by rw [hb]; rfl)
theorem pm_mmPutBad {d m : Nat} {v w : Int32} {ty : List Nat} {tt : Nat → List Nat} {hh : List (Nat × List Nat)} {S : px_S} {Q : Option Value → px_S → Prop} (hd : 2 ≤ d) (h : mI S m ty tt hh) (hbad : ((decide (0 ≤ v) && decide (v ≤ 7)) && (decide (0 ≤ w) && decide (w ≤ 11))) = false)
    (k : ∀ S', mI S' m ty tt hh → mf S' m 1 → mF S S' m → Q (some (.int 0)) S') : px_M d px_m_Model_put [.ref m, .int v, .int w] S Q := by
  obtain ⟨q, A, h0, hr⟩ := h
  have c0 := h0.1
  have out : px_P (d - 1) px_m_Model_put (25, [(0, .ref m), (1, .int v), (2, .int w)], [.ref m]) S Q := by
    refine px_P.sn 1 (f1 := (26, [(0, .ref m), (1, .int v), (2, .int w)], [.int 1, .ref m])) (S1 := S) rfl ?_
    refine px_P.cv rfl rfl rfl (by assumption) rfl ?_
    show px_M _ px_m_Model_refused [.ref m, .int 1] S _
    refine pm_moRefused (b := true) (by omega) h0 (fun S1 g1 m1 => ?_)
    show px_P _ _ (29, [(0, .ref m), (1, .int v), (2, .int w)], [.int 1]) S1 _
    show px_P _ _ (29, [(0, .ref m), (1, .int v), (2, .int w)], [.int 1]) S1 _
    refine px_P.if_eq rfl rfl (fun h => absurd h ((by decide))) (fun _ => ?_)
    refine px_P.sn 1 (f1 := (33, [(0, .ref m), (1, .int v), (2, .int w)], [.int 0])) (S1 := S1) rfl ?_
    refine px_P.ret rfl ?_
    exact k S1 (mI.q hr g1 rfl rfl rfl rfl (fun _ _ => rfl) hr.1.2.2) ⟨_, g1.1, rfl⟩ m1
  refine px_M.go (by omega) (Nat.le_of_ble_eq_true rfl) ?_
  refine px_P.sn 4 (f1 := (5, [(0, .ref m), (1, .int v), (2, .int w)], [.int 7, .int 0, .int v, .ref m])) (S1 := S) rfl ?_
  refine px_P.call rfl ?_
  show px_M _ px_m_Model_isIn [.int v, .int 0, .int 7] S _
  refine pm_moIsIn (by omega) ?_
  cases h1 : (decide (0 ≤ v) && decide (v ≤ 7)) with
  | false =>
    show px_P _ _ (8, [(0, .ref m), (1, .int v), (2, .int w)], [.int 0, .ref m]) S _
    show px_P _ _ (8, [(0, .ref m), (1, .int v), (2, .int w)], [.int 0, .ref m]) S _
    refine px_P.if_eq rfl rfl (fun _ => ?_) (fun h => absurd ((by decide)) h)
    exact out
  | true =>
    rw [h1, Bool.true_and] at hbad
    show px_P _ _ (8, [(0, .ref m), (1, .int v), (2, .int w)], [.int 1, .ref m]) S _
    show px_P _ _ (8, [(0, .ref m), (1, .int v), (2, .int w)], [.int 1, .ref m]) S _
    refine px_P.if_eq rfl rfl (fun h => absurd h ((by decide))) (fun _ => ?_)
    refine px_P.sn 3 (f1 := (15, [(0, .ref m), (1, .int v), (2, .int w)], [.int 11, .int 0, .int w, .ref m])) (S1 := S) rfl ?_
    refine px_P.call rfl ?_
    show px_M _ px_m_Model_isIn [.int w, .int 0, .int 11] S _
    refine pm_moIsIn (by omega) ?_
    rw [hbad]
    show px_P _ _ (18, [(0, .ref m), (1, .int v), (2, .int w)], [.int 0, .ref m]) S _
    show px_P _ _ (18, [(0, .ref m), (1, .int v), (2, .int w)], [.int 0, .ref m]) S _
    refine px_P.if_eq rfl rfl (fun _ => ?_) (fun h => absurd ((by decide)) h)
    exact out
set_option maxHeartbeats 1000000 in
theorem pm_mmUndo {d m z : Nat} {ty : List Nat} {tt : Nat → List Nat} {hh : List (Nat × List Nat)} {S : px_S} {Q : Option Value → px_S → Prop} (hd : 9 ≤ d) (h : mI S m ty tt hh) (hz : hh.length = z + 1)
    (k : ∀ S' (P : Nat → Bool) R, mI S' m ty (va_up tt (hg hh z).1 (hg hh z).2) (hh.take z) → mf S' m 0 → mF S S' m → lk_is (sL (va_up tt (hg hh z).1 (hg hh z).2)) (hg hh z).1 (fun t => dfb (sL tt) (hg hh z).1 t = true) (fun p => P p = true) R → Q (some (.int (nI (ct P 96)))) S') :
    px_M d px_m_Model_undo [.ref m] S Q := by
  obtain ⟨q, A, h0, ⟨q1, t1, t2⟩, b2, b3, b4, b5, ⟨b6, b7⟩, b8⟩ := h
  obtain ⟨v1, v2, v3, v4, v5⟩ := b7.2.1 z (by omega)
  have hz16 : z < 16 := by have := b7.1; omega
  rw [hz] at b6
  have c0 : S.1 m = some (.inr (10, mo_ob m (upd q 3 (nI (z + 1))))) := by rw [upd_self b6]; exact h0.1
  refine px_M.go (by omega) (Nat.le_of_ble_eq_true rfl) ?_
  refine px_P.sn 2 (f1 := (2, [(0, .ref m)], [.ref m, .ref m])) (S1 := S) rfl ?_
  refine px_P.gf rfl rfl (by assumption) (v := .int (nI (z + 1))) rfl ?_
  refine px_P.if_le rfl rfl (fun h => absurd h (nI_nle (by omega) (by omega))) (fun _ => ?_)
  refine px_P.sn 2 (f1 := (13, [(0, .ref m)], [.int 0, .ref m])) (S1 := S) rfl ?_
  refine px_P.cv rfl rfl rfl (by assumption) rfl ?_
  show px_M _ px_m_Model_refused [.ref m, .int 0] S _
  refine pm_moRefused (b := false) (by omega) h0 (fun S1 g1 m1 => ?_)
  have c1 : S1.1 m = some (.inr (10, mo_ob m (upd (upd q 0 0) 3 (nI (z + 1))))) := by
    rw [upd_self (i := 3) (q := upd q 0 0) b6]; exact g1.1
  show px_P _ _ (16, [(0, .ref m)], [.int 0]) S1 _
  show px_P _ _ (16, [(0, .ref m)], [.int 0]) S1 _
  refine px_P.if_eq rfl rfl (fun _ => ?_) (fun h => absurd ((by decide)) h)
  refine px_P.sn 2 (f1 := (23, [(0, .ref m)], [.ref m, .ref m])) (S1 := S1) rfl ?_
  refine px_P.gf rfl rfl (by assumption) (v := .int (nI (z + 1))) rfl ?_
  refine px_P.sn 2 (f1 := (28, [(0, .ref m)], [.int ((nI (z + 1)) - 1), .ref m])) (S1 := S1) rfl ?_
  rw [nI_pred]
  refine px_P.pf rfl rfl (by assumption) rfl (fun S2 u2 => ?_)
  have g2 : mo_at S2 m (upd (upd q 0 0) 3 (nI z)) A := by
    refine g1.ob ?_
    have e : mo_ob m (upd (upd q 0 0) 3 (nI z)) = (mo_ob m (upd (upd q 0 0) 3 (nI (z + 1)))).set 20 (.int (nI z)) := rfl
    rw [e]
    exact u2
  have c2 := g2.1
  have r18 : S2.1 (m + 18) = some (.inl (0, 16, .inl (A 18))) := g2.2 18 (by decide) (by decide)
  refine px_P.sn 2 (f1 := (33, [(0, .ref m)], [.ref m, .ref m])) (S1 := S2) rfl ?_
  refine px_P.gf rfl rfl (by assumption) (v := .ref (m + 18)) rfl ?_
  refine px_P.sn 1 (f1 := (37, [(0, .ref m)], [.ref m, .ref (m + 18), .ref m])) (S1 := S2) rfl ?_
  refine px_P.gf rfl rfl (by assumption) (v := .int (nI z)) rfl ?_
  refine px_P.ialdj (j := z) rfl (by assumption) rfl (by omega) (by decide) ?_
  rw [v1]
  refine px_P.sn 1 (f1 := (42, [(0, .ref m)], [.int 1, .int (nI (hg hh z).1), .ref m])) (S1 := S2) rfl ?_
  refine px_P.cv rfl rfl rfl (by assumption) rfl ?_
  show px_M _ px_m_Model_edit [.ref m, .int (nI (hg hh z).1), .int 1] S2 _
  show px_M _ px_m_Model_edit [.ref m, .int (nI (hg hh z).1), .int (bif true then 1 else 0)] S2 _
  refine pm_moEdit (u := true) (z := z) (nt := (hg hh z).2) (tt := tt) (by omega) v2 g2 b2 v3 ⟨fun w => (by cases w), fun _ => ⟨rfl, hz16, v4, v5⟩⟩ b3 b4 (b5.q rfl (fun _ _ _ => rfl)) (fun S4 A4 q4 P R g4 m4 x4 l4 mg4 k4 e4 a4 lk4 => ?_)
  show px_P _ _ (45, [(0, .ref m)], [.int (nI (ct P 96))]) S4 _
  refine px_P.ret rfl ?_
  have hlt : (hh.take z).length = z := by rw [List.length_take]; omega
  refine k S4 P R ⟨q4, A4, g4, ⟨?_, t1, by rw [a4 1 (by omega)]; exact t2⟩, ttO_up b2 v2 v3, x4, l4, mg4, ⟨?_, ?_⟩, Or.inl k4⟩ ⟨q4, g4.1, ?_⟩ ((m1.tr (mF.u (Nat.le_refl _) (by omega) u2)).tr m4) lk4
  · rw [e4 1 (by decide) (by decide) (by decide) (by decide) (by decide) (by decide)]; exact q1
  · rw [e4 3 (by decide) (by decide) (by decide) (by decide) (by decide) (by decide), hlt]; rfl
  · unfold mhh
    rw [a4 18 (by omega), a4 19 (by omega), a4 20 (by omega), hlt]
    refine ⟨by omega, fun j hj => ?_, b7.2.2⟩
    rw [hg_take hj]
    exact b7.2.1 j (by omega)
  · rw [e4 0 (by decide) (by decide) (by decide) (by decide) (by decide) (by decide)]; rfl
theorem pm_mmUndoBad {d m : Nat} {ty : List Nat} {tt : Nat → List Nat} {S : px_S} {Q : Option Value → px_S → Prop} (hd : 2 ≤ d) (h : mI S m ty tt [])
    (k : ∀ S', mI S' m ty tt [] → mf S' m 1 → mF S S' m → Q (some (.int 0)) S') : px_M d px_m_Model_undo [.ref m] S Q := by
  obtain ⟨q, A, h0, hr⟩ := h
  have b6 : q 3 = nI 0 := hr.2.2.2.2.2.1.1
  have c0 : S.1 m = some (.inr (10, mo_ob m (upd q 3 (nI 0)))) := by rw [upd_self b6]; exact h0.1
  refine px_M.go (by omega) (Nat.le_of_ble_eq_true rfl) ?_
  refine px_P.sn 2 (f1 := (2, [(0, .ref m)], [.ref m, .ref m])) (S1 := S) rfl ?_
  refine px_P.gf rfl rfl (by assumption) (v := .int (nI 0)) rfl ?_
  refine px_P.if_le rfl rfl (fun _ => ?_) (fun h => absurd ((by decide)) h)
  refine px_P.sn 1 (f1 := (13, [(0, .ref m)], [.int 1, .ref m])) (S1 := S) rfl ?_
  refine px_P.cv rfl rfl rfl (by assumption) rfl ?_
  show px_M _ px_m_Model_refused [.ref m, .int 1] S _
  refine pm_moRefused (b := true) (by omega) h0 (fun S1 g1 m1 => ?_)
  show px_P _ _ (16, [(0, .ref m)], [.int 1]) S1 _
  show px_P _ _ (16, [(0, .ref m)], [.int 1]) S1 _
  refine px_P.if_eq rfl rfl (fun h => absurd h ((by decide))) (fun _ => ?_)
  refine px_P.sn 1 (f1 := (20, [(0, .ref m)], [.int 0])) (S1 := S1) rfl ?_
  refine px_P.ret rfl ?_
  exact k S1 (mI.q hr g1 rfl rfl rfl rfl (fun _ _ => rfl) hr.1.2.2) ⟨_, g1.1, rfl⟩ m1
