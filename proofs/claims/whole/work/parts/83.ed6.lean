/-! ===== the model: an edit, whole ===== -/
theorem mgr.q {q q' : Nat → Int32} {A A' : Nat → Nat → Int32} {L : Nat → Option ln_S} (h : mgr q A L) (h2 : q' 2 = q 2) (ha : ∀ i, 12 ≤ i → i ≤ 17 → A' i = A i) : mgr q' A' L := by
  obtain ⟨T, D, e1, e2, e3, e4, e5, e6, e7⟩ := h
  refine ⟨T, D, fun t ht => by rw [ha 14 (by decide) (by decide)]; exact e1 t ht, fun t ht => by rw [ha 13 (by decide) (by decide)]; exact e2 t ht, e3, fun p hp hn => by rw [ha 12 (by decide) (by decide)]; exact e4 p hp hn, e5, by rw [h2]; exact e6, e7.cg (ha 15 (by decide) (by decide)) (ha 16 (by decide) (by decide)) (ha 17 (by decide) (by decide))⟩
theorem ttO_up {tt : Nat → List Nat} {p : Nat} {nt : List Nat} (h : ttO tt) (hp : p < 96) (hn : tyo nt) : ttO (va_up tt p nt) := by
  refine ⟨fun j => ?_, fun j hj => ?_⟩
  · by_cases e : j = p
    · simp only [va_up, if_pos e]; exact hn
    · simp only [va_up, if_neg e]; exact h.1 j
  · simp only [va_up, if_neg (show ¬ j = p by omega)]; exact h.2 j hj
theorem mtx_up {A A' : Nat → Nat → Int32} {tt : Nat → List Nat} {p : Nat} {nt : List Nat} (h : mtx A tt) (ho : ttO tt) (hp : p < 96) (h2p : A' 2 p = nI nt.length) (h2 : ∀ j, j ≠ p → A' 2 j = A 2 j) (h3p : ∀ j, j < nt.length → A' 3 (60 * p + j) = nI (tf nt j)) (h3 : ∀ c, (c < 60 * p ∨ 60 * p + 60 ≤ c) → A' 3 c = A 3 c) : mtx A' (va_up tt p nt) := by
  intro j hj
  by_cases e : j = p
  · subst e
    simp only [va_up, if_true]
    exact ⟨h2p, h3p⟩
  · simp only [va_up, if_neg e]
    obtain ⟨g1, g2⟩ := h j hj
    refine ⟨by rw [h2 j e]; exact g1, fun i hi => ?_⟩
    have := (ho.1 j).1
    rw [h3 (60 * j + i) (by omega)]
    exact g2 i hi
/-- growing and judging, one behind the other -/
theorem gj_of {S S1 S2 : px_S} {m : Nat} {L : Nat → Option ln_S} {q : Nat → Int32} {A0 A1 A2 : Nat → Nat → Int32} {FL : fl_T} {t1 t2 : Int32} {T : Nat → Int32} (g1 : gS S S1 m q A0 A1 FL t1) (g2 : d14 L A1) (g3 : ∀ t, t < 208 → T t = eT L (A1 13) t) (g4 : lf_is L T) (g5 : ∀ p, p < 96 → A1 12 p = tyA L T p) (f1 : hS S1 S2 m (mq2 q (nI FL.length) t1) A1 A2 (flc L T (fun t => nI (dc L t)) 96) t2) :
    ∃ q', mo_at S2 m q' A2 ∧ mF S S2 m ∧ (∀ i, i ≠ 12 → i ≠ 13 → i ≠ 14 → i ≠ 15 → i ≠ 16 → i ≠ 17 → i ≠ 25 → A2 i = A0 i) ∧ (∀ i, i ≠ 2 → i ≠ 8 → q' i = q i) ∧ mgr q' A2 L := by
  have hmg := mgr_of (D := fun t => nI (dc L t)) g2 g3 g4 g5 (fun _ _ => rfl) f1
  refine ⟨_, f1.1, g1.2.1.tr f1.2.1, fun i i1 i2 i3 i4 i5 i6 i7 => (f1.2.2.2 i i4 i5 i6 i7).trans (g1.2.2.2 i i1 i2 i3 i4 i5 i6 i7), fun i i1 i2 => ?_, hmg⟩
  unfold mq2
  rw [if_neg i1, if_neg i2, if_neg i1, if_neg i2]
theorem mgr.fl {q : Nat → Int32} {A : Nat → Nat → Int32} {L : Nat → Option ln_S} (h : mgr q A L) (hw : wfL L) : ∃ FL : fl_T, q 2 = nI FL.length ∧ fl A FL ∧ FL.length ≤ 5940 := by
  obtain ⟨T, D, e1, e2, e3, e4, e5, e6, e7⟩ := h
  refine ⟨flc L T D 96, e6, e7, ?_⟩
  rw [flc_len hw 96 (by omega)]
  have := sm_le (f := fzp L T D) (b := 61) 96 (fun i hi => fzp_le hw hi)
  omega
set_option maxHeartbeats 1000000 in
theorem pm_moEdit {d m p0 z : Nat} {u : Bool} {nt : List Nat} {tt : Nat → List Nat} {q : Nat → Int32} {A0 : Nat → Nat → Int32} {S : px_S} {Q : Option Value → px_S → Prop} (hd : 8 ≤ d) (hp0 : p0 < 96) (h : mo_at S m q A0) (ho : ttO tt) (hno : tyo nt) (hsrc : srcT u z q A0 nt) (hx : mtx A0 tt) (hm : ml A0 (sL tt)) (hg : mgr q A0 (sL tt))
    (k : ∀ S' A' q' (P : Nat → Bool) R, mo_at S' m q' A' → mF S S' m → mtx A' (va_up tt p0 nt) → ml A' (sL (va_up tt p0 nt)) → mgr q' A' (sL (va_up tt p0 nt)) → q' 4 = 0 → (∀ i, i ≠ 2 → i ≠ 4 → i ≠ 5 → i ≠ 6 → i ≠ 7 → i ≠ 8 → q' i = q i) → (∀ i, i = 1 ∨ i = 18 ∨ i = 19 ∨ i = 20 → A' i = A0 i) → lk_is (sL (va_up tt p0 nt)) p0 (fun t => dfb (sL tt) p0 t = true) (fun p => P p = true) R → Q (some (.int (nI (ct P 96)))) S') : px_M d px_m_Model_edit [.ref m, .int (nI p0), .int (bif u then 1 else 0)] S Q := by
  have hl := hno.1
  have ho' := ttO_up ho hp0 hno
  have hw' := sL_wf ho'
  obtain ⟨FL, l1, l2, l3⟩ := hg.fl (sL_wf ho)
  refine px_M.go (by omega) (Nat.le_of_ble_eq_true rfl) ?_
  refine px_P.sn 2 (f1 := (2, [(0, .ref m), (1, .int (nI p0)), (2, .int (bif u then 1 else 0)), (3, .int 0)], [])) (S1 := S) rfl ?_
  refine ed_stale hp0 h (fun S1 A1 g1 g2 => ?_)
  have c1 := g1.1.1
  -- the text is there
  have tail : ∀ v : Int32, v = nI nt.length → px_P (d - 1) px_m_Model_edit (61, [(0, .ref m), (1, .int (nI p0)), (2, .int (bif u then 1 else 0)), (3, .int (nI 208))], [.int v, .int (nI p0), .ref (m + 2)]) S1 Q := by
    intro v hv
    subst hv
    have r2 : S1.1 (m + 2) = some (.inl (0, 96, .inl (A1 2))) := g1.1.2 2 (by decide) (by decide)
    refine px_P.iastj (j := p0) rfl (by assumption) rfl (by omega) (by decide) (fun S2 u2 => ?_)
    have g3 := g1.1.ar (i := 2) (by decide) (by decide) u2
    have f3 := g1.2.1.tr (mF.u (by omega) (by omega) u2)
    refine px_P.sn 2 (f1 := (64, [(0, .ref m), (1, .int (nI p0)), (2, .int (bif u then 1 else 0)), (3, .int 0)], [])) (S1 := S2) rfl ?_
    have hsrc2 : srcT u z q (va_up A1 2 (upd (A1 2) p0 (nI nt.length))) nt := by
      unfold srcT
      rw [va_un (by decide), va_un (by decide), va_un (by decide), g1.2.2 1 (by decide) (by decide), g1.2.2 19 (by decide) (by decide), g1.2.2 20 (by decide) (by decide)]
      exact hsrc
    refine ed_copy (z := z) hp0 hno g3 (by rw [va_us, pk_us]) hsrc2 (fun S3 A3 g4 f4 e4 t1 t2 => ?_)
    have f5 := f3.tr f4
    have e2p : A3 2 p0 = nI nt.length := by rw [e4 2 (by decide), va_us, pk_us]
    have e2n : ∀ j, j ≠ p0 → A3 2 j = A0 2 j := fun j hj => by rw [e4 2 (by decide), va_us, pk_un hj, g1.2.2 2 (by decide) (by decide)]
    have e3n : ∀ c, (c < 60 * p0 ∨ 60 * p0 + 60 ≤ c) → A3 3 c = A0 3 c := fun c hc => by rw [t2 c hc, va_un (by decide), g1.2.2 3 (by decide) (by decide)]
    have eoth : ∀ i, i ≠ 2 → i ≠ 3 → A3 i = A1 i := fun i i1 i2 => by rw [e4 i i2, va_un i1]
    have c3 := g4.1
    refine px_P.sn 2 (f1 := (120, [(0, .ref m), (1, .int (nI p0)), (2, .int (bif u then 1 else 0)), (3, .int (nI nt.length))], [.int (nI p0), .ref m])) (S1 := S3) rfl ?_
    refine px_P.cv rfl rfl rfl (by assumption) rfl ?_
    show px_M _ px_m_Model_read [.ref m, .int (nI p0)] S3 _
    refine pm_moRead (tx := tf nt) (N := nt.length) (by omega) ⟨e2p, t1, fun j hj => hno.2 _ (tf_mem hj), hl, hp0⟩ g4 (fun S4 A4 x zz g5 f6 rF k0 k1 => ?_)
    have c4 := g5.1
    have hml : ml A4 (sL (va_up tt p0 nt)) := ml_read hp0 ho hno hm e2n e2p (fun i i1 i2 => by rw [eoth i (by omega) (by omega)]; exact g1.2.2 i (by omega) (by omega)) rF k0 k1
    show px_P _ _ (123, [(0, .ref m), (1, .int (nI p0)), (2, .int (bif u then 1 else 0)), (3, .int (nI nt.length))], []) S4 _
    refine px_P.sn 2 (f1 := (125, [(0, .ref m), (1, .int (nI p0)), (2, .int (bif u then 1 else 0)), (3, .int (nI nt.length))], [.int 0, .ref m])) (S1 := S4) rfl ?_
    refine px_P.pf rfl rfl (by assumption) rfl (fun S5 u5 => ?_)
    have g6 : mo_at S5 m (upd (mq q x (nI p0) zz) 4 0) A4 := g5.ob u5
    have c5 := g6.1
    have a4o : ∀ i, 11 < i → i ≠ 24 → A4 i = A1 i := fun i i1 i2 => by rw [rF.1 i (Or.inr ⟨i1, i2⟩)]; exact eoth i (by omega) (by omega)
    have a4z : ∀ i, 11 < i → i ≠ 24 → i ≠ 22 → i ≠ 23 → A4 i = A0 i := fun i i1 i2 i3 i4 => (a4o i i1 i2).trans (g1.2.2 i i3 i4)
    refine px_P.sn 1 (f1 := (129, [(0, .ref m), (1, .int (nI p0)), (2, .int (bif u then 1 else 0)), (3, .int (nI nt.length))], [.ref m])) (S1 := S5) rfl ?_
    refine px_P.cv rfl rfl rfl (by assumption) rfl ?_
    show px_M _ px_m_Model_grow [.ref m] S5 _
    refine pm_moGrow (FL := FL) (by omega) g6 l1 (l2.cg (a4z 15 (by decide) (by decide) (by decide) (by decide)) (a4z 16 (by decide) (by decide) (by decide) (by decide)) (a4z 17 (by decide) (by decide) (by decide) (by decide))) hml hw' l3 (fun S6 A6 t6 T h1 h2 h3 h4 h5 => ?_)
    have c6 := h1.1.1
    show px_P _ _ (132, [(0, .ref m), (1, .int (nI p0)), (2, .int (bif u then 1 else 0)), (3, .int (nI nt.length))], []) S6 _
    refine px_P.sn 1 (f1 := (133, [(0, .ref m), (1, .int (nI p0)), (2, .int (bif u then 1 else 0)), (3, .int (nI nt.length))], [.ref m])) (S1 := S6) rfl ?_
    refine px_P.cv rfl rfl rfl (by assumption) rfl ?_
    show px_M _ px_m_Model_judgeAll [.ref m] S6 _
    refine pm_moJudgeAll (D := fun t => nI (dc (sL (va_up tt p0 nt)) t)) (by omega) h1.1 (h1.ml hml) hw' (lf_cg h2 h3) h4.1 h2.D h5 (fun S7 A7 t7 h6 => ?_)
    obtain ⟨q7, b1, b2, b3, b4, b5⟩ := gj_of h1 h2 h3 h4 h5 h6
    show px_P _ _ (136, [(0, .ref m), (1, .int (nI p0)), (2, .int (bif u then 1 else 0)), (3, .int (nI nt.length))], []) S7 _
    refine px_P.sn 2 (f1 := (138, [(0, .ref m), (1, .int (nI p0)), (2, .int (bif u then 1 else 0)), (3, .int 0)], [])) (S1 := S7) rfl ?_
    have hml7 : ml A7 (sL (va_up tt p0 nt)) := hml.cg (fun i i1 i2 => b3 i (by omega) (by omega) (by omega) (by omega) (by omega) (by omega) (by omega))
    refine ed_look (I := fun t => dfb (sL tt) p0 t = true) (by omega) hp0 b1 hml7 hw' (fun t ht => ?_) (fun S8 A8 d1 d2 => ?_)
    · rw [b3 23 (by decide) (by decide) (by decide) (by decide) (by decide) (by decide) (by decide), a4o 23 (by decide) (by decide), g2 t ht, hm.df hp0]
      rcases (sL_wf ho).df hp0 with ⟨e1, e2⟩ | ⟨s, t0, e1, e2, e3, e5, e6⟩
      · rw [e1]
        exact ⟨fun w => absurd w.symm (nI_neg (by omega)), fun w => by rw [e2 t ht] at w; cases w⟩
      · rw [e3]
        constructor
        · intro w
          exact dfb_t.mpr ⟨s, e1, by rw [e5]; exact w⟩
        · intro w
          obtain ⟨y, w1, w2⟩ := dfb_t.mp w
          rw [e1] at w1
          cases w1
          exact e5.symm.trans w2
    · have a8 : ∀ i, i ≠ 12 → i ≠ 13 → i ≠ 14 → i ≠ 15 → i ≠ 16 → i ≠ 17 → i ≠ 25 → i ≠ 22 → i ≠ 23 → A8 i = A4 i := fun i i1 i2 i3 i4 i5 i6 i7 i8 i9 => (d1.2.2 i i8 i9).trans (b3 i i1 i2 i3 i4 i5 i6 i7)
      refine k S8 A8 q7 (bz (A8 22)) _ d1.1 ((((f5.tr f6).tr (mF.u (Nat.le_refl _) (by omega) u5)).tr b2).tr d1.2.1) ?_ (d1.ml hml7) (b5.q rfl (fun i i1 i2 => d1.2.2 i (by omega) (by omega))) ?_ (fun i i2 i4 i5 i6 i7 i8 => ?_) (fun i hi => ?_) d2
      · have e23 : ∀ i, i = 2 ∨ i = 3 → A8 i = A3 i := fun i hi => by rw [a8 i (by omega) (by omega) (by omega) (by omega) (by omega) (by omega) (by omega) (by omega) (by omega)]; exact rF.1 i (by omega)
        refine mtx_up hx ho hp0 ?_ (fun j hj => ?_) (fun j hj => ?_) (fun c hc => ?_)
        · rw [e23 2 (by omega)]; exact e2p
        · rw [e23 2 (by omega)]; exact e2n j hj
        · rw [e23 3 (by omega)]; exact t1 j hj
        · rw [e23 3 (by omega)]; exact e3n c hc
      · rw [b4 4 (by decide) (by decide), pk_us]
      · rw [b4 i i2 i8, pk_un i4]
        unfold mq
        rw [if_neg i5, if_neg i6, if_neg i7]
      · rw [a8 i (by omega) (by omega) (by omega) (by omega) (by omega) (by omega) (by omega) (by omega) (by omega)]
        by_cases e1 : i = 1
        · rw [e1, rF.1 1 (by omega), eoth 1 (by decide) (by decide)]
          exact g1.2.2 1 (by decide) (by decide)
        · exact a4z i (by omega) (by omega) (by omega) (by omega)
  refine px_P.sn 1 (f1 := (37, [(0, .ref m), (1, .int (nI p0)), (2, .int (bif u then 1 else 0)), (3, .int (nI 208))], [.ref m])) (S1 := S1) rfl ?_
  refine px_P.gf rfl rfl (by assumption) (v := .ref (m + 2)) rfl ?_
  refine px_P.sn 2 (f1 := (42, [(0, .ref m), (1, .int (nI p0)), (2, .int (bif u then 1 else 0)), (3, .int (nI 208))], [.int (bif u then 1 else 0), .int (nI p0), .ref (m + 2)])) (S1 := S1) rfl ?_
  cases u with
  | false =>
    show px_P _ _ (42, [(0, .ref m), (1, .int (nI p0)), (2, .int 0), (3, .int (nI 208))], [.int 0, .int (nI p0), .ref (m + 2)]) S1 _
    refine px_P.if_eq rfl rfl (fun _ => ?_) (fun h => absurd ((by decide)) h)
    refine px_P.sn 1 (f1 := (58, [(0, .ref m), (1, .int (nI p0)), (2, .int 0), (3, .int (nI 208))], [.ref m, .int (nI p0), .ref (m + 2)])) (S1 := S1) rfl ?_
    refine px_P.gf rfl rfl (by assumption) (v := .int (q 1)) rfl ?_
    exact tail _ (hsrc.1 rfl).1
  | true =>
    obtain ⟨s1, s2, s3, s4⟩ := hsrc.2 rfl
    have cz : S1.1 m = some (.inr (10, mo_ob m (upd q 3 (nI z)))) := by
      have : upd q 3 (nI z) = q := by
        funext j
        by_cases e : j = 3
        · rw [e, pk_us, s1]
        · rw [pk_un e]
      rw [this]; exact g1.1.1
    clear c1
    show px_P _ _ (42, [(0, .ref m), (1, .int (nI p0)), (2, .int 1), (3, .int (nI 208))], [.int 1, .int (nI p0), .ref (m + 2)]) S1 _
    have r19 : S1.1 (m + 19) = some (.inl (0, 16, .inl (A1 19))) := g1.1.2 19 (by decide) (by decide)
    refine px_P.if_eq rfl rfl (fun h => absurd h ((by decide))) (fun _ => ?_)
    refine px_P.sn 1 (f1 := (46, [(0, .ref m), (1, .int (nI p0)), (2, .int 1), (3, .int (nI 208))], [.ref m, .int (nI p0), .ref (m + 2)])) (S1 := S1) rfl ?_
    refine px_P.gf rfl rfl (by assumption) (v := .ref (m + 19)) rfl ?_
    refine px_P.sn 1 (f1 := (50, [(0, .ref m), (1, .int (nI p0)), (2, .int 1), (3, .int (nI 208))], [.ref m, .ref (m + 19), .int (nI p0), .ref (m + 2)])) (S1 := S1) rfl ?_
    refine px_P.gf rfl rfl (by assumption) (v := .int (nI z)) rfl ?_
    refine px_P.ialdj (j := z) rfl (by assumption) rfl (by omega) (by decide) ?_
    rw [g1.2.2 19 (by decide) (by decide), s3]
    refine px_P.sn 1 (f1 := (61, [(0, .ref m), (1, .int (nI p0)), (2, .int 1), (3, .int (nI 208))], [.int (nI nt.length), .int (nI p0), .ref (m + 2)])) (S1 := S1) rfl ?_
    exact tail _ rfl
