/-! ===== the model: growing, whole ===== -/
def tyA (L : Nat → Option ln_S) (T : Nat → Int32) (p : Nat) : Int32 := match L p with
  | none => -1
  | some s => if ln_wr s = -1 then ln_val s T else -1
theorem tyA_r {L : Nat → Option ln_S} {T : Nat → Int32} {p : Nat} {s : ln_S} (h : L p = some s) (hr : ln_wr s = -1) : tyA L T p = ln_val s T := by unfold tyA; rw [h]; simp only [if_pos hr]
theorem tyA_n {L : Nat → Option ln_S} {T : Nat → Int32} {p : Nat} (h : rdy L p = false) : tyA L T p = -1 := by
  unfold tyA
  cases hL : L p with
  | none => rfl
  | some s =>
    have : ¬ ln_wr s = -1 := fun z => by rw [rdy_t.mpr ⟨s, hL, z⟩] at h; cases h
    simp only [if_neg this]
theorem gr_last {d m : Nat} {t : Int32} {L : Nat → Option ln_S} {q : Nat → Int32} {A0 A : Nat → Nat → Int32} {FL : fl_T} {S0 S : px_S} {Q : Option Value → px_S → Prop} (hd : 4 ≤ d) (h : gS S0 S m q A0 A FL t) (hm : ml A0 L) (hw : wfL L) (hFL : FL.length ≤ 5940) (h1 : d14 L A) (h2 : ∀ t, t < 208 → le32 (A 13 t) lF)
    (k : ∀ S' A' t', gS S0 S' m q A0 A' FL t' → A' 13 = A 13 → A' 14 = A 14 → (∀ p, p < 96 → A' 12 p = tyA L (eT L (A 13)) p) → Q none S') : px_P d px_m_Model_grow (194, [(0, .ref m), (1, .int 0), (2, .int (nI 0))], []) S Q := by
  have lp := px_for (d := d) (mi := px_m_Model_grow) (Q := Q) (X := (Nat → Nat → Int32) × Int32) 96 (fun i y => (194, [(0, .ref m), (1, .int 0), (2, .int (nI i))], []))
    (fun i y S' => gS S0 S' m q A0 y.1 FL y.2 ∧ y.1 13 = A 13 ∧ y.1 14 = A 14 ∧ ∀ p, p < i → y.1 12 p = tyA L (eT L (A 13)) p)
    (by
      intro i hi ⟨A1, t1⟩ S1 hy kk
      obtain ⟨g1, g2, g3, g4⟩ := hy
      dsimp only at g1 g2 g3 g4
      have c1 := g1.1.1
      have hrd := (g1.ml hm).rd hw hi
      have tail : ∀ (S2 : px_S) (A2 : Nat → Nat → Int32) (t2 v : Int32), gS S0 S2 m q A0 A2 FL t2 → A2 12 = A1 12 → A2 13 = A 13 → A2 14 = A 14 → v = tyA L (eT L (A 13)) i → px_P d px_m_Model_grow (223, [(0, .ref m), (1, .int 0), (2, .int (nI i))], [.int v, .int (nI i), .ref (m + 12)]) S2 Q := by
        intro S2 A2 t2 v f1 f12 f13 f14 hv
        have r12 : S2.1 (m + 12) = some (.inl (0, 96, .inl (A2 12))) := f1.1.2 12 (by decide) (by decide)
        refine px_P.iastj (j := i) rfl (by assumption) rfl (by omega) (by decide) (fun S3 u3 => ?_)
        refine px_P.sn 2 (f1 := (194, [(0, .ref m), (1, .int 0), (2, .int ((nI i) + 1))], [])) (S1 := S3) rfl ?_
        rw [nI_1]
        refine kk (va_up A2 12 (upd (A2 12) i v), t2) S3 ⟨f1.up (j := 12) (by omega) u3, ?_, ?_, fun p hp => ?_⟩
        · show va_up A2 12 (upd (A2 12) i v) 13 = _
          rw [va_un (by decide)]; exact f13
        · show va_up A2 12 (upd (A2 12) i v) 14 = _
          rw [va_un (by decide)]; exact f14
        · show va_up A2 12 (upd (A2 12) i v) 12 p = _
          rw [va_us]
          by_cases e : p = i
          · rw [e, pk_us]; exact hv
          · rw [pk_un e, f12]; exact g4 p (by omega)
      show px_P _ _ (194, [(0, .ref m), (1, .int 0), (2, .int (nI i))], []) S1 _
      refine px_P.sn 2 (f1 := (197, [(0, .ref m), (1, .int 0), (2, .int (nI i))], [.int 96, .int (nI i)])) (S1 := S1) rfl ?_
      refine px_P.ic_ge rfl rfl (fun h => absurd h (nI_ge (b := 96) hi (by decide))) (fun _ => ?_)
      refine px_P.sn 1 (f1 := (201, [(0, .ref m), (1, .int 0), (2, .int (nI i))], [.ref m])) (S1 := S1) rfl ?_
      refine px_P.gf rfl rfl (by assumption) (v := .ref (m + 12)) rfl ?_
      refine px_P.sn 3 (f1 := (207, [(0, .ref m), (1, .int 0), (2, .int (nI i))], [.int (nI i), .ref m, .int (nI i), .ref (m + 12)])) (S1 := S1) rfl ?_
      refine px_P.cv rfl rfl rfl (by assumption) rfl ?_
      show px_M _ px_m_Model_isRead [.ref m, .int (nI i)] S1 _
      refine pm_moIsRead (by omega) hi g1.1 ?_
      rw [hrd]
      cases hr : rdy L i with
      | false =>
        show px_P _ _ (210, [(0, .ref m), (1, .int 0), (2, .int (nI i))], [.int 0, .int (nI i), .ref (m + 12)]) S1 _
        refine px_P.if_eq rfl rfl (fun _ => ?_) (fun h => absurd ((by decide)) h)
        refine px_P.sn 1 (f1 := (223, [(0, .ref m), (1, .int 0), (2, .int (nI i))], [.int (-1), .int (nI i), .ref (m + 12)])) (S1 := S1) rfl ?_
        exact tail S1 A1 t1 (-1) g1 rfl g2 g3 (tyA_n hr).symm
      | true =>
        obtain ⟨s, hs, hws⟩ := rdy_t.mp hr
        show px_P _ _ (210, [(0, .ref m), (1, .int 0), (2, .int (nI i))], [.int 1, .int (nI i), .ref (m + 12)]) S1 _
        refine px_P.if_eq rfl rfl (fun h => absurd h ((by decide))) (fun _ => ?_)
        refine px_P.sn 3 (f1 := (216, [(0, .ref m), (1, .int 0), (2, .int (nI i))], [.int 0, .int (nI i), .ref m, .int (nI i), .ref (m + 12)])) (S1 := S1) rfl ?_
        refine px_P.cv rfl rfl rfl (by assumption) rfl ?_
        show px_M _ px_m_Model_value [.ref m, .int (nI i), .int 0] S1 _
        have henv : envT A1 (eT L (A 13)) := by
          rw [← g2]
          refine d14.env (fun u hu => ?_)
          rw [g3]
          exact h1 u hu
        refine pm_gsValue hd hi g1 hm hw hs hws henv (eT_bd h2) hFL (fun S2 A2 t2 f1 f2 => ?_)
        show px_P _ _ (219, [(0, .ref m), (1, .int 0), (2, .int (nI i))], [.int (ln_val s (eT L (A 13))), .int (nI i), .ref (m + 12)]) S2 _
        refine px_P.sn 1 (f1 := (223, [(0, .ref m), (1, .int 0), (2, .int (nI i))], [.int (ln_val s (eT L (A 13))), .int (nI i), .ref (m + 12)])) (S1 := S2) rfl ?_
        exact tail S2 A2 t2 _ f1 (f2 12 (by decide) (by decide) (by decide) (by decide)) ((f2 13 (by decide) (by decide) (by decide) (by decide)).trans g2) ((f2 14 (by decide) (by decide) (by decide) (by decide)).trans g3) (tyA_r hs hws).symm)
    (by
      intro ⟨A1, t1⟩ S1 ⟨g1, g2, g3, g4⟩
      dsimp only at g1 g2 g3 g4
      show px_P _ _ (194, [(0, .ref m), (1, .int 0), (2, .int (nI 96))], []) S1 _
      refine px_P.sn 2 (f1 := (197, [(0, .ref m), (1, .int 0), (2, .int (nI 96))], [.int 96, .int (nI 96)])) (S1 := S1) rfl ?_
      refine px_P.ic_ge rfl rfl (fun _ => ?_) (fun h => absurd ((by decide)) h)
      refine px_P.ret rfl ?_
      exact k S1 A1 t1 g1 g2 g3 g4)
  exact lp 96 0 rfl (A, t) S ⟨h, rfl, rfl, fun p hp => absurd hp (by omega)⟩
theorem pm_moGrow {d m : Nat} {L : Nat → Option ln_S} {q : Nat → Int32} {A0 : Nat → Nat → Int32} {FL : fl_T} {S : px_S} {Q : Option Value → px_S → Prop} (hd : 5 ≤ d) (h : mo_at S m q A0) (hq2 : q 2 = nI FL.length) (hf : fl A0 FL) (hm : ml A0 L) (hw : wfL L) (hFL : FL.length ≤ 5940)
    (k : ∀ S' A' t' T, gS S S' m q A0 A' FL t' → d14 L A' → (∀ t, t < 208 → T t = eT L (A' 13) t) → lf_is L T → (∀ p, p < 96 → A' 12 p = tyA L T p) → Q none S') : px_M d px_m_Model_grow [.ref m] S Q := by
  have eq2 : q = mq2 q (nI FL.length) (q 8) := by
    funext i
    unfold mq2
    by_cases h2 : i = 2
    · rw [if_pos h2, h2, hq2]
    · rw [if_neg h2]
      by_cases h8 : i = 8
      · rw [if_pos h8, h8]
      · rw [if_neg h8]
  have h0 : gS S S m q A0 A0 FL (q 8) := ⟨by rw [← eq2]; exact h, mF.rf S m, hf, fun _ _ _ _ _ _ _ _ => rfl⟩
  refine px_M.go (by omega) (Nat.le_of_ble_eq_true rfl) ?_
  refine px_P.sn 2 (f1 := (2, [(0, .ref m), (1, .int 0)], [])) (S1 := S) rfl ?_
  refine gr_zero h0 (fun S1 A1 g1 g2 => ?_)
  refine gr_def g1 hm hw g2 (fun S2 A2 g3 g4 g5 => ?_)
  have out : ∀ (S3 : px_S) (A3 : Nat → Nat → Int32) (t3 : Int32) (X0 : Nat → Int32), gS S S3 m q A0 A3 FL t3 → gI L A3 X0 96 false → px_P (d - 1) px_m_Model_grow (66, [(0, .ref m), (1, .int 0)], []) S3 Q := by
    intro S3 A3 t3 X0 f1 f2
    obtain ⟨a1, a2, a3, a4, a5, a6⟩ := f2
    refine px_P.sn 1 (f1 := (67, [(0, .ref m), (1, .int 0)], [.int 0])) (S1 := S3) rfl ?_
    refine px_P.if_eq rfl rfl (fun _ => ?_) (fun h => absurd ((by decide)) h)
    refine px_P.sn 2 (f1 := (194, [(0, .ref m), (1, .int 0), (2, .int 0)], [])) (S1 := S3) rfl ?_
    refine gr_last (by omega) f1 hm hw hFL a1 a2 (fun S4 A4 t4 e1 e2 e3 e4 => ?_)
    have e13 : (fun t => eT L (A4 13) t) = eT L (A3 13) := by rw [e2]
    refine k S4 A4 t4 (eT L (A3 13)) e1 (fun t ht => by rw [e3]; exact a1 t ht) (fun t ht => by rw [e2]) (gr_fin hw a2 a3 (fun p hp s t hs ht hdt => ?_)) e4
    have := (a6 rfl).2 p hp s t hs ht hdt
    rw [← (a6 rfl).1 t ht] at this
    rw [eT_cg (X' := X0) (hw p s hp hs).1 (fun u hu => (a6 rfl).1 u hu)]
    exact this
  have lp : ∀ (n : Nat) (S3 : px_S) (A3 : Nat → Nat → Int32) (t3 : Int32), 4160 ≤ n + mu (A3 13) → gS S S3 m q A0 A3 FL t3 → d14 L A3 → (∀ t, t < 208 → le32 (A3 13 t) lF) → blw L (A3 13) → px_P (d - 1) px_m_Model_grow (66, [(0, .ref m), (1, .int 1)], []) S3 Q := by
    intro n
    induction n with
    | zero =>
      intro S3 A3 t3 hn f1 f2 f3 f4
      refine px_P.sn 1 (f1 := (67, [(0, .ref m), (1, .int 1)], [.int 1])) (S1 := S3) rfl ?_
      refine px_P.if_eq rfl rfl (fun h => absurd h ((by decide))) (fun _ => ?_)
      refine px_P.sn 4 (f1 := (74, [(0, .ref m), (1, .int 0), (2, .int 0)], [])) (S1 := S3) rfl ?_
      refine gr_round (X0 := A3 13) (by omega) f1 hm hw hFL ⟨f2, f3, f4, fun t _ => le32.rf _, fun z => (by cases z), fun _ => ⟨fun _ _ => rfl, fun p hp => absurd hp (by omega)⟩⟩ (fun S4 A4 t4 more e1 e2 => ?_)
      cases more with
      | false => exact out S4 A4 t4 _ e1 e2
      | true =>
        have := e2.2.2.2.2.1 rfl
        have le : mu (A4 13) ≤ 4160 := ct_le _ _
        omega
    | succ n ih =>
      intro S3 A3 t3 hn f1 f2 f3 f4
      refine px_P.sn 1 (f1 := (67, [(0, .ref m), (1, .int 1)], [.int 1])) (S1 := S3) rfl ?_
      refine px_P.if_eq rfl rfl (fun h => absurd h ((by decide))) (fun _ => ?_)
      refine px_P.sn 4 (f1 := (74, [(0, .ref m), (1, .int 0), (2, .int 0)], [])) (S1 := S3) rfl ?_
      refine gr_round (X0 := A3 13) (by omega) f1 hm hw hFL ⟨f2, f3, f4, fun t _ => le32.rf _, fun z => (by cases z), fun _ => ⟨fun _ _ => rfl, fun p hp => absurd hp (by omega)⟩⟩ (fun S4 A4 t4 more e1 e2 => ?_)
      cases more with
      | false => exact out S4 A4 t4 _ e1 e2
      | true =>
        have := e2.2.2.2.2.1 rfl
        exact ih S4 A4 t4 (by omega) e1 e2.1 e2.2.1 e2.2.2.1
  refine lp 4160 S2 A2 _ (by omega) g3 g5 (fun t ht => by rw [g4 t ht]; exact le32.z _) (fun Y hY t ht => ?_)
  unfold eT
  split
  · rename_i e
    exact hY.2.2 t ht (dc_no.mp e)
  · rw [g4 t ht]; exact le32.z _
