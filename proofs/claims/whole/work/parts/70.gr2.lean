/-! ===== the model: growing, its loops ===== -/
def eT (L : Nat → Option ln_S) (X : Nat → Int32) (t : Nat) : Int32 := if dc L t = 0 then 16 else X t
def d14 (L : Nat → Option ln_S) (A : Nat → Nat → Int32) : Prop := ∀ t, t < 208 → A 14 t = (if dc L t = 0 then 0 else 1)
theorem d14.env {L : Nat → Option ln_S} {A : Nat → Nat → Int32} (h : d14 L A) : envT A (eT L (A 13)) := by
  intro t ht
  unfold eT
  rw [h t ht]
  by_cases e : dc L t = 0
  · rw [if_pos e, if_pos e, if_pos rfl]
  · rw [if_neg e, if_neg e, if_neg (by decide)]
theorem eT_bd {L : Nat → Option ln_S} {X : Nat → Int32} (h : ∀ t, t < 208 → le32 (X t) lF) : ∀ t, t < 208 → le32 (eT L X t) lF := by
  intro t ht
  unfold eT
  split
  · exact lF16
  · exact h t ht
def pfx (L : Nat → Option ln_S) (Y : Nat → Int32) : Prop := (∀ t, t < 208 → le32 (Y t) lF) ∧ cs_ok L Y ∧ ∀ t, t < 208 → df_no L t → le32 16 (Y t)
def blw (L : Nat → Option ln_S) (X : Nat → Int32) : Prop := ∀ Y, pfx L Y → ∀ t, t < 208 → le32 (eT L X t) (Y t)
def gok (L : Nat → Option ln_S) (X : Nat → Int32) (p : Nat) : Prop := ∀ s t, L p = some s → t < 208 → ln_df s = nI t → le32 (ln_says s (ln_val s (eT L X))) (X t)
theorem lr_208 {s : ln_S} {t : Nat} (h : lr s t) : t < 208 := h.1
theorem eT_cg {L : Nat → Option ln_S} {X X' : Nat → Int32} {s : ln_S} (hw : ln_wf s) (h : ∀ t, t < 208 → X t = X' t) : ln_val s (eT L X) = ln_val s (eT L X') := by
  refine ln_val_eq hw (fun t ht => ?_)
  unfold eT
  rw [h t ht.1]
theorem blw.up {L : Nat → Option ln_S} {X X' : Nat → Int32} {p t0 : Nat} {s : ln_S} (h : blw L X) (hw : ln_wf s) (hp : p < 96) (hL : L p = some s) (ht : t0 < 208) (hd : ln_df s = nI t0) (hX : ∀ t, t < 208 → X' t = if t = t0 then X t0 ||| ln_says s (ln_val s (eT L X)) else X t) : blw L X' := by
  intro Y hY t htt
  have h1 := h Y hY t htt
  unfold eT at h1 ⊢
  by_cases e : dc L t = 0
  · rw [if_pos e] at h1 ⊢; exact h1
  · rw [if_neg e] at h1 ⊢
    rw [hX t htt]
    by_cases e2 : t = t0
    · rw [if_pos e2]
      subst e2
      refine le32.or h1 ?_
      have hv : le32 (ln_val s (eT L X)) (ln_val s Y) := ln_val_le hw (fun u hu => h Y hY u hu.1) (fun u hu => hY.1 u hu.1)
      exact (ln_says_le hv).tr (hY.2.1 p s t hp hL htt hd)
    · rw [if_neg e2]; exact h1
theorem gr_fin {L : Nat → Option ln_S} {X : Nat → Int32} (hw : wfL L) (h1 : ∀ t, t < 208 → le32 (X t) lF) (h2 : blw L X) (h3 : ∀ p, p < 96 → gok L X p) : lf_is L (eT L X) := by
  refine ⟨eT_bd h1, fun p z t hp hz ht hd => ?_, fun t ht hn => ?_, fun Y y1 y2 y3 => h2 Y ⟨y1, y2, y3⟩⟩
  · have := h3 p hp z t hz ht hd
    have e : ¬ dc L t = 0 := fun e => dc_no.mp e p z hp hz hd
    unfold eT at this ⊢
    rw [if_neg e]
    exact this
  · unfold eT
    rw [if_pos (dc_no.mpr hn)]
    exact le32.rf _
theorem gr_zero {d m : Nat} {t : Int32} {q : Nat → Int32} {A0 A : Nat → Nat → Int32} {FL : fl_T} {S0 S : px_S} {Q : Option Value → px_S → Prop} (h : gS S0 S m q A0 A FL t)
    (k : ∀ S' A', gS S0 S' m q A0 A' FL t → (∀ j, j < 208 → A' 13 j = 0 ∧ A' 14 j = 0) → px_P d px_m_Model_grow (31, [(0, .ref m), (1, .int (nI 0))], []) S' Q) : px_P d px_m_Model_grow (2, [(0, .ref m), (1, .int (nI 0))], []) S Q := by
  have lp := px_for (d := d) (mi := px_m_Model_grow) (Q := Q) (X := Nat → Nat → Int32) 208 (fun i _ => (2, [(0, .ref m), (1, .int (nI i))], []))
    (fun i A S' => gS S0 S' m q A0 A FL t ∧ ∀ j, j < i → A 13 j = 0 ∧ A 14 j = 0)
    (by
      intro i hi A1 S1 ⟨g1, g2⟩ kk
      have c1 := g1.1.1
      show px_P _ _ (2, [(0, .ref m), (1, .int (nI i))], []) S1 _
      have r13 : S1.1 (m + 13) = some (.inl (0, 208, .inl (A1 13))) := g1.1.2 13 (by decide) (by decide)
      refine px_P.sn 2 (f1 := (6, [(0, .ref m), (1, .int (nI i))], [.int 208, .int (nI i)])) (S1 := S1) rfl ?_
      refine px_P.ic_ge rfl rfl (fun h => absurd h (nI_ge (b := 208) hi (by decide))) (fun _ => ?_)
      refine px_P.sn 1 (f1 := (10, [(0, .ref m), (1, .int (nI i))], [.ref m])) (S1 := S1) rfl ?_
      refine px_P.gf rfl rfl (by assumption) (v := .ref (m + 13)) rfl ?_
      refine px_P.sn 2 (f1 := (15, [(0, .ref m), (1, .int (nI i))], [.int 0, .int (nI i), .ref (m + 13)])) (S1 := S1) rfl ?_
      refine px_P.iastj (j := i) rfl (by assumption) rfl (by omega) (by decide) (fun S2 u2 => ?_)
      have g3 := g1.up (j := 13) (by omega) u2
      have c2 := g3.1.1
      have r14 : S2.1 (m + 14) = some (.inl (2, 208, .inl (A1 14))) := g3.1.2 14 (by decide) (by decide)
      refine px_P.sn 1 (f1 := (17, [(0, .ref m), (1, .int (nI i))], [.ref m])) (S1 := S2) rfl ?_
      refine px_P.gf rfl rfl (by assumption) (v := .ref (m + 14)) rfl ?_
      refine px_P.sn 2 (f1 := (22, [(0, .ref m), (1, .int (nI i))], [.int 0, .int (nI i), .ref (m + 14)])) (S1 := S2) rfl ?_
      refine px_P.zastj (j := i) rfl (by assumption) rfl rfl (by omega) (by decide) (fun S3 u3 => ?_)
      have g4 := g3.up (j := 14) (by omega) u3
      refine px_P.sn 2 (f1 := (2, [(0, .ref m), (1, .int ((nI i) + 1))], [])) (S1 := S3) rfl ?_
      rw [nI_1]
      refine kk _ S3 ⟨g4, fun j hj => ?_⟩
      show upd (A1 13) i 0 j = 0 ∧ upd (A1 14) i 0 j = 0
      by_cases e : j = i
      · subst e; rw [pk_us, pk_us]; exact ⟨rfl, rfl⟩
      · rw [pk_un e, pk_un e]; exact g2 j (by omega))
    (by
      intro A1 S1 ⟨g1, g2⟩
      show px_P _ _ (2, [(0, .ref m), (1, .int (nI 208))], []) S1 _
      refine px_P.sn 2 (f1 := (6, [(0, .ref m), (1, .int (nI 208))], [.int 208, .int (nI 208)])) (S1 := S1) rfl ?_
      refine px_P.ic_ge rfl rfl (fun _ => ?_) (fun h => absurd ((by decide)) h)
      refine px_P.sn 2 (f1 := (31, [(0, .ref m), (1, .int 0)], [])) (S1 := S1) rfl ?_
      exact k S1 A1 g1 g2)
  exact lp 208 0 rfl A S ⟨h, fun j hj => absurd hj (by omega)⟩
theorem gr_def {d m : Nat} {t : Int32} {L : Nat → Option ln_S} {q : Nat → Int32} {A0 A : Nat → Nat → Int32} {FL : fl_T} {S0 S : px_S} {Q : Option Value → px_S → Prop} (h : gS S0 S m q A0 A FL t) (hm : ml A0 L) (hw : wfL L) (h0 : ∀ j, j < 208 → A 13 j = 0 ∧ A 14 j = 0)
    (k : ∀ S' A', gS S0 S' m q A0 A' FL t → (∀ j, j < 208 → A' 13 j = 0) → d14 L A' → px_P d px_m_Model_grow (66, [(0, .ref m), (1, .int 1)], []) S' Q) : px_P d px_m_Model_grow (31, [(0, .ref m), (1, .int (nI 0))], []) S Q := by
  have lp := px_for (d := d) (mi := px_m_Model_grow) (Q := Q) (X := Nat → Nat → Int32) 96 (fun i _ => (31, [(0, .ref m), (1, .int (nI i))], []))
    (fun i A S' => gS S0 S' m q A0 A FL t ∧ (∀ j, j < 208 → A 13 j = 0) ∧ ∀ u, u < 208 → A 14 u = (if ct (fun p => dfb L p u) i = 0 then 0 else 1))
    (by
      intro i hi A1 S1 ⟨g1, g2, g3⟩ kk
      have c1 := g1.1.1
      have hdf := (g1.ml hm).df hi
      have tail : ∀ (S2 : px_S) (A2 : Nat → Nat → Int32), gS S0 S2 m q A0 A2 FL t → (∀ j, j < 208 → A2 13 j = 0) → (∀ u, u < 208 → A2 14 u = (if ct (fun p => dfb L p u) (i + 1) = 0 then 0 else 1)) → px_P d px_m_Model_grow (58, [(0, .ref m), (1, .int (nI i))], []) S2 Q := by
        intro S2 A2 f1 f2 f3
        refine px_P.sn 2 (f1 := (31, [(0, .ref m), (1, .int ((nI i) + 1))], [])) (S1 := S2) rfl ?_
        rw [nI_1]
        exact kk A2 S2 ⟨f1, f2, f3⟩
      show px_P _ _ (31, [(0, .ref m), (1, .int (nI i))], []) S1 _
      have r5 : S1.1 (m + 5) = some (.inl (0, 96, .inl (A1 5))) := g1.1.2 5 (by decide) (by decide)
      have r14 : S1.1 (m + 14) = some (.inl (2, 208, .inl (A1 14))) := g1.1.2 14 (by decide) (by decide)
      refine px_P.sn 2 (f1 := (34, [(0, .ref m), (1, .int (nI i))], [.int 96, .int (nI i)])) (S1 := S1) rfl ?_
      refine px_P.ic_ge rfl rfl (fun h => absurd h (nI_ge (b := 96) hi (by decide))) (fun _ => ?_)
      refine px_P.sn 1 (f1 := (38, [(0, .ref m), (1, .int (nI i))], [.ref m])) (S1 := S1) rfl ?_
      refine px_P.gf rfl rfl (by assumption) (v := .ref (m + 5)) rfl ?_
      refine px_P.sn 1 (f1 := (42, [(0, .ref m), (1, .int (nI i))], [.int (nI i), .ref (m + 5)])) (S1 := S1) rfl ?_
      refine px_P.ialdj (j := i) rfl (by assumption) rfl (by omega) (by decide) ?_
      rw [hdf]
      rcases hw.df hi with ⟨e1, e2⟩ | ⟨s, t0, e1, e2, e3, e4, e5⟩
      · rw [e1]
        refine px_P.if_lt rfl rfl (fun _ => ?_) (fun h => absurd ((by decide)) h)
        exact tail S1 A1 g1 g2 (fun u hu => by rw [ct_z (p := fun p => dfb L p u) (n := i) (e2 u hu)]; exact g3 u hu)
      · rw [e3]
        refine px_P.if_lt rfl rfl (fun h => absurd h (nI_pos (by omega))) (fun _ => ?_)
        refine px_P.sn 1 (f1 := (47, [(0, .ref m), (1, .int (nI i))], [.ref m])) (S1 := S1) rfl ?_
        refine px_P.gf rfl rfl (by assumption) (v := .ref (m + 14)) rfl ?_
        refine px_P.sn 1 (f1 := (51, [(0, .ref m), (1, .int (nI i))], [.ref m, .ref (m + 14)])) (S1 := S1) rfl ?_
        refine px_P.gf rfl rfl (by assumption) (v := .ref (m + 5)) rfl ?_
        refine px_P.sn 1 (f1 := (55, [(0, .ref m), (1, .int (nI i))], [.int (nI i), .ref (m + 5), .ref (m + 14)])) (S1 := S1) rfl ?_
        refine px_P.ialdj (j := i) rfl (by assumption) rfl (by omega) (by decide) ?_
        rw [hdf, e3]
        refine px_P.sn 1 (f1 := (57, [(0, .ref m), (1, .int (nI i))], [.int 1, .int (nI t0), .ref (m + 14)])) (S1 := S1) rfl ?_
        refine px_P.zastj (j := t0) rfl (by assumption) rfl rfl (by omega) (by decide) (fun S2 u2 => ?_)
        refine tail S2 _ (g1.up (j := 14) (by omega) u2) (fun j hj => by rw [va_un (by decide)]; exact g2 j hj) (fun u hu => ?_)
        rw [va_us]
        by_cases e : u = t0
        · subst e
          rw [pk_us, ct_s (p := fun p => dfb L p u) (n := i) (dfb_t.mpr ⟨s, e1, e4⟩), if_neg (by omega)]
        · rw [pk_un e, ct_z (p := fun p => dfb L p u) (n := i) (Bool.eq_false_iff.mpr (fun z => ?_))]
          · exact g3 u hu
          · obtain ⟨z1, z2, z3⟩ := dfb_t.mp z
            rw [e1] at z2
            cases z2
            exact e (nI_inj208 hu e2 (z3.symm.trans e4)))
    (by
      intro A1 S1 ⟨g1, g2, g3⟩
      show px_P _ _ (31, [(0, .ref m), (1, .int (nI 96))], []) S1 _
      refine px_P.sn 2 (f1 := (34, [(0, .ref m), (1, .int (nI 96))], [.int 96, .int (nI 96)])) (S1 := S1) rfl ?_
      refine px_P.ic_ge rfl rfl (fun _ => ?_) (fun h => absurd ((by decide)) h)
      refine px_P.sn 2 (f1 := (66, [(0, .ref m), (1, .int 1)], [])) (S1 := S1) rfl ?_
      exact k S1 A1 g1 g2 g3)
  exact lp 96 0 rfl A S ⟨h, fun j hj => (h0 j hj).1, fun u hu => by rw [(h0 u hu).2]; rfl⟩
