/-! ===== the model: a round of growing; growing ===== -/
/-- where a round stands: it began at X0; whether something has grown -/
def gI (L : Nat → Option ln_S) (A : Nat → Nat → Int32) (X0 : Nat → Int32) (i : Nat) (more : Bool) : Prop := d14 L A ∧ (∀ t, t < 208 → le32 (A 13 t) lF) ∧ blw L (A 13) ∧ (∀ t, t < 208 → le32 (X0 t) (A 13 t)) ∧ (more = true → mu X0 + 1 ≤ mu (A 13)) ∧ (more = false → (∀ t, t < 208 → A 13 t = X0 t) ∧ ∀ p, p < i → gok L X0 p)
set_option maxRecDepth 20000 in
set_option maxHeartbeats 1000000 in
theorem gr_round {d m : Nat} {t : Int32} {L : Nat → Option ln_S} {X0 : Nat → Int32} {q : Nat → Int32} {A0 A : Nat → Nat → Int32} {FL : fl_T} {S0 S : px_S} {Q : Option Value → px_S → Prop} (hd : 4 ≤ d) (h : gS S0 S m q A0 A FL t) (hm : ml A0 L) (hw : wfL L) (hFL : FL.length ≤ 5940) (h1 : gI L A X0 0 false)
    (k : ∀ S' A' t' more, gS S0 S' m q A0 A' FL t' → gI L A' X0 96 more → px_P d px_m_Model_grow (66, [(0, .ref m), (1, .int (bif more then 1 else 0))], []) S' Q) : px_P d px_m_Model_grow (74, [(0, .ref m), (1, .int 0), (2, .int (nI 0))], []) S Q := by
  have lp := px_for (d := d) (mi := px_m_Model_grow) (Q := Q) (X := Bool × (Nat → Nat → Int32) × Int32) 96 (fun i y => (74, [(0, .ref m), (1, .int (bif y.1 then 1 else 0)), (2, .int (nI i))], []))
    (fun i y S' => gS S0 S' m q A0 y.2.1 FL y.2.2 ∧ gI L y.2.1 X0 i y.1)
    (by
      intro i hi ⟨more, A1, t1⟩ S1 hy kk
      obtain ⟨g1, g2⟩ := hy
      dsimp only at g1 g2
      obtain ⟨a1, a2, a3, a4, a5, a6⟩ := g2
      have tail : ∀ (S2 : px_S) (A2 : Nat → Nat → Int32) (t2 : Int32) (mo : Bool), gS S0 S2 m q A0 A2 FL t2 → gI L A2 X0 (i + 1) mo → px_P d px_m_Model_grow (183, [(0, .ref m), (1, .int (bif mo then 1 else 0)), (2, .int (nI i))], []) S2 Q := by
        intro S2 A2 t2 mo f1 f2
        refine px_P.sn 2 (f1 := (74, [(0, .ref m), (1, .int (bif mo then 1 else 0)), (2, .int ((nI i) + 1))], [])) (S1 := S2) rfl ?_
        rw [nI_1]
        exact kk (mo, A2, t2) S2 ⟨f1, f2⟩
      have at100 : ∀ (S2 : px_S) (A2 : Nat → Nat → Int32) (t2 : Int32), gS S0 S2 m q A0 A2 FL t2 → A2 13 = A1 13 → A2 14 = A1 14 → (∀ s, L i = some s → ln_wr s = -1 → A2 12 i = ln_val s (eT L (A1 13))) → px_P d px_m_Model_grow (100, [(0, .ref m), (1, .int (bif more then 1 else 0)), (2, .int (nI i))], []) S2 Q := by
        intro S2 A2 t2 f1 e13 e14 f2
        have b1 : d14 L A2 := fun t ht => by rw [e14]; exact a1 t ht
        have c2 := f1.1.1
        have hml := f1.ml hm
        have hdf := hml.df hi
        have hmi := hml i hi
        have r5 : S2.1 (m + 5) = some (.inl (0, 96, .inl (A2 5))) := f1.1.2 5 (by decide) (by decide)
        have r6 : S2.1 (m + 6) = some (.inl (0, 96, .inl (A2 6))) := f1.1.2 6 (by decide) (by decide)
        have r12 : S2.1 (m + 12) = some (.inl (0, 96, .inl (A2 12))) := f1.1.2 12 (by decide) (by decide)
        have r13 : S2.1 (m + 13) = some (.inl (0, 208, .inl (A2 13))) := f1.1.2 13 (by decide) (by decide)
        refine px_P.sn 1 (f1 := (101, [(0, .ref m), (1, .int (bif more then 1 else 0)), (2, .int (nI i))], [.ref m])) (S1 := S2) rfl ?_
        refine px_P.gf rfl rfl (by assumption) (v := .ref (m + 5)) rfl ?_
        refine px_P.sn 1 (f1 := (105, [(0, .ref m), (1, .int (bif more then 1 else 0)), (2, .int (nI i))], [.int (nI i), .ref (m + 5)])) (S1 := S2) rfl ?_
        refine px_P.ialdj (j := i) rfl (by assumption) rfl (by omega) (by decide) ?_
        rw [hdf]
        rcases hw.df hi with ⟨e1, e2⟩ | ⟨s, t0, e1, e2, e3, e4, e5⟩
        · rw [e1]
          refine px_P.if_lt rfl rfl (fun _ => ?_) (fun h => absurd ((by decide)) h)
          refine tail S2 A2 t2 more f1 ⟨b1, by rw [e13]; exact a2, by rw [e13]; exact a3, by rw [e13]; exact a4, by rw [e13]; exact a5, fun z => ⟨by rw [e13]; exact (a6 z).1, fun p hp => ?_⟩⟩
          by_cases ep : p = i
          · subst ep
            intro s u hs hu hdu
            have := e2 u hu
            rw [dfb_t.mpr ⟨s, hs, hdu⟩] at this
            cases this
          · exact (a6 z).2 p (by omega)
        · have hwf := (hw i s hi e1).1
          have hmr := (hmi.2 s e1).2.2
          have hdc := (hmr.2.2 e5).1
          have h12 := f2 s e1 e5
          have hval : le32 (ln_val s (eT L (A1 13))) lF := ln_val_bd hwf (fun u hu => eT_bd a2 u hu.1)
          have hsays : (if A2 6 i < 0 then A2 12 i else A2 6 i) = ln_says s (ln_val s (eT L (A1 13))) := by
            unfold ln_says
            rw [hdc, h12]
            rcases hwf.2.2.1 with z | ⟨u, hu, z⟩
            · rw [z, if_pos (by decide), if_pos rfl]
            · rw [z, if_neg (nI_pos (by omega)), if_neg (nI_neg (by omega))]
          rw [e3]
          refine px_P.if_lt rfl rfl (fun h => absurd h (nI_pos (by omega))) (fun _ => ?_)
          refine px_P.sn 1 (f1 := (110, [(0, .ref m), (1, .int (bif more then 1 else 0)), (2, .int (nI i))], [.ref m])) (S1 := S2) rfl ?_
          refine px_P.gf rfl rfl (by assumption) (v := .ref (m + 13)) rfl ?_
          refine px_P.sn 1 (f1 := (114, [(0, .ref m), (1, .int (bif more then 1 else 0)), (2, .int (nI i))], [.ref m, .ref (m + 13)])) (S1 := S2) rfl ?_
          refine px_P.gf rfl rfl (by assumption) (v := .ref (m + 5)) rfl ?_
          refine px_P.sn 1 (f1 := (118, [(0, .ref m), (1, .int (bif more then 1 else 0)), (2, .int (nI i))], [.int (nI i), .ref (m + 5), .ref (m + 13)])) (S1 := S2) rfl ?_
          refine px_P.ialdj (j := i) rfl (by assumption) rfl (by omega) (by decide) ?_
          rw [hdf, e3]
          refine px_P.ialdj (j := t0) rfl (by assumption) rfl (by omega) (by decide) ?_
          refine px_P.sn 2 (f1 := (122, [(0, .ref m), (1, .int (bif more then 1 else 0)), (2, .int (nI i)), (3, .int (A2 13 t0))], [.ref m])) (S1 := S2) rfl ?_
          refine px_P.gf rfl rfl (by assumption) (v := .ref (m + 13)) rfl ?_
          refine px_P.sn 1 (f1 := (126, [(0, .ref m), (1, .int (bif more then 1 else 0)), (2, .int (nI i)), (3, .int (A2 13 t0))], [.ref m, .ref (m + 13)])) (S1 := S2) rfl ?_
          refine px_P.gf rfl rfl (by assumption) (v := .ref (m + 5)) rfl ?_
          refine px_P.sn 1 (f1 := (130, [(0, .ref m), (1, .int (bif more then 1 else 0)), (2, .int (nI i)), (3, .int (A2 13 t0))], [.int (nI i), .ref (m + 5), .ref (m + 13)])) (S1 := S2) rfl ?_
          refine px_P.ialdj (j := i) rfl (by assumption) rfl (by omega) (by decide) ?_
          rw [hdf, e3]
          refine px_P.sn 2 (f1 := (133, [(0, .ref m), (1, .int (bif more then 1 else 0)), (2, .int (nI i)), (3, .int (A2 13 t0))], [.ref m, .int (A2 13 t0), .int (nI t0), .ref (m + 13)])) (S1 := S2) rfl ?_
          refine px_P.gf rfl rfl (by assumption) (v := .ref (m + 6)) rfl ?_
          refine px_P.sn 1 (f1 := (137, [(0, .ref m), (1, .int (bif more then 1 else 0)), (2, .int (nI i)), (3, .int (A2 13 t0))], [.int (nI i), .ref (m + 6), .int (A2 13 t0), .int (nI t0), .ref (m + 13)])) (S1 := S2) rfl ?_
          refine px_P.ialdj (j := i) rfl (by assumption) rfl (by omega) (by decide) ?_
          have st : ∀ v : Int32, v = ln_says s (ln_val s (eT L (A1 13))) → px_P d px_m_Model_grow (156, [(0, .ref m), (1, .int (bif more then 1 else 0)), (2, .int (nI i)), (3, .int (A2 13 t0))], [.int v, .int (A2 13 t0), .int (nI t0), .ref (m + 13)]) S2 Q := by
            intro v hv
            have hX : ∀ t, t < 208 → upd (A2 13) t0 (A2 13 t0 ||| v) t = if t = t0 then A1 13 t0 ||| ln_says s (ln_val s (eT L (A1 13))) else A1 13 t := by
              intro t ht
              by_cases e : t = t0
              · rw [if_pos e, e, pk_us, hv, e13]
              · rw [if_neg e, pk_un e, e13]
            have b2 : ∀ t, t < 208 → le32 (upd (A2 13) t0 (A2 13 t0 ||| v) t) lF := by
              intro t ht
              rw [hX t ht]
              split
              · exact (a2 t0 e2).or (ln_says_bd hwf hval)
              · exact a2 t ht
            have b3 : blw L (upd (A2 13) t0 (A2 13 t0 ||| v)) := a3.up hwf hi e1 e2 e4 hX
            have up : ∀ t, t < 208 → le32 (A1 13 t) (upd (A2 13) t0 (A2 13 t0 ||| v) t) := by
              intro t ht
              rw [hX t ht]
              split
              · rename_i e; rw [e]; exact le32.l _ _
              · exact le32.rf _
            have b4 : ∀ t, t < 208 → le32 (X0 t) (upd (A2 13) t0 (A2 13 t0 ||| v) t) := fun t ht => (a4 t ht).tr (up t ht)
            have mul : mu (A1 13) ≤ mu (upd (A2 13) t0 (A2 13 t0 ||| v)) := ct_sub (fun j hj z => up (j / 20) (by omega) _ (by omega) z)
            refine px_P.sn 1 (f1 := (157, [(0, .ref m), (1, .int (bif more then 1 else 0)), (2, .int (nI i)), (3, .int (A2 13 t0))], [.int ((A2 13 t0) ||| v), .int (nI t0), .ref (m + 13)])) (S1 := S2) rfl ?_
            refine px_P.iastj (j := t0) rfl (by assumption) rfl (by omega) (by decide) (fun S3 u3 => ?_)
            have f3 := f1.up (j := 13) (by omega) u3
            have c3 := f3.1.1
            have b1' : d14 L (va_up A2 13 (upd (A2 13) t0 (A2 13 t0 ||| v))) := fun t ht => by rw [va_un (by decide)]; exact b1 t ht
            have yes : (more = true ∨ ¬ upd (A2 13) t0 (A2 13 t0 ||| v) t0 = A2 13 t0) → px_P d px_m_Model_grow (177, [(0, .ref m), (1, .int (bif more then 1 else 0)), (2, .int (nI i)), (3, .int (A2 13 t0))], []) S3 Q := by
              intro z
              refine px_P.sn 3 (f1 := (183, [(0, .ref m), (1, .int 1), (2, .int (nI i)), (3, .int (A2 13 t0))], [])) (S1 := S3) rfl ?_
              show px_P _ _ (183, [(0, .ref m), (1, .int 1), (2, .int (nI i)), (3, .int (A2 13 t0))], []) S3 _
              refine px_P.wk (ls := [(0, .ref m), (1, .int 1), (2, .int (nI i))]) rfl (.cons_cons _ (.cons_cons _ (.cons_cons _ (.cons _ .slnil)))) ?_
              refine tail S3 _ t2 true f3 ⟨b1', by rw [va_us]; exact b2, by rw [va_us]; exact b3, by rw [va_us]; exact b4, fun _ => ?_, fun w => (by cases w)⟩
              rw [va_us]
              rcases z with z | z
              · have := a5 z; omega
              · have : mu X0 ≤ mu (A1 13) := ct_sub (fun j hj z => a4 (j / 20) (by omega) _ (by omega) z)
                have m2 := mu_up up b2 e2 (by rw [e13] at z ⊢; exact z)
                omega
            refine px_P.sn 1 (f1 := (159, [(0, .ref m), (1, .int (bif more then 1 else 0)), (2, .int (nI i)), (3, .int (A2 13 t0))], [.int (bif more then 1 else 0)])) (S1 := S3) rfl ?_
            cases more with
            | true =>
              show px_P _ _ (159, [(0, .ref m), (1, .int 1), (2, .int (nI i)), (3, .int (A2 13 t0))], [.int 1]) S3 _
              refine px_P.if_ne rfl rfl (fun _ => ?_) (fun h => absurd h ((by decide)))
              exact yes (Or.inl rfl)
            | false =>
              have r5c : S3.1 (m + 5) = some (.inl (0, 96, .inl (A2 5))) := f3.1.2 5 (by decide) (by decide)
              have r13c : S3.1 (m + 13) = some (.inl (0, 208, .inl (upd (A2 13) t0 (A2 13 t0 ||| v)))) := f3.1.2 13 (by decide) (by decide)
              show px_P _ _ (159, [(0, .ref m), (1, .int 0), (2, .int (nI i)), (3, .int (A2 13 t0))], [.int 0]) S3 _
              refine px_P.if_ne rfl rfl (fun h => absurd ((by decide)) h) (fun _ => ?_)
              refine px_P.sn 1 (f1 := (163, [(0, .ref m), (1, .int 0), (2, .int (nI i)), (3, .int (A2 13 t0))], [.ref m])) (S1 := S3) rfl ?_
              refine px_P.gf rfl rfl (by assumption) (v := .ref (m + 13)) rfl ?_
              refine px_P.sn 1 (f1 := (167, [(0, .ref m), (1, .int 0), (2, .int (nI i)), (3, .int (A2 13 t0))], [.ref m, .ref (m + 13)])) (S1 := S3) rfl ?_
              refine px_P.gf rfl rfl (by assumption) (v := .ref (m + 5)) rfl ?_
              refine px_P.sn 1 (f1 := (171, [(0, .ref m), (1, .int 0), (2, .int (nI i)), (3, .int (A2 13 t0))], [.int (nI i), .ref (m + 5), .ref (m + 13)])) (S1 := S3) rfl ?_
              refine px_P.ialdj (j := i) rfl (by assumption) rfl (by omega) (by decide) ?_
              rw [hdf, e3]
              refine px_P.ialdj (j := t0) rfl (by assumption) rfl (by omega) (by decide) ?_
              refine px_P.sn 1 (f1 := (174, [(0, .ref m), (1, .int 0), (2, .int (nI i)), (3, .int (A2 13 t0))], [.int (A2 13 t0), .int (upd (A2 13) t0 (A2 13 t0 ||| v) t0)])) (S1 := S3) rfl ?_
              refine px_P.ic_eq rfl rfl (fun z => ?_) (fun z => ?_)
              · have eX : ∀ t, t < 208 → upd (A2 13) t0 (A2 13 t0 ||| v) t = A1 13 t := by
                  intro t ht
                  by_cases e : t = t0
                  · rw [e, z, e13]
                  · rw [pk_un e, e13]
                refine px_P.sn 2 (f1 := (183, [(0, .ref m), (1, .int 0), (2, .int (nI i)), (3, .int (A2 13 t0))], [])) (S1 := S3) rfl ?_
                show px_P _ _ (183, [(0, .ref m), (1, .int 0), (2, .int (nI i)), (3, .int (A2 13 t0))], []) S3 _
                refine px_P.wk (ls := [(0, .ref m), (1, .int 0), (2, .int (nI i))]) rfl (.cons_cons _ (.cons_cons _ (.cons_cons _ (.cons _ .slnil)))) ?_
                refine tail S3 _ t2 false f3 ⟨b1', by rw [va_us]; exact b2, by rw [va_us]; exact b3, by rw [va_us]; exact b4, fun w => (by cases w), fun _ => ⟨fun t ht => ?_, fun p hp => ?_⟩⟩
                · rw [va_us, eX t ht]; exact (a6 rfl).1 t ht
                · by_cases ep : p = i
                  · subst ep
                    intro s' u hs' hu hdu
                    rw [e1] at hs'
                    cases hs'
                    have : u = t0 := nI_inj208 hu e2 (hdu.symm.trans e4)
                    subst this
                    have hv2 : ln_val s (eT L X0) = ln_val s (eT L (A1 13)) := eT_cg hwf (fun t ht => ((a6 rfl).1 t ht).symm)
                    rw [hv2, ← (a6 rfl).1 u hu, ← eX u hu, ← hv, pk_us]
                    exact le32.r _ _
                  · exact (a6 rfl).2 p (by omega)
              · exact yes (Or.inr z)
          refine px_P.if_lt rfl rfl (fun z => ?_) (fun z => ?_)
          · rw [if_pos z] at hsays
            refine px_P.sn 1 (f1 := (151, [(0, .ref m), (1, .int (bif more then 1 else 0)), (2, .int (nI i)), (3, .int (A2 13 t0))], [.ref m, .int (A2 13 t0), .int (nI t0), .ref (m + 13)])) (S1 := S2) rfl ?_
            refine px_P.gf rfl rfl (by assumption) (v := .ref (m + 12)) rfl ?_
            refine px_P.sn 1 (f1 := (155, [(0, .ref m), (1, .int (bif more then 1 else 0)), (2, .int (nI i)), (3, .int (A2 13 t0))], [.int (nI i), .ref (m + 12), .int (A2 13 t0), .int (nI t0), .ref (m + 13)])) (S1 := S2) rfl ?_
            refine px_P.ialdj (j := i) rfl (by assumption) rfl (by omega) (by decide) ?_
            exact st _ hsays
          · rw [if_neg z] at hsays
            refine px_P.sn 1 (f1 := (142, [(0, .ref m), (1, .int (bif more then 1 else 0)), (2, .int (nI i)), (3, .int (A2 13 t0))], [.ref m, .int (A2 13 t0), .int (nI t0), .ref (m + 13)])) (S1 := S2) rfl ?_
            refine px_P.gf rfl rfl (by assumption) (v := .ref (m + 6)) rfl ?_
            refine px_P.sn 1 (f1 := (146, [(0, .ref m), (1, .int (bif more then 1 else 0)), (2, .int (nI i)), (3, .int (A2 13 t0))], [.int (nI i), .ref (m + 6), .int (A2 13 t0), .int (nI t0), .ref (m + 13)])) (S1 := S2) rfl ?_
            refine px_P.ialdj (j := i) rfl (by assumption) rfl (by omega) (by decide) ?_
            refine px_P.sn 1 (f1 := (156, [(0, .ref m), (1, .int (bif more then 1 else 0)), (2, .int (nI i)), (3, .int (A2 13 t0))], [.int (A2 6 i), .int (A2 13 t0), .int (nI t0), .ref (m + 13)])) (S1 := S2) rfl ?_
            exact st _ hsays
      have c1 := g1.1.1
      have hrd := (g1.ml hm).rd hw hi
      show px_P _ _ (74, [(0, .ref m), (1, .int (bif more then 1 else 0)), (2, .int (nI i))], []) S1 _
      refine px_P.sn 2 (f1 := (77, [(0, .ref m), (1, .int (bif more then 1 else 0)), (2, .int (nI i))], [.int 96, .int (nI i)])) (S1 := S1) rfl ?_
      refine px_P.ic_ge rfl rfl (fun h => absurd h (nI_ge (b := 96) hi (by decide))) (fun _ => ?_)
      refine px_P.sn 2 (f1 := (82, [(0, .ref m), (1, .int (bif more then 1 else 0)), (2, .int (nI i))], [.int (nI i), .ref m])) (S1 := S1) rfl ?_
      refine px_P.cv rfl rfl rfl (by assumption) rfl ?_
      show px_M _ px_m_Model_isRead [.ref m, .int (nI i)] S1 _
      refine pm_moIsRead (by omega) hi g1.1 ?_
      rw [hrd]
      cases hr : rdy L i with
      | false =>
        show px_P _ _ (85, [(0, .ref m), (1, .int (bif more then 1 else 0)), (2, .int (nI i))], [.int 0]) S1 _
        refine px_P.if_eq rfl rfl (fun _ => ?_) (fun h => absurd ((by decide)) h)
        refine at100 S1 A1 t1 g1 rfl rfl (fun s hs hws => ?_)
        rw [rdy_t.mpr ⟨s, hs, hws⟩] at hr
        cases hr
      | true =>
        obtain ⟨s, hs, hws⟩ := rdy_t.mp hr
        show px_P _ _ (85, [(0, .ref m), (1, .int (bif more then 1 else 0)), (2, .int (nI i))], [.int 1]) S1 _
        refine px_P.if_eq rfl rfl (fun h => absurd h ((by decide))) (fun _ => ?_)
        refine px_P.sn 1 (f1 := (89, [(0, .ref m), (1, .int (bif more then 1 else 0)), (2, .int (nI i))], [.ref m])) (S1 := S1) rfl ?_
        refine px_P.gf rfl rfl (by assumption) (v := .ref (m + 12)) rfl ?_
        refine px_P.sn 4 (f1 := (96, [(0, .ref m), (1, .int (bif more then 1 else 0)), (2, .int (nI i))], [.int 0, .int (nI i), .ref m, .int (nI i), .ref (m + 12)])) (S1 := S1) rfl ?_
        refine px_P.cv rfl rfl rfl (by assumption) rfl ?_
        show px_M _ px_m_Model_value [.ref m, .int (nI i), .int 0] S1 _
        refine pm_gsValue hd hi g1 hm hw hs hws a1.env (eT_bd a2) hFL (fun S2 A2 t2 f1 f2 => ?_)
        have r12 : S2.1 (m + 12) = some (.inl (0, 96, .inl (A2 12))) := f1.1.2 12 (by decide) (by decide)
        show px_P _ _ (99, [(0, .ref m), (1, .int (bif more then 1 else 0)), (2, .int (nI i))], [.int (ln_val s (eT L (A1 13))), .int (nI i), .ref (m + 12)]) S2 _
        refine px_P.iastj (j := i) rfl (by assumption) rfl (by omega) (by decide) (fun S3 u3 => ?_)
        refine at100 S3 _ t2 (f1.up (j := 12) (by omega) u3) ?_ ?_ (fun s' hs' _ => ?_)
        · rw [va_un (by decide)]; exact f2 13 (by decide) (by decide) (by decide) (by decide)
        · rw [va_un (by decide)]; exact f2 14 (by decide) (by decide) (by decide) (by decide)
        · rw [va_us, pk_us]
          rw [hs] at hs'
          cases hs'
          rfl)
    (by
      intro ⟨more, A1, t1⟩ S1 ⟨g1, g2⟩
      dsimp only at g1 g2
      show px_P _ _ (74, [(0, .ref m), (1, .int (bif more then 1 else 0)), (2, .int (nI 96))], []) S1 _
      refine px_P.sn 2 (f1 := (77, [(0, .ref m), (1, .int (bif more then 1 else 0)), (2, .int (nI 96))], [.int 96, .int (nI 96)])) (S1 := S1) rfl ?_
      refine px_P.ic_ge rfl rfl (fun _ => ?_) (fun h => absurd ((by decide)) h)
      refine px_P.sn 1 (f1 := (66, [(0, .ref m), (1, .int (bif more then 1 else 0)), (2, .int (nI 96))], [])) (S1 := S1) rfl ?_
      show px_P _ _ (66, [(0, .ref m), (1, .int (bif more then 1 else 0)), (2, .int (nI 96))], []) S1 _
      refine px_P.wk (ls := [(0, .ref m), (1, .int (bif more then 1 else 0))]) rfl (.cons_cons _ (.cons_cons _ (.cons _ .slnil))) ?_
      exact k S1 A1 t1 more g1 g2)
  exact lp 96 0 rfl (false, A, t) S ⟨h, h1⟩
