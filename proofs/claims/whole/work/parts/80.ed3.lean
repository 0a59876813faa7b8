/-! ===== the model: what is looked at again ===== -/
def eS (S0 S : px_S) (m : Nat) (q : Nat → Int32) (A0 A : Nat → Nat → Int32) : Prop := mo_at S m q A ∧ mF S0 S m ∧ ∀ i, i ≠ 22 → i ≠ 23 → A i = A0 i
theorem eS.up {S0 S S' : px_S} {m j : Nat} {q : Nat → Int32} {A0 A : Nat → Nat → Int32} {g : Nat → Int32} (h : eS S0 S m q A0 A) (hj : j = 22 ∨ j = 23) (u : px_Up S S' (m + j) (.inl (mo_ty j, mo_ln j, .inl g))) : eS S0 S' m q A0 (va_up A j g) :=
  ⟨h.1.ar (by omega) (by omega) u, h.2.1.tr (mF.u (by omega) (by omega) u), fun i e1 e2 => (va_un (by omega)).trans (h.2.2 i e1 e2)⟩
theorem eS.ml {S0 S : px_S} {m : Nat} {q : Nat → Int32} {A0 A : Nat → Nat → Int32} {L : Nat → Option ln_S} (h : eS S0 S m q A0 A) (k : ml A0 L) : ml A L := k.cg (fun i h1 h2 => h.2.2 i (by omega) (by omega))
theorem bz_s (f : Nat → Int32) (p : Nat) : bz (upd f p 1) p = true := by unfold bz; rw [pk_us]; rfl
theorem bz_n (f : Nat → Int32) {p j : Nat} {x : Int32} (h : j ≠ p) : bz (upd f p x) j = bz f j := by unfold bz; rw [pk_un h]
theorem bz_up (f : Nat → Int32) (p : Nat) (j : Nat) (h : bz f j = true) : bz (upd f p 1) j = true := by
  by_cases e : j = p
  · rw [e]; exact bz_s f p
  · rw [bz_n f e]; exact h
def lkI (L : Nat → Option ln_S) (p0 : Nat) (I : Nat → Prop) (A : Nat → Nat → Int32) : Prop := bz (A 22) p0 = true ∧ (∀ t, t < 208 → I t → bz (A 23) t = true) ∧ ∀ P' R', cl_ok L P' R' → P' p0 → (∀ t, t < 208 → I t → R' t) → (∀ p, p < 96 → bz (A 22) p = true → P' p) ∧ ∀ t, t < 208 → bz (A 23) t = true → R' t
def ecn (A : Nat → Nat → Int32) : Nat := ct (bz (A 22)) 96 + ct (bz (A 23)) 208
def okp (L : Nat → Option ln_S) (A : Nat → Nat → Int32) (p : Nat) : Prop := (∀ z t, L p = some z → t < 208 → ss_in (ln_W z) t = true → bz (A 23) t = true → bz (A 22) p = true) ∧ ∀ z t, L p = some z → bz (A 22) p = true → t < 208 → ln_df z = nI t → bz (A 23) t = true
/-- a round began with A1; whether something was added -/
def eI (L : Nat → Option ln_S) (p0 : Nat) (I : Nat → Prop) (A1 A : Nat → Nat → Int32) (more : Bool) : Prop := lkI L p0 I A ∧ (∀ p, p < 96 → bz (A1 22) p = true → bz (A 22) p = true) ∧ (∀ t, t < 208 → bz (A1 23) t = true → bz (A 23) t = true) ∧ (more = true → ecn A1 + 1 ≤ ecn A) ∧ (more = false → (∀ p, p < 96 → bz (A 22) p = bz (A1 22) p) ∧ ∀ t, t < 208 → bz (A 23) t = bz (A1 23) t)
theorem eI.le {L : Nat → Option ln_S} {p0 : Nat} {I : Nat → Prop} {A1 A : Nat → Nat → Int32} {more : Bool} (h : eI L p0 I A1 A more) : ecn A1 ≤ ecn A := by
  have q1 := ct_sub (n := 96) h.2.1
  have q2 := ct_sub (n := 208) h.2.2.1
  unfold ecn
  omega
theorem eI.p {L : Nat → Option ln_S} {p0 p : Nat} {I : Nat → Prop} {A1 A A' : Nat → Nat → Int32} {more : Bool} (h : eI L p0 I A1 A more) (hp : p < 96) (h0 : bz (A 22) p = false) (hr : ∃ z t, L p = some z ∧ t < 208 ∧ ss_in (ln_W z) t = true ∧ bz (A 23) t = true) (e22 : A' 22 = upd (A 22) p 1) (e23 : A' 23 = A 23) : eI L p0 I A1 A' true := by
  have up : ∀ i, i < 96 → bz (A 22) i = true → bz (A' 22) i = true := fun i _ z => by rw [e22]; exact bz_up _ _ _ z
  have hle := h.le
  refine ⟨⟨by rw [e22]; exact bz_up _ _ _ h.1.1, by rw [e23]; exact h.1.2.1, fun P' R' c1 c2 c3 => ?_⟩, fun i hi z => up i hi (h.2.1 i hi z), by rw [e23]; exact h.2.2.1, fun _ => ?_, fun z => (by cases z)⟩
  · obtain ⟨m1, m2⟩ := h.1.2.2 P' R' c1 c2 c3
    refine ⟨fun i hi z => ?_, by rw [e23]; exact m2⟩
    by_cases e : i = p
    · subst e
      obtain ⟨y, t, g1, g2, g3, g4⟩ := hr
      exact c1.1 i y t hi g1 g2 g3 (m2 t g2 g4)
    · rw [e22, bz_n _ e] at z
      exact m1 i hi z
  · have := ct_sub1 (q := bz (A 22)) (q' := bz (A' 22)) (p := p) h0 (by rw [e22]; exact bz_s _ _) hp up
    unfold ecn at *
    rw [e23]
    omega
theorem eI.t {L : Nat → Option ln_S} {p0 p t : Nat} {z : ln_S} {I : Nat → Prop} {A1 A A' : Nat → Nat → Int32} {more : Bool} (h : eI L p0 I A1 A more) (hp : p < 96) (ht : t < 208) (h0 : bz (A 23) t = false) (hl : bz (A 22) p = true) (hL : L p = some z) (hd : ln_df z = nI t) (e23 : A' 23 = upd (A 23) t 1) (e22 : A' 22 = A 22) : eI L p0 I A1 A' true := by
  have up : ∀ i, i < 208 → bz (A 23) i = true → bz (A' 23) i = true := fun i _ z => by rw [e23]; exact bz_up _ _ _ z
  have hle := h.le
  refine ⟨⟨by rw [e22]; exact h.1.1, fun u hu w => up u hu (h.1.2.1 u hu w), fun P' R' c1 c2 c3 => ?_⟩, by rw [e22]; exact h.2.1, fun i hi z => up i hi (h.2.2.1 i hi z), fun _ => ?_, fun z => (by cases z)⟩
  · obtain ⟨m1, m2⟩ := h.1.2.2 P' R' c1 c2 c3
    refine ⟨by rw [e22]; exact m1, fun i hi w => ?_⟩
    by_cases e : i = t
    · subst e
      exact c1.2 p z i hp hL (m1 p hp hl) hi hd
    · rw [e23, bz_n _ e] at w
      exact m2 i hi w
  · have := ct_sub1 (q := bz (A 23)) (q' := bz (A' 23)) (p := t) h0 (by rw [e23]; exact bz_s _ _) ht up
    unfold ecn at *
    rw [e22]
    omega
set_option maxRecDepth 20000 in
set_option maxHeartbeats 1000000 in
theorem ed_round {d m p0 : Nat} {u : Int32} {L : Nat → Option ln_S} {I : Nat → Prop} {q : Nat → Int32} {A0 A1 : Nat → Nat → Int32} {S0 S : px_S} {Q : Option Value → px_S → Prop} (hd : 2 ≤ d) (hp0 : p0 < 96) (h : eS S0 S m q A0 A1) (hm : ml A0 L) (hw : wfL L) (hI : lkI L p0 I A1)
    (k : ∀ S' A' more, eS S0 S' m q A0 A' → eI L p0 I A1 A' more → (more = false → ∀ p, p < 96 → okp L A1 p) → px_P d px_m_Model_edit (168, [(0, .ref m), (1, .int (nI p0)), (2, .int u), (3, .int (bif more then 1 else 0))], []) S' Q) : px_P d px_m_Model_edit (177, [(0, .ref m), (1, .int (nI p0)), (2, .int u), (3, .int 0), (4, .int (nI 0))], []) S Q := by
  have lp := px_for (d := d) (mi := px_m_Model_edit) (Q := Q) (X := Bool × (Nat → Nat → Int32)) 96 (fun i y => (177, [(0, .ref m), (1, .int (nI p0)), (2, .int u), (3, .int (bif y.1 then 1 else 0)), (4, .int (nI i))], []))
    (fun i y S' => eS S0 S' m q A0 y.2 ∧ eI L p0 I A1 y.2 y.1 ∧ (y.1 = false → ∀ p, p < i → okp L A1 p))
    (by
      intro i hi ⟨more, A⟩ S1 ⟨g1, g2, g3⟩ kk
      dsimp only at g1 g2 g3
      have tail : ∀ (S2 : px_S) (A2 : Nat → Nat → Int32) (mo : Bool), eS S0 S2 m q A0 A2 → eI L p0 I A1 A2 mo → (mo = false → ∀ p, p < i + 1 → okp L A1 p) → px_P d px_m_Model_edit (263, [(0, .ref m), (1, .int (nI p0)), (2, .int u), (3, .int (bif mo then 1 else 0)), (4, .int (nI i))], []) S2 Q := by
        intro S2 A2 mo f1 f2 f3
        refine px_P.sn 2 (f1 := (177, [(0, .ref m), (1, .int (nI p0)), (2, .int u), (3, .int (bif mo then 1 else 0)), (4, .int ((nI i) + 1))], [])) (S1 := S2) rfl ?_
        rw [nI_1]
        exact kk (mo, A2) S2 ⟨f1, f2, f3⟩
      -- the second half
      have half : ∀ (S2 : px_S) (A2 : Nat → Nat → Int32) (mo : Bool), eS S0 S2 m q A0 A2 → eI L p0 I A1 A2 mo → (mo = false → ∀ p, p < i → okp L A1 p) → (mo = false → ∀ z t, L i = some z → t < 208 → ss_in (ln_W z) t = true → bz (A1 23) t = true → bz (A1 22) i = true) → px_P d px_m_Model_edit (213, [(0, .ref m), (1, .int (nI p0)), (2, .int u), (3, .int (bif mo then 1 else 0)), (4, .int (nI i))], []) S2 Q := by
        intro S2 A2 mo f1 f2 f3 f4
        have c2 := f1.1.1
        have hdf := (f1.ml hm).df hi
        have fin : (∀ z t, L i = some z → bz (A2 22) i = true → t < 208 → ln_df z = nI t → bz (A2 23) t = true) → px_P d px_m_Model_edit (263, [(0, .ref m), (1, .int (nI p0)), (2, .int u), (3, .int (bif mo then 1 else 0)), (4, .int (nI i))], []) S2 Q := by
          intro hz
          refine tail S2 A2 mo f1 f2 (fun e p hp => ?_)
          by_cases ep : p = i
          · subst ep
            refine ⟨f4 e, fun z t z1 z2 z3 z4 => ?_⟩
            rw [← (f2.2.2.2.2 e).2 t z3]
            exact hz z t z1 (by rw [(f2.2.2.2.2 e).1 p hi]; exact z2) z3 z4
          · exact f3 e p (by omega)
        have r5 : S2.1 (m + 5) = some (.inl (0, 96, .inl (A2 5))) := f1.1.2 5 (by decide) (by decide)
        have r22 : S2.1 (m + 22) = some (.inl (2, 96, .inl (A2 22))) := f1.1.2 22 (by decide) (by decide)
        have r23 : S2.1 (m + 23) = some (.inl (2, 208, .inl (A2 23))) := f1.1.2 23 (by decide) (by decide)
        refine px_P.sn 1 (f1 := (214, [(0, .ref m), (1, .int (nI p0)), (2, .int u), (3, .int (bif mo then 1 else 0)), (4, .int (nI i))], [.ref m])) (S1 := S2) rfl ?_
        refine px_P.gf rfl rfl (by assumption) (v := .ref (m + 22)) rfl ?_
        refine px_P.sn 1 (f1 := (219, [(0, .ref m), (1, .int (nI p0)), (2, .int u), (3, .int (bif mo then 1 else 0)), (4, .int (nI i))], [.int (nI i), .ref (m + 22)])) (S1 := S2) rfl ?_
        refine px_P.zaldj (j := i) rfl (by assumption) rfl (by omega) (by decide) ?_
        refine px_P.if_eq rfl rfl (fun z1 => ?_) (fun z1 => ?_)
        · exact fin (fun z t _ w _ _ => absurd z1 (of_decide_eq_true w))
        · have hl : bz (A2 22) i = true := decide_eq_true z1
          refine px_P.sn 1 (f1 := (224, [(0, .ref m), (1, .int (nI p0)), (2, .int u), (3, .int (bif mo then 1 else 0)), (4, .int (nI i))], [.ref m])) (S1 := S2) rfl ?_
          refine px_P.gf rfl rfl (by assumption) (v := .ref (m + 5)) rfl ?_
          refine px_P.sn 1 (f1 := (229, [(0, .ref m), (1, .int (nI p0)), (2, .int u), (3, .int (bif mo then 1 else 0)), (4, .int (nI i))], [.int (nI i), .ref (m + 5)])) (S1 := S2) rfl ?_
          refine px_P.ialdj (j := i) rfl (by assumption) rfl (by omega) (by decide) ?_
          rw [hdf]
          rcases hw.df hi with ⟨e1, e2⟩ | ⟨s, t0, e1, e2, e3, e4, e5⟩
          · rw [e1]
            refine px_P.if_lt rfl rfl (fun _ => ?_) (fun h => absurd ((by decide)) h)
            refine fin (fun z t w1 _ w2 w3 => ?_)
            have := e2 t w2
            rw [dfb_t.mpr ⟨z, w1, w3⟩] at this
            cases this
          · rw [e3]
            refine px_P.if_lt rfl rfl (fun h => absurd h (nI_pos (by omega))) (fun _ => ?_)
            refine px_P.sn 1 (f1 := (234, [(0, .ref m), (1, .int (nI p0)), (2, .int u), (3, .int (bif mo then 1 else 0)), (4, .int (nI i))], [.ref m])) (S1 := S2) rfl ?_
            refine px_P.gf rfl rfl (by assumption) (v := .ref (m + 23)) rfl ?_
            refine px_P.sn 1 (f1 := (238, [(0, .ref m), (1, .int (nI p0)), (2, .int u), (3, .int (bif mo then 1 else 0)), (4, .int (nI i))], [.ref m, .ref (m + 23)])) (S1 := S2) rfl ?_
            refine px_P.gf rfl rfl (by assumption) (v := .ref (m + 5)) rfl ?_
            refine px_P.sn 1 (f1 := (243, [(0, .ref m), (1, .int (nI p0)), (2, .int u), (3, .int (bif mo then 1 else 0)), (4, .int (nI i))], [.int (nI i), .ref (m + 5), .ref (m + 23)])) (S1 := S2) rfl ?_
            refine px_P.ialdj (j := i) rfl (by assumption) rfl (by omega) (by decide) ?_
            rw [hdf, e3]
            refine px_P.zaldj (j := t0) rfl (by assumption) rfl (by omega) (by decide) ?_
            refine px_P.if_ne rfl rfl (fun z2 => ?_) (fun z2 => ?_)
            · refine fin (fun z t w1 _ w2 w3 => ?_)
              rw [e1] at w1
              cases w1
              rw [nI_inj208 w2 e2 (w3.symm.trans e4)]
              exact decide_eq_true z2
            · refine px_P.sn 1 (f1 := (249, [(0, .ref m), (1, .int (nI p0)), (2, .int u), (3, .int (bif mo then 1 else 0)), (4, .int (nI i))], [.ref m])) (S1 := S2) rfl ?_
              refine px_P.gf rfl rfl (by assumption) (v := .ref (m + 23)) rfl ?_
              refine px_P.sn 1 (f1 := (253, [(0, .ref m), (1, .int (nI p0)), (2, .int u), (3, .int (bif mo then 1 else 0)), (4, .int (nI i))], [.ref m, .ref (m + 23)])) (S1 := S2) rfl ?_
              refine px_P.gf rfl rfl (by assumption) (v := .ref (m + 5)) rfl ?_
              refine px_P.sn 1 (f1 := (258, [(0, .ref m), (1, .int (nI p0)), (2, .int u), (3, .int (bif mo then 1 else 0)), (4, .int (nI i))], [.int (nI i), .ref (m + 5), .ref (m + 23)])) (S1 := S2) rfl ?_
              refine px_P.ialdj (j := i) rfl (by assumption) rfl (by omega) (by decide) ?_
              rw [hdf, e3]
              refine px_P.sn 1 (f1 := (260, [(0, .ref m), (1, .int (nI p0)), (2, .int u), (3, .int (bif mo then 1 else 0)), (4, .int (nI i))], [.int 1, .int (nI t0), .ref (m + 23)])) (S1 := S2) rfl ?_
              refine px_P.zastj (j := t0) rfl (by assumption) rfl rfl (by omega) (by decide) (fun S3 u3 => ?_)
              refine px_P.sn 2 (f1 := (263, [(0, .ref m), (1, .int (nI p0)), (2, .int u), (3, .int 1), (4, .int (nI i))], [])) (S1 := S3) rfl ?_
              refine tail S3 _ true (f1.up (j := 23) (by omega) u3) (f2.t hi e2 (decide_eq_false (fun w => w z2)) hl e1 e4 va_us (va_un (by decide))) (fun w => (by cases w))
      have c1 := g1.1.1
      show px_P _ _ (177, [(0, .ref m), (1, .int (nI p0)), (2, .int u), (3, .int (bif more then 1 else 0)), (4, .int (nI i))], []) S1 _
      have r22 : S1.1 (m + 22) = some (.inl (2, 96, .inl (A 22))) := g1.1.2 22 (by decide) (by decide)
      refine px_P.sn 2 (f1 := (181, [(0, .ref m), (1, .int (nI p0)), (2, .int u), (3, .int (bif more then 1 else 0)), (4, .int (nI i))], [.int 96, .int (nI i)])) (S1 := S1) rfl ?_
      refine px_P.ic_ge rfl rfl (fun h => absurd h (nI_ge (b := 96) hi (by decide))) (fun _ => ?_)
      refine px_P.sn 1 (f1 := (185, [(0, .ref m), (1, .int (nI p0)), (2, .int u), (3, .int (bif more then 1 else 0)), (4, .int (nI i))], [.ref m])) (S1 := S1) rfl ?_
      refine px_P.gf rfl rfl (by assumption) (v := .ref (m + 22)) rfl ?_
      refine px_P.sn 1 (f1 := (190, [(0, .ref m), (1, .int (nI p0)), (2, .int u), (3, .int (bif more then 1 else 0)), (4, .int (nI i))], [.int (nI i), .ref (m + 22)])) (S1 := S1) rfl ?_
      refine px_P.zaldj (j := i) rfl (by assumption) rfl (by omega) (by decide) ?_
      refine px_P.if_ne rfl rfl (fun z1 => ?_) (fun z1 => ?_)
      · refine half S1 A more g1 g2 g3 (fun e z t _ _ _ _ => ?_)
        rw [← (g2.2.2.2.2 e).1 i hi]
        exact decide_eq_true z1
      · have hl : bz (A 22) i = false := decide_eq_false (fun w => w z1)
        refine px_P.sn 2 (f1 := (197, [(0, .ref m), (1, .int (nI p0)), (2, .int u), (3, .int (bif more then 1 else 0)), (4, .int (nI i))], [.int (nI i), .ref m])) (S1 := S1) rfl ?_
        refine px_P.cv rfl rfl rfl (by assumption) rfl ?_
        show px_M _ px_m_Model_readsStale [.ref m, .int (nI i)] S1 _
        refine pm_moReadsStale (by omega) hi g1.1 (g1.ml hm) hw (fun b hb => ?_)
        cases b with
        | false =>
          show px_P _ _ (200, [(0, .ref m), (1, .int (nI p0)), (2, .int u), (3, .int (bif more then 1 else 0)), (4, .int (nI i))], [.int 0]) S1 _
          refine px_P.if_eq rfl rfl (fun _ => ?_) (fun h => absurd ((by decide)) h)
          refine half S1 A more g1 g2 g3 (fun e z t w1 w2 w3 w4 => ?_)
          have := hb.mpr ⟨z, t, w1, w2, w3, by rw [(g2.2.2.2.2 e).2 t w2]; exact w4⟩
          cases this
        | true =>
          show px_P _ _ (200, [(0, .ref m), (1, .int (nI p0)), (2, .int u), (3, .int (bif more then 1 else 0)), (4, .int (nI i))], [.int 1]) S1 _
          refine px_P.if_eq rfl rfl (fun h => absurd h ((by decide))) (fun _ => ?_)
          refine px_P.sn 1 (f1 := (204, [(0, .ref m), (1, .int (nI p0)), (2, .int u), (3, .int (bif more then 1 else 0)), (4, .int (nI i))], [.ref m])) (S1 := S1) rfl ?_
          refine px_P.gf rfl rfl (by assumption) (v := .ref (m + 22)) rfl ?_
          refine px_P.sn 2 (f1 := (210, [(0, .ref m), (1, .int (nI p0)), (2, .int u), (3, .int (bif more then 1 else 0)), (4, .int (nI i))], [.int 1, .int (nI i), .ref (m + 22)])) (S1 := S1) rfl ?_
          refine px_P.zastj (j := i) rfl (by assumption) rfl rfl (by omega) (by decide) (fun S2 u2 => ?_)
          refine px_P.sn 2 (f1 := (213, [(0, .ref m), (1, .int (nI p0)), (2, .int u), (3, .int 1), (4, .int (nI i))], [])) (S1 := S2) rfl ?_
          refine half S2 _ true (g1.up (j := 22) (by omega) u2) (g2.p hi hl (hb.mp rfl) va_us (va_un (by decide))) (fun w => (by cases w)) (fun w => (by cases w)))
    (by
      intro ⟨more, A⟩ S1 ⟨g1, g2, g3⟩
      dsimp only at g1 g2 g3
      show px_P _ _ (177, [(0, .ref m), (1, .int (nI p0)), (2, .int u), (3, .int (bif more then 1 else 0)), (4, .int (nI 96))], []) S1 _
      refine px_P.sn 2 (f1 := (181, [(0, .ref m), (1, .int (nI p0)), (2, .int u), (3, .int (bif more then 1 else 0)), (4, .int (nI 96))], [.int 96, .int (nI 96)])) (S1 := S1) rfl ?_
      refine px_P.ic_ge rfl rfl (fun _ => ?_) (fun h => absurd ((by decide)) h)
      refine px_P.sn 1 (f1 := (168, [(0, .ref m), (1, .int (nI p0)), (2, .int u), (3, .int (bif more then 1 else 0)), (4, .int (nI 96))], [])) (S1 := S1) rfl ?_
      show px_P _ _ (168, [(0, .ref m), (1, .int (nI p0)), (2, .int u), (3, .int (bif more then 1 else 0)), (4, .int (nI 96))], []) S1 _
      refine px_P.wk (ls := [(0, .ref m), (1, .int (nI p0)), (2, .int u), (3, .int (bif more then 1 else 0))]) rfl (.cons_cons _ (.cons_cons _ (.cons_cons _ (.cons_cons _ (.cons _ .slnil))))) ?_
      exact k S1 A more g1 g2 g3)
  exact lp 96 0 rfl (false, A1) S ⟨h, ⟨hI, fun _ _ z => z, fun _ _ z => z, fun z => (by cases z), fun _ => ⟨fun _ _ => rfl, fun _ _ => rfl⟩⟩, fun _ p hp => absurd hp (by omega)⟩
