/-! ===== the model: what hangs on what, whole ===== -/
/-- a row is closed as to the line at p -/
def kok (L : Nat → Option ln_S) (A : Nat → Nat → Int32) (s p : Nat) : Prop := ∀ z s' t, L p = some z → s' < 208 → ln_df z = nI s' → (s' = s ∨ hb A s s' = true) → t < 208 → ss_in (ln_W z) t = true → hb A s t = true
set_option maxRecDepth 20000 in
theorem kn_round {d m s : Nat} {L : Nat → Option ln_S} {q : Nat → Int32} {A0 A1 : Nat → Nat → Int32} {S0 S : px_S} {Q : Option Value → px_S → Prop} (hs : s < 208) (h : kS S0 S m q A0 A1) (hm : ml A0 L) (hw : wfL L) (hI : kI L s A1 A1 false)
    (k : ∀ S' A' mo, kS S0 S' m q A0 A' → kI L s A1 A' mo → (mo = false → ∀ p, p < 96 → kok L A1 s p) → px_P d px_m_Model_know (50, [(0, .ref m), (1, .int (nI s)), (2, .int (bif mo then 1 else 0))], []) S' Q) : px_P d px_m_Model_know (58, [(0, .ref m), (1, .int (nI s)), (2, .int 0), (3, .int (nI 0))], []) S Q := by
  have lp := px_for (d := d) (mi := px_m_Model_know) (Q := Q) (X := Bool × (Nat → Nat → Int32)) 96 (fun i y => (58, [(0, .ref m), (1, .int (nI s)), (2, .int (bif y.1 then 1 else 0)), (3, .int (nI i))], []))
    (fun i y S' => kS S0 S' m q A0 y.2 ∧ kI L s A1 y.2 y.1 ∧ (y.1 = false → ∀ p, p < i → kok L A1 s p))
    (by
      intro i hi ⟨mo, B⟩ S1 ⟨g1, g2, g3⟩ kk
      dsimp only at g1 g2 g3
      have hdf := (g1.ml hm).df hi
      have tail : ∀ (S2 : px_S) (B2 : Nat → Nat → Int32) (mo2 : Bool), kS S0 S2 m q A0 B2 → kI L s A1 B2 mo2 → (mo2 = false → ∀ p, p < i + 1 → kok L A1 s p) → px_P d px_m_Model_know (189, [(0, .ref m), (1, .int (nI s)), (2, .int (bif mo2 then 1 else 0)), (3, .int (nI i))], []) S2 Q := by
        intro S2 B2 mo2 f1 f2 f3
        refine px_P.sn 2 (f1 := (58, [(0, .ref m), (1, .int (nI s)), (2, .int (bif mo2 then 1 else 0)), (3, .int ((nI i) + 1))], [])) (S1 := S2) rfl ?_
        rw [nI_1]
        exact kk (mo2, B2) S2 ⟨f1, f2, f3⟩
      have no : (mo = false → kok L A1 s i) → px_P d px_m_Model_know (107, [(0, .ref m), (1, .int (nI s)), (2, .int (bif mo then 1 else 0)), (3, .int (nI i))], []) S1 Q := by
        intro w
        refine px_P.sn 7 (f1 := (118, [(0, .ref m), (1, .int (nI s)), (2, .int (bif mo then 1 else 0)), (3, .int (nI i)), (4, .int 0), (5, .int (64 * (nI i)))], [.int 0])) (S1 := S1) rfl ?_
        refine px_P.if_eq rfl rfl (fun _ => ?_) (fun h => absurd ((by decide)) h)
        show px_P _ _ (189, [(0, .ref m), (1, .int (nI s)), (2, .int (bif mo then 1 else 0)), (3, .int (nI i)), (4, .int 0), (5, .int (64 * (nI i)))], []) S1 _
        refine px_P.wk (ls := [(0, .ref m), (1, .int (nI s)), (2, .int (bif mo then 1 else 0)), (3, .int (nI i))]) rfl (.cons_cons _ (.cons_cons _ (.cons_cons _ (.cons_cons _ (.cons _ (.cons _ .slnil)))))) ?_
        refine tail S1 B mo g1 g2 (fun e p hp => ?_)
        by_cases ep : p = i
        · subst ep; exact w e
        · exact g3 e p (by omega)
      have yes : ∀ (z : ln_S) (s' : Nat), L i = some z → s' < 208 → ln_df z = nI s' → ln_wr z = -1 → (s' = s ∨ hb B s s' = true) → px_P d px_m_Model_know (103, [(0, .ref m), (1, .int (nI s)), (2, .int (bif mo then 1 else 0)), (3, .int (nI i))], []) S1 Q := by
        intro z s' e1 e2 e4 e5 w
        refine px_P.sn 7 (f1 := (116, [(0, .ref m), (1, .int (nI s)), (2, .int (bif mo then 1 else 0)), (3, .int (nI i)), (4, .int 1), (5, .int (64 * (nI i)))], [])) (S1 := S1) rfl ?_
        rw [show (64 : Int32) * nI i = nI (64 * i + 0) by rw [show (64 : Int32) = nI 64 from rfl, pk_mul, Nat.add_zero]]
        refine kn_steps hs hi g1 hm hw e1 e5 e2 e4 w g2 (fun S2 B2 mo2 f1 f2 f3 => tail S2 B2 mo2 f1 f2 (fun e p hp => ?_))
        by_cases ep : p = i
        · subst ep
          intro y u t w1 w2 w3 w4 w5 w6
          rw [e1] at w1
          cases w1
          exact (f3 e).2 t w5 w6
        · exact g3 (f3 e).1 p (by omega)
      have c1 := g1.1.1
      show px_P _ _ (58, [(0, .ref m), (1, .int (nI s)), (2, .int (bif mo then 1 else 0)), (3, .int (nI i))], []) S1 _
      have r5 : S1.1 (m + 5) = some (.inl (0, 96, .inl (B 5))) := g1.1.2 5 (by decide) (by decide)
      have r21 : S1.1 (m + 21) = some (.inl (2, 43264, .inl (B 21))) := g1.1.2 21 (by decide) (by decide)
      refine px_P.sn 2 (f1 := (61, [(0, .ref m), (1, .int (nI s)), (2, .int (bif mo then 1 else 0)), (3, .int (nI i))], [.int 96, .int (nI i)])) (S1 := S1) rfl ?_
      refine px_P.ic_ge rfl rfl (fun h => absurd h (nI_ge (b := 96) hi (by decide))) (fun _ => ?_)
      refine px_P.sn 1 (f1 := (65, [(0, .ref m), (1, .int (nI s)), (2, .int (bif mo then 1 else 0)), (3, .int (nI i))], [.ref m])) (S1 := S1) rfl ?_
      refine px_P.gf rfl rfl (by assumption) (v := .ref (m + 5)) rfl ?_
      refine px_P.sn 1 (f1 := (69, [(0, .ref m), (1, .int (nI s)), (2, .int (bif mo then 1 else 0)), (3, .int (nI i))], [.int (nI i), .ref (m + 5)])) (S1 := S1) rfl ?_
      refine px_P.ialdj (j := i) rfl (by assumption) rfl (by omega) (by decide) ?_
      rw [hdf]
      rcases hw.df hi with ⟨e1, e2⟩ | ⟨z, s', e1, e2, e3, e4, e5⟩
      · rw [e1]
        refine px_P.if_lt rfl rfl (fun _ => ?_) (fun h => absurd ((by decide)) h)
        refine no (fun _ z s' t w1 w2 w3 _ _ _ => ?_)
        have := e2 s' w2
        rw [dfb_t.mpr ⟨z, w1, w3⟩] at this
        cases this
      · skip
        rw [e3]
        refine px_P.if_lt rfl rfl (fun h => absurd h (nI_pos (by omega))) (fun _ => ?_)
        refine px_P.sn 1 (f1 := (74, [(0, .ref m), (1, .int (nI s)), (2, .int (bif mo then 1 else 0)), (3, .int (nI i))], [.ref m])) (S1 := S1) rfl ?_
        refine px_P.gf rfl rfl (by assumption) (v := .ref (m + 5)) rfl ?_
        refine px_P.sn 1 (f1 := (78, [(0, .ref m), (1, .int (nI s)), (2, .int (bif mo then 1 else 0)), (3, .int (nI i))], [.int (nI i), .ref (m + 5)])) (S1 := S1) rfl ?_
        refine px_P.ialdj (j := i) rfl (by assumption) rfl (by omega) (by decide) ?_
        rw [hdf, e3]
        refine px_P.sn 1 (f1 := (80, [(0, .ref m), (1, .int (nI s)), (2, .int (bif mo then 1 else 0)), (3, .int (nI i))], [.int (nI s), .int (nI s')])) (S1 := S1) rfl ?_
        refine px_P.ic_eq rfl rfl (fun z1 => ?_) (fun z1 => ?_)
        · exact yes z s' e1 e2 e4 e5 (Or.inl (nI_inj208 e2 hs z1))
        · refine px_P.sn 1 (f1 := (84, [(0, .ref m), (1, .int (nI s)), (2, .int (bif mo then 1 else 0)), (3, .int (nI i))], [.ref m])) (S1 := S1) rfl ?_
          refine px_P.gf rfl rfl (by assumption) (v := .ref (m + 21)) rfl ?_
          refine px_P.sn 4 (f1 := (93, [(0, .ref m), (1, .int (nI s)), (2, .int (bif mo then 1 else 0)), (3, .int (nI i))], [.ref m, .int (208 * (nI s)), .ref (m + 21)])) (S1 := S1) rfl ?_
          refine px_P.gf rfl rfl (by assumption) (v := .ref (m + 5)) rfl ?_
          refine px_P.sn 1 (f1 := (97, [(0, .ref m), (1, .int (nI s)), (2, .int (bif mo then 1 else 0)), (3, .int (nI i))], [.int (nI i), .ref (m + 5), .int (208 * (nI s)), .ref (m + 21)])) (S1 := S1) rfl ?_
          refine px_P.ialdj (j := i) rfl (by assumption) rfl (by omega) (by decide) ?_
          rw [hdf, e3]
          refine px_P.sn 1 (f1 := (99, [(0, .ref m), (1, .int (nI s)), (2, .int (bif mo then 1 else 0)), (3, .int (nI i))], [.int ((208 * (nI s)) + (nI s')), .ref (m + 21)])) (S1 := S1) rfl ?_
          rw [e208]
          refine px_P.zaldj (j := 208 * s + s') rfl (by assumption) rfl (by omega) (by decide) ?_
          refine px_P.if_eq rfl rfl (fun z2 => ?_) (fun z2 => ?_)
          · refine no (fun e y u t w1 w2 w3 w4 _ _ => ?_)
            rw [e1] at w1
            cases w1
            have : u = s' := nI_inj208 w2 e2 (w3.symm.trans e4)
            subst this
            rcases w4 with w4 | w4
            · exact absurd (by rw [w4]) z1
            · rw [← g2.2.2.2.1 e u w2] at w4
              exact absurd z2 (of_decide_eq_true w4)
          · exact yes z s' e1 e2 e4 e5 (Or.inr (decide_eq_true z2)))
    (by
      intro ⟨mo, B⟩ S1 ⟨g1, g2, g3⟩
      dsimp only at g1 g2 g3
      show px_P _ _ (58, [(0, .ref m), (1, .int (nI s)), (2, .int (bif mo then 1 else 0)), (3, .int (nI 96))], []) S1 _
      refine px_P.sn 2 (f1 := (61, [(0, .ref m), (1, .int (nI s)), (2, .int (bif mo then 1 else 0)), (3, .int (nI 96))], [.int 96, .int (nI 96)])) (S1 := S1) rfl ?_
      refine px_P.ic_ge rfl rfl (fun _ => ?_) (fun h => absurd ((by decide)) h)
      refine px_P.sn 1 (f1 := (50, [(0, .ref m), (1, .int (nI s)), (2, .int (bif mo then 1 else 0)), (3, .int (nI 96))], [])) (S1 := S1) rfl ?_
      show px_P _ _ (50, [(0, .ref m), (1, .int (nI s)), (2, .int (bif mo then 1 else 0)), (3, .int (nI 96))], []) S1 _
      refine px_P.wk (ls := [(0, .ref m), (1, .int (nI s)), (2, .int (bif mo then 1 else 0))]) rfl (.cons_cons _ (.cons_cons _ (.cons_cons _ (.cons _ .slnil)))) ?_
      exact k S1 B mo g1 g2 g3)
  exact lp 96 0 rfl (false, A1) S ⟨h, hI, fun _ p hp => absurd hp (by omega)⟩
/-- a row is what it must be -/
def krow (L : Nat → Option ln_S) (A : Nat → Nat → Int32) (s : Nat) : Prop := (∀ h', tcl (rd L) h' → ∀ t, t < 208 → hb A s t = true → h' s t) ∧ ∀ s' t, (s' = s ∨ (s' < 208 ∧ hb A s s' = true)) → rd L s' t → hb A s t = true
theorem krow_tc {L : Nat → Option ln_S} {A : Nat → Nat → Int32} (h6 : ∀ c, c < 43264 → A 21 c = 0 ∨ A 21 c = 1) (h : ∀ s, s < 208 → krow L A s) : tc_is (rd L) (fun s t => s < 208 ∧ t < 208 ∧ A 21 (208 * s + t) = 1) := by
  have e : ∀ s t, s < 208 → t < 208 → (hb A s t = true ↔ A 21 (208 * s + t) = 1) := by
    intro s t hs ht
    unfold hb bz
    rw [decide_eq_true_eq]
    rcases h6 (208 * s + t) (by omega) with z | z
    · rw [z]; exact ⟨fun w => absurd rfl w, fun w => absurd w (by decide)⟩
    · rw [z]; exact ⟨fun _ => rfl, fun _ => by decide⟩
  refine ⟨fun s t hr => ?_, fun s t u h1 h2 => ?_, fun h' c1 c2 s t h1 => ?_⟩
  · exact ⟨hr.1, hr.2.1, (e s t hr.1 hr.2.1).mp ((h s hr.1).2 s t (Or.inl rfl) hr)⟩
  · obtain ⟨s1, t1, w1⟩ := h1
    obtain ⟨_, u1, w2⟩ := h2
    refine ⟨s1, u1, (e s u s1 u1).mp ?_⟩
    have key := (h t t1).1 (fun a b => b < 208 ∧ (a < 208 → hb A s a = true → hb A s b = true)) ⟨fun a b hr => ⟨hr.2.1, fun ha wa => (h s s1).2 a b (Or.inr ⟨ha, wa⟩) hr⟩, fun a b c g1 g2 => ⟨g2.1, fun ha wa => g2.2 g1.1 (g1.2 ha wa)⟩⟩ u u1 ((e t u t1 u1).mpr w2)
    exact key.2 t1 ((e s t s1 t1).mpr w1)
  · exact (h s h1.1).1 h' ⟨c1, c2⟩ t h1.2.1 ((e s t h1.1 h1.2.1).mpr h1.2.2)
