/-! ===== the model: know ===== -/
set_option maxRecDepth 20000 in
theorem kn_row {d m s : Nat} {L : Nat → Option ln_S} {q : Nat → Int32} {A0 : Nat → Nat → Int32} {S0 : px_S} {Q : Option Value → px_S → Prop} (hs : s < 208) (hm : ml A0 L) (hw : wfL L) : ∀ (n : Nat) (S : px_S) (A : Nat → Nat → Int32), 208 ≤ n + ct (hb A s) 208 → kS S0 S m q A0 A → kI L s A A false →
    (∀ S' A', kS S0 S' m q A0 A' → krow L A' s → (∀ c, (c < 208 * s ∨ 208 * s + 208 ≤ c) → A' 21 c = A 21 c) → (∀ c, c < 43264 → A' 21 c = 0 ∨ A' 21 c = 1) → px_P d px_m_Model_know (198, [(0, .ref m), (1, .int (nI s))], []) S' Q) → px_P d px_m_Model_know (50, [(0, .ref m), (1, .int (nI s)), (2, .int 1)], []) S Q := by
  intro n
  have fin : ∀ (S : px_S) (A : Nat → Nat → Int32), (∀ S' A', kS S0 S' m q A0 A' → krow L A' s → (∀ c, (c < 208 * s ∨ 208 * s + 208 ≤ c) → A' 21 c = A 21 c) → (∀ c, c < 43264 → A' 21 c = 0 ∨ A' 21 c = 1) → px_P d px_m_Model_know (198, [(0, .ref m), (1, .int (nI s))], []) S' Q) → ∀ (S2 : px_S) (A2 : Nat → Nat → Int32), kS S0 S2 m q A0 A2 → kI L s A A2 false → (∀ p, p < 96 → kok L A s p) → px_P d px_m_Model_know (50, [(0, .ref m), (1, .int (nI s)), (2, .int 0)], []) S2 Q := by
    intro S A k S2 A2 e1 e2 e3
    refine px_P.sn 1 (f1 := (51, [(0, .ref m), (1, .int (nI s)), (2, .int 0)], [.int 0])) (S1 := S2) rfl ?_
    refine px_P.if_eq rfl rfl (fun _ => ?_) (fun h => absurd ((by decide)) h)
    show px_P _ _ (198, [(0, .ref m), (1, .int (nI s)), (2, .int 0)], []) S2 _
    refine px_P.wk (ls := [(0, .ref m), (1, .int (nI s))]) rfl (.cons_cons _ (.cons_cons _ (.cons _ .slnil))) ?_
    refine k S2 A2 e1 ⟨e2.1, fun s' t w hr => ?_⟩ e2.2.2.2.2.1 e2.2.2.2.2.2
    obtain ⟨r1, r2, p, hp, z, z1, z2, z3⟩ := hr
    rw [e2.2.2.2.1 rfl t r2]
    refine e3 p hp z s' t z1 r1 z2 ?_ r2 z3
    rcases w with w | w
    · exact Or.inl w
    · exact Or.inr (by rw [← e2.2.2.2.1 rfl s' r1]; exact w.2)
  induction n with
  | zero =>
    intro S A hn h hI k
    refine px_P.sn 1 (f1 := (51, [(0, .ref m), (1, .int (nI s)), (2, .int 1)], [.int 1])) (S1 := S) rfl ?_
    refine px_P.if_eq rfl rfl (fun h => absurd h ((by decide))) (fun _ => ?_)
    refine px_P.sn 4 (f1 := (58, [(0, .ref m), (1, .int (nI s)), (2, .int 0), (3, .int 0)], [])) (S1 := S) rfl ?_
    refine kn_round hs h hm hw hI (fun S2 A2 mo e1 e2 e3 => ?_)
    cases mo with
    | false => exact fin S A k S2 A2 e1 e2 (e3 rfl)
    | true =>
      have := e2.2.2.1 rfl
      have := ct_le (hb A2 s) 208
      omega
  | succ n ih =>
    intro S A hn h hI k
    refine px_P.sn 1 (f1 := (51, [(0, .ref m), (1, .int (nI s)), (2, .int 1)], [.int 1])) (S1 := S) rfl ?_
    refine px_P.if_eq rfl rfl (fun h => absurd h ((by decide))) (fun _ => ?_)
    refine px_P.sn 4 (f1 := (58, [(0, .ref m), (1, .int (nI s)), (2, .int 0), (3, .int 0)], [])) (S1 := S) rfl ?_
    refine kn_round hs h hm hw hI (fun S2 A2 mo e1 e2 e3 => ?_)
    cases mo with
    | false => exact fin S A k S2 A2 e1 e2 (e3 rfl)
    | true =>
      have := e2.2.2.1 rfl
      refine ih S2 A2 (by omega) e1 ⟨e2.1, fun _ _ w => w, fun w => (by cases w), fun _ _ _ => rfl, fun _ _ => rfl, e2.2.2.2.2.2⟩ (fun S3 A3 f1 f2 f3 f4 => k S3 A3 f1 f2 (fun c hc => (f3 c hc).trans (e2.2.2.2.2.1 c hc)) f4)
theorem krow_cg {L : Nat → Option ln_S} {A A' : Nat → Nat → Int32} {s : Nat} (h : krow L A s) (e : ∀ t, t < 208 → A' 21 (208 * s + t) = A 21 (208 * s + t)) : krow L A' s := by
  have eh : ∀ t, t < 208 → hb A' s t = hb A s t := fun t ht => by unfold hb bz; rw [e t ht]
  refine ⟨fun h' hc t ht w => h.1 h' hc t ht (by rw [← eh t ht]; exact w), fun s' t w hr => ?_⟩
  rw [eh t hr.2.1]
  refine h.2 s' t (w.elim Or.inl (fun w => Or.inr ⟨w.1, by rw [← eh s' w.1]; exact w.2⟩)) hr
set_option maxRecDepth 20000 in
theorem pm_moKnow {d m : Nat} {L : Nat → Option ln_S} {q : Nat → Int32} {A : Nat → Nat → Int32} {S : px_S} {Q : Option Value → px_S → Prop} (hd : 1 ≤ d) (h : mo_at S m q A) (hm : ml A L) (hw : wfL L) (h14 : d14 L A) (h4 : q 4 = 0 ∨ (q 4 = 1 ∧ knw A L))
    (k : ∀ S' A', kS S S' m (upd q 4 1) A A' → knw A' L → Q none S') : px_M d px_m_Model_know [.ref m] S Q := by
  rcases h4 with h4 | ⟨h4, hk⟩
  · have c0 : S.1 m = some (.inr (10, mo_ob m (upd q 4 0))) := by rw [upd_self h4]; exact h.1
    refine px_M.go (by omega) (Nat.le_of_ble_eq_true rfl) ?_
    refine px_P.sn 1 (f1 := (1, [(0, .ref m)], [.ref m])) (S1 := S) rfl ?_
    refine px_P.gf rfl rfl (by assumption) (v := .int 0) rfl ?_
    refine px_P.if_eq rfl rfl (fun _ => ?_) (fun h => absurd ((by decide)) h)
    refine px_P.sn 2 (f1 := (10, [(0, .ref m)], [.int 1, .ref m])) (S1 := S) rfl ?_
    refine px_P.pf rfl rfl (by assumption) rfl (fun S1 u1 => ?_)
    have g1 : mo_at S1 m (upd q 4 1) A := by
      refine h.ob ?_
      have e : mo_ob m (upd q 4 1) = (mo_ob m (upd q 4 0)).set 24 (.int 1) := rfl
      rw [e]
      exact u1
    have f1 : mF S S1 m := mF.u (Nat.le_refl _) (by omega) u1
    refine px_P.sn 2 (f1 := (15, [(0, .ref m), (1, .int 0)], [])) (S1 := S1) rfl ?_
    have rows := px_for (d := d - 1) (mi := px_m_Model_know) (Q := Q) (X := Nat → Nat → Int32) 208 (fun i _ => (36, [(0, .ref m), (1, .int (nI i))], []))
      (fun i B S' => kS S S' m (upd q 4 1) A B ∧ (∀ s, s < i → krow L B s) ∧ (∀ c, 208 * i ≤ c → c < 43264 → B 21 c = 0) ∧ ∀ c, c < 43264 → B 21 c = 0 ∨ B 21 c = 1)
      (by
        intro i hi B S2 ⟨g2, g3, g4, g5⟩ kk
        have c2 := g2.1.1
        have e14 : B 14 i = (if dc L i = 0 then 0 else 1) := by rw [g2.2.2 14 (by decide)]; exact h14 i hi
        have z0 : ∀ t, t < 208 → hb B i t = false := fun t ht => decide_eq_false (fun w => w (g4 (208 * i + t) (by omega) (by omega)))
        have tail : ∀ (S3 : px_S) (B3 : Nat → Nat → Int32), kS S S3 m (upd q 4 1) A B3 → krow L B3 i → (∀ c, (c < 208 * i ∨ 208 * i + 208 ≤ c) → B3 21 c = B 21 c) → (∀ c, c < 43264 → B3 21 c = 0 ∨ B3 21 c = 1) → px_P (d - 1) px_m_Model_know (198, [(0, .ref m), (1, .int (nI i))], []) S3 Q := by
          intro S3 B3 f1 f2 f3 f4
          refine px_P.sn 2 (f1 := (36, [(0, .ref m), (1, .int ((nI i) + 1))], [])) (S1 := S3) rfl ?_
          rw [nI_1]
          refine kk B3 S3 ⟨f1, fun s hs => ?_, fun c c1 c2 => ?_, f4⟩
          · by_cases e : s = i
            · subst e; exact f2
            · exact krow_cg (g3 s (by omega)) (fun t ht => f3 _ (by omega))
          · rw [f3 c (by omega)]; exact g4 c (by omega) c2
        show px_P _ _ (36, [(0, .ref m), (1, .int (nI i))], []) S2 _
        have r14 : S2.1 (m + 14) = some (.inl (2, 208, .inl (B 14))) := g2.1.2 14 (by decide) (by decide)
        refine px_P.sn 2 (f1 := (40, [(0, .ref m), (1, .int (nI i))], [.int 208, .int (nI i)])) (S1 := S2) rfl ?_
        refine px_P.ic_ge rfl rfl (fun h => absurd h (nI_ge (b := 208) hi (by decide))) (fun _ => ?_)
        refine px_P.sn 1 (f1 := (44, [(0, .ref m), (1, .int (nI i))], [.ref m])) (S1 := S2) rfl ?_
        refine px_P.gf rfl rfl (by assumption) (v := .ref (m + 14)) rfl ?_
        refine px_P.sn 1 (f1 := (48, [(0, .ref m), (1, .int (nI i))], [.int (nI i), .ref (m + 14)])) (S1 := S2) rfl ?_
        refine px_P.zaldj (j := i) rfl (by assumption) rfl (by omega) (by decide) ?_
        rw [e14]
        by_cases e0 : dc L i = 0
        · rw [if_pos e0]
          refine px_P.sn 2 (f1 := (51, [(0, .ref m), (1, .int (nI i)), (2, .int 0)], [.int 0])) (S1 := S2) rfl ?_
          refine px_P.if_eq rfl rfl (fun _ => ?_) (fun h => absurd ((by decide)) h)
          show px_P _ _ (198, [(0, .ref m), (1, .int (nI i)), (2, .int 0)], []) S2 _
          refine px_P.wk (ls := [(0, .ref m), (1, .int (nI i))]) rfl (.cons_cons _ (.cons_cons _ (.cons _ .slnil))) ?_
          refine tail S2 B g2 ⟨fun h' hc t ht w => ?_, fun s' t w hr => ?_⟩ (fun _ _ => rfl) g5
          · rw [z0 t ht] at w; cases w
          · rcases w with w | w
            · subst w
              obtain ⟨r1, r2, p, hp, z, y1, y2, y3⟩ := hr
              exact absurd y2 (dc_no.mp e0 p z hp y1)
            · rw [z0 s' w.1] at w; cases w.2
        · rw [if_neg e0]
          refine px_P.sn 1 (f1 := (50, [(0, .ref m), (1, .int (nI i)), (2, .int 1)], [])) (S1 := S2) rfl ?_
          exact kn_row hi hm hw 208 S2 B (by omega) g2 ⟨fun h' hc t ht w => (by rw [z0 t ht] at w; cases w), fun _ _ w => w, fun w => (by cases w), fun _ _ _ => rfl, fun _ _ => rfl, g5⟩ tail)
      (by
        intro B S2 ⟨g2, g3, g4, g5⟩
        show px_P _ _ (36, [(0, .ref m), (1, .int (nI 208))], []) S2 _
        refine px_P.sn 2 (f1 := (40, [(0, .ref m), (1, .int (nI 208))], [.int 208, .int (nI 208)])) (S1 := S2) rfl ?_
        refine px_P.ic_ge rfl rfl (fun _ => ?_) (fun h => absurd ((by decide)) h)
        refine px_P.ret rfl ?_
        exact k S2 B g2 ⟨g5, krow_tc g5 g3⟩)
    have zero := px_for (d := d - 1) (mi := px_m_Model_know) (Q := Q) (X := Nat → Nat → Int32) 43264 (fun i _ => (15, [(0, .ref m), (1, .int (nI i))], []))
      (fun i B S' => kS S S' m (upd q 4 1) A B ∧ ∀ c, c < i → B 21 c = 0)
      (by
        intro i hi B S2 ⟨g2, g3⟩ kk
        have c2 := g2.1.1
        show px_P _ _ (15, [(0, .ref m), (1, .int (nI i))], []) S2 _
        have r21 : S2.1 (m + 21) = some (.inl (2, 43264, .inl (B 21))) := g2.1.2 21 (by decide) (by decide)
        refine px_P.sn 2 (f1 := (18, [(0, .ref m), (1, .int (nI i))], [.int 43264, .int (nI i)])) (S1 := S2) rfl ?_
        refine px_P.ic_ge rfl rfl (fun h => absurd h (nI_ge (b := 43264) hi (by decide))) (fun _ => ?_)
        refine px_P.sn 1 (f1 := (22, [(0, .ref m), (1, .int (nI i))], [.ref m])) (S1 := S2) rfl ?_
        refine px_P.gf rfl rfl (by assumption) (v := .ref (m + 21)) rfl ?_
        refine px_P.sn 2 (f1 := (27, [(0, .ref m), (1, .int (nI i))], [.int 0, .int (nI i), .ref (m + 21)])) (S1 := S2) rfl ?_
        refine px_P.zastj (j := i) rfl (by assumption) rfl rfl (by omega) (by decide) (fun S3 u3 => ?_)
        refine px_P.sn 2 (f1 := (15, [(0, .ref m), (1, .int ((nI i) + 1))], [])) (S1 := S3) rfl ?_
        rw [nI_1]
        refine kk (va_up B 21 (upd (B 21) i 0)) S3 ⟨g2.up u3, fun c hc => ?_⟩
        rw [va_us]
        by_cases e : c = i
        · rw [e, pk_us]
        · rw [pk_un e]; exact g3 c (by omega))
      (by
        intro B S2 ⟨g2, g3⟩
        show px_P _ _ (15, [(0, .ref m), (1, .int (nI 43264))], []) S2 _
        refine px_P.sn 2 (f1 := (18, [(0, .ref m), (1, .int (nI 43264))], [.int 43264, .int (nI 43264)])) (S1 := S2) rfl ?_
        refine px_P.ic_ge rfl rfl (fun _ => ?_) (fun h => absurd ((by decide)) h)
        refine px_P.sn 2 (f1 := (36, [(0, .ref m), (1, .int 0)], [])) (S1 := S2) rfl ?_
        exact rows 208 0 rfl B S2 ⟨g2, fun s hs => absurd hs (by omega), fun c _ hc => g3 c hc, fun c hc => Or.inl (g3 c hc)⟩)
    exact zero 43264 0 rfl A S1 ⟨⟨g1, f1, fun _ _ => rfl⟩, fun c hc => absurd hc (by omega)⟩
  · have c0 : S.1 m = some (.inr (10, mo_ob m (upd q 4 1))) := by rw [upd_self h4]; exact h.1
    refine px_M.go (by omega) (Nat.le_of_ble_eq_true rfl) ?_
    refine px_P.sn 1 (f1 := (1, [(0, .ref m)], [.ref m])) (S1 := S) rfl ?_
    refine px_P.gf rfl rfl (by assumption) (v := .int 1) rfl ?_
    refine px_P.if_eq rfl rfl (fun h => absurd h ((by decide))) (fun _ => ?_)
    refine px_P.ret rfl ?_
    exact k S A ⟨by rw [upd_self h4]; exact h, mF.rf S m, fun _ _ => rfl⟩ hk
