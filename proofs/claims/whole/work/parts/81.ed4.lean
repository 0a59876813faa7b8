/-! ===== the model: all that is looked at again, counted ===== -/
theorem ed_count {d m p0 : Nat} {u : Int32} {q : Nat → Int32} {A : Nat → Nat → Int32} {S : px_S} {Q : Option Value → px_S → Prop} (h : mo_at S m q A) (k : Q (some (.int (nI (ct (bz (A 22)) 96)))) S) : px_P d px_m_Model_edit (272, [(0, .ref m), (1, .int (nI p0)), (2, .int u), (3, .int 0)], []) S Q := by
  have c0 := h.1
  have lp := px_for (d := d) (mi := px_m_Model_edit) (Q := Q) (X := Unit) 96 (fun i _ => (278, [(0, .ref m), (1, .int (nI p0)), (2, .int u), (3, .int 0), (4, .int (nI (ct (bz (A 22)) i))), (5, .int (nI i))], []))
    (fun _ _ S' => S' = S)
    (by
      intro i hi _ S1 hS kk
      subst hS
      have hk := kk () S1 rfl
      generalize hx : ct (bz (A 22)) i = x at hk ⊢
      show px_P _ _ (278, [(0, .ref m), (1, .int (nI p0)), (2, .int u), (3, .int 0), (4, .int (nI x)), (5, .int (nI i))], []) S1 _
      have r22 : S1.1 (m + 22) = some (.inl (2, 96, .inl (A 22))) := h.2 22 (by decide) (by decide)
      refine px_P.sn 2 (f1 := (282, [(0, .ref m), (1, .int (nI p0)), (2, .int u), (3, .int 0), (4, .int (nI x)), (5, .int (nI i))], [.int 96, .int (nI i)])) (S1 := S1) rfl ?_
      refine px_P.ic_ge rfl rfl (fun h => absurd h (nI_ge (b := 96) hi (by decide))) (fun _ => ?_)
      refine px_P.sn 1 (f1 := (286, [(0, .ref m), (1, .int (nI p0)), (2, .int u), (3, .int 0), (4, .int (nI x)), (5, .int (nI i))], [.ref m])) (S1 := S1) rfl ?_
      refine px_P.gf rfl rfl (by assumption) (v := .ref (m + 22)) rfl ?_
      refine px_P.sn 1 (f1 := (291, [(0, .ref m), (1, .int (nI p0)), (2, .int u), (3, .int 0), (4, .int (nI x)), (5, .int (nI i))], [.int (nI i), .ref (m + 22)])) (S1 := S1) rfl ?_
      refine px_P.zaldj (j := i) rfl (by assumption) rfl (by omega) (by decide) ?_
      refine px_P.if_eq rfl rfl (fun z => ?_) (fun z => ?_)
      · rw [ct_z (p := bz (A 22)) (n := i) (decide_eq_false (fun w => w z)), hx] at hk
        refine px_P.sn 4 (f1 := (278, [(0, .ref m), (1, .int (nI p0)), (2, .int u), (3, .int 0), (4, .int (nI x)), (5, .int ((nI i) + 1))], [])) (S1 := S1) rfl ?_
        rw [nI_1]
        exact hk
      · rw [ct_s (p := bz (A 22)) (n := i) (decide_eq_true z), hx] at hk
        refine px_P.sn 7 (f1 := (278, [(0, .ref m), (1, .int (nI p0)), (2, .int u), (3, .int 0), (4, .int ((nI x) + 1)), (5, .int ((nI i) + 1))], [])) (S1 := S1) rfl ?_
        rw [nI_1, nI_1]
        exact hk)
    (by
      intro _ S1 hS
      subst hS
      show px_P _ _ (278, [(0, .ref m), (1, .int (nI p0)), (2, .int u), (3, .int 0), (4, .int (nI (ct (bz (A 22)) 96))), (5, .int (nI 96))], []) S1 _
      refine px_P.sn 2 (f1 := (282, [(0, .ref m), (1, .int (nI p0)), (2, .int u), (3, .int 0), (4, .int (nI (ct (bz (A 22)) 96))), (5, .int (nI 96))], [.int 96, .int (nI 96)])) (S1 := S1) rfl ?_
      refine px_P.ic_ge rfl rfl (fun _ => ?_) (fun h => absurd ((by decide)) h)
      refine px_P.sn 1 (f1 := (314, [(0, .ref m), (1, .int (nI p0)), (2, .int u), (3, .int 0), (4, .int (nI (ct (bz (A 22)) 96))), (5, .int (nI 96))], [.int (nI (ct (bz (A 22)) 96))])) (S1 := S1) rfl ?_
      refine px_P.ret rfl ?_
      exact k)
  refine px_P.sn 4 (f1 := (278, [(0, .ref m), (1, .int (nI p0)), (2, .int u), (3, .int 0), (4, .int 0), (5, .int 0)], [])) (S1 := S) rfl ?_
  exact lp 96 0 rfl () S rfl
set_option maxRecDepth 20000 in
theorem ed_look {d m p0 : Nat} {u : Int32} {L : Nat → Option ln_S} {I : Nat → Prop} {q : Nat → Int32} {A0 : Nat → Nat → Int32} {S : px_S} {Q : Option Value → px_S → Prop} (hd : 2 ≤ d) (hp0 : p0 < 96) (h : mo_at S m q A0) (hm : ml A0 L) (hw : wfL L) (hI : ∀ t, t < 208 → (bz (A0 23) t = true ↔ I t))
    (k : ∀ S' A', eS S S' m q A0 A' → lk_is L p0 I (fun p => bz (A' 22) p = true) (fun t => bz (A' 23) t = true) → Q (some (.int (nI (ct (bz (A' 22)) 96)))) S') : px_P d px_m_Model_edit (138, [(0, .ref m), (1, .int (nI p0)), (2, .int u), (3, .int (nI 0))], []) S Q := by
  have main : ∀ (n : Nat) (S1 : px_S) (A1 : Nat → Nat → Int32), 304 ≤ n + ecn A1 → eS S S1 m q A0 A1 → lkI L p0 I A1 → px_P d px_m_Model_edit (168, [(0, .ref m), (1, .int (nI p0)), (2, .int u), (3, .int 1)], []) S1 Q := by
    intro n
    induction n with
    | zero =>
      intro S1 A1 hn g1 g2
      refine px_P.sn 1 (f1 := (169, [(0, .ref m), (1, .int (nI p0)), (2, .int u), (3, .int 1)], [.int 1])) (S1 := S1) rfl ?_
      refine px_P.if_eq rfl rfl (fun h => absurd h ((by decide))) (fun _ => ?_)
      refine px_P.sn 4 (f1 := (177, [(0, .ref m), (1, .int (nI p0)), (2, .int u), (3, .int 0), (4, .int 0)], [])) (S1 := S1) rfl ?_
      refine ed_round hd hp0 g1 hm hw g2 (fun S2 A2 more e1 e2 e3 => ?_)
      cases more with
      | true =>
        have := e2.2.2.2.1 rfl
        have l1 : ct (bz (A2 22)) 96 ≤ 96 := ct_le _ _
        have l2 : ct (bz (A2 23)) 208 ≤ 208 := ct_le _ _
        unfold ecn at *
        omega
      | false =>
        show px_P _ _ (168, [(0, .ref m), (1, .int (nI p0)), (2, .int u), (3, .int 0)], []) S2 _
        refine px_P.sn 1 (f1 := (169, [(0, .ref m), (1, .int (nI p0)), (2, .int u), (3, .int 0)], [.int 0])) (S1 := S2) rfl ?_
        refine px_P.if_eq rfl rfl (fun _ => ?_) (fun h => absurd ((by decide)) h)
        refine ed_count e1.1 (k S2 A2 e1 ⟨e2.1.1, e2.1.2.1, ⟨fun p z t hp h1 h2 h3 h4 => ?_, fun p z t hp h1 h2 h3 h4 => ?_⟩, e2.1.2.2⟩)
        · show bz (A2 22) p = true
          rw [(e2.2.2.2.2 rfl).1 p hp]
          exact (e3 rfl p hp).1 z t h1 h2 h3 (by rw [← (e2.2.2.2.2 rfl).2 t h2]; exact h4)
        · show bz (A2 23) t = true
          rw [(e2.2.2.2.2 rfl).2 t h3]
          exact (e3 rfl p hp).2 z t h1 (by rw [← (e2.2.2.2.2 rfl).1 p hp]; exact h2) h3 h4
    | succ n ih =>
      intro S1 A1 hn g1 g2
      refine px_P.sn 1 (f1 := (169, [(0, .ref m), (1, .int (nI p0)), (2, .int u), (3, .int 1)], [.int 1])) (S1 := S1) rfl ?_
      refine px_P.if_eq rfl rfl (fun h => absurd h ((by decide))) (fun _ => ?_)
      refine px_P.sn 4 (f1 := (177, [(0, .ref m), (1, .int (nI p0)), (2, .int u), (3, .int 0), (4, .int 0)], [])) (S1 := S1) rfl ?_
      refine ed_round hd hp0 g1 hm hw g2 (fun S2 A2 more e1 e2 e3 => ?_)
      cases more with
      | true =>
        have := e2.2.2.2.1 rfl
        exact ih S2 A2 (by omega) e1 e2.1
      | false =>
        show px_P _ _ (168, [(0, .ref m), (1, .int (nI p0)), (2, .int u), (3, .int 0)], []) S2 _
        refine px_P.sn 1 (f1 := (169, [(0, .ref m), (1, .int (nI p0)), (2, .int u), (3, .int 0)], [.int 0])) (S1 := S2) rfl ?_
        refine px_P.if_eq rfl rfl (fun _ => ?_) (fun h => absurd ((by decide)) h)
        refine ed_count e1.1 (k S2 A2 e1 ⟨e2.1.1, e2.1.2.1, ⟨fun p z t hp h1 h2 h3 h4 => ?_, fun p z t hp h1 h2 h3 h4 => ?_⟩, e2.1.2.2⟩)
        · show bz (A2 22) p = true
          rw [(e2.2.2.2.2 rfl).1 p hp]
          exact (e3 rfl p hp).1 z t h1 h2 h3 (by rw [← (e2.2.2.2.2 rfl).2 t h2]; exact h4)
        · show bz (A2 23) t = true
          rw [(e2.2.2.2.2 rfl).2 t h3]
          exact (e3 rfl p hp).2 z t h1 (by rw [← (e2.2.2.2.2 rfl).1 p hp]; exact h2) h3 h4
  have lp := px_for (d := d) (mi := px_m_Model_edit) (Q := Q) (X := Nat → Nat → Int32) 96 (fun i _ => (138, [(0, .ref m), (1, .int (nI p0)), (2, .int u), (3, .int (nI i))], []))
    (fun i A S' => eS S S' m q A0 A ∧ A 23 = A0 23 ∧ ∀ p, p < i → A 22 p = (if p = p0 then 1 else 0))
    (by
      intro i hi A S1 ⟨g1, g2, g3⟩ kk
      have c1 := g1.1.1
      have tail : ∀ v : Int32, v = (if i = p0 then 1 else 0) → px_P d px_m_Model_edit (159, [(0, .ref m), (1, .int (nI p0)), (2, .int u), (3, .int (nI i))], [.int v, .int (nI i), .ref (m + 22)]) S1 Q := by
        intro v hv
        have hv01 : (decide (v = 0) || decide (v = 1)) = true := by rw [hv]; split <;> rfl
        have r22 : S1.1 (m + 22) = some (.inl (2, 96, .inl (A 22))) := g1.1.2 22 (by decide) (by decide)
        refine px_P.zastj (j := i) rfl (by assumption) hv01 rfl (by omega) (by decide) (fun S2 u2 => ?_)
        refine px_P.sn 2 (f1 := (138, [(0, .ref m), (1, .int (nI p0)), (2, .int u), (3, .int ((nI i) + 1))], [])) (S1 := S2) rfl ?_
        rw [nI_1]
        refine kk (va_up A 22 (upd (A 22) i v)) S2 ⟨g1.up (j := 22) (by omega) u2, by rw [va_un (by decide)]; exact g2, fun p hp => ?_⟩
        rw [va_us]
        by_cases e : p = i
        · rw [e, pk_us]; exact hv
        · rw [pk_un e]; exact g3 p (by omega)
      show px_P _ _ (138, [(0, .ref m), (1, .int (nI p0)), (2, .int u), (3, .int (nI i))], []) S1 _
      refine px_P.sn 2 (f1 := (141, [(0, .ref m), (1, .int (nI p0)), (2, .int u), (3, .int (nI i))], [.int 96, .int (nI i)])) (S1 := S1) rfl ?_
      refine px_P.ic_ge rfl rfl (fun h => absurd h (nI_ge (b := 96) hi (by decide))) (fun _ => ?_)
      refine px_P.sn 1 (f1 := (145, [(0, .ref m), (1, .int (nI p0)), (2, .int u), (3, .int (nI i))], [.ref m])) (S1 := S1) rfl ?_
      refine px_P.gf rfl rfl (by assumption) (v := .ref (m + 22)) rfl ?_
      refine px_P.sn 3 (f1 := (151, [(0, .ref m), (1, .int (nI p0)), (2, .int u), (3, .int (nI i))], [.int (nI p0), .int (nI i), .int (nI i), .ref (m + 22)])) (S1 := S1) rfl ?_
      refine px_P.ic_ne rfl rfl (fun z => ?_) (fun z => ?_)
      · refine px_P.sn 1 (f1 := (159, [(0, .ref m), (1, .int (nI p0)), (2, .int u), (3, .int (nI i))], [.int 0, .int (nI i), .ref (m + 22)])) (S1 := S1) rfl ?_
        exact tail 0 (by rw [if_neg (fun e => z (by rw [e]))])
      · refine px_P.sn 2 (f1 := (159, [(0, .ref m), (1, .int (nI p0)), (2, .int u), (3, .int (nI i))], [.int 1, .int (nI i), .ref (m + 22)])) (S1 := S1) rfl ?_
        exact tail 1 (by rw [if_pos ((nI_eq (by omega) (by omega)).mp z)]))
    (by
      intro A S1 ⟨g1, g2, g3⟩
      have b22 : ∀ p, p < 96 → (bz (A 22) p = true ↔ p = p0) := by
        intro p hp
        unfold bz
        rw [g3 p hp, decide_eq_true_eq]
        by_cases e : p = p0
        · rw [if_pos e]; exact ⟨fun _ => e, fun _ => by decide⟩
        · rw [if_neg e]; exact ⟨fun z => absurd rfl z, fun z => absurd z e⟩
      show px_P _ _ (138, [(0, .ref m), (1, .int (nI p0)), (2, .int u), (3, .int (nI 96))], []) S1 _
      refine px_P.sn 2 (f1 := (141, [(0, .ref m), (1, .int (nI p0)), (2, .int u), (3, .int (nI 96))], [.int 96, .int (nI 96)])) (S1 := S1) rfl ?_
      refine px_P.ic_ge rfl rfl (fun _ => ?_) (fun h => absurd ((by decide)) h)
      refine px_P.sn 2 (f1 := (168, [(0, .ref m), (1, .int (nI p0)), (2, .int u), (3, .int 1)], [])) (S1 := S1) rfl ?_
      refine main 304 S1 A (by omega) g1 ⟨(b22 p0 hp0).mpr rfl, fun t ht z => by rw [g2]; exact (hI t ht).mpr z, fun P' R' c1 c2 c3 => ⟨fun p hp z => by rw [(b22 p hp).mp z]; exact c2, fun t ht z => c3 t ht ((hI t ht).mp (by rw [← g2]; exact z))⟩⟩)
  exact lp 96 0 rfl A0 S ⟨⟨h, mF.rf S m, fun _ _ _ => rfl⟩, rfl, fun p hp => absurd hp (by omega)⟩
