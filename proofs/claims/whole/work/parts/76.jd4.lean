/-! ===== the model: judging, whole ===== -/
theorem jd_fin {p n : Nat} {f : Nat → Int32} {U V : fl_T} (h1 : ∀ x, x ∈ U ↔ x ∈ cF p f n) (h2 : ∀ x, x ∈ U → okx x ∧ x.1 = p) (h3 : U.Pairwise (fun a b => a.2.1 ≠ b.2.1)) (hp : V.Perm U) (hs : V.Pairwise (fun a b => ky a ≤ ky b)) : V = cF p f n := by
  have hV : V.Pairwise (fun a b => a.2.1 ≠ b.2.1) := hp.symm.pairwise h3 (fun h => Ne.symm h)
  refine srt_uniq ?_ (cF_sorted n) (fun x => (hp.mem_iff).trans (h1 x))
  refine (List.Pairwise.and hV hs).imp_of_mem ?_
  intro a b ha hb ⟨q1, q2⟩
  exact ky_lt (h2 a (hp.mem_iff.mp ha)).1 (h2 b (hp.mem_iff.mp hb)).1 q2 q1
set_option maxRecDepth 20000 in
theorem jd_sort {d m p : Nat} {t ov : Int32} {q : Nat → Int32} {A0 A : Nat → Nat → Int32} {P U : fl_T} {S0 S : px_S} {Q : Option Value → px_S → Prop} (h : hS S0 S m q A0 A (P ++ U) t) (hU : ∀ x, x ∈ U → okx x ∧ x.1 = p) (hl : (P ++ U).length ≤ 6000)
    (k : ∀ S' A' V, hS S0 S' m q A0 A' (P ++ V) t → V.Pairwise (fun a b => ky a ≤ ky b) → V.Perm U → Q none S') : px_P d px_m_Model_judge (98, [(0, .ref m), (1, .int (nI p)), (2, .int (nI P.length)), (3, .int ov)], []) S Q := by
  have out : ∀ (S1 : px_S) (A1 : Nat → Nat → Int32) (V : fl_T) (j : Nat), hS S0 S1 m q A0 A1 (P ++ V) t → V.Pairwise (fun a b => ky a ≤ ky b) → V.Perm U → (P ++ V).length ≤ j → j < 2 ^ 31 → px_P d px_m_Model_judge (103, [(0, .ref m), (1, .int (nI p)), (2, .int (nI P.length)), (3, .int ov), (4, .int (nI j))], []) S1 Q := by
    intro S1 A1 V j g1 g2 g3 g4 g5
    have c1 := g1.1.1
    have hk := k S1 A1 V g1 g2 g3
    generalize (P ++ V).length = N at c1 g4
    refine px_P.sn 2 (f1 := (106, [(0, .ref m), (1, .int (nI p)), (2, .int (nI P.length)), (3, .int ov), (4, .int (nI j))], [.ref m, .int (nI j)])) (S1 := S1) rfl ?_
    refine px_P.gf rfl rfl (by assumption) (v := .int (nI N)) rfl ?_
    refine px_P.ic_ge rfl rfl (fun _ => ?_) (fun h => absurd (nI_le g4 g5) h)
    refine px_P.ret rfl ?_
    exact hk
  have lp : ∀ (Ur Us : fl_T) (S1 : px_S) (A1 : Nat → Nat → Int32), hS S0 S1 m q A0 A1 (P ++ (Us ++ Ur)) t → Us.Pairwise (fun a b => ky a ≤ ky b) → (Us ++ Ur).Perm U → px_P d px_m_Model_judge (103, [(0, .ref m), (1, .int (nI p)), (2, .int (nI P.length)), (3, .int ov), (4, .int (nI (P.length + Us.length)))], []) S1 Q := by
    intro Ur
    induction Ur with
    | nil =>
      intro Us S1 A1 g1 g2 g3
      rw [List.append_nil] at g1 g3
      have := g3.length_eq
      rw [List.length_append] at hl
      exact out S1 A1 Us _ g1 g2 g3 (by rw [List.length_append]; omega) (by omega)
    | cons y Ur ih =>
      intro Us S1 A1 g1 g2 g3
      have hlen := g3.length_eq
      simp only [List.length_append, List.length_cons] at hlen hl
      obtain ⟨hy, hyp⟩ := hU y (g3.mem_iff.mp (by simp))
      have eL : P ++ (Us ++ y :: Ur) = P ++ ((Us.reverse.reverse ++ [y]) ++ Ur) := by simp
      have c1 := g1.1.1
      have hN : (P ++ (Us ++ y :: Ur)).length = P.length + Us.length + (Ur.length + 1) := by simp only [List.length_append, List.length_cons]; omega
      generalize (P ++ (Us ++ y :: Ur)).length = N at c1 hN
      refine px_P.sn 2 (f1 := (106, [(0, .ref m), (1, .int (nI p)), (2, .int (nI P.length)), (3, .int ov), (4, .int (nI (P.length + Us.length)))], [.ref m, .int (nI (P.length + Us.length))])) (S1 := S1) rfl ?_
      refine px_P.gf rfl rfl (by assumption) (v := .int (nI N)) rfl ?_
      refine px_P.ic_ge rfl rfl (fun h => absurd h (nI_ge (by omega) (by omega))) (fun _ => ?_)
      refine px_P.sn 2 (f1 := (116, [(0, .ref m), (1, .int (nI p)), (2, .int (nI P.length)), (3, .int ov), (4, .int (nI (P.length + Us.length))), (5, .int (nI (P.length + Us.length)))], [])) (S1 := S1) rfl ?_
      have e5 : P.length + Us.length = P.length + Us.reverse.length := by rw [List.length_reverse]
      have key := jd_in (d := d) (m := m) (t := t) (ov := ov) (kk := nI (P.length + Us.length)) (q := q) (A0 := A0) (P := P) (Rest := Ur) (S0 := S0) (Q := Q) hy hyp Us.reverse [] S1 A1 (by rw [eL] at g1; exact g1) (fun x hx => hU x (g3.mem_iff.mp (by simp at hx ⊢; exact Or.inl hx))) (by rw [List.append_nil, List.reverse_reverse]; exact g2) (fun r hr => by cases hr) (by rw [← eL]; simp only [List.length_append, List.length_cons]; omega) (fun S2 A2 V f1 f2 f3 => ?_)
      · rw [← e5] at key
        exact key
      · rw [List.reverse_reverse] at f3
        have hVl := f3.length_eq
        simp only [List.length_append, List.length_cons, List.length_nil] at hVl
        refine px_P.sn 2 (f1 := (103, [(0, .ref m), (1, .int (nI p)), (2, .int (nI P.length)), (3, .int ov), (4, .int ((nI (P.length + Us.length)) + 1))], [])) (S1 := S2) rfl ?_
        rw [nI_1, show P.length + Us.length + 1 = P.length + V.length by omega]
        refine ih V S2 A2 f1 f2 ?_
        have : (V ++ Ur).Perm ((Us ++ [y]) ++ Ur) := List.Perm.append_right _ f3
        rw [List.append_assoc] at this
        exact this.trans g3
  refine px_P.sn 4 (f1 := (103, [(0, .ref m), (1, .int (nI p)), (2, .int (nI P.length)), (3, .int ov), (4, .int ((nI P.length) + 1))], [])) (S1 := S) rfl ?_
  rw [nI_1]
  cases U with
  | nil => exact out S A [] _ h List.Pairwise.nil (List.Perm.refl _) (by simp) (by simp only [List.length_append, List.length_nil] at hl; omega)
  | cons u U => exact lp U [u] S A h (List.pairwise_singleton _ _) (List.Perm.refl _)
set_option maxHeartbeats 1000000 in
theorem pm_moJudge {d m p : Nat} {t : Int32} {s : ln_S} {L : Nat → Option ln_S} {T D : Nat → Int32} {q : Nat → Int32} {A0 A : Nat → Nat → Int32} {FL : fl_T} {S0 S : px_S} {Q : Option Value → px_S → Prop} (hd : 5 ≤ d) (hp : p < 96) (h : hS S0 S m q A0 A FL t) (hm : ml A0 L) (hw : wfL L) (hL : L p = some s) (hT : envT A0 T) (hTb : ∀ t, t < 208 → le32 (T t) lF) (hD : envD A0 D) (h12 : A0 12 p = tyA L T p) (hFL : FL.length ≤ 5900)
    (k : ∀ S' A' t', hS S0 S' m q A0 A' (FL ++ cF p (fcd s T D) (ln_L s + 1)) t' → Q none S') : px_M d px_m_Model_judge [.ref m, .int (nI p)] S Q := by
  obtain ⟨w1, w2, w3, w4⟩ := hw p s hp hL
  have hmA : ml A L := hm.cg (fun i h1 h2 => h.2.2.2 i (by omega) (by omega) (by omega) (by omega))
  obtain ⟨m1, m2, m3⟩ := (hmA p hp).2 s hL
  have c0 := h.1.1
  have r4 : S.1 (m + 4) = some (.inl (0, 96, .inl (A 4))) := h.1.2 4 (by decide) (by decide)
  refine px_M.go (by omega) (Nat.le_of_ble_eq_true rfl) ?_
  refine px_P.sn 1 (f1 := (1, [(0, .ref m), (1, .int (nI p))], [.ref m])) (S1 := S) rfl ?_
  refine px_P.gf rfl rfl (by assumption) (v := .int (nI FL.length)) rfl ?_
  refine px_P.sn 2 (f1 := (6, [(0, .ref m), (1, .int (nI p)), (2, .int (nI FL.length))], [.ref m])) (S1 := S) rfl ?_
  refine px_P.gf rfl rfl (by assumption) (v := .ref (m + 4)) rfl ?_
  refine px_P.sn 1 (f1 := (10, [(0, .ref m), (1, .int (nI p)), (2, .int (nI FL.length))], [.int (nI p), .ref (m + 4)])) (S1 := S) rfl ?_
  refine px_P.ialdj (j := p) rfl (by assumption) rfl (by omega) (by decide) ?_
  rw [m3.1]
  by_cases hr : ln_wr s = -1
  · rw [hr]
    refine px_P.if_lt rfl rfl (fun _ => ?_) (fun h => absurd ((by decide)) h)
    obtain ⟨⟨e, e1, e2, e3⟩, p1, p2⟩ := w1.1.1 hr
    have hTA : envT A T := fun t ht => by rw [h.2.2.2 14 (by decide) (by decide) (by decide) (by decide), h.2.2.2 13 (by decide) (by decide) (by decide) (by decide)]; exact hT t ht
    have hDA : envD A D := fun t ht => by rw [h.2.2.2 14 (by decide) (by decide) (by decide) (by decide)]; exact hD t ht
    refine px_P.sn 3 (f1 := (30, [(0, .ref m), (1, .int (nI p)), (2, .int (nI FL.length))], [.int 1, .int (nI p), .ref m])) (S1 := S) rfl ?_
    refine px_P.cv rfl rfl rfl (by assumption) rfl ?_
    show px_M _ px_m_Model_value [.ref m, .int (nI p), .int 1] S _
    show px_M _ px_m_Model_value [.ref m, .int (nI p), .int (bif true then 1 else 0)] S _
    refine pm_moValue (b := true) (D := D) (T := T) (st := ln_st s) (n := ln_n s) (by omega) hp h.1 rfl h.2.2.1 (m3.2.2 hr).2.2 w1.2.2.2.1 (w4 hr) w3 hTA hTb hDA (by omega) (fun S1 A1 t1 g1 g2 g3 g4 => ?_)
    rw [mq2_2] at g1
    rw [cond_true] at g1 g3
    have hn0 : 0 < ln_n s := w1.2.2.2.2.2.2 hr
    have h12' : A1 12 p = ln_val s T := by
      rw [g4 12 (by decide) (by decide) (by decide) (by decide), h.2.2.2 12 (by decide) (by decide) (by decide) (by decide), h12, tyA_r hL hr]
    have h6' : A1 6 p = ln_dc s := by rw [g4 6 (by decide) (by decide) (by decide) (by decide)]; exact (m3.2.2 hr).1
    have h7' : A1 7 p = nI e := by rw [g4 7 (by decide) (by decide) (by decide) (by decide), (m3.2.2 hr).2.1]; exact e2
    have hN := nts_le p (ln_st s) T D (ln_n s)
    have h1 : hS S0 S1 m q A0 A1 (FL ++ nts p (ln_st s) T D (ln_n s)) t1 := ⟨g1, h.2.1.tr g2, g3, fun i i1 i2 i3 i4 => (g4 i i1 i2 i3 i4).trans (h.2.2.2 i i1 i2 i3 i4)⟩
    have jo := ju_ok (p := p) (T := T) (D := D) w1 w2 hr e2 (by omega)
    have last : ∀ (S2 : px_S) (A2 : Nat → Nat → Int32) (t2 ov : Int32), hS S0 S2 m q A0 A2 (FL ++ ju p s T D e) t2 → px_P (d - 1) px_m_Model_judge (98, [(0, .ref m), (1, .int (nI p)), (2, .int (nI FL.length)), (3, .int ov)], []) S2 Q := by
      intro S2 A2 t2 ov f1
      refine jd_sort f1 jo.2.1 ?_ (fun S3 A3 V f2 f3 f4 => ?_)
      · unfold ju
        simp only [List.length_append]
        cases ln_mis s (ln_val s T)
        · simp only [cond_false, List.length_nil]; omega
        · simp only [cond_true, List.length_cons, List.length_nil]; omega
      · have := jd_fin jo.1 jo.2.1 jo.2.2 f4 f3
        rw [this] at f2
        exact k S3 A3 t2 f2
    have eju : ∀ b, ln_mis s (ln_val s T) = b → ju p s T D e = nts p (ln_st s) T D (ln_n s) ++ (bif b then [(p, e, 5)] else []) := fun b hb => by unfold ju; rw [hb]
    generalize hFN : FL ++ nts p (ln_st s) T D (ln_n s) = FN at *
    have hFN6 : FN.length < 6000 := by rw [← hFN, List.length_append]; omega
    have c1 := h1.1.1
    have no : ln_mis s (ln_val s T) = false → px_P (d - 1) px_m_Model_judge (80, [(0, .ref m), (1, .int (nI p)), (2, .int (nI FL.length))], []) S1 Q := by
      intro z
      refine px_P.sn 3 (f1 := (83, [(0, .ref m), (1, .int (nI p)), (2, .int (nI FL.length)), (3, .int 0)], [.int 0])) (S1 := S1) rfl ?_
      refine px_P.if_eq rfl rfl (fun _ => ?_) (fun h => absurd ((by decide)) h)
      refine last S1 A1 t1 0 ?_
      rw [eju false z, cond_false, List.append_nil, hFN]
      exact h1
    have yes : ln_mis s (ln_val s T) = true → px_P (d - 1) px_m_Model_judge (76, [(0, .ref m), (1, .int (nI p)), (2, .int (nI FL.length))], []) S1 Q := by
      intro z
      have r7 : S1.1 (m + 7) = some (.inl (0, 96, .inl (A1 7))) := h1.1.2 7 (by decide) (by decide)
      refine px_P.sn 4 (f1 := (83, [(0, .ref m), (1, .int (nI p)), (2, .int (nI FL.length)), (3, .int 1)], [.int 1])) (S1 := S1) rfl ?_
      refine px_P.if_eq rfl rfl (fun h => absurd h ((by decide))) (fun _ => ?_)
      refine px_P.sn 3 (f1 := (89, [(0, .ref m), (1, .int (nI p)), (2, .int (nI FL.length)), (3, .int 1)], [.ref m, .int (nI p), .ref m])) (S1 := S1) rfl ?_
      refine px_P.gf rfl rfl (by assumption) (v := .ref (m + 7)) rfl ?_
      refine px_P.sn 1 (f1 := (93, [(0, .ref m), (1, .int (nI p)), (2, .int (nI FL.length)), (3, .int 1)], [.int (nI p), .ref (m + 7), .int (nI p), .ref m])) (S1 := S1) rfl ?_
      refine px_P.ialdj (j := p) rfl (by assumption) rfl (by omega) (by decide) ?_
      rw [h7']
      refine px_P.sn 1 (f1 := (95, [(0, .ref m), (1, .int (nI p)), (2, .int (nI FL.length)), (3, .int 1)], [.int 5, .int (nI e), .int (nI p), .ref m])) (S1 := S1) rfl ?_
      refine px_P.cv rfl rfl rfl (by assumption) rfl ?_
      show px_M _ px_m_Model_note [.ref m, .int (nI p), .int (nI e), .int 5] S1 _
      refine pm_moNote (by omega) h1.1 h1.2.2.1 hFN6 (fun S2 A2 f1 f2 f3 f4 => ?_)
      show px_P _ _ (98, [(0, .ref m), (1, .int (nI p)), (2, .int (nI FL.length)), (3, .int 1)], []) S2 _
      refine last S2 A2 t1 1 ?_
      rw [eju true z, cond_true, ← List.append_assoc, hFN]
      refine ⟨?_, h1.2.1.tr f2, f3, fun i i1 i2 i3 i4 => (f4 i i1 i2 i3).trans (h1.2.2.2 i i1 i2 i3 i4)⟩
      rw [List.length_append]
      exact f1
    show px_P _ _ (33, [(0, .ref m), (1, .int (nI p)), (2, .int (nI FL.length))], [.int (xe_ev (ln_st s) T (ln_n s) (ln_n s - 1))]) S1 _
    have r6 : S1.1 (m + 6) = some (.inl (0, 96, .inl (A1 6))) := h1.1.2 6 (by decide) (by decide)
    have r12 : S1.1 (m + 12) = some (.inl (0, 96, .inl (A1 12))) := h1.1.2 12 (by decide) (by decide)
    refine px_P.sn 2 (f1 := (35, [(0, .ref m), (1, .int (nI p)), (2, .int (nI FL.length))], [.ref m])) (S1 := S1) rfl ?_
    refine px_P.gf rfl rfl (by assumption) (v := .ref (m + 6)) rfl ?_
    refine px_P.sn 1 (f1 := (39, [(0, .ref m), (1, .int (nI p)), (2, .int (nI FL.length))], [.int (nI p), .ref (m + 6)])) (S1 := S1) rfl ?_
    refine px_P.ialdj (j := p) rfl (by assumption) rfl (by omega) (by decide) ?_
    rw [h6']
    have hmis : ln_mis s (ln_val s T) = (if ln_dc s = -1 then false else if ln_dc s &&& 16 = 0 then decide (¬ (ln_val s T &&& (ln_dc s ^^^ (-1))) &&& (-17) = 0) else false) := rfl
    rcases w1.2.2.1 with z | ⟨u, hu, z⟩
    · rw [z]
      refine px_P.if_lt rfl rfl (fun _ => ?_) (fun h => absurd ((by decide)) h)
      rw [if_pos z] at hmis
      exact no hmis
    · rw [if_neg (by rw [z]; exact nI_neg (by omega))] at hmis
      refine px_P.if_lt rfl rfl (fun h => absurd h ((by rw [z]; exact nI_pos (by omega)))) (fun _ => ?_)
      refine px_P.sn 1 (f1 := (44, [(0, .ref m), (1, .int (nI p)), (2, .int (nI FL.length))], [.ref m])) (S1 := S1) rfl ?_
      refine px_P.gf rfl rfl (by assumption) (v := .ref (m + 6)) rfl ?_
      refine px_P.sn 1 (f1 := (48, [(0, .ref m), (1, .int (nI p)), (2, .int (nI FL.length))], [.int (nI p), .ref (m + 6)])) (S1 := S1) rfl ?_
      refine px_P.ialdj (j := p) rfl (by assumption) rfl (by omega) (by decide) ?_
      rw [h6']
      refine px_P.sn 2 (f1 := (52, [(0, .ref m), (1, .int (nI p)), (2, .int (nI FL.length))], [.int ((ln_dc s) &&& 16)])) (S1 := S1) rfl ?_
      refine px_P.if_ne rfl rfl (fun z16 => ?_) (fun z16 => ?_)
      · rw [if_neg z16] at hmis
        exact no hmis
      · rw [if_pos z16] at hmis
        refine px_P.sn 1 (f1 := (56, [(0, .ref m), (1, .int (nI p)), (2, .int (nI FL.length))], [.ref m])) (S1 := S1) rfl ?_
        refine px_P.gf rfl rfl (by assumption) (v := .ref (m + 12)) rfl ?_
        refine px_P.sn 1 (f1 := (60, [(0, .ref m), (1, .int (nI p)), (2, .int (nI FL.length))], [.int (nI p), .ref (m + 12)])) (S1 := S1) rfl ?_
        refine px_P.ialdj (j := p) rfl (by assumption) rfl (by omega) (by decide) ?_
        rw [h12']
        refine px_P.sn 1 (f1 := (62, [(0, .ref m), (1, .int (nI p)), (2, .int (nI FL.length))], [.ref m, .int (ln_val s T)])) (S1 := S1) rfl ?_
        refine px_P.gf rfl rfl (by assumption) (v := .ref (m + 6)) rfl ?_
        refine px_P.sn 1 (f1 := (66, [(0, .ref m), (1, .int (nI p)), (2, .int (nI FL.length))], [.int (nI p), .ref (m + 6), .int (ln_val s T)])) (S1 := S1) rfl ?_
        refine px_P.ialdj (j := p) rfl (by assumption) rfl (by omega) (by decide) ?_
        rw [h6']
        refine px_P.sn 5 (f1 := (73, [(0, .ref m), (1, .int (nI p)), (2, .int (nI FL.length))], [.int (((ln_val s T) &&& ((ln_dc s) ^^^ (-1))) &&& (-17))])) (S1 := S1) rfl ?_
        refine px_P.if_eq rfl rfl (fun z17 => ?_) (fun z17 => ?_)
        · exact no (by rw [hmis]; exact decide_eq_false (fun w => w z17))
        · exact yes (by rw [hmis]; exact decide_eq_true z17)
  · obtain ⟨w, e1, e2⟩ := w1.1.2 hr
    rw [e2]
    refine px_P.if_lt rfl rfl (fun h => absurd h (nI_pos (by omega))) (fun _ => ?_)
    refine px_P.sn 3 (f1 := (17, [(0, .ref m), (1, .int (nI p)), (2, .int (nI FL.length))], [.ref m, .int (nI p), .ref m])) (S1 := S) rfl ?_
    refine px_P.gf rfl rfl (by assumption) (v := .ref (m + 4)) rfl ?_
    refine px_P.sn 1 (f1 := (21, [(0, .ref m), (1, .int (nI p)), (2, .int (nI FL.length))], [.int (nI p), .ref (m + 4), .int (nI p), .ref m])) (S1 := S) rfl ?_
    refine px_P.ialdj (j := p) rfl (by assumption) rfl (by omega) (by decide) ?_
    rw [m3.1, e2]
    refine px_P.sn 1 (f1 := (23, [(0, .ref m), (1, .int (nI p)), (2, .int (nI FL.length))], [.int 1, .int (nI w), .int (nI p), .ref m])) (S1 := S) rfl ?_
    refine px_P.cv rfl rfl rfl (by assumption) rfl ?_
    show px_M _ px_m_Model_note [.ref m, .int (nI p), .int (nI w), .int 1] S _
    refine pm_moNote (by omega) h.1 h.2.2.1 (by omega) (fun S2 A2 f1 f2 f3 f4 => ?_)
    show px_P _ _ (26, [(0, .ref m), (1, .int (nI p)), (2, .int (nI FL.length))], []) S2 _
    refine px_P.ret rfl ?_
    have hc : cF p (fcd s T D) (ln_L s + 1) = [(p, w, 1)] := by
      refine srt_uniq (cF_sorted _) (List.pairwise_singleton _ _) (fun x => ?_)
      rw [cF_mem, List.mem_singleton]
      have hf : ∀ i, fcd s T D i = upd (fun _ => 0) w 1 i := by
        intro i
        unfold fcd ln_fc
        rw [if_neg hr, e2, nI_clamp (by omega)]
      obtain ⟨a, b, c⟩ := x
      dsimp only
      rw [hf b]
      by_cases eb : b = w
      · subst eb
        rw [pk_us]
        exact ⟨fun z => by rw [z.1, z.2.2.2], fun z => by cases z; exact ⟨rfl, by omega, by decide, rfl⟩⟩
      · rw [pk_un eb]
        exact ⟨fun z => absurd rfl z.2.2.1, fun z => by cases z; exact absurd rfl eb⟩
    rw [hc] at k
    refine k S2 A2 t ⟨?_, h.2.1.tr f2, f3, fun i i1 i2 i3 i4 => (f4 i i1 i2 i3).trans (h.2.2.2 i i1 i2 i3 i4)⟩
    rw [List.length_append]
    exact f1
