/-! ===== the model's calls: symbol ===== -/
def mIb (q : Nat → Int32) (A : Nat → Nat → Int32) (ty : List Nat) (tt : Nat → List Nat) (hh : List (Nat × List Nat)) : Prop := (q 1 = nI ty.length ∧ tyo ty ∧ tya (A 1) ty) ∧ ttO tt ∧ mtx A tt ∧ ml A (sL tt) ∧ mgr q A (sL tt) ∧ (q 3 = nI hh.length ∧ mhh A hh) ∧ (q 4 = 0 ∨ (q 4 = 1 ∧ knw A (sL tt)))
theorem mIb.kn {S S' : px_S} {m : Nat} {q : Nat → Int32} {A A' : Nat → Nat → Int32} {ty : List Nat} {tt : Nat → List Nat} {hh : List (Nat × List Nat)} (h : mIb q A ty tt hh) (g : kS S S' m (upd q 4 1) A A') (hk : knw A' (sL tt)) : mI S' m ty tt hh := by
  obtain ⟨⟨a1, a2, a3⟩, b, c, d, e, ⟨f1, f2⟩, _⟩ := h
  refine ⟨_, A', g.1, ⟨a1, a2, by rw [g.2.2 1 (by decide)]; exact a3⟩, b, ?_, d.cg (fun i i1 i2 => g.2.2 i (by omega)), e.q rfl (fun i i1 i2 => g.2.2 i (by omega)), ⟨f1, ?_⟩, Or.inr ⟨rfl, hk⟩⟩
  · unfold mtx
    rw [g.2.2 2 (by decide), g.2.2 3 (by decide)]
    exact c
  · unfold mhh
    rw [g.2.2 18 (by decide), g.2.2 19 (by decide), g.2.2 20 (by decide)]
    exact f2
theorem dfA_eq {L : Nat → Option ln_S} (hw : wfL L) {p s : Nat} (hp : p < 96) (hs : s < 208) : dfA L p = nI s ↔ dfb L p s = true := by
  rcases hw.df hp with ⟨e1, e2⟩ | ⟨z, t, e1, e2, e3, e4, e5⟩
  · rw [e1, e2 s hs]
    exact ⟨fun w => absurd w.symm (nI_neg (by omega)), fun w => (by cases w)⟩
  · rw [e3]
    constructor
    · intro w
      exact dfb_t.mpr ⟨z, e1, e4.trans w⟩
    · intro w
      obtain ⟨y, w1, w2⟩ := dfb_t.mp w
      rw [e1] at w1
      cases w1
      exact e4.symm.trans w2
theorem rdb_eq {L : Nat → Option ln_S} {p s : Nat} (hs : s < 208) : rdb L s p = true ↔ ∃ z t, L p = some z ∧ t < 208 ∧ ss_in (ln_W z) t = true ∧ decide (t = s) = true := by
  unfold rdb
  cases L p with
  | none => exact ⟨fun w => (by cases w), fun ⟨z, t, w, _⟩ => (by cases w)⟩
  | some z =>
    constructor
    · intro w
      exact ⟨z, s, rfl, hs, w, decide_eq_true rfl⟩
    · rintro ⟨y, t, w1, w2, w3, w4⟩
      cases w1
      rw [of_decide_eq_true w4] at w3
      exact w3
/-- the loops of symbol, with what 1 or 2 -/
theorem sy_loop {d m w s : Nat} {v1 v2 : Int32} {L : Nat → Option ln_S} {q : Nat → Int32} {A : Nat → Nat → Int32} {S : px_S} {Q : Option Value → px_S → Prop} (hd : 2 ≤ d) (hw12 : w = 1 ∨ w = 2) (hs : s < 208) (h : mo_at S m q A) (hm : ml A L) (hw : wfL L) (k : Q (some (.int (nI (if w = 1 then dc L s else ct (rdb L s) 96)))) S) :
    px_P d px_m_Model_symbol (95, [(0, .ref m), (1, .int v1), (2, .int v2), (3, .int (nI w)), (4, .int (nI s))], []) S Q := by
  have c0 := h.1
  obtain ⟨pr, hpr⟩ : ∃ pr : Nat → Bool, pr = (fun p => if w = 1 then dfb L p s else rdb L s p) := ⟨_, rfl⟩
  have e96 : ct pr 96 = (if w = 1 then dc L s else ct (rdb L s) 96) := by
    rw [hpr]
    by_cases e : w = 1
    · simp only [if_pos e]; rfl
    · simp only [if_neg e]
  have lp := px_for (d := d) (mi := px_m_Model_symbol) (Q := Q) (X := Unit) 96 (fun i _ => (101, [(0, .ref m), (1, .int v1), (2, .int v2), (3, .int (nI w)), (4, .int (nI s)), (5, .int (nI (ct pr i))), (6, .int (nI i))], []))
    (fun _ _ S' => S' = S)
    (by
      intro i hi _ S1 hS kk
      subst hS
      have hk := kk () S1 rfl
      have hdf := hm.df hi
      have yes : pr i = true → px_P d px_m_Model_symbol (139, [(0, .ref m), (1, .int v1), (2, .int v2), (3, .int (nI w)), (4, .int (nI s)), (5, .int (nI (ct pr i))), (6, .int (nI i))], []) S1 Q := by
        intro z
        rw [ct_s z] at hk
        refine px_P.sn 7 (f1 := (101, [(0, .ref m), (1, .int v1), (2, .int v2), (3, .int (nI w)), (4, .int (nI s)), (5, .int ((nI (ct pr i)) + 1)), (6, .int ((nI i) + 1))], [])) (S1 := S1) rfl ?_
        rw [nI_1, nI_1]
        exact hk
      have no : pr i = false → px_P d px_m_Model_symbol (146, [(0, .ref m), (1, .int v1), (2, .int v2), (3, .int (nI w)), (4, .int (nI s)), (5, .int (nI (ct pr i))), (6, .int (nI i))], []) S1 Q := by
        intro z
        rw [ct_z z] at hk
        refine px_P.sn 4 (f1 := (101, [(0, .ref m), (1, .int v1), (2, .int v2), (3, .int (nI w)), (4, .int (nI s)), (5, .int (nI (ct pr i))), (6, .int ((nI i) + 1))], [])) (S1 := S1) rfl ?_
        rw [nI_1]
        exact hk
      show px_P _ _ (101, [(0, .ref m), (1, .int v1), (2, .int v2), (3, .int (nI w)), (4, .int (nI s)), (5, .int (nI (ct pr i))), (6, .int (nI i))], []) S1 _
      have r5 : S1.1 (m + 5) = some (.inl (0, 96, .inl (A 5))) := h.2 5 (by decide) (by decide)
      refine px_P.sn 2 (f1 := (105, [(0, .ref m), (1, .int v1), (2, .int v2), (3, .int (nI w)), (4, .int (nI s)), (5, .int (nI (ct pr i))), (6, .int (nI i))], [.int 96, .int (nI i)])) (S1 := S1) rfl ?_
      refine px_P.ic_ge rfl rfl (fun h => absurd h (nI_ge (b := 96) hi (by decide))) (fun _ => ?_)
      refine px_P.sn 2 (f1 := (110, [(0, .ref m), (1, .int v1), (2, .int v2), (3, .int (nI w)), (4, .int (nI s)), (5, .int (nI (ct pr i))), (6, .int (nI i))], [.int 1, .int (nI w)])) (S1 := S1) rfl ?_
      by_cases e1 : w = 1
      · have epr : pr i = dfb L i s := by rw [hpr]; simp only [if_pos e1]
        refine px_P.ic_ne rfl rfl (fun h => absurd ((by rw [e1]; rfl)) h) (fun _ => ?_)
        refine px_P.sn 1 (f1 := (114, [(0, .ref m), (1, .int v1), (2, .int v2), (3, .int (nI w)), (4, .int (nI s)), (5, .int (nI (ct pr i))), (6, .int (nI i))], [.ref m])) (S1 := S1) rfl ?_
        refine px_P.gf rfl rfl (by assumption) (v := .ref (m + 5)) rfl ?_
        refine px_P.sn 1 (f1 := (119, [(0, .ref m), (1, .int v1), (2, .int v2), (3, .int (nI w)), (4, .int (nI s)), (5, .int (nI (ct pr i))), (6, .int (nI i))], [.int (nI i), .ref (m + 5)])) (S1 := S1) rfl ?_
        refine px_P.ialdj (j := i) rfl (by assumption) rfl (by omega) (by decide) ?_
        rw [hdf]
        refine px_P.sn 1 (f1 := (122, [(0, .ref m), (1, .int v1), (2, .int v2), (3, .int (nI w)), (4, .int (nI s)), (5, .int (nI (ct pr i))), (6, .int (nI i))], [.int (nI s), .int (dfA L i)])) (S1 := S1) rfl ?_
        refine px_P.ic_ne rfl rfl (fun z => ?_) (fun z => ?_)
        · exact no (by rw [epr]; exact Bool.eq_false_iff.mpr (fun w => z ((dfA_eq hw hi hs).mpr w)))
        · refine px_P.sn 1 (f1 := (139, [(0, .ref m), (1, .int v1), (2, .int v2), (3, .int (nI w)), (4, .int (nI s)), (5, .int (nI (ct pr i))), (6, .int (nI i))], [])) (S1 := S1) rfl ?_
          exact yes (by rw [epr]; exact (dfA_eq hw hi hs).mp z)
      · have epr : pr i = rdb L s i := by rw [hpr]; simp only [if_neg e1]
        refine px_P.ic_ne rfl rfl (fun _ => ?_) (fun h => absurd h ((fun z => e1 ((nI_eq (b := 1) (by omega) (by decide)).mp z))))
        refine px_P.sn 3 (f1 := (133, [(0, .ref m), (1, .int v1), (2, .int v2), (3, .int (nI w)), (4, .int (nI s)), (5, .int (nI (ct pr i))), (6, .int (nI i))], [.int (nI s), .int (nI i), .ref m])) (S1 := S1) rfl ?_
        refine px_P.cv rfl rfl rfl (by assumption) rfl ?_
        show px_M _ px_m_Model_reads [.ref m, .int (nI i), .int (nI s)] S1 _
        refine pm_moReads (by omega) hi hs h hm hw (fun b hb => ?_)
        have eb : b = pr i := by rw [epr]; exact Bool.eq_iff_iff.mpr (hb.trans (rdb_eq hs).symm)
        cases b with
        | true =>
          show px_P _ _ (136, [(0, .ref m), (1, .int v1), (2, .int v2), (3, .int (nI w)), (4, .int (nI s)), (5, .int (nI (ct pr i))), (6, .int (nI i))], [.int 1]) S1 _
          show px_P _ _ (136, [(0, .ref m), (1, .int v1), (2, .int v2), (3, .int (nI w)), (4, .int (nI s)), (5, .int (nI (ct pr i))), (6, .int (nI i))], [.int 1]) S1 _
          refine px_P.if_eq rfl rfl (fun h => absurd h ((by decide))) (fun _ => ?_)
          exact yes eb.symm
        | false =>
          show px_P _ _ (136, [(0, .ref m), (1, .int v1), (2, .int v2), (3, .int (nI w)), (4, .int (nI s)), (5, .int (nI (ct pr i))), (6, .int (nI i))], [.int 0]) S1 _
          show px_P _ _ (136, [(0, .ref m), (1, .int v1), (2, .int v2), (3, .int (nI w)), (4, .int (nI s)), (5, .int (nI (ct pr i))), (6, .int (nI i))], [.int 0]) S1 _
          refine px_P.if_eq rfl rfl (fun _ => ?_) (fun h => absurd ((by decide)) h)
          exact no eb.symm)
    (by
      intro _ S1 hS
      subst hS
      show px_P _ _ (101, [(0, .ref m), (1, .int v1), (2, .int v2), (3, .int (nI w)), (4, .int (nI s)), (5, .int (nI (ct pr 96))), (6, .int (nI 96))], []) S1 _
      refine px_P.sn 2 (f1 := (105, [(0, .ref m), (1, .int v1), (2, .int v2), (3, .int (nI w)), (4, .int (nI s)), (5, .int (nI (ct pr 96))), (6, .int (nI 96))], [.int 96, .int (nI 96)])) (S1 := S1) rfl ?_
      refine px_P.ic_ge rfl rfl (fun _ => ?_) (fun h => absurd ((by decide)) h)
      refine px_P.sn 1 (f1 := (158, [(0, .ref m), (1, .int v1), (2, .int v2), (3, .int (nI w)), (4, .int (nI s)), (5, .int (nI (ct pr 96))), (6, .int (nI 96))], [.int (nI (ct pr 96))])) (S1 := S1) rfl ?_
      refine px_P.ret rfl ?_
      rw [e96]
      exact k)
  refine px_P.sn 4 (f1 := (101, [(0, .ref m), (1, .int v1), (2, .int v2), (3, .int (nI w)), (4, .int (nI s)), (5, .int 0), (6, .int 0)], [])) (S1 := S) rfl ?_
  exact lp 96 0 rfl () S rfl
set_option maxHeartbeats 1000000 in
theorem pm_mmSymbol {d m mo sy w : Nat} {ty : List Nat} {tt : Nat → List Nat} {hh : List (Nat × List Nat)} {S : px_S} {Q : Option Value → px_S → Prop} (hd : 4 ≤ d) (h : mI S m ty tt hh) (hm : mo < 8) (hs : sy < 26) (hw : w < 4)
    (k : ∀ S' v', mI S' m ty tt hh → mf S' m 0 → mF S S' m → (∀ v, symA (sL tt) (26 * mo + sy) w v → v = v') → Q (some (.int v')) S') : px_M d px_m_Model_symbol [.ref m, .int (nI mo), .int (nI sy), .int (nI w)] S Q := by
  obtain ⟨q, A, h0, hr⟩ := h
  have hr' : mIb (upd q 0 0) A ty tt hh := by
    obtain ⟨r1, r2, r3, r4, r5, r6, r7⟩ := hr
    exact ⟨r1, r2, r3, r4, r5.q rfl (fun _ _ _ => rfl), r6, r7⟩
  obtain ⟨r1, r2, r3, r4, r5, r6, r7⟩ := hr'
  have hwf := sL_wf r2
  obtain ⟨T, D, d1, d2, d3, d4, d5, d6, d7⟩ := r5
  have c0 := h0.1
  refine px_M.go (by omega) (Nat.le_of_ble_eq_true rfl) ?_
  refine px_P.sn 4 (f1 := (5, [(0, .ref m), (1, .int (nI mo)), (2, .int (nI sy)), (3, .int (nI w))], [.int 7, .int 0, .int (nI mo), .ref m])) (S1 := S) rfl ?_
  refine px_P.call rfl ?_
  show px_M _ px_m_Model_isIn [.int (nI mo), .int 0, .int 7] S _
  refine pm_moIsIn (by omega) ?_
  rw [show (decide ((0 : Int32) ≤ nI mo) && decide (nI mo ≤ 7)) = true from in_ok (b := 7) (by omega) (by decide)]
  show px_P _ _ (8, [(0, .ref m), (1, .int (nI mo)), (2, .int (nI sy)), (3, .int (nI w))], [.int 1, .ref m]) S _
  show px_P _ _ (8, [(0, .ref m), (1, .int (nI mo)), (2, .int (nI sy)), (3, .int (nI w))], [.int 1, .ref m]) S _
  refine px_P.if_eq rfl rfl (fun h => absurd h ((by decide))) (fun _ => ?_)
  refine px_P.sn 3 (f1 := (15, [(0, .ref m), (1, .int (nI mo)), (2, .int (nI sy)), (3, .int (nI w))], [.int 25, .int 0, .int (nI sy), .ref m])) (S1 := S) rfl ?_
  refine px_P.call rfl ?_
  show px_M _ px_m_Model_isIn [.int (nI sy), .int 0, .int 25] S _
  refine pm_moIsIn (by omega) ?_
  rw [show (decide ((0 : Int32) ≤ nI sy) && decide (nI sy ≤ 25)) = true from in_ok (b := 25) (by omega) (by decide)]
  show px_P _ _ (18, [(0, .ref m), (1, .int (nI mo)), (2, .int (nI sy)), (3, .int (nI w))], [.int 1, .ref m]) S _
  show px_P _ _ (18, [(0, .ref m), (1, .int (nI mo)), (2, .int (nI sy)), (3, .int (nI w))], [.int 1, .ref m]) S _
  refine px_P.if_eq rfl rfl (fun h => absurd h ((by decide))) (fun _ => ?_)
  refine px_P.sn 3 (f1 := (24, [(0, .ref m), (1, .int (nI mo)), (2, .int (nI sy)), (3, .int (nI w))], [.int 3, .int 0, .int (nI w), .ref m])) (S1 := S) rfl ?_
  refine px_P.call rfl ?_
  show px_M _ px_m_Model_isIn [.int (nI w), .int 0, .int 3] S _
  refine pm_moIsIn (by omega) ?_
  rw [show (decide ((0 : Int32) ≤ nI w) && decide (nI w ≤ 3)) = true from in_ok (b := 3) (by omega) (by decide)]
  show px_P _ _ (27, [(0, .ref m), (1, .int (nI mo)), (2, .int (nI sy)), (3, .int (nI w))], [.int 1, .ref m]) S _
  show px_P _ _ (27, [(0, .ref m), (1, .int (nI mo)), (2, .int (nI sy)), (3, .int (nI w))], [.int 1, .ref m]) S _
  refine px_P.if_eq rfl rfl (fun h => absurd h ((by decide))) (fun _ => ?_)
  refine px_P.sn 2 (f1 := (35, [(0, .ref m), (1, .int (nI mo)), (2, .int (nI sy)), (3, .int (nI w))], [.int 0, .ref m])) (S1 := S) rfl ?_
  refine px_P.cv rfl rfl rfl (by assumption) rfl ?_
  show px_M _ px_m_Model_refused [.ref m, .int 0] S _
  refine pm_moRefused (b := false) (by omega) h0 (fun S1 g1 m1 => ?_)
  have hI : mI S1 m ty tt hh := ⟨_, A, g1, r1, r2, r3, r4, ⟨T, D, d1, d2, d3, d4, d5, d6, d7⟩, r6, r7⟩
  have hmf : mf S1 m 0 := ⟨_, g1.1, rfl⟩
  show px_P _ _ (38, [(0, .ref m), (1, .int (nI mo)), (2, .int (nI sy)), (3, .int (nI w))], [.int 0]) S1 _
  show px_P _ _ (38, [(0, .ref m), (1, .int (nI mo)), (2, .int (nI sy)), (3, .int (nI w))], [.int 0]) S1 _
  refine px_P.if_eq rfl rfl (fun _ => ?_) (fun h => absurd ((by decide)) h)
  refine px_P.sn 5 (f1 := (49, [(0, .ref m), (1, .int (nI mo)), (2, .int (nI sy)), (3, .int (nI w))], [.int ((26 * (nI mo)) + (nI sy))])) (S1 := S1) rfl ?_
  rw [show (26 : Int32) * nI mo + nI sy = nI (26 * mo + sy) by rw [show (26 : Int32) = nI 26 from rfl, pk_mul, nI_add]]
  have hs208 : 26 * mo + sy < 208 := by omega
  generalize 26 * mo + sy = s at *
  refine px_P.sn 2 (f1 := (52, [(0, .ref m), (1, .int (nI mo)), (2, .int (nI sy)), (3, .int (nI w)), (4, .int (nI s))], [.int (nI w)])) (S1 := S1) rfl ?_
  have c1 := g1.1
  have e14 := d1 s hs208
  -- type and circle
  have at60 : (w = 0 ∨ w = 3) → px_P (d - 1) px_m_Model_symbol (60, [(0, .ref m), (1, .int (nI mo)), (2, .int (nI sy)), (3, .int (nI w)), (4, .int (nI s))], []) S1 Q := by
    intro hw03
    have r13 : S1.1 (m + 13) = some (.inl (0, 208, .inl (A 13))) := g1.2 13 (by decide) (by decide)
    have r14 : S1.1 (m + 14) = some (.inl (2, 208, .inl (A 14))) := g1.2 14 (by decide) (by decide)
    refine px_P.sn 1 (f1 := (61, [(0, .ref m), (1, .int (nI mo)), (2, .int (nI sy)), (3, .int (nI w)), (4, .int (nI s))], [.ref m])) (S1 := S1) rfl ?_
    refine px_P.gf rfl rfl (by assumption) (v := .ref (m + 14)) rfl ?_
    refine px_P.sn 1 (f1 := (66, [(0, .ref m), (1, .int (nI mo)), (2, .int (nI sy)), (3, .int (nI w)), (4, .int (nI s))], [.int (nI s), .ref (m + 14)])) (S1 := S1) rfl ?_
    refine px_P.zaldj (j := s) rfl (by assumption) rfl (by omega) (by decide) ?_
    rw [e14]
    by_cases e0 : dc (sL tt) s = 0
    · rw [if_pos e0]
      refine px_P.if_ne rfl rfl (fun h => absurd ((by decide)) h) (fun _ => ?_)
      refine px_P.sn 1 (f1 := (71, [(0, .ref m), (1, .int (nI mo)), (2, .int (nI sy)), (3, .int (nI w)), (4, .int (nI s))], [.int (-1)])) (S1 := S1) rfl ?_
      refine px_P.ret rfl ?_
      refine k S1 (-1) hI hmf m1 (fun v hv => ?_)
      rcases hw03 with z | z
      · exact hv.2.2.1 z e0
      · exact hv.2.2.2.1 z e0
    · rw [if_neg e0]
      refine px_P.if_ne rfl rfl (fun _ => ?_) (fun h => absurd h ((by decide)))
      refine px_P.sn 1 (f1 := (73, [(0, .ref m), (1, .int (nI mo)), (2, .int (nI sy)), (3, .int (nI w)), (4, .int (nI s))], [.int (nI w)])) (S1 := S1) rfl ?_
      rcases hw03 with z | z
      · refine px_P.if_ne rfl rfl (fun h => absurd ((by rw [z]; rfl)) h) (fun _ => ?_)
        refine px_P.sn 1 (f1 := (77, [(0, .ref m), (1, .int (nI mo)), (2, .int (nI sy)), (3, .int (nI w)), (4, .int (nI s))], [.ref m])) (S1 := S1) rfl ?_
        refine px_P.gf rfl rfl (by assumption) (v := .ref (m + 13)) rfl ?_
        refine px_P.sn 1 (f1 := (82, [(0, .ref m), (1, .int (nI mo)), (2, .int (nI sy)), (3, .int (nI w)), (4, .int (nI s))], [.int (nI s), .ref (m + 13)])) (S1 := S1) rfl ?_
        refine px_P.ialdj (j := s) rfl (by assumption) rfl (by omega) (by decide) ?_
        refine px_P.ret rfl ?_
        refine k S1 _ hI hmf m1 (fun v hv => ?_)
        obtain ⟨T', h1, h2⟩ := hv.2.2.2.2.1 z e0
        rw [h2, lf_is.un h1 d3 s hs208, d2 s hs208]
        unfold eT
        rw [if_neg e0]
      · refine px_P.if_ne rfl rfl (fun _ => ?_) (fun h => absurd h ((by rw [z]; decide)))
        refine px_P.sn 1 (f1 := (85, [(0, .ref m), (1, .int (nI mo)), (2, .int (nI sy)), (3, .int (nI w)), (4, .int (nI s))], [.ref m])) (S1 := S1) rfl ?_
        refine px_P.cv rfl rfl rfl (by assumption) rfl ?_
        show px_M _ px_m_Model_know [.ref m] S1 _
        refine pm_moKnow (by omega) g1 r4 hwf d1 r7 (fun S2 A2 g2 hk => ?_)
        have c2 := g2.1.1
        show px_P _ _ (88, [(0, .ref m), (1, .int (nI mo)), (2, .int (nI sy)), (3, .int (nI w)), (4, .int (nI s))], []) S2 _
        refine px_P.sn 2 (f1 := (91, [(0, .ref m), (1, .int (nI mo)), (2, .int (nI sy)), (3, .int (nI w)), (4, .int (nI s))], [.int (nI s), .ref m])) (S1 := S2) rfl ?_
        refine px_P.cv rfl rfl rfl (by assumption) rfl ?_
        show px_M _ px_m_Model_leastOf [.ref m, .int (nI s)] S2 _
        refine pm_moLeast (by omega) hs208 g2.1 (fun v hv => ?_)
        show px_P _ _ (94, [(0, .ref m), (1, .int (nI mo)), (2, .int (nI sy)), (3, .int (nI w)), (4, .int (nI s))], [.int (nI v)]) S2 _
        refine px_P.ret rfl ?_
        refine k S2 _ (mIb.kn ⟨r1, r2, r3, r4, ⟨T, D, d1, d2, d3, d4, d5, d6, d7⟩, r6, r7⟩ g2 hk) ⟨_, g2.1.1, rfl⟩ (m1.tr g2.2.1) (fun v' hv' => ?_)
        obtain ⟨H, h1, h2⟩ := hv'.2.2.2.2.2 z e0
        rw [h2, lsp_lsf hk h1 hs208 hv]
  by_cases e0 : w = 0
  · refine px_P.if_eq rfl rfl (fun _ => ?_) (fun h => absurd ((by rw [e0]; rfl)) h)
    exact at60 (Or.inl e0)
  · refine px_P.if_eq rfl rfl (fun h => absurd h ((nI_ne0 (by omega) (by omega)))) (fun _ => ?_)
    refine px_P.sn 2 (f1 := (57, [(0, .ref m), (1, .int (nI mo)), (2, .int (nI sy)), (3, .int (nI w)), (4, .int (nI s))], [.int 3, .int (nI w)])) (S1 := S1) rfl ?_
    by_cases e3 : w = 3
    · refine px_P.ic_ne rfl rfl (fun h => absurd ((by rw [e3]; rfl)) h) (fun _ => ?_)
      exact at60 (Or.inr e3)
    · refine px_P.ic_ne rfl rfl (fun _ => ?_) (fun h => absurd h ((fun z => e3 ((nI_eq (b := 3) (by omega) (by decide)).mp z))))
      refine sy_loop (L := sL tt) (by omega) (by omega) hs208 g1 r4 hwf (k S1 _ hI hmf m1 (fun v hv => ?_))
      by_cases e1 : w = 1
      · rw [if_pos e1]; exact hv.1 e1
      · rw [if_neg e1]; exact hv.2.1 (by omega)
theorem pm_mm3Bad {d m : Nat} {a b c hb1 hb2 : Int32} {mi : Nat} {ty : List Nat} {tt : Nat → List Nat} {hh : List (Nat × List Nat)} {S : px_S} {Q : Option Value → px_S → Prop} (hd : 2 ≤ d) (hmi : (mi = px_m_Model_symbol ∧ hb1 = 25 ∧ hb2 = 3) ∨ (mi = px_m_Model_line ∧ hb1 = 11 ∧ hb2 = 4)) (h : mI S m ty tt hh) (hbad : ((decide (0 ≤ a) && decide (a ≤ 7)) && ((decide (0 ≤ b) && decide (b ≤ hb1)) && (decide (0 ≤ c) && decide (c ≤ hb2)))) = false)
    (k : ∀ S', mI S' m ty tt hh → mf S' m 1 → mF S S' m → Q (some (.int 0)) S') : px_M d mi [.ref m, .int a, .int b, .int c] S Q := by
  obtain ⟨q, A, h0, hr⟩ := h
  have c0 := h0.1
  rcases hmi with ⟨e1, e2, e3⟩ | ⟨e1, e2, e3⟩
  · subst e1 e2 e3
    have out : px_P (d - 1) px_m_Model_symbol (34, [(0, .ref m), (1, .int a), (2, .int b), (3, .int c)], [.ref m]) S Q := by
      refine px_P.sn 1 (f1 := (35, [(0, .ref m), (1, .int a), (2, .int b), (3, .int c)], [.int 1, .ref m])) (S1 := S) rfl ?_
      refine px_P.cv rfl rfl rfl (by assumption) rfl ?_
      show px_M _ px_m_Model_refused [.ref m, .int 1] S _
      refine pm_moRefused (b := true) (by omega) h0 (fun S1 g1 m1 => ?_)
      show px_P _ _ (38, [(0, .ref m), (1, .int a), (2, .int b), (3, .int c)], [.int 1]) S1 _
      show px_P _ _ (38, [(0, .ref m), (1, .int a), (2, .int b), (3, .int c)], [.int 1]) S1 _
      refine px_P.if_eq rfl rfl (fun h => absurd h ((by decide))) (fun _ => ?_)
      refine px_P.sn 1 (f1 := (42, [(0, .ref m), (1, .int a), (2, .int b), (3, .int c)], [.int 0])) (S1 := S1) rfl ?_
      refine px_P.ret rfl ?_
      exact k S1 (mI.q hr g1 rfl rfl rfl rfl (fun _ _ => rfl) hr.1.2.2) ⟨_, g1.1, rfl⟩ m1
    refine px_M.go (by omega) (Nat.le_of_ble_eq_true rfl) ?_
    refine px_P.sn 4 (f1 := (5, [(0, .ref m), (1, .int a), (2, .int b), (3, .int c)], [.int 7, .int 0, .int a, .ref m])) (S1 := S) rfl ?_
    refine px_P.call rfl ?_
    show px_M _ px_m_Model_isIn [.int a, .int 0, .int 7] S _
    refine pm_moIsIn (by omega) ?_
    cases h1 : (decide (0 ≤ a) && decide (a ≤ 7)) with
    | false =>
      show px_P _ _ (8, [(0, .ref m), (1, .int a), (2, .int b), (3, .int c)], [.int 0, .ref m]) S _
      show px_P _ _ (8, [(0, .ref m), (1, .int a), (2, .int b), (3, .int c)], [.int 0, .ref m]) S _
      refine px_P.if_eq rfl rfl (fun _ => ?_) (fun h => absurd ((by decide)) h)
      exact out
    | true =>
      rw [h1, Bool.true_and] at hbad
      show px_P _ _ (8, [(0, .ref m), (1, .int a), (2, .int b), (3, .int c)], [.int 1, .ref m]) S _
      show px_P _ _ (8, [(0, .ref m), (1, .int a), (2, .int b), (3, .int c)], [.int 1, .ref m]) S _
      refine px_P.if_eq rfl rfl (fun h => absurd h ((by decide))) (fun _ => ?_)
      refine px_P.sn 3 (f1 := (15, [(0, .ref m), (1, .int a), (2, .int b), (3, .int c)], [.int 25, .int 0, .int b, .ref m])) (S1 := S) rfl ?_
      refine px_P.call rfl ?_
      show px_M _ px_m_Model_isIn [.int b, .int 0, .int 25] S _
      refine pm_moIsIn (by omega) ?_
      cases h2 : (decide (0 ≤ b) && decide (b ≤ 25)) with
      | false =>
        show px_P _ _ (18, [(0, .ref m), (1, .int a), (2, .int b), (3, .int c)], [.int 0, .ref m]) S _
        show px_P _ _ (18, [(0, .ref m), (1, .int a), (2, .int b), (3, .int c)], [.int 0, .ref m]) S _
        refine px_P.if_eq rfl rfl (fun _ => ?_) (fun h => absurd ((by decide)) h)
        exact out
      | true =>
        rw [h2, Bool.true_and] at hbad
        show px_P _ _ (18, [(0, .ref m), (1, .int a), (2, .int b), (3, .int c)], [.int 1, .ref m]) S _
        show px_P _ _ (18, [(0, .ref m), (1, .int a), (2, .int b), (3, .int c)], [.int 1, .ref m]) S _
        refine px_P.if_eq rfl rfl (fun h => absurd h ((by decide))) (fun _ => ?_)
        refine px_P.sn 3 (f1 := (24, [(0, .ref m), (1, .int a), (2, .int b), (3, .int c)], [.int 3, .int 0, .int c, .ref m])) (S1 := S) rfl ?_
        refine px_P.call rfl ?_
        show px_M _ px_m_Model_isIn [.int c, .int 0, .int 3] S _
        refine pm_moIsIn (by omega) ?_
        rw [hbad]
        show px_P _ _ (27, [(0, .ref m), (1, .int a), (2, .int b), (3, .int c)], [.int 0, .ref m]) S _
        show px_P _ _ (27, [(0, .ref m), (1, .int a), (2, .int b), (3, .int c)], [.int 0, .ref m]) S _
        refine px_P.if_eq rfl rfl (fun _ => ?_) (fun h => absurd ((by decide)) h)
        exact out
  · subst e1 e2 e3
    have out : px_P (d - 1) px_m_Model_line (34, [(0, .ref m), (1, .int a), (2, .int b), (3, .int c)], [.ref m]) S Q := by
      refine px_P.sn 1 (f1 := (35, [(0, .ref m), (1, .int a), (2, .int b), (3, .int c)], [.int 1, .ref m])) (S1 := S) rfl ?_
      refine px_P.cv rfl rfl rfl (by assumption) rfl ?_
      show px_M _ px_m_Model_refused [.ref m, .int 1] S _
      refine pm_moRefused (b := true) (by omega) h0 (fun S1 g1 m1 => ?_)
      show px_P _ _ (38, [(0, .ref m), (1, .int a), (2, .int b), (3, .int c)], [.int 1]) S1 _
      show px_P _ _ (38, [(0, .ref m), (1, .int a), (2, .int b), (3, .int c)], [.int 1]) S1 _
      refine px_P.if_eq rfl rfl (fun h => absurd h ((by decide))) (fun _ => ?_)
      refine px_P.sn 1 (f1 := (42, [(0, .ref m), (1, .int a), (2, .int b), (3, .int c)], [.int 0])) (S1 := S1) rfl ?_
      refine px_P.ret rfl ?_
      exact k S1 (mI.q hr g1 rfl rfl rfl rfl (fun _ _ => rfl) hr.1.2.2) ⟨_, g1.1, rfl⟩ m1
    refine px_M.go (by omega) (Nat.le_of_ble_eq_true rfl) ?_
    refine px_P.sn 4 (f1 := (5, [(0, .ref m), (1, .int a), (2, .int b), (3, .int c)], [.int 7, .int 0, .int a, .ref m])) (S1 := S) rfl ?_
    refine px_P.call rfl ?_
    show px_M _ px_m_Model_isIn [.int a, .int 0, .int 7] S _
    refine pm_moIsIn (by omega) ?_
    cases h1 : (decide (0 ≤ a) && decide (a ≤ 7)) with
    | false =>
      show px_P _ _ (8, [(0, .ref m), (1, .int a), (2, .int b), (3, .int c)], [.int 0, .ref m]) S _
      show px_P _ _ (8, [(0, .ref m), (1, .int a), (2, .int b), (3, .int c)], [.int 0, .ref m]) S _
      refine px_P.if_eq rfl rfl (fun _ => ?_) (fun h => absurd ((by decide)) h)
      exact out
    | true =>
      rw [h1, Bool.true_and] at hbad
      show px_P _ _ (8, [(0, .ref m), (1, .int a), (2, .int b), (3, .int c)], [.int 1, .ref m]) S _
      show px_P _ _ (8, [(0, .ref m), (1, .int a), (2, .int b), (3, .int c)], [.int 1, .ref m]) S _
      refine px_P.if_eq rfl rfl (fun h => absurd h ((by decide))) (fun _ => ?_)
      refine px_P.sn 3 (f1 := (15, [(0, .ref m), (1, .int a), (2, .int b), (3, .int c)], [.int 11, .int 0, .int b, .ref m])) (S1 := S) rfl ?_
      refine px_P.call rfl ?_
      show px_M _ px_m_Model_isIn [.int b, .int 0, .int 11] S _
      refine pm_moIsIn (by omega) ?_
      cases h2 : (decide (0 ≤ b) && decide (b ≤ 11)) with
      | false =>
        show px_P _ _ (18, [(0, .ref m), (1, .int a), (2, .int b), (3, .int c)], [.int 0, .ref m]) S _
        show px_P _ _ (18, [(0, .ref m), (1, .int a), (2, .int b), (3, .int c)], [.int 0, .ref m]) S _
        refine px_P.if_eq rfl rfl (fun _ => ?_) (fun h => absurd ((by decide)) h)
        exact out
      | true =>
        rw [h2, Bool.true_and] at hbad
        show px_P _ _ (18, [(0, .ref m), (1, .int a), (2, .int b), (3, .int c)], [.int 1, .ref m]) S _
        show px_P _ _ (18, [(0, .ref m), (1, .int a), (2, .int b), (3, .int c)], [.int 1, .ref m]) S _
        refine px_P.if_eq rfl rfl (fun h => absurd h ((by decide))) (fun _ => ?_)
        refine px_P.sn 3 (f1 := (24, [(0, .ref m), (1, .int a), (2, .int b), (3, .int c)], [.int 4, .int 0, .int c, .ref m])) (S1 := S) rfl ?_
        refine px_P.call rfl ?_
        show px_M _ px_m_Model_isIn [.int c, .int 0, .int 4] S _
        refine pm_moIsIn (by omega) ?_
        rw [hbad]
        show px_P _ _ (27, [(0, .ref m), (1, .int a), (2, .int b), (3, .int c)], [.int 0, .ref m]) S _
        show px_P _ _ (27, [(0, .ref m), (1, .int a), (2, .int b), (3, .int c)], [.int 0, .ref m]) S _
        refine px_P.if_eq rfl rfl (fun _ => ?_) (fun h => absurd ((by decide)) h)
        exact out
