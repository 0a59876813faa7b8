/-! ===== the model's calls: diagnostic, count ===== -/
theorem dia_un {L : Nat → Option ln_S} {T D : Nat → Int32} (hw : wfL L) (hT : lf_is L T) (hD : ∀ t, t < 208 → D t = nI (dc L t)) {q w : Nat} : ((flc L T D 96).length ≤ q → ∀ v, diaA L q w v → v = -1) ∧ ∀ x, (flc L T D 96)[q]? = some x → ∀ v, diaA L q w v → v = dgA x.1 x.2.1 x.2.2 w := by
  have hlen := flc_len (T := T) (D := D) hw 96 (Nat.le_refl _)
  have key : ∀ T' D' : Nat → Int32, lf_is L T' → (∀ t, t < 208 → D' t = nI (dc L t)) → (∀ p, p < 96 → fzp L T' D' p = fzp L T D p) ∧ ∀ p s, p < 96 → L p = some s → ∀ j, fcd s T' D' j = fcd s T D j := by
    intro T' D' h1 h2
    have t1 : ∀ t, t < 208 → T' t = T t := fun t ht => lf_is.un h1 hT t ht
    have t2 : ∀ t, t < 208 → D' t = D t := fun t ht => (h2 t ht).trans (hD t ht).symm
    exact ⟨fun p hp => fzp_cg hw t1 t2 hp, fun p s hp hL => (fcd_cg (hw p s hp hL).1 t1 t2).1⟩
  refine ⟨fun hq v hv => ?_, fun x hx v hv => ?_⟩
  · obtain ⟨T', D', h1, h2, h3⟩ := hv
    obtain ⟨k1, k2⟩ := key T' D' h1 h2
    rcases h3 with h3 | ⟨p, i, s, p1, p2, p3, p4, p5, p6⟩
    · exact h3.2
    · exfalso
      have es : sm (fzp L T' D') p = sm (fzp L T D) p := sm_cg p (fun i hi => k1 i (by omega))
      have ec : ct (fun j => decide (¬ fcd s T' D' j = 0)) i = ct (fun j => decide (¬ fcd s T D j = 0)) i := ct_congr (fun j _ => by show decide _ = decide _; rw [k2 p s p1 p2 j])
      rw [k2 p s p1 p2 i] at p4
      have r1 := rk_lt hw p1 p2 p3 p4
      have q1 := sm_mono (f := fzp L T D) (a := p + 1) (b := 96) (by omega)
      have q2 : sm (fzp L T D) (p + 1) = sm (fzp L T D) p + fzp L T D p := rfl
      omega
  · obtain ⟨T', D', h1, h2, h3⟩ := hv
    obtain ⟨k1, k2⟩ := key T' D' h1 h2
    obtain ⟨x1, s0, x2, x3, x4, x5, x6⟩ := flc_get hw (Nat.le_refl _) hx
    have hql : q < (flc L T D 96).length := (List.getElem?_eq_some_iff.mp hx).1
    rcases h3 with h3 | ⟨p, i, s, p1, p2, p3, p4, p5, p6⟩
    · exfalso
      have es : sm (fzp L T' D') 96 = sm (fzp L T D) 96 := sm_cg 96 (fun i hi => k1 i (by omega))
      omega
    · have es : sm (fzp L T' D') p = sm (fzp L T D) p := sm_cg p (fun i hi => k1 i (by omega))
      have ec : ct (fun j => decide (¬ fcd s T' D' j = 0)) i = ct (fun j => decide (¬ fcd s T D j = 0)) i := ct_congr (fun j _ => by show decide _ = decide _; rw [k2 p s p1 p2 j])
      rw [k2 p s p1 p2 i] at p4 p6
      obtain ⟨e1, e2⟩ := rk_un hw p1 p2 p3 p4 x1 x2 x3 x4 (by omega)
      subst e1 e2
      rw [p2] at x2
      cases x2
      rw [p6, x5]
theorem pm_mmDiag {d m q0 w : Nat} {ty : List Nat} {tt : Nat → List Nat} {hh : List (Nat × List Nat)} {S : px_S} {Q : Option Value → px_S → Prop} (hd : 2 ≤ d) (h : mI S m ty tt hh) (hq : q0 < 2 ^ 31) (hw : w < 4)
    (k : ∀ S' v', mI S' m ty tt hh → mf S' m 0 → mF S S' m → (∀ v, diaA (sL tt) q0 w v → v = v') → Q (some (.int v')) S') : px_M d px_m_Model_diagnostic [.ref m, .int (nI q0), .int (nI w)] S Q := by
  obtain ⟨q, A, h0, r1, r2, r3, r4, r5, r6, r7⟩ := h
  have r5' : mgr (upd q 0 0) A (sL tt) := r5.q rfl (fun _ _ _ => rfl)
  have hwf := sL_wf r2
  obtain ⟨T, D, d1, d2, d3, d4, d5, d6, d7⟩ := r5
  obtain ⟨u1, u2⟩ := dia_un (T := T) (D := D) hwf d3 d5 (q := q0) (w := w)
  have flen := flc_len (T := T) (D := D) hwf 96 (by omega)
  have flsm := sm_le (f := fzp (sL tt) T D) (b := 61) 96 (fun i hi => fzp_le hwf hi)
  have hfb : ∀ (i : Nat) (x : Nat × Nat × Int32), (flc (sL tt) T D 96)[i]? = some x → x.1 < 96 := fun i x hi => (flc_get hwf (Nat.le_refl _) hi).1
  generalize flc (sL tt) T D 96 = FL at *
  have c0 := h0.1
  refine px_M.go (by omega) (Nat.le_of_ble_eq_true rfl) ?_
  refine px_P.sn 4 (f1 := (4, [(0, .ref m), (1, .int (nI q0)), (2, .int (nI w))], [.int 3, .int 0, .int (nI w), .ref m])) (S1 := S) rfl ?_
  refine px_P.call rfl ?_
  show px_M _ px_m_Model_isIn [.int (nI w), .int 0, .int 3] S _
  refine pm_moIsIn (by omega) ?_
  rw [show (decide ((0 : Int32) ≤ nI w) && decide (nI w ≤ 3)) = true from in_ok (b := 3) (by omega) (by decide)]
  show px_P _ _ (7, [(0, .ref m), (1, .int (nI q0)), (2, .int (nI w))], [.int 1, .ref m]) S _
  show px_P _ _ (7, [(0, .ref m), (1, .int (nI q0)), (2, .int (nI w))], [.int 1, .ref m]) S _
  refine px_P.if_eq rfl rfl (fun h => absurd h ((by decide))) (fun _ => ?_)
  refine px_P.sn 2 (f1 := (15, [(0, .ref m), (1, .int (nI q0)), (2, .int (nI w))], [.int 0, .ref m])) (S1 := S) rfl ?_
  refine px_P.cv rfl rfl rfl (by assumption) rfl ?_
  show px_M _ px_m_Model_refused [.ref m, .int 0] S _
  refine pm_moRefused (b := false) (by omega) h0 (fun S1 g1 m1 => ?_)
  have hI : mI S1 m ty tt hh := ⟨_, A, g1, r1, r2, r3, r4, r5', r6, r7⟩
  have kk := fun v' => k S1 v' hI ⟨_, g1.1, rfl⟩ m1
  clear k
  have c1 : S1.1 m = some (.inr (10, mo_ob m (upd (upd q 0 0) 2 (nI FL.length)))) := by rw [upd_self (q := upd q 0 0) (i := 2) d6]; exact g1.1
  show px_P _ _ (18, [(0, .ref m), (1, .int (nI q0)), (2, .int (nI w))], [.int 0]) S1 _
  show px_P _ _ (18, [(0, .ref m), (1, .int (nI q0)), (2, .int (nI w))], [.int 0]) S1 _
  refine px_P.if_eq rfl rfl (fun _ => ?_) (fun h => absurd ((by decide)) h)
  refine px_P.sn 1 (f1 := (24, [(0, .ref m), (1, .int (nI q0)), (2, .int (nI w))], [.int (nI q0)])) (S1 := S1) rfl ?_
  refine px_P.if_lt rfl rfl (fun h => absurd h (nI_pos hq)) (fun _ => ?_)
  refine px_P.sn 2 (f1 := (29, [(0, .ref m), (1, .int (nI q0)), (2, .int (nI w))], [.ref m, .int (nI q0)])) (S1 := S1) rfl ?_
  refine px_P.gf rfl rfl (by assumption) (v := .int (nI FL.length)) rfl ?_
  by_cases hlt : q0 < FL.length
  · refine px_P.ic_lt rfl rfl (fun _ => ?_) (fun h => absurd (nI_lt hlt (by omega)) h)
    have hx := List.getElem?_eq_getElem hlt
    generalize FL[q0] = x at hx
    obtain ⟨f1, f2, f3⟩ := d7 q0 x hx
    have hx96 := hfb q0 x hx
    have kx := fun v' (e : v' = dgA x.1 x.2.1 x.2.2 w) => kk v' (fun v hv => (u2 x hx v hv).trans e.symm)
    have out : ∀ v', v' = dgA x.1 x.2.1 x.2.2 w → px_P (d - 1) px_m_Model_diagnostic (90, [(0, .ref m), (1, .int (nI q0)), (2, .int (nI w))], [.int v']) S1 Q := by
      intro v' e
      refine px_P.ret rfl ?_
      exact kx v' e
    unfold dgA at out
    have r15 : S1.1 (m + 15) = some (.inl (0, 6000, .inl (A 15))) := g1.2 15 (by decide) (by decide)
    have r16 : S1.1 (m + 16) = some (.inl (0, 6000, .inl (A 16))) := g1.2 16 (by decide) (by decide)
    have r17 : S1.1 (m + 17) = some (.inl (0, 6000, .inl (A 17))) := g1.2 17 (by decide) (by decide)
    refine px_P.sn 1 (f1 := (38, [(0, .ref m), (1, .int (nI q0)), (2, .int (nI w))], [.int (nI w)])) (S1 := S1) rfl ?_
    by_cases e0 : w = 0
    · refine px_P.if_ne rfl rfl (fun h => absurd ((by rw [e0]; rfl)) h) (fun _ => ?_)
      refine px_P.sn 1 (f1 := (42, [(0, .ref m), (1, .int (nI q0)), (2, .int (nI w))], [.ref m])) (S1 := S1) rfl ?_
      refine px_P.gf rfl rfl (by assumption) (v := .ref (m + 15)) rfl ?_
      refine px_P.sn 1 (f1 := (46, [(0, .ref m), (1, .int (nI q0)), (2, .int (nI w))], [.int (nI q0), .ref (m + 15)])) (S1 := S1) rfl ?_
      refine px_P.ialdj (j := q0) rfl (by assumption) rfl (by omega) (by decide) ?_
      rw [f1]
      refine px_P.sn 1 (f1 := (49, [(0, .ref m), (1, .int (nI q0)), (2, .int (nI w))], [.int 12, .int (nI x.1)])) (S1 := S1) rfl ?_
      refine px_P.idiv rfl (by decide) ?_
      refine px_P.sn 1 (f1 := (90, [(0, .ref m), (1, .int (nI q0)), (2, .int (nI w))], [.int ((nI x.1) / 12)])) (S1 := S1) rfl ?_
      exact out _ (by rw [if_pos e0]; exact pk_div (d := 12) (by omega) (by decide) (by decide))
    · refine px_P.if_ne rfl rfl (fun _ => ?_) (fun h => absurd h ((nI_ne0 (by omega) (by omega))))
      refine px_P.sn 2 (f1 := (55, [(0, .ref m), (1, .int (nI q0)), (2, .int (nI w))], [.int 1, .int (nI w)])) (S1 := S1) rfl ?_
      by_cases e1 : w = 1
      · refine px_P.ic_ne rfl rfl (fun h => absurd ((by rw [e1]; rfl)) h) (fun _ => ?_)
        refine px_P.sn 1 (f1 := (59, [(0, .ref m), (1, .int (nI q0)), (2, .int (nI w))], [.ref m])) (S1 := S1) rfl ?_
        refine px_P.gf rfl rfl (by assumption) (v := .ref (m + 15)) rfl ?_
        refine px_P.sn 1 (f1 := (63, [(0, .ref m), (1, .int (nI q0)), (2, .int (nI w))], [.int (nI q0), .ref (m + 15)])) (S1 := S1) rfl ?_
        refine px_P.ialdj (j := q0) rfl (by assumption) rfl (by omega) (by decide) ?_
        rw [f1]
        refine px_P.sn 1 (f1 := (66, [(0, .ref m), (1, .int (nI q0)), (2, .int (nI w))], [.int 12, .int (nI x.1)])) (S1 := S1) rfl ?_
        refine px_P.irem rfl (by decide) ?_
        refine px_P.sn 1 (f1 := (90, [(0, .ref m), (1, .int (nI q0)), (2, .int (nI w))], [.int ((nI x.1) - (nI x.1) / 12 * 12)])) (S1 := S1) rfl ?_
        exact out _ (by rw [if_neg e0, if_pos e1]; exact pk_rem (d := 12) (by omega) (by decide) (by decide))
      · refine px_P.ic_ne rfl rfl (fun _ => ?_) (fun h => absurd h ((fun z => e1 ((nI_eq (b := 1) (by omega) (by decide)).mp z))))
        refine px_P.sn 2 (f1 := (72, [(0, .ref m), (1, .int (nI q0)), (2, .int (nI w))], [.int 2, .int (nI w)])) (S1 := S1) rfl ?_
        by_cases e2 : w = 2
        · refine px_P.ic_ne rfl rfl (fun h => absurd ((by rw [e2]; rfl)) h) (fun _ => ?_)
          refine px_P.sn 1 (f1 := (76, [(0, .ref m), (1, .int (nI q0)), (2, .int (nI w))], [.ref m])) (S1 := S1) rfl ?_
          refine px_P.gf rfl rfl (by assumption) (v := .ref (m + 16)) rfl ?_
          refine px_P.sn 1 (f1 := (80, [(0, .ref m), (1, .int (nI q0)), (2, .int (nI w))], [.int (nI q0), .ref (m + 16)])) (S1 := S1) rfl ?_
          refine px_P.ialdj (j := q0) rfl (by assumption) rfl (by omega) (by decide) ?_
          refine px_P.sn 1 (f1 := (90, [(0, .ref m), (1, .int (nI q0)), (2, .int (nI w))], [.int (A 16 q0)])) (S1 := S1) rfl ?_
          exact out _ (by rw [if_neg e0, if_neg e1, if_pos e2]; exact f2)
        · refine px_P.ic_ne rfl rfl (fun _ => ?_) (fun h => absurd h ((fun z => e2 ((nI_eq (b := 2) (by omega) (by decide)).mp z))))
          refine px_P.sn 1 (f1 := (85, [(0, .ref m), (1, .int (nI q0)), (2, .int (nI w))], [.ref m])) (S1 := S1) rfl ?_
          refine px_P.gf rfl rfl (by assumption) (v := .ref (m + 17)) rfl ?_
          refine px_P.sn 1 (f1 := (89, [(0, .ref m), (1, .int (nI q0)), (2, .int (nI w))], [.int (nI q0), .ref (m + 17)])) (S1 := S1) rfl ?_
          refine px_P.ialdj (j := q0) rfl (by assumption) rfl (by omega) (by decide) ?_
          exact out _ (by rw [if_neg e0, if_neg e1, if_neg e2]; exact f3)
  · refine px_P.ic_lt rfl rfl (fun h => absurd h (nI_nlt (by omega) (by omega))) (fun _ => ?_)
    refine px_P.sn 1 (f1 := (36, [(0, .ref m), (1, .int (nI q0)), (2, .int (nI w))], [.int (-1)])) (S1 := S1) rfl ?_
    refine px_P.ret rfl ?_
    exact kk (-1) (fun v hv => u1 (by omega) v hv)
theorem pm_mmDiagN {d m w : Nat} {q0 : Int32} {ty : List Nat} {tt : Nat → List Nat} {hh : List (Nat × List Nat)} {S : px_S} {Q : Option Value → px_S → Prop} (hd : 2 ≤ d) (h : mI S m ty tt hh) (hq : q0 < 0) (hw : w < 4)
    (k : ∀ S', mI S' m ty tt hh → mf S' m 0 → mF S S' m → Q (some (.int (-1))) S') : px_M d px_m_Model_diagnostic [.ref m, .int q0, .int (nI w)] S Q := by
  obtain ⟨q, A, h0, hr⟩ := h
  have c0 := h0.1
  refine px_M.go (by omega) (Nat.le_of_ble_eq_true rfl) ?_
  refine px_P.sn 4 (f1 := (4, [(0, .ref m), (1, .int q0), (2, .int (nI w))], [.int 3, .int 0, .int (nI w), .ref m])) (S1 := S) rfl ?_
  refine px_P.call rfl ?_
  show px_M _ px_m_Model_isIn [.int (nI w), .int 0, .int 3] S _
  refine pm_moIsIn (by omega) ?_
  rw [show (decide ((0 : Int32) ≤ nI w) && decide (nI w ≤ 3)) = true from in_ok (b := 3) (by omega) (by decide)]
  show px_P _ _ (7, [(0, .ref m), (1, .int q0), (2, .int (nI w))], [.int 1, .ref m]) S _
  show px_P _ _ (7, [(0, .ref m), (1, .int q0), (2, .int (nI w))], [.int 1, .ref m]) S _
  refine px_P.if_eq rfl rfl (fun h => absurd h ((by decide))) (fun _ => ?_)
  refine px_P.sn 2 (f1 := (15, [(0, .ref m), (1, .int q0), (2, .int (nI w))], [.int 0, .ref m])) (S1 := S) rfl ?_
  refine px_P.cv rfl rfl rfl (by assumption) rfl ?_
  show px_M _ px_m_Model_refused [.ref m, .int 0] S _
  refine pm_moRefused (b := false) (by omega) h0 (fun S1 g1 m1 => ?_)
  show px_P _ _ (18, [(0, .ref m), (1, .int q0), (2, .int (nI w))], [.int 0]) S1 _
  show px_P _ _ (18, [(0, .ref m), (1, .int q0), (2, .int (nI w))], [.int 0]) S1 _
  refine px_P.if_eq rfl rfl (fun _ => ?_) (fun h => absurd ((by decide)) h)
  refine px_P.sn 1 (f1 := (24, [(0, .ref m), (1, .int q0), (2, .int (nI w))], [.int q0])) (S1 := S1) rfl ?_
  refine px_P.if_lt rfl rfl (fun _ => ?_) (fun h => absurd (hq) h)
  refine px_P.sn 1 (f1 := (36, [(0, .ref m), (1, .int q0), (2, .int (nI w))], [.int (-1)])) (S1 := S1) rfl ?_
  refine px_P.ret rfl ?_
  exact k S1 (mI.q hr g1 rfl rfl rfl rfl (fun _ _ => rfl) hr.1.2.2) ⟨_, g1.1, rfl⟩ m1
theorem pm_mmDiagBad {d m : Nat} {a w : Int32} {ty : List Nat} {tt : Nat → List Nat} {hh : List (Nat × List Nat)} {S : px_S} {Q : Option Value → px_S → Prop} (hd : 2 ≤ d) (h : mI S m ty tt hh) (hbad : (decide (0 ≤ w) && decide (w ≤ 3)) = false)
    (k : ∀ S', mI S' m ty tt hh → mf S' m 1 → mF S S' m → Q (some (.int 0)) S') : px_M d px_m_Model_diagnostic [.ref m, .int a, .int w] S Q := by
  obtain ⟨q, A, h0, hr⟩ := h
  have c0 := h0.1
  refine px_M.go (by omega) (Nat.le_of_ble_eq_true rfl) ?_
  refine px_P.sn 4 (f1 := (4, [(0, .ref m), (1, .int a), (2, .int w)], [.int 3, .int 0, .int w, .ref m])) (S1 := S) rfl ?_
  refine px_P.call rfl ?_
  show px_M _ px_m_Model_isIn [.int w, .int 0, .int 3] S _
  refine pm_moIsIn (by omega) ?_
  rw [hbad]
  show px_P _ _ (7, [(0, .ref m), (1, .int a), (2, .int w)], [.int 0, .ref m]) S _
  show px_P _ _ (7, [(0, .ref m), (1, .int a), (2, .int w)], [.int 0, .ref m]) S _
  refine px_P.if_eq rfl rfl (fun _ => ?_) (fun h => absurd ((by decide)) h)
  refine px_P.sn 1 (f1 := (15, [(0, .ref m), (1, .int a), (2, .int w)], [.int 1, .ref m])) (S1 := S) rfl ?_
  refine px_P.cv rfl rfl rfl (by assumption) rfl ?_
  show px_M _ px_m_Model_refused [.ref m, .int 1] S _
  refine pm_moRefused (b := true) (by omega) h0 (fun S1 g1 m1 => ?_)
  show px_P _ _ (18, [(0, .ref m), (1, .int a), (2, .int w)], [.int 1]) S1 _
  show px_P _ _ (18, [(0, .ref m), (1, .int a), (2, .int w)], [.int 1]) S1 _
  refine px_P.if_eq rfl rfl (fun h => absurd h ((by decide))) (fun _ => ?_)
  refine px_P.sn 1 (f1 := (22, [(0, .ref m), (1, .int a), (2, .int w)], [.int 0])) (S1 := S1) rfl ?_
  refine px_P.ret rfl ?_
  exact k S1 (mI.q hr g1 rfl rfl rfl rfl (fun _ _ => rfl) hr.1.2.2) ⟨_, g1.1, rfl⟩ m1
theorem pm_mmCountBad {d m : Nat} {w : Int32} {ty : List Nat} {tt : Nat → List Nat} {hh : List (Nat × List Nat)} {S : px_S} {Q : Option Value → px_S → Prop} (hd : 2 ≤ d) (h : mI S m ty tt hh) (hbad : (decide (0 ≤ w) && decide (w ≤ 5)) = false)
    (k : ∀ S', mI S' m ty tt hh → mf S' m 1 → mF S S' m → Q (some (.int 0)) S') : px_M d px_m_Model_count [.ref m, .int w] S Q := by
  obtain ⟨q, A, h0, hr⟩ := h
  have c0 := h0.1
  refine px_M.go (by omega) (Nat.le_of_ble_eq_true rfl) ?_
  refine px_P.sn 4 (f1 := (4, [(0, .ref m), (1, .int w)], [.int 5, .int 0, .int w, .ref m])) (S1 := S) rfl ?_
  refine px_P.call rfl ?_
  show px_M _ px_m_Model_isIn [.int w, .int 0, .int 5] S _
  refine pm_moIsIn (by omega) ?_
  rw [hbad]
  show px_P _ _ (7, [(0, .ref m), (1, .int w)], [.int 0, .ref m]) S _
  show px_P _ _ (7, [(0, .ref m), (1, .int w)], [.int 0, .ref m]) S _
  refine px_P.if_eq rfl rfl (fun _ => ?_) (fun h => absurd ((by decide)) h)
  refine px_P.sn 1 (f1 := (15, [(0, .ref m), (1, .int w)], [.int 1, .ref m])) (S1 := S) rfl ?_
  refine px_P.cv rfl rfl rfl (by assumption) rfl ?_
  show px_M _ px_m_Model_refused [.ref m, .int 1] S _
  refine pm_moRefused (b := true) (by omega) h0 (fun S1 g1 m1 => ?_)
  show px_P _ _ (18, [(0, .ref m), (1, .int w)], [.int 1]) S1 _
  show px_P _ _ (18, [(0, .ref m), (1, .int w)], [.int 1]) S1 _
  refine px_P.if_eq rfl rfl (fun h => absurd h ((by decide))) (fun _ => ?_)
  refine px_P.sn 1 (f1 := (22, [(0, .ref m), (1, .int w)], [.int 0])) (S1 := S1) rfl ?_
  refine px_P.ret rfl ?_
  exact k S1 (mI.q hr g1 rfl rfl rfl rfl (fun _ _ => rfl) hr.1.2.2) ⟨_, g1.1, rfl⟩ m1
/-- one symbol more in count: what is asked of it -/
def cnb (A : Nat → Nat → Int32) (w s : Nat) : Bool := if w = 1 then bz (A 14) s else if w = 2 then bz (A 14) s && (decide (ct (oneb A s) s = 0) && decide (1 < ct (oneb A s) 208)) else hb A s s
set_option maxHeartbeats 1000000 in
theorem co_loop {d m w : Nat} {v3 : Int32} {q : Nat → Int32} {A : Nat → Nat → Int32} {S : px_S} {Q : Option Value → px_S → Prop} (hd : 3 ≤ d) (hw : w = 1 ∨ w = 2 ∨ w = 3) (h : mo_at S m q A) (h01 : ∀ t, t < 208 → A 14 t = 0 ∨ A 14 t = 1) (h21 : ∀ c, c < 43264 → A 21 c = 0 ∨ A 21 c = 1) (k : Q (some (.int (nI (ct (cnb A w) 208)))) S) :
    px_P d px_m_Model_count (90, [(0, .ref m), (1, .int (nI w)), (2, .int (nI 0)), (3, .int v3)], []) S Q := by
  have c0 := h.1
  have lp := px_for (d := d) (mi := px_m_Model_count) (Q := Q) (X := Unit) 208 (fun i _ => (92, [(0, .ref m), (1, .int (nI w)), (2, .int (nI (ct (cnb A w) i))), (3, .int (nI i))], []))
    (fun _ _ S' => S' = S)
    (by
      intro i hi _ S1 hS kk
      subst hS
      have hk := kk () S1 rfl
      have tail : ∀ v : Int32, (v = 0 ∨ v = 1) → (cnb A w i = true ↔ ¬ v = 0) → px_P d px_m_Model_count (170, [(0, .ref m), (1, .int (nI w)), (2, .int (nI (ct (cnb A w) i))), (3, .int (nI i))], [.int v]) S1 Q := by
        intro v hv01 hv
        generalize hx : ct (cnb A w) i = x at hk ⊢
        refine px_P.sn 2 (f1 := (174, [(0, .ref m), (1, .int (nI w)), (2, .int (nI x)), (3, .int (nI i)), (4, .int v)], [.int v])) (S1 := S1) rfl ?_
        refine px_P.if_eq rfl rfl (fun z => ?_) (fun z => ?_)
        · rw [ct_z (Bool.eq_false_iff.mpr (fun y => hv.mp y z)), hx] at hk
          refine px_P.sn 4 (f1 := (92, [(0, .ref m), (1, .int (nI w)), (2, .int (nI x)), (3, .int ((nI i) + 1)), (4, .int v)], [])) (S1 := S1) rfl ?_
          show px_P _ _ (92, [(0, .ref m), (1, .int (nI w)), (2, .int (nI x)), (3, .int ((nI i) + 1)), (4, .int v)], []) S1 _
          refine px_P.wk (ls := [(0, .ref m), (1, .int (nI w)), (2, .int (nI x)), (3, .int ((nI i) + 1))]) rfl (.cons_cons _ (.cons_cons _ (.cons_cons _ (.cons_cons _ (.cons _ .slnil))))) ?_
          rw [nI_1]
          exact hk
        · rw [ct_s (hv.mpr z), hx] at hk
          refine px_P.sn 7 (f1 := (92, [(0, .ref m), (1, .int (nI w)), (2, .int ((nI x) + 1)), (3, .int ((nI i) + 1)), (4, .int v)], [])) (S1 := S1) rfl ?_
          show px_P _ _ (92, [(0, .ref m), (1, .int (nI w)), (2, .int ((nI x) + 1)), (3, .int ((nI i) + 1)), (4, .int v)], []) S1 _
          refine px_P.wk (ls := [(0, .ref m), (1, .int (nI w)), (2, .int ((nI x) + 1)), (3, .int ((nI i) + 1))]) rfl (.cons_cons _ (.cons_cons _ (.cons_cons _ (.cons_cons _ (.cons _ .slnil))))) ?_
          rw [nI_1, nI_1]
          exact hk
      show px_P _ _ (92, [(0, .ref m), (1, .int (nI w)), (2, .int (nI (ct (cnb A w) i))), (3, .int (nI i))], []) S1 _
      have r14 : S1.1 (m + 14) = some (.inl (2, 208, .inl (A 14))) := h.2 14 (by decide) (by decide)
      have r21 : S1.1 (m + 21) = some (.inl (2, 43264, .inl (A 21))) := h.2 21 (by decide) (by decide)
      refine px_P.sn 2 (f1 := (96, [(0, .ref m), (1, .int (nI w)), (2, .int (nI (ct (cnb A w) i))), (3, .int (nI i))], [.int 208, .int (nI i)])) (S1 := S1) rfl ?_
      refine px_P.ic_ge rfl rfl (fun h => absurd h (nI_ge (b := 208) hi (by decide))) (fun _ => ?_)
      refine px_P.sn 2 (f1 := (101, [(0, .ref m), (1, .int (nI w)), (2, .int (nI (ct (cnb A w) i))), (3, .int (nI i))], [.int 4, .int (nI w)])) (S1 := S1) rfl ?_
      refine px_P.ic_ge rfl rfl (fun h => absurd h (nI_ge (b := 4) (by omega) (by decide))) (fun _ => ?_)
      refine px_P.sn 2 (f1 := (106, [(0, .ref m), (1, .int (nI w)), (2, .int (nI (ct (cnb A w) i))), (3, .int (nI i))], [.int 1, .int (nI w)])) (S1 := S1) rfl ?_
      by_cases e1 : w = 1
      · refine px_P.ic_ne rfl rfl (fun h => absurd ((by rw [e1]; rfl)) h) (fun _ => ?_)
        refine px_P.sn 1 (f1 := (110, [(0, .ref m), (1, .int (nI w)), (2, .int (nI (ct (cnb A w) i))), (3, .int (nI i))], [.ref m])) (S1 := S1) rfl ?_
        refine px_P.gf rfl rfl (by assumption) (v := .ref (m + 14)) rfl ?_
        refine px_P.sn 1 (f1 := (114, [(0, .ref m), (1, .int (nI w)), (2, .int (nI (ct (cnb A w) i))), (3, .int (nI i))], [.int (nI i), .ref (m + 14)])) (S1 := S1) rfl ?_
        refine px_P.zaldj (j := i) rfl (by assumption) rfl (by omega) (by decide) ?_
        refine px_P.sn 1 (f1 := (170, [(0, .ref m), (1, .int (nI w)), (2, .int (nI (ct (cnb A w) i))), (3, .int (nI i))], [.int (A 14 i)])) (S1 := S1) rfl ?_
        exact tail _ (h01 i hi) (by unfold cnb bz; rw [if_pos e1, decide_eq_true_eq])
      · refine px_P.ic_ne rfl rfl (fun _ => ?_) (fun h => absurd h ((fun z => e1 ((nI_eq (b := 1) (by omega) (by decide)).mp z))))
        refine px_P.sn 2 (f1 := (120, [(0, .ref m), (1, .int (nI w)), (2, .int (nI (ct (cnb A w) i))), (3, .int (nI i))], [.int 2, .int (nI w)])) (S1 := S1) rfl ?_
        by_cases e2 : w = 2
        · have ec : cnb A w i = (bz (A 14) i && (decide (ct (oneb A i) i = 0) && decide (1 < ct (oneb A i) 208))) := by unfold cnb; rw [if_neg e1, if_pos e2]
          have no : cnb A w i = false → px_P d px_m_Model_count (154, [(0, .ref m), (1, .int (nI w)), (2, .int (nI (ct (cnb A w) i))), (3, .int (nI i))], []) S1 Q := by
            intro z
            refine px_P.sn 2 (f1 := (170, [(0, .ref m), (1, .int (nI w)), (2, .int (nI (ct (cnb A w) i))), (3, .int (nI i))], [.int 0])) (S1 := S1) rfl ?_
            exact tail 0 (Or.inl rfl) ⟨fun y => (by rw [z] at y; cases y), fun y => absurd rfl y⟩
          refine px_P.ic_ne rfl rfl (fun h => absurd ((by rw [e2]; rfl)) h) (fun _ => ?_)
          refine px_P.sn 1 (f1 := (124, [(0, .ref m), (1, .int (nI w)), (2, .int (nI (ct (cnb A w) i))), (3, .int (nI i))], [.ref m])) (S1 := S1) rfl ?_
          refine px_P.gf rfl rfl (by assumption) (v := .ref (m + 14)) rfl ?_
          refine px_P.sn 1 (f1 := (128, [(0, .ref m), (1, .int (nI w)), (2, .int (nI (ct (cnb A w) i))), (3, .int (nI i))], [.int (nI i), .ref (m + 14)])) (S1 := S1) rfl ?_
          refine px_P.zaldj (j := i) rfl (by assumption) rfl (by omega) (by decide) ?_
          refine px_P.if_eq rfl rfl (fun z14 => ?_) (fun z14 => ?_)
          · exact no (by rw [ec, show bz (A 14) i = false from decide_eq_false (fun y => y z14)]; rfl)
          · refine px_P.sn 2 (f1 := (134, [(0, .ref m), (1, .int (nI w)), (2, .int (nI (ct (cnb A w) i))), (3, .int (nI i))], [.int (nI i), .ref m])) (S1 := S1) rfl ?_
            refine px_P.cv rfl rfl rfl (by assumption) rfl ?_
            show px_M _ px_m_Model_leastOf [.ref m, .int (nI i)] S1 _
            refine pm_moLeast (by omega) hi h (fun v hv => ?_)
            have hle := hv.1
            show px_P _ _ (137, [(0, .ref m), (1, .int (nI w)), (2, .int (nI (ct (cnb A w) i))), (3, .int (nI i))], [.int (nI v)]) S1 _
            refine px_P.sn 1 (f1 := (138, [(0, .ref m), (1, .int (nI w)), (2, .int (nI (ct (cnb A w) i))), (3, .int (nI i))], [.int (nI i), .int (nI v)])) (S1 := S1) rfl ?_
            refine px_P.ic_ne rfl rfl (fun zv => ?_) (fun zv => ?_)
            · refine no ?_
              have : ¬ ct (oneb A i) i = 0 := fun y => by
                have hvi : v < i := by
                  rcases Nat.lt_or_ge v i with y | y
                  · exact y
                  · exact absurd (by rw [show v = i by omega]) zv
                have := ct_zero.mp y v hvi
                rw [hv.2.1] at this
                cases this
              rw [ec, decide_eq_false this]
              simp
            · have evi : v = i := nI_inj208 (by omega) hi zv
              have hz0 : ct (oneb A i) i = 0 := ct_zero.mpr (by rw [← evi] ; intro t ht; exact (by rw [evi] at hv ⊢; exact hv.2.2 t (by omega)))
              refine px_P.sn 2 (f1 := (143, [(0, .ref m), (1, .int (nI w)), (2, .int (nI (ct (cnb A w) i))), (3, .int (nI i))], [.int (nI i), .ref m])) (S1 := S1) rfl ?_
              refine px_P.cv rfl rfl rfl (by assumption) rfl ?_
              show px_M _ px_m_Model_sizeOf [.ref m, .int (nI i)] S1 _
              refine pm_moSize (by omega) hi h ?_
              have hs208 : ct (oneb A i) 208 ≤ 208 := ct_le _ _
              generalize hsz : ct (oneb A i) 208 = sz at *
              show px_P _ _ (146, [(0, .ref m), (1, .int (nI w)), (2, .int (nI (ct (cnb A w) i))), (3, .int (nI i))], [.int (nI sz)]) S1 _
              refine px_P.sn 1 (f1 := (147, [(0, .ref m), (1, .int (nI w)), (2, .int (nI (ct (cnb A w) i))), (3, .int (nI i))], [.int 1, .int (nI sz)])) (S1 := S1) rfl ?_
              by_cases h1s : 1 < sz
              · refine px_P.ic_le rfl rfl (fun h => absurd h (nI_ge (a := 1) h1s (by omega))) (fun _ => ?_)
                refine px_P.sn 2 (f1 := (170, [(0, .ref m), (1, .int (nI w)), (2, .int (nI (ct (cnb A w) i))), (3, .int (nI i))], [.int 1])) (S1 := S1) rfl ?_
                exact tail 1 (Or.inr rfl) ⟨fun _ => by decide, fun _ => by rw [ec, show bz (A 14) i = true from decide_eq_true z14, decide_eq_true hz0, decide_eq_true h1s]; rfl⟩
              · refine px_P.ic_le rfl rfl (fun _ => ?_) (fun h => absurd (nI_le (b := 1) (by omega) (by decide)) h)
                exact no (by rw [ec, decide_eq_false h1s]; simp)
        · refine px_P.ic_ne rfl rfl (fun _ => ?_) (fun h => absurd h ((fun z => e2 ((nI_eq (b := 2) (by omega) (by decide)).mp z))))
          refine px_P.sn 1 (f1 := (159, [(0, .ref m), (1, .int (nI w)), (2, .int (nI (ct (cnb A w) i))), (3, .int (nI i))], [.ref m])) (S1 := S1) rfl ?_
          refine px_P.gf rfl rfl (by assumption) (v := .ref (m + 21)) rfl ?_
          refine px_P.sn 5 (f1 := (169, [(0, .ref m), (1, .int (nI w)), (2, .int (nI (ct (cnb A w) i))), (3, .int (nI i))], [.int ((208 * (nI i)) + (nI i)), .ref (m + 21)])) (S1 := S1) rfl ?_
          rw [e208]
          refine px_P.zaldj (j := 208 * i + i) rfl (by assumption) rfl (by omega) (by decide) ?_
          exact tail _ (h21 _ (by omega)) (by unfold cnb hb bz; rw [if_neg e1, if_neg e2, decide_eq_true_eq]))
    (by
      intro _ S1 hS
      subst hS
      show px_P _ _ (92, [(0, .ref m), (1, .int (nI w)), (2, .int (nI (ct (cnb A w) 208))), (3, .int (nI 208))], []) S1 _
      refine px_P.sn 2 (f1 := (96, [(0, .ref m), (1, .int (nI w)), (2, .int (nI (ct (cnb A w) 208))), (3, .int (nI 208))], [.int 208, .int (nI 208)])) (S1 := S1) rfl ?_
      refine px_P.ic_ge rfl rfl (fun _ => ?_) (fun h => absurd ((by decide)) h)
      refine px_P.sn 1 (f1 := (192, [(0, .ref m), (1, .int (nI w)), (2, .int (nI (ct (cnb A w) 208))), (3, .int (nI 208))], [.int (nI (ct (cnb A w) 208))])) (S1 := S1) rfl ?_
      refine px_P.ret rfl ?_
      exact k)
  refine px_P.sn 2 (f1 := (92, [(0, .ref m), (1, .int (nI w)), (2, .int (nI 0)), (3, .int 0)], [])) (S1 := S) rfl ?_
  exact lp 208 0 rfl () S rfl
set_option maxHeartbeats 1000000 in
theorem pm_mmCount {d m w : Nat} {ty : List Nat} {tt : Nat → List Nat} {hh : List (Nat × List Nat)} {S : px_S} {Q : Option Value → px_S → Prop} (hd : 4 ≤ d) (h : mI S m ty tt hh) (hw : w < 6)
    (k : ∀ S' v', mI S' m ty tt hh → mf S' m 0 → mF S S' m → (∀ v, cntA tt hh.length w v → v = v') → Q (some (.int v')) S') : px_M d px_m_Model_count [.ref m, .int (nI w)] S Q := by
  obtain ⟨q, A, h0, r1, r2, r3, r4, r5, r6, r7⟩ := h
  have r5' : mgr (upd q 0 0) A (sL tt) := r5.q rfl (fun _ _ _ => rfl)
  have hwf := sL_wf r2
  have r5o := r5'
  obtain ⟨T, D, d1, d2, d3, d4, d5, d6, d7⟩ := r5
  have flen := flc_len (T := T) (D := D) hwf 96 (by omega)
  have c0 := h0.1
  refine px_M.go (by omega) (Nat.le_of_ble_eq_true rfl) ?_
  refine px_P.sn 4 (f1 := (4, [(0, .ref m), (1, .int (nI w))], [.int 5, .int 0, .int (nI w), .ref m])) (S1 := S) rfl ?_
  refine px_P.call rfl ?_
  show px_M _ px_m_Model_isIn [.int (nI w), .int 0, .int 5] S _
  refine pm_moIsIn (by omega) ?_
  rw [show (decide ((0 : Int32) ≤ nI w) && decide (nI w ≤ 5)) = true from in_ok (b := 5) (by omega) (by decide)]
  show px_P _ _ (7, [(0, .ref m), (1, .int (nI w))], [.int 1, .ref m]) S _
  show px_P _ _ (7, [(0, .ref m), (1, .int (nI w))], [.int 1, .ref m]) S _
  refine px_P.if_eq rfl rfl (fun h => absurd h ((by decide))) (fun _ => ?_)
  refine px_P.sn 2 (f1 := (15, [(0, .ref m), (1, .int (nI w))], [.int 0, .ref m])) (S1 := S) rfl ?_
  refine px_P.cv rfl rfl rfl (by assumption) rfl ?_
  show px_M _ px_m_Model_refused [.ref m, .int 0] S _
  refine pm_moRefused (b := false) (by omega) h0 (fun S1 g1 m1 => ?_)
  have hI : mI S1 m ty tt hh := ⟨_, A, g1, r1, r2, r3, r4, r5', r6, r7⟩
  have hmf : mf S1 m 0 := ⟨_, g1.1, rfl⟩
  have c1 : S1.1 m = some (.inr (10, mo_ob m (upd q 0 0))) := g1.1
  show px_P _ _ (18, [(0, .ref m), (1, .int (nI w))], [.int 0]) S1 _
  show px_P _ _ (18, [(0, .ref m), (1, .int (nI w))], [.int 0]) S1 _
  refine px_P.if_eq rfl rfl (fun _ => ?_) (fun h => absurd ((by decide)) h)
  refine px_P.sn 1 (f1 := (24, [(0, .ref m), (1, .int (nI w))], [.int (nI w)])) (S1 := S1) rfl ?_
  have found : w = 0 → px_P (d - 1) px_m_Model_count (32, [(0, .ref m), (1, .int (nI w))], []) S1 Q := by
    intro e0
    refine px_P.sn 1 (f1 := (33, [(0, .ref m), (1, .int (nI w))], [.int (nI w)])) (S1 := S1) rfl ?_
    refine px_P.if_ne rfl rfl (fun h => absurd ((by rw [e0]; rfl)) h) (fun _ => ?_)
    refine px_P.sn 1 (f1 := (37, [(0, .ref m), (1, .int (nI w))], [.ref m])) (S1 := S1) rfl ?_
    refine px_P.gf rfl rfl (by assumption) (v := .int (q 2)) rfl ?_
    refine px_P.sn 1 (f1 := (47, [(0, .ref m), (1, .int (nI w))], [.int (q 2)])) (S1 := S1) rfl ?_
    refine px_P.ret rfl ?_
    refine k S1 _ hI hmf m1 (fun v hv => ?_)
    obtain ⟨T', D', h1, h2, h3⟩ := hv.1 e0
    rw [h3, d6, flen]
    exact congrArg nI (sm_cg 96 (fun i hi => fzp_cg hwf (fun t ht => lf_is.un h1 d3 t ht) (fun t ht => (h2 t ht).trans (d5 t ht).symm) hi))
  have undos : w = 5 → px_P (d - 1) px_m_Model_count (32, [(0, .ref m), (1, .int (nI w))], []) S1 Q := by
    intro e5
    refine px_P.sn 1 (f1 := (33, [(0, .ref m), (1, .int (nI w))], [.int (nI w)])) (S1 := S1) rfl ?_
    refine px_P.if_ne rfl rfl (fun _ => ?_) (fun h => absurd h ((nI_ne0 (by omega) (by omega))))
    refine px_P.sn 1 (f1 := (44, [(0, .ref m), (1, .int (nI w))], [.ref m])) (S1 := S1) rfl ?_
    refine px_P.gf rfl rfl (by assumption) (v := .int (q 3)) rfl ?_
    refine px_P.ret rfl ?_
    exact k S1 _ hI hmf m1 (fun v hv => by rw [hv.2.2.2.2.2 e5]; exact r6.1.symm)
  by_cases e0 : w = 0
  · refine px_P.if_eq rfl rfl (fun _ => ?_) (fun h => absurd ((by rw [e0]; rfl)) h)
    exact found e0
  · refine px_P.if_eq rfl rfl (fun h => absurd h ((nI_ne0 (by omega) (by omega)))) (fun _ => ?_)
    refine px_P.sn 2 (f1 := (29, [(0, .ref m), (1, .int (nI w))], [.int 5, .int (nI w)])) (S1 := S1) rfl ?_
    by_cases e5 : w = 5
    · refine px_P.ic_ne rfl rfl (fun h => absurd ((by rw [e5]; rfl)) h) (fun _ => ?_)
      exact undos e5
    · refine px_P.ic_ne rfl rfl (fun _ => ?_) (fun h => absurd h ((fun z => e5 ((nI_eq (b := 5) (by omega) (by decide)).mp z))))
      refine px_P.sn 1 (f1 := (49, [(0, .ref m), (1, .int (nI w))], [.ref m])) (S1 := S1) rfl ?_
      refine px_P.cv rfl rfl rfl (by assumption) rfl ?_
      show px_M _ px_m_Model_know [.ref m] S1 _
      refine pm_moKnow (by omega) g1 r4 hwf d1 r7 (fun S2 A2 g2 hk => ?_)
      have hI2 : mI S2 m ty tt hh := mIb.kn (q := upd q 0 0) ⟨r1, r2, r3, r4, r5o, r6, r7⟩ g2 hk
      have kk := fun v' => k S2 v' hI2 ⟨_, g2.1.1, rfl⟩ (m1.tr g2.2.1)
      clear k found undos
      have e14 : A2 14 = A 14 := g2.2.2 14 (by decide)
      have b14 : ∀ t, t < 208 → bz (A2 14) t = decide (¬ dc (sL tt) t = 0) := by
        intro t ht
        unfold bz
        rw [e14, d1 t ht]
        by_cases e : dc (sL tt) t = 0
        · rw [if_pos e, decide_eq_false (fun z => z rfl), decide_eq_false (fun z => z e)]
        · rw [if_neg e, decide_eq_true (by decide), decide_eq_true e]
      have h01 : ∀ t, t < 208 → A2 14 t = 0 ∨ A2 14 t = 1 := fun t ht => by
        rw [e14, d1 t ht]
        split
        · exact Or.inl rfl
        · exact Or.inr rfl
      show px_P _ _ (52, [(0, .ref m), (1, .int (nI w))], []) S2 _
      refine px_P.sn 4 (f1 := (56, [(0, .ref m), (1, .int (nI w)), (2, .int 0), (3, .int 0)], [])) (S1 := S2) rfl ?_
      by_cases e4 : w = 4
      · have lp := px_for (d := d - 1) (mi := px_m_Model_count) (Q := Q) (X := Unit) 96 (fun i _ => (56, [(0, .ref m), (1, .int (nI w)), (2, .int (nI (ct (fun p => decide (¬ tt p = [])) i))), (3, .int (nI i))], []))
          (fun _ _ S' => S' = S2)
          (by
            intro i hi _ S3 hS kk2
            subst hS
            have hk2 := kk2 () S3 rfl
            obtain ⟨x1, x2⟩ := r3 i hi
            have hlt := (r2.1 i).1
            have e2 : A2 2 = A 2 := g2.2.2 2 (by decide)
            have c2 := g2.1.1
            generalize hx : ct (fun p => decide (¬ tt p = [])) i = x at hk2 ⊢
            show px_P _ _ (56, [(0, .ref m), (1, .int (nI w)), (2, .int (nI x)), (3, .int (nI i))], []) S3 _
            have r2 : S3.1 (m + 2) = some (.inl (0, 96, .inl (A2 2))) := g2.1.2 2 (by decide) (by decide)
            refine px_P.sn 2 (f1 := (59, [(0, .ref m), (1, .int (nI w)), (2, .int (nI x)), (3, .int (nI i))], [.int 96, .int (nI i)])) (S1 := S3) rfl ?_
            refine px_P.ic_ge rfl rfl (fun h => absurd h (nI_ge (b := 96) hi (by decide))) (fun _ => ?_)
            refine px_P.sn 2 (f1 := (64, [(0, .ref m), (1, .int (nI w)), (2, .int (nI x)), (3, .int (nI i))], [.int 4, .int (nI w)])) (S1 := S3) rfl ?_
            refine px_P.ic_ne rfl rfl (fun h => absurd ((by rw [e4]; rfl)) h) (fun _ => ?_)
            refine px_P.sn 1 (f1 := (68, [(0, .ref m), (1, .int (nI w)), (2, .int (nI x)), (3, .int (nI i))], [.ref m])) (S1 := S3) rfl ?_
            refine px_P.gf rfl rfl (by assumption) (v := .ref (m + 2)) rfl ?_
            refine px_P.sn 1 (f1 := (72, [(0, .ref m), (1, .int (nI w)), (2, .int (nI x)), (3, .int (nI i))], [.int (nI i), .ref (m + 2)])) (S1 := S3) rfl ?_
            refine px_P.ialdj (j := i) rfl (by assumption) rfl (by omega) (by decide) ?_
            rw [e2, x1]
            by_cases he : tt i = []
            · rw [ct_z (p := fun p => decide (¬ tt p = [])) (n := i) (decide_eq_false (fun z => z he)), hx] at hk2
              rw [he]
              show px_P _ _ (73, [(0, .ref m), (1, .int (nI w)), (2, .int (nI x)), (3, .int (nI i))], [.int (nI 0)]) S3 _
              refine px_P.if_le rfl rfl (fun _ => ?_) (fun h => absurd ((by decide)) h)
              refine px_P.sn 4 (f1 := (56, [(0, .ref m), (1, .int (nI w)), (2, .int (nI x)), (3, .int ((nI i) + 1))], [])) (S1 := S3) rfl ?_
              rw [nI_1]
              exact hk2
            · rw [ct_s (p := fun p => decide (¬ tt p = [])) (n := i) (decide_eq_true he), hx] at hk2
              have hpos : 0 < (tt i).length := List.length_pos_iff.mpr he
              refine px_P.if_le rfl rfl (fun h => absurd h (nI_nle hpos (by omega))) (fun _ => ?_)
              refine px_P.sn 7 (f1 := (56, [(0, .ref m), (1, .int (nI w)), (2, .int ((nI x) + 1)), (3, .int ((nI i) + 1))], [])) (S1 := S3) rfl ?_
              rw [nI_1, nI_1]
              exact hk2)
          (by
            intro _ S3 hS
            subst hS
            generalize hx : ct (fun p => decide (¬ tt p = [])) 96 = x
            show px_P _ _ (56, [(0, .ref m), (1, .int (nI w)), (2, .int (nI x)), (3, .int (nI 96))], []) S3 _
            refine px_P.sn 2 (f1 := (59, [(0, .ref m), (1, .int (nI w)), (2, .int (nI x)), (3, .int (nI 96))], [.int 96, .int (nI 96)])) (S1 := S3) rfl ?_
            refine px_P.ic_ge rfl rfl (fun _ => ?_) (fun h => absurd ((by decide)) h)
            refine px_P.sn 4 (f1 := (96, [(0, .ref m), (1, .int (nI w)), (2, .int (nI x)), (3, .int 0)], [.int 208, .int 0])) (S1 := S3) rfl ?_
            refine px_P.ic_ge rfl rfl (fun h => absurd h ((by decide))) (fun _ => ?_)
            refine px_P.sn 2 (f1 := (101, [(0, .ref m), (1, .int (nI w)), (2, .int (nI x)), (3, .int 0)], [.int 4, .int (nI w)])) (S1 := S3) rfl ?_
            refine px_P.ic_ge rfl rfl (fun _ => ?_) (fun h => absurd ((by rw [e4]; decide)) h)
            refine px_P.sn 1 (f1 := (192, [(0, .ref m), (1, .int (nI w)), (2, .int (nI x)), (3, .int 0)], [.int (nI x)])) (S1 := S3) rfl ?_
            refine px_P.ret rfl ?_
            exact kk _ (fun v hv => by rw [← hx]; exact hv.2.2.2.2.1 e4))
        exact lp 96 0 rfl () S2 rfl
      · show px_P _ _ (56, [(0, .ref m), (1, .int (nI w)), (2, .int (nI 0)), (3, .int (nI 0))], []) S2 _
        refine px_P.sn 2 (f1 := (59, [(0, .ref m), (1, .int (nI w)), (2, .int (nI 0)), (3, .int (nI 0))], [.int 96, .int (nI 0)])) (S1 := S2) rfl ?_
        refine px_P.ic_ge rfl rfl (fun h => absurd h ((by decide))) (fun _ => ?_)
        refine px_P.sn 2 (f1 := (64, [(0, .ref m), (1, .int (nI w)), (2, .int (nI 0)), (3, .int (nI 0))], [.int 4, .int (nI w)])) (S1 := S2) rfl ?_
        refine px_P.ic_ne rfl rfl (fun _ => ?_) (fun h => absurd h ((fun z => e4 ((nI_eq (b := 4) (by omega) (by decide)).mp z))))
        refine co_loop (by omega) (by omega) g2.1 h01 hk.1 (kk _ (fun v hv => ?_))
        by_cases e1 : w = 1
        · rw [hv.2.1 e1]
          refine congrArg nI (ct_congr (fun t ht => ?_))
          show decide (¬ dc (sL tt) t = 0) = cnb A2 w t
          unfold cnb
          rw [if_pos e1, b14 t ht]
        · by_cases e2 : w = 2
          · obtain ⟨H, h1, h2⟩ := hv.2.2.1 e2
            rw [h2, cir_cnt hk h1]
            refine congrArg nI (ct_congr (fun t ht => ?_))
            show (decide (¬ dc (sL tt) t = 0) && _) = cnb A2 w t
            unfold cnb
            rw [if_neg e1, if_pos e2, b14 t ht]
          · obtain ⟨H, h1, h2⟩ := hv.2.2.2.1 (by omega)
            rw [h2]
            refine congrArg nI (ct_congr (fun t ht => ?_))
            show ss_in (H t) t = cnb A2 w t
            unfold cnb
            rw [if_neg e1, if_neg e2, knw_hb hk h1 ht ht]
