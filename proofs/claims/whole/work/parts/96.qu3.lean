/-! ===== the model's calls: line ===== -/
theorem fcd_cg {s : ln_S} {T T' D D' : Nat → Int32} (hw : ln_wf s) (hT : ∀ t, t < 208 → T t = T' t) (hD : ∀ t, t < 208 → D t = D' t) : (∀ j, fcd s T D j = fcd s T' D' j) ∧ fzd s T D = fzd s T' D' := by
  have hv := ln_val_eq (T := T) (X := T') hw (fun t ht => hT t ht.1)
  have he : ∀ j, j < ln_n s → xe_ev (ln_st s) T (ln_n s) j = xe_ev (ln_st s) T' (ln_n s) j := xe_ev_eq hw.2.2.2.1 (fun t ht => hT t ((lr_nm hw).mp ht).1)
  have hf := ln_f_cg (ty := ln_val s T') hw he (fun t ht => hD t ht.1)
  refine ⟨fun j => ?_, ?_⟩
  · unfold fcd
    rw [hv, hf.1]
  · unfold fzd
    rw [hv, hf.2]
theorem fzp_cg {L : Nat → Option ln_S} {T T' D D' : Nat → Int32} (hw : wfL L) (hT : ∀ t, t < 208 → T t = T' t) (hD : ∀ t, t < 208 → D t = D' t) {p : Nat} (hp : p < 96) : fzp L T D p = fzp L T' D' p := by
  unfold fzp
  cases hL : L p with
  | none => rfl
  | some s => exact (fcd_cg (hw p s hp hL).1 hT hD).2
theorem sm_cg {f g : Nat → Nat} : ∀ n, (∀ i, i < n → f i = g i) → sm f n = sm g n
  | 0, _ => rfl
  | n + 1, h => by
    show sm f n + f n = sm g n + g n
    rw [sm_cg n (fun i hi => h i (by omega)), h n (by omega)]
def cnt (p : Nat) (l : fl_T) : Nat := ct (fun k => decide ((l[k]?).map (fun x => x.1) = some p)) l.length
theorem cnt_app (p : Nat) (a b : fl_T) : cnt p (a ++ b) = cnt p a + cnt p b := by
  unfold cnt
  rw [List.length_append, ct_add]
  congr 1
  · exact ct_congr (fun i hi => by show decide _ = decide _; rw [List.getElem?_append_left hi])
  · exact ct_congr (fun i hi => by show decide _ = decide _; rw [List.getElem?_append_right (by omega), Nat.add_sub_cancel_left])
theorem ct_full {q : Nat → Bool} : ∀ n, (∀ i, i < n → q i = true) → ct q n = n
  | 0, _ => rfl
  | n + 1, h => by rw [ct_s (h n (by omega)), ct_full n (fun i hi => h i (by omega))]
theorem cnt_all {p : Nat} {l : fl_T} (h : ∀ x, x ∈ l → x.1 = p) : cnt p l = l.length := by
  refine ct_full _ (fun i hi => ?_)
  show decide _ = true
  rw [List.getElem?_eq_getElem hi]
  exact decide_eq_true (by show some (l[i].1) = some p; rw [h _ (List.getElem_mem hi)])
theorem cnt_no {p : Nat} {l : fl_T} (h : ∀ x, x ∈ l → x.1 ≠ p) : cnt p l = 0 := by
  refine ct_zero.mpr (fun i hi => ?_)
  show decide _ = false
  rw [List.getElem?_eq_getElem hi]
  exact decide_eq_false (by show ¬ some (l[i].1) = some p; intro z; injection z with z; exact h _ (List.getElem_mem hi) z)
theorem flc_cnt {L : Nat → Option ln_S} {T D : Nat → Int32} (hw : wfL L) {p : Nat} : ∀ n, n ≤ 96 → cnt p (flc L T D n) = if p < n then fzp L T D p else 0
  | 0, _ => rfl
  | n + 1, hn => by
    have hl := flc_len (T := T) (D := D) hw (n + 1) hn
    have hl0 := flc_len (T := T) (D := D) hw n (by omega)
    have hs : sm (fzp L T D) (n + 1) = sm (fzp L T D) n + fzp L T D n := rfl
    unfold flc at hl ⊢
    rw [cnt_app, flc_cnt hw n (by omega)]
    rw [List.length_append, hl0, hs] at hl
    by_cases e : p = n
    · subst e
      rw [if_neg (by omega), if_pos (by omega), Nat.zero_add, cnt_all (fun x hx => ?_)]
      · omega
      · cases hL : L p with
        | none => rw [hL] at hx; cases hx
        | some s => rw [hL] at hx; exact (cF_mem.mp hx).1
    · rw [cnt_no (p := p) (fun x hx => ?_), Nat.add_zero]
      · by_cases h1 : p < n
        · rw [if_pos h1, if_pos (by omega)]
        · rw [if_neg h1, if_neg (by omega)]
      · cases hL : L n with
        | none => rw [hL] at hx; cases hx
        | some s => rw [hL] at hx; rw [(cF_mem.mp hx).1]; exact fun z => e z.symm
theorem pm_moReadCount {d m p : Nat} {s : ln_S} {L : Nat → Option ln_S} {q : Nat → Int32} {A : Nat → Nat → Int32} {S : px_S} {Q : Option Value → px_S → Prop} (hd : 3 ≤ d) (hp : p < 96) (h : mo_at S m q A) (hm : ml A L) (hw : wfL L) (hL : L p = some s) (k : Q (some (.int (sbc (ln_W s) 4))) S) : px_M d px_m_Model_readCount [.ref m, .int (nI p)] S Q := by
  have w1 := (hw p s hp hL).1
  have e : sbc (ln_W s) 4 = nI (ct (fun t => ss_in (ln_W s) t) 208) := by
    rw [sbc_ct]
    have e1 : ct (fun t => ss_in (ln_W s) t) 256 = ct (fun t => ss_in (ln_W s) t) 208 + ct (fun t => ss_in (ln_W s) (208 + t)) 48 := ct_add 208 48
    have e2 : ct (fun t => ss_in (ln_W s) (208 + t)) 48 = 0 := ct_zero.mpr (fun i hi => by
      show ss_in (ln_W s) (208 + i) = false
      apply Bool.eq_false_iff.mpr
      intro z
      obtain ⟨j, j1, j2, j3⟩ := (w1.2.2.2.2.1 (208 + i) (by omega)).mp z
      have := (w1.2.2.2.1 j j1).2.2.1 j2
      omega)
    rw [e1, e2, Nat.add_zero]
  rw [e] at k
  obtain ⟨pr, hpr⟩ : ∃ pr : Nat → Bool, pr = (fun t => ss_in (ln_W s) t) := ⟨_, rfl⟩
  rw [← hpr] at k
  have c0 := h.1
  have lp := px_for (d := d - 1) (mi := px_m_Model_readCount) (Q := Q) (X := Unit) 208 (fun i _ => (4, [(0, .ref m), (1, .int (nI p)), (2, .int (nI (ct pr i))), (3, .int (nI i))], []))
    (fun _ _ S' => S' = S)
    (by
      intro i hi _ S1 hS kk
      subst hS
      have hk := kk () S1 rfl
      show px_P _ _ (4, [(0, .ref m), (1, .int (nI p)), (2, .int (nI (ct pr i))), (3, .int (nI i))], []) S1 _
      refine px_P.sn 2 (f1 := (8, [(0, .ref m), (1, .int (nI p)), (2, .int (nI (ct pr i))), (3, .int (nI i))], [.int 208, .int (nI i)])) (S1 := S1) rfl ?_
      refine px_P.ic_ge rfl rfl (fun h => absurd h (nI_ge (b := 208) hi (by decide))) (fun _ => ?_)
      refine px_P.sn 3 (f1 := (14, [(0, .ref m), (1, .int (nI p)), (2, .int (nI (ct pr i))), (3, .int (nI i))], [.int (nI i), .int (nI p), .ref m])) (S1 := S1) rfl ?_
      refine px_P.cv rfl rfl rfl (by assumption) rfl ?_
      show px_M _ px_m_Model_reads [.ref m, .int (nI p), .int (nI i)] S1 _
      refine pm_moReads (by omega) hp hi h hm hw (fun b hb => ?_)
      have eb : b = pr i := by
        apply Bool.eq_iff_iff.mpr
        rw [hb, hpr]
        constructor
        · rintro ⟨z, t, w1, w2, w3, w4⟩
          rw [hL] at w1
          cases w1
          rw [of_decide_eq_true w4] at w3
          exact w3
        · intro w
          exact ⟨s, i, hL, hi, w, decide_eq_true rfl⟩
      cases b with
      | true =>
        rw [ct_s eb.symm] at hk
        show px_P _ _ (17, [(0, .ref m), (1, .int (nI p)), (2, .int (nI (ct pr i))), (3, .int (nI i))], [.int 1]) S1 _
        show px_P _ _ (17, [(0, .ref m), (1, .int (nI p)), (2, .int (nI (ct pr i))), (3, .int (nI i))], [.int 1]) S1 _
        refine px_P.if_eq rfl rfl (fun h => absurd h ((by decide))) (fun _ => ?_)
        refine px_P.sn 7 (f1 := (4, [(0, .ref m), (1, .int (nI p)), (2, .int ((nI (ct pr i)) + 1)), (3, .int ((nI i) + 1))], [])) (S1 := S1) rfl ?_
        rw [nI_1, nI_1]
        exact hk
      | false =>
        rw [ct_z eb.symm] at hk
        show px_P _ _ (17, [(0, .ref m), (1, .int (nI p)), (2, .int (nI (ct pr i))), (3, .int (nI i))], [.int 0]) S1 _
        show px_P _ _ (17, [(0, .ref m), (1, .int (nI p)), (2, .int (nI (ct pr i))), (3, .int (nI i))], [.int 0]) S1 _
        refine px_P.if_eq rfl rfl (fun _ => ?_) (fun h => absurd ((by decide)) h)
        refine px_P.sn 4 (f1 := (4, [(0, .ref m), (1, .int (nI p)), (2, .int (nI (ct pr i))), (3, .int ((nI i) + 1))], [])) (S1 := S1) rfl ?_
        rw [nI_1]
        exact hk)
    (by
      intro _ S1 hS
      subst hS
      show px_P _ _ (4, [(0, .ref m), (1, .int (nI p)), (2, .int (nI (ct pr 208))), (3, .int (nI 208))], []) S1 _
      refine px_P.sn 2 (f1 := (8, [(0, .ref m), (1, .int (nI p)), (2, .int (nI (ct pr 208))), (3, .int (nI 208))], [.int 208, .int (nI 208)])) (S1 := S1) rfl ?_
      refine px_P.ic_ge rfl rfl (fun _ => ?_) (fun h => absurd ((by decide)) h)
      refine px_P.sn 1 (f1 := (35, [(0, .ref m), (1, .int (nI p)), (2, .int (nI (ct pr 208))), (3, .int (nI 208))], [.int (nI (ct pr 208))])) (S1 := S1) rfl ?_
      refine px_P.ret rfl ?_
      exact k)
  refine px_M.go (by omega) (Nat.le_of_ble_eq_true rfl) ?_
  refine px_P.sn 4 (f1 := (4, [(0, .ref m), (1, .int (nI p)), (2, .int 0), (3, .int 0)], [])) (S1 := S) rfl ?_
  exact lp 208 0 rfl () S rfl
set_option maxHeartbeats 1000000 in
theorem pm_mmLine {d m mo l w : Nat} {ty : List Nat} {tt : Nat → List Nat} {hh : List (Nat × List Nat)} {S : px_S} {Q : Option Value → px_S → Prop} (hd : 4 ≤ d) (h : mI S m ty tt hh) (hm : mo < 8) (hl : l < 12) (hw : w < 5)
    (k : ∀ S' v', mI S' m ty tt hh → mf S' m 0 → mF S S' m → (∀ v, linA (sL tt) (12 * mo + l) w v → v = v') → Q (some (.int v')) S') : px_M d px_m_Model_line [.ref m, .int (nI mo), .int (nI l), .int (nI w)] S Q := by
  obtain ⟨q, A, h0, r1, r2, r3, r4, r5, r6, r7⟩ := h
  have r5' : mgr (upd q 0 0) A (sL tt) := r5.q rfl (fun _ _ _ => rfl)
  have hwf := sL_wf r2
  obtain ⟨T, D, d1, d2, d3, d4, d5, d6, d7⟩ := r5
  have c0 := h0.1
  refine px_M.go (by omega) (Nat.le_of_ble_eq_true rfl) ?_
  refine px_P.sn 4 (f1 := (5, [(0, .ref m), (1, .int (nI mo)), (2, .int (nI l)), (3, .int (nI w))], [.int 7, .int 0, .int (nI mo), .ref m])) (S1 := S) rfl ?_
  refine px_P.call rfl ?_
  show px_M _ px_m_Model_isIn [.int (nI mo), .int 0, .int 7] S _
  refine pm_moIsIn (by omega) ?_
  rw [show (decide ((0 : Int32) ≤ nI mo) && decide (nI mo ≤ 7)) = true from in_ok (b := 7) (by omega) (by decide)]
  show px_P _ _ (8, [(0, .ref m), (1, .int (nI mo)), (2, .int (nI l)), (3, .int (nI w))], [.int 1, .ref m]) S _
  show px_P _ _ (8, [(0, .ref m), (1, .int (nI mo)), (2, .int (nI l)), (3, .int (nI w))], [.int 1, .ref m]) S _
  refine px_P.if_eq rfl rfl (fun h => absurd h ((by decide))) (fun _ => ?_)
  refine px_P.sn 3 (f1 := (15, [(0, .ref m), (1, .int (nI mo)), (2, .int (nI l)), (3, .int (nI w))], [.int 11, .int 0, .int (nI l), .ref m])) (S1 := S) rfl ?_
  refine px_P.call rfl ?_
  show px_M _ px_m_Model_isIn [.int (nI l), .int 0, .int 11] S _
  refine pm_moIsIn (by omega) ?_
  rw [show (decide ((0 : Int32) ≤ nI l) && decide (nI l ≤ 11)) = true from in_ok (b := 11) (by omega) (by decide)]
  show px_P _ _ (18, [(0, .ref m), (1, .int (nI mo)), (2, .int (nI l)), (3, .int (nI w))], [.int 1, .ref m]) S _
  show px_P _ _ (18, [(0, .ref m), (1, .int (nI mo)), (2, .int (nI l)), (3, .int (nI w))], [.int 1, .ref m]) S _
  refine px_P.if_eq rfl rfl (fun h => absurd h ((by decide))) (fun _ => ?_)
  refine px_P.sn 3 (f1 := (24, [(0, .ref m), (1, .int (nI mo)), (2, .int (nI l)), (3, .int (nI w))], [.int 4, .int 0, .int (nI w), .ref m])) (S1 := S) rfl ?_
  refine px_P.call rfl ?_
  show px_M _ px_m_Model_isIn [.int (nI w), .int 0, .int 4] S _
  refine pm_moIsIn (by omega) ?_
  rw [show (decide ((0 : Int32) ≤ nI w) && decide (nI w ≤ 4)) = true from in_ok (b := 4) (by omega) (by decide)]
  show px_P _ _ (27, [(0, .ref m), (1, .int (nI mo)), (2, .int (nI l)), (3, .int (nI w))], [.int 1, .ref m]) S _
  show px_P _ _ (27, [(0, .ref m), (1, .int (nI mo)), (2, .int (nI l)), (3, .int (nI w))], [.int 1, .ref m]) S _
  refine px_P.if_eq rfl rfl (fun h => absurd h ((by decide))) (fun _ => ?_)
  refine px_P.sn 2 (f1 := (35, [(0, .ref m), (1, .int (nI mo)), (2, .int (nI l)), (3, .int (nI w))], [.int 0, .ref m])) (S1 := S) rfl ?_
  refine px_P.cv rfl rfl rfl (by assumption) rfl ?_
  show px_M _ px_m_Model_refused [.ref m, .int 0] S _
  refine pm_moRefused (b := false) (by omega) h0 (fun S1 g1 m1 => ?_)
  have hI : mI S1 m ty tt hh := ⟨_, A, g1, r1, r2, r3, r4, r5', r6, r7⟩
  have hmf : mf S1 m 0 := ⟨_, g1.1, rfl⟩
  show px_P _ _ (38, [(0, .ref m), (1, .int (nI mo)), (2, .int (nI l)), (3, .int (nI w))], [.int 0]) S1 _
  show px_P _ _ (38, [(0, .ref m), (1, .int (nI mo)), (2, .int (nI l)), (3, .int (nI w))], [.int 0]) S1 _
  refine px_P.if_eq rfl rfl (fun _ => ?_) (fun h => absurd ((by decide)) h)
  refine px_P.sn 5 (f1 := (49, [(0, .ref m), (1, .int (nI mo)), (2, .int (nI l)), (3, .int (nI w))], [.int ((12 * (nI mo)) + (nI l))])) (S1 := S1) rfl ?_
  rw [show (12 : Int32) * nI mo + nI l = nI (12 * mo + l) by rw [show (12 : Int32) = nI 12 from rfl, pk_mul, nI_add]]
  have hp : 12 * mo + l < 96 := by omega
  generalize 12 * mo + l = p at *
  have kk := fun v' => k S1 v' hI hmf m1
  clear k
  have flen := flc_len (T := T) (D := D) hwf 96 (by omega)
  have fcnt := flc_cnt (T := T) (D := D) hwf (p := p) 96 (by omega)
  rw [if_pos hp] at fcnt
  have flsm := sm_le (f := fzp (sL tt) T D) (b := 61) 96 (fun i hi => fzp_le hwf hi)
  have hTD : ∀ T' D' : Nat → Int32, lf_is (sL tt) T' → (∀ t, t < 208 → D' t = nI (dc (sL tt) t)) → (∀ t, t < 208 → T' t = T t) ∧ ∀ t, t < 208 → D' t = D t := fun T' D' h1 h2 => ⟨fun t ht => lf_is.un h1 d3 t ht, fun t ht => (h2 t ht).trans (d5 t ht).symm⟩
  have h12 := d4 p hp
  have hfb : ∀ i (hi : i < (flc (sL tt) T D 96).length), ((flc (sL tt) T D 96)[i]).1 < 96 := fun i hi => (flc_get hwf (Nat.le_refl _) (List.getElem?_eq_getElem hi)).1
  generalize flc (sL tt) T D 96 = FL at *
  have c1 : S1.1 m = some (.inr (10, mo_ob m (upd (upd q 0 0) 2 (nI FL.length)))) := by rw [upd_self (q := upd q 0 0) (i := 2) d6]; exact g1.1
  have hrd := r4.rd hwf hp
  obtain ⟨z1, z2⟩ := r4 p hp
  have r2 : S1.1 (m + 2) = some (.inl (0, 96, .inl (A 2))) := g1.2 2 (by decide) (by decide)
  refine px_P.sn 2 (f1 := (52, [(0, .ref m), (1, .int (nI mo)), (2, .int (nI l)), (3, .int (nI w)), (4, .int (nI p))], [.ref m])) (S1 := S1) rfl ?_
  refine px_P.gf rfl rfl (by assumption) (v := .ref (m + 2)) rfl ?_
  refine px_P.sn 1 (f1 := (57, [(0, .ref m), (1, .int (nI mo)), (2, .int (nI l)), (3, .int (nI w)), (4, .int (nI p))], [.int (nI p), .ref (m + 2)])) (S1 := S1) rfl ?_
  refine px_P.ialdj (j := p) rfl (by assumption) rfl (by omega) (by decide) ?_
  cases hL : sL tt p with
  | none =>
    rw [(z1 hL).1]
    refine px_P.if_ne rfl rfl (fun h => absurd ((by decide)) h) (fun _ => ?_)
    refine px_P.sn 1 (f1 := (62, [(0, .ref m), (1, .int (nI mo)), (2, .int (nI l)), (3, .int (nI w)), (4, .int (nI p))], [.int (-1)])) (S1 := S1) rfl ?_
    refine px_P.ret rfl ?_
    exact kk (-1) (fun v hv => hv.1 hL)
  | some s =>
    obtain ⟨y1, y2, y3⟩ := z2 s hL
    obtain ⟨v1, v2, v3, v4⟩ := hwf p s hp hL
    have hfz : fzp (sL tt) T D p = fzd s T D := by unfold fzp; rw [hL]
    have erd : rdy (sL tt) p = decide (ln_wr s = -1) := by unfold rdy; rw [hL]
    have ety : tyA (sL tt) T p = (if ln_wr s = -1 then ln_val s T else -1) := by unfold tyA; rw [hL]
    rw [y1]
    refine px_P.if_ne rfl rfl (fun _ => ?_) (fun h => absurd h ((nI_ne0 y2 (by omega))))
    refine px_P.sn 4 (f1 := (69, [(0, .ref m), (1, .int (nI mo)), (2, .int (nI l)), (3, .int (nI w)), (4, .int (nI p)), (5, .int 0), (6, .int 0)], [])) (S1 := S1) rfl ?_
    have fin : px_P (d - 1) px_m_Model_line (107, [(0, .ref m), (1, .int (nI mo)), (2, .int (nI l)), (3, .int (nI w)), (4, .int (nI p)), (5, .int (nI (cnt p FL))), (6, .int (nI FL.length))], []) S1 Q := by
      have out : ∀ v', (∀ v, linA (sL tt) p w v → v = v') → px_P (d - 1) px_m_Model_line (187, [(0, .ref m), (1, .int (nI mo)), (2, .int (nI l)), (3, .int (nI w)), (4, .int (nI p)), (5, .int (nI (cnt p FL))), (6, .int (nI FL.length))], [.int v']) S1 Q := by
        intro v' hv'
        refine px_P.ret rfl ?_
        exact kk v' hv'
      have r2 : S1.1 (m + 2) = some (.inl (0, 96, .inl (A 2))) := g1.2 2 (by decide) (by decide)
      have r12 : S1.1 (m + 12) = some (.inl (0, 96, .inl (A 12))) := g1.2 12 (by decide) (by decide)
      refine px_P.sn 1 (f1 := (108, [(0, .ref m), (1, .int (nI mo)), (2, .int (nI l)), (3, .int (nI w)), (4, .int (nI p)), (5, .int (nI (cnt p FL))), (6, .int (nI FL.length))], [.int (nI w)])) (S1 := S1) rfl ?_
      by_cases e0 : w = 0
      · refine px_P.if_ne rfl rfl (fun h => absurd ((by rw [e0]; rfl)) h) (fun _ => ?_)
        refine px_P.sn 1 (f1 := (112, [(0, .ref m), (1, .int (nI mo)), (2, .int (nI l)), (3, .int (nI w)), (4, .int (nI p)), (5, .int (nI (cnt p FL))), (6, .int (nI FL.length))], [.ref m])) (S1 := S1) rfl ?_
        refine px_P.gf rfl rfl (by assumption) (v := .ref (m + 2)) rfl ?_
        refine px_P.sn 1 (f1 := (117, [(0, .ref m), (1, .int (nI mo)), (2, .int (nI l)), (3, .int (nI w)), (4, .int (nI p)), (5, .int (nI (cnt p FL))), (6, .int (nI FL.length))], [.int (nI p), .ref (m + 2)])) (S1 := S1) rfl ?_
        refine px_P.ialdj (j := p) rfl (by assumption) rfl (by omega) (by decide) ?_
        rw [y1]
        refine px_P.sn 1 (f1 := (187, [(0, .ref m), (1, .int (nI mo)), (2, .int (nI l)), (3, .int (nI w)), (4, .int (nI p)), (5, .int (nI (cnt p FL))), (6, .int (nI FL.length))], [.int (nI (ln_L s))])) (S1 := S1) rfl ?_
        exact out _ (fun v hv => (hv.2 s hL).1 e0)
      · refine px_P.if_ne rfl rfl (fun _ => ?_) (fun h => absurd h ((nI_ne0 (by omega) (by omega))))
        refine px_P.sn 2 (f1 := (123, [(0, .ref m), (1, .int (nI mo)), (2, .int (nI l)), (3, .int (nI w)), (4, .int (nI p)), (5, .int (nI (cnt p FL))), (6, .int (nI FL.length))], [.int 1, .int (nI w)])) (S1 := S1) rfl ?_
        by_cases e1 : w = 1
        · refine px_P.ic_ne rfl rfl (fun h => absurd ((by rw [e1]; rfl)) h) (fun _ => ?_)
          refine px_P.sn 2 (f1 := (129, [(0, .ref m), (1, .int (nI mo)), (2, .int (nI l)), (3, .int (nI w)), (4, .int (nI p)), (5, .int (nI (cnt p FL))), (6, .int (nI FL.length))], [.int (nI p), .ref m])) (S1 := S1) rfl ?_
          refine px_P.cv rfl rfl rfl (by assumption) rfl ?_
          show px_M _ px_m_Model_isRead [.ref m, .int (nI p)] S1 _
          refine pm_moIsRead (by omega) hp g1 ?_
          rw [hrd, erd]
          by_cases ew : ln_wr s = -1
          · rw [decide_eq_true ew]
            show px_P _ _ (132, [(0, .ref m), (1, .int (nI mo)), (2, .int (nI l)), (3, .int (nI w)), (4, .int (nI p)), (5, .int (nI (cnt p FL))), (6, .int (nI FL.length))], [.int 1]) S1 _
            show px_P _ _ (132, [(0, .ref m), (1, .int (nI mo)), (2, .int (nI l)), (3, .int (nI w)), (4, .int (nI p)), (5, .int (nI (cnt p FL))), (6, .int (nI FL.length))], [.int 1]) S1 _
            refine px_P.if_eq rfl rfl (fun h => absurd h ((by decide))) (fun _ => ?_)
            refine px_P.sn 2 (f1 := (187, [(0, .ref m), (1, .int (nI mo)), (2, .int (nI l)), (3, .int (nI w)), (4, .int (nI p)), (5, .int (nI (cnt p FL))), (6, .int (nI FL.length))], [.int 1])) (S1 := S1) rfl ?_
            exact out _ (fun v hv => by have := (hv.2 s hL).2.1 e1; rw [if_pos ew] at this; exact this)
          · rw [decide_eq_false ew]
            show px_P _ _ (132, [(0, .ref m), (1, .int (nI mo)), (2, .int (nI l)), (3, .int (nI w)), (4, .int (nI p)), (5, .int (nI (cnt p FL))), (6, .int (nI FL.length))], [.int 0]) S1 _
            show px_P _ _ (132, [(0, .ref m), (1, .int (nI mo)), (2, .int (nI l)), (3, .int (nI w)), (4, .int (nI p)), (5, .int (nI (cnt p FL))), (6, .int (nI FL.length))], [.int 0]) S1 _
            refine px_P.if_eq rfl rfl (fun _ => ?_) (fun h => absurd ((by decide)) h)
            refine px_P.sn 2 (f1 := (187, [(0, .ref m), (1, .int (nI mo)), (2, .int (nI l)), (3, .int (nI w)), (4, .int (nI p)), (5, .int (nI (cnt p FL))), (6, .int (nI FL.length))], [.int 0])) (S1 := S1) rfl ?_
            exact out _ (fun v hv => by have := (hv.2 s hL).2.1 e1; rw [if_neg ew] at this; exact this)
        · refine px_P.ic_ne rfl rfl (fun _ => ?_) (fun h => absurd h ((fun z => e1 ((nI_eq (b := 1) (by omega) (by decide)).mp z))))
          refine px_P.sn 2 (f1 := (145, [(0, .ref m), (1, .int (nI mo)), (2, .int (nI l)), (3, .int (nI w)), (4, .int (nI p)), (5, .int (nI (cnt p FL))), (6, .int (nI FL.length))], [.int 3, .int (nI w)])) (S1 := S1) rfl ?_
          by_cases e3 : w = 3
          · refine px_P.ic_ne rfl rfl (fun h => absurd ((by rw [e3]; rfl)) h) (fun _ => ?_)
            refine px_P.sn 2 (f1 := (187, [(0, .ref m), (1, .int (nI mo)), (2, .int (nI l)), (3, .int (nI w)), (4, .int (nI p)), (5, .int (nI (cnt p FL))), (6, .int (nI FL.length))], [.int (nI (cnt p FL))])) (S1 := S1) rfl ?_
            refine out _ (fun v hv => ?_)
            obtain ⟨T', D', h1, h2, h3⟩ := (hv.2 s hL).2.2.2.1 e3
            obtain ⟨t1, t2⟩ := hTD T' D' h1 h2
            rw [h3, (fcd_cg v1 t1 t2).2, fcnt, hfz]
          · refine px_P.ic_ne rfl rfl (fun _ => ?_) (fun h => absurd h ((fun z => e3 ((nI_eq (b := 3) (by omega) (by decide)).mp z))))
            refine px_P.sn 2 (f1 := (156, [(0, .ref m), (1, .int (nI mo)), (2, .int (nI l)), (3, .int (nI w)), (4, .int (nI p)), (5, .int (nI (cnt p FL))), (6, .int (nI FL.length))], [.int (nI p), .ref m])) (S1 := S1) rfl ?_
            refine px_P.cv rfl rfl rfl (by assumption) rfl ?_
            show px_M _ px_m_Model_isRead [.ref m, .int (nI p)] S1 _
            refine pm_moIsRead (by omega) hp g1 ?_
            rw [hrd, erd]
            by_cases ew : ln_wr s = -1
            · rw [decide_eq_true ew]
              rw [if_pos ew] at ety
              show px_P _ _ (159, [(0, .ref m), (1, .int (nI mo)), (2, .int (nI l)), (3, .int (nI w)), (4, .int (nI p)), (5, .int (nI (cnt p FL))), (6, .int (nI FL.length))], [.int 1]) S1 _
              show px_P _ _ (159, [(0, .ref m), (1, .int (nI mo)), (2, .int (nI l)), (3, .int (nI w)), (4, .int (nI p)), (5, .int (nI (cnt p FL))), (6, .int (nI FL.length))], [.int 1]) S1 _
              refine px_P.if_ne rfl rfl (fun _ => ?_) (fun h => absurd h ((by decide)))
              refine px_P.sn 2 (f1 := (168, [(0, .ref m), (1, .int (nI mo)), (2, .int (nI l)), (3, .int (nI w)), (4, .int (nI p)), (5, .int (nI (cnt p FL))), (6, .int (nI FL.length))], [.int 2, .int (nI w)])) (S1 := S1) rfl ?_
              by_cases e2 : w = 2
              · refine px_P.ic_ne rfl rfl (fun h => absurd ((by rw [e2]; rfl)) h) (fun _ => ?_)
                refine px_P.sn 1 (f1 := (172, [(0, .ref m), (1, .int (nI mo)), (2, .int (nI l)), (3, .int (nI w)), (4, .int (nI p)), (5, .int (nI (cnt p FL))), (6, .int (nI FL.length))], [.ref m])) (S1 := S1) rfl ?_
                refine px_P.gf rfl rfl (by assumption) (v := .ref (m + 12)) rfl ?_
                refine px_P.sn 1 (f1 := (177, [(0, .ref m), (1, .int (nI mo)), (2, .int (nI l)), (3, .int (nI w)), (4, .int (nI p)), (5, .int (nI (cnt p FL))), (6, .int (nI FL.length))], [.int (nI p), .ref (m + 12)])) (S1 := S1) rfl ?_
                refine px_P.ialdj (j := p) rfl (by assumption) rfl (by omega) (by decide) ?_
                refine px_P.sn 1 (f1 := (187, [(0, .ref m), (1, .int (nI mo)), (2, .int (nI l)), (3, .int (nI w)), (4, .int (nI p)), (5, .int (nI (cnt p FL))), (6, .int (nI FL.length))], [.int (A 12 p)])) (S1 := S1) rfl ?_
                refine out _ (fun v hv => ?_)
                obtain ⟨T', h1, h2⟩ := (hv.2 s hL).2.2.1 e2
                rw [if_pos ew] at h2
                rw [h2, h12 (by rw [hL]; simp), ety]
                exact ln_val_eq v1 (fun t ht => lf_is.un h1 d3 t ht.1)
              · refine px_P.ic_ne rfl rfl (fun _ => ?_) (fun h => absurd h ((fun z => e2 ((nI_eq (b := 2) (by omega) (by decide)).mp z))))
                refine px_P.sn 2 (f1 := (184, [(0, .ref m), (1, .int (nI mo)), (2, .int (nI l)), (3, .int (nI w)), (4, .int (nI p)), (5, .int (nI (cnt p FL))), (6, .int (nI FL.length))], [.int (nI p), .ref m])) (S1 := S1) rfl ?_
                refine px_P.cv rfl rfl rfl (by assumption) rfl ?_
                show px_M _ px_m_Model_readCount [.ref m, .int (nI p)] S1 _
                refine pm_moReadCount (by omega) hp g1 r4 hwf hL ?_
                show px_P _ _ (187, [(0, .ref m), (1, .int (nI mo)), (2, .int (nI l)), (3, .int (nI w)), (4, .int (nI p)), (5, .int (nI (cnt p FL))), (6, .int (nI FL.length))], [.int (sbc (ln_W s) 4)]) S1 _
                exact out _ (fun v hv => by have := (hv.2 s hL).2.2.2.2 (by omega); rw [if_pos ew] at this; exact this)
            · rw [decide_eq_false ew]
              show px_P _ _ (159, [(0, .ref m), (1, .int (nI mo)), (2, .int (nI l)), (3, .int (nI w)), (4, .int (nI p)), (5, .int (nI (cnt p FL))), (6, .int (nI FL.length))], [.int 0]) S1 _
              show px_P _ _ (159, [(0, .ref m), (1, .int (nI mo)), (2, .int (nI l)), (3, .int (nI w)), (4, .int (nI p)), (5, .int (nI (cnt p FL))), (6, .int (nI FL.length))], [.int 0]) S1 _
              refine px_P.if_ne rfl rfl (fun h => absurd ((by decide)) h) (fun _ => ?_)
              refine px_P.sn 2 (f1 := (187, [(0, .ref m), (1, .int (nI mo)), (2, .int (nI l)), (3, .int (nI w)), (4, .int (nI p)), (5, .int (nI (cnt p FL))), (6, .int (nI FL.length))], [.int (-1)])) (S1 := S1) rfl ?_
              refine out _ (fun v hv => ?_)
              by_cases e2 : w = 2
              · obtain ⟨T', h1, h2⟩ := (hv.2 s hL).2.2.1 e2
                rw [if_neg ew] at h2
                exact h2
              · have := (hv.2 s hL).2.2.2.2 (by omega)
                rw [if_neg ew] at this
                exact this
    have lp := px_for (d := d - 1) (mi := px_m_Model_line) (Q := Q) (X := Unit) FL.length (fun i _ => (69, [(0, .ref m), (1, .int (nI mo)), (2, .int (nI l)), (3, .int (nI w)), (4, .int (nI p)), (5, .int (nI (ct (fun k => decide ((FL[k]?).map (fun x => x.1) = some p)) i))), (6, .int (nI i))], []))
      (fun _ _ S' => S' = S1)
      (by
        intro i hi _ S2 hS kk2
        subst hS
        have hk := kk2 () S2 rfl
        have hfl := (d7 i _ (List.getElem?_eq_getElem hi)).1
        generalize hx : ct (fun k => decide ((FL[k]?).map (fun x => x.1) = some p)) i = x at hk ⊢
        show px_P _ _ (69, [(0, .ref m), (1, .int (nI mo)), (2, .int (nI l)), (3, .int (nI w)), (4, .int (nI p)), (5, .int (nI x)), (6, .int (nI i))], []) S2 _
        have r15 : S2.1 (m + 15) = some (.inl (0, 6000, .inl (A 15))) := g1.2 15 (by decide) (by decide)
        refine px_P.sn 2 (f1 := (72, [(0, .ref m), (1, .int (nI mo)), (2, .int (nI l)), (3, .int (nI w)), (4, .int (nI p)), (5, .int (nI x)), (6, .int (nI i))], [.ref m, .int (nI i)])) (S1 := S2) rfl ?_
        refine px_P.gf rfl rfl (by assumption) (v := .int (nI FL.length)) rfl ?_
        refine px_P.ic_ge rfl rfl (fun h => absurd h (nI_ge hi (by omega))) (fun _ => ?_)
        refine px_P.sn 1 (f1 := (79, [(0, .ref m), (1, .int (nI mo)), (2, .int (nI l)), (3, .int (nI w)), (4, .int (nI p)), (5, .int (nI x)), (6, .int (nI i))], [.ref m])) (S1 := S2) rfl ?_
        refine px_P.gf rfl rfl (by assumption) (v := .ref (m + 15)) rfl ?_
        refine px_P.sn 1 (f1 := (84, [(0, .ref m), (1, .int (nI mo)), (2, .int (nI l)), (3, .int (nI w)), (4, .int (nI p)), (5, .int (nI x)), (6, .int (nI i))], [.int (nI i), .ref (m + 15)])) (S1 := S2) rfl ?_
        refine px_P.ialdj (j := i) rfl (by assumption) rfl (by omega) (by decide) ?_
        rw [hfl]
        refine px_P.sn 1 (f1 := (87, [(0, .ref m), (1, .int (nI mo)), (2, .int (nI l)), (3, .int (nI w)), (4, .int (nI p)), (5, .int (nI x)), (6, .int (nI i))], [.int (nI p), .int (nI FL[i].1)])) (S1 := S2) rfl ?_
        have hlt : FL[i].1 < 96 := hfb i hi
        refine px_P.ic_ne rfl rfl (fun z => ?_) (fun z => ?_)
        · rw [ct_z (p := fun k => decide ((FL[k]?).map (fun x => x.1) = some p)) (n := i) (by show decide _ = false; rw [List.getElem?_eq_getElem hi]; exact decide_eq_false (by show ¬ some (FL[i].1) = some p; intro w; injection w with w; exact z (by rw [w]))), hx] at hk
          refine px_P.sn 4 (f1 := (69, [(0, .ref m), (1, .int (nI mo)), (2, .int (nI l)), (3, .int (nI w)), (4, .int (nI p)), (5, .int (nI x)), (6, .int ((nI i) + 1))], [])) (S1 := S2) rfl ?_
          rw [nI_1]
          exact hk
        · rw [ct_s (p := fun k => decide ((FL[k]?).map (fun x => x.1) = some p)) (n := i) (by show decide _ = true; rw [List.getElem?_eq_getElem hi]; exact decide_eq_true (by show some (FL[i].1) = some p; rw [(nI_eq (by omega) (by omega)).mp z])), hx] at hk
          refine px_P.sn 7 (f1 := (69, [(0, .ref m), (1, .int (nI mo)), (2, .int (nI l)), (3, .int (nI w)), (4, .int (nI p)), (5, .int ((nI x) + 1)), (6, .int ((nI i) + 1))], [])) (S1 := S2) rfl ?_
          rw [nI_1, nI_1]
          exact hk)
      (by
        intro _ S2 hS
        subst hS
        show px_P _ _ (69, [(0, .ref m), (1, .int (nI mo)), (2, .int (nI l)), (3, .int (nI w)), (4, .int (nI p)), (5, .int (nI (cnt p FL))), (6, .int (nI FL.length))], []) S2 _
        refine px_P.sn 2 (f1 := (72, [(0, .ref m), (1, .int (nI mo)), (2, .int (nI l)), (3, .int (nI w)), (4, .int (nI p)), (5, .int (nI (cnt p FL))), (6, .int (nI FL.length))], [.ref m, .int (nI FL.length)])) (S1 := S2) rfl ?_
        refine px_P.gf rfl rfl (by assumption) (v := .int (nI FL.length)) rfl ?_
        refine px_P.ic_ge rfl rfl (fun _ => ?_) (fun h => absurd (Int32.le_refl _) h)
        exact fin)
    exact lp FL.length 0 (by omega) () S1 rfl
