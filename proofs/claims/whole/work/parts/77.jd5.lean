/-! ===== the model: judging all ===== -/
theorem sm_le {f : Nat → Nat} {b : Nat} : ∀ n, (∀ i, i < n → f i ≤ b) → sm f n ≤ b * n
  | 0, _ => Nat.le_refl _
  | n + 1, h => by
    have ih := sm_le n (fun i hi => h i (by omega))
    have := h n (by omega)
    show sm f n + f n ≤ b * (n + 1)
    rw [Nat.mul_succ]
    omega
theorem fzp_le {L : Nat → Option ln_S} {T D : Nat → Int32} (hw : wfL L) {p : Nat} (hp : p < 96) : fzp L T D p ≤ 61 := by
  unfold fzp
  cases hL : L p with
  | none => exact Nat.zero_le _
  | some s => exact fzd_le (hw p s hp hL).1.1 (hw p s hp hL).2.1
theorem pm_moJudgeAll {d m : Nat} {L : Nat → Option ln_S} {T D : Nat → Int32} {q : Nat → Int32} {A0 : Nat → Nat → Int32} {S : px_S} {Q : Option Value → px_S → Prop} (hd : 6 ≤ d) (h : mo_at S m q A0) (hm : ml A0 L) (hw : wfL L) (hT : envT A0 T) (hTb : ∀ t, t < 208 → le32 (T t) lF) (hD : envD A0 D) (h12 : ∀ p, p < 96 → A0 12 p = tyA L T p)
    (k : ∀ S' A' t', hS S S' m q A0 A' (flc L T D 96) t' → Q none S') : px_M d px_m_Model_judgeAll [.ref m] S Q := by
  have lp := px_for (d := d - 1) (mi := px_m_Model_judgeAll) (Q := Q) (X := (Nat → Nat → Int32) × Int32) 96 (fun i _ => (7, [(0, .ref m), (1, .int (nI i))], []))
    (fun i y S' => hS S S' m q A0 y.1 (flc L T D i) y.2)
    (by
      intro i hi ⟨A1, t1⟩ S1 h1 kk
      dsimp only at h1
      have hlen := flc_len (T := T) (D := D) hw i (by omega)
      have hsm := sm_le (f := fzp L T D) (b := 61) i (fun j hj => fzp_le hw (by omega))
      have unf : flc L T D (i + 1) = flc L T D i ++ (match L i with
        | none => []
        | some s => cF i (fcd s T D) (ln_L s + 1)) := rfl
      generalize flc L T D i = FL at *
      have hmA : ml A1 L := hm.cg (fun j j1 j2 => h1.2.2.2 j (by omega) (by omega) (by omega) (by omega))
      have c1 := h1.1.1
      show px_P _ _ (7, [(0, .ref m), (1, .int (nI i))], []) S1 _
      have r2 : S1.1 (m + 2) = some (.inl (0, 96, .inl (A1 2))) := h1.1.2 2 (by decide) (by decide)
      refine px_P.sn 2 (f1 := (10, [(0, .ref m), (1, .int (nI i))], [.int 96, .int (nI i)])) (S1 := S1) rfl ?_
      refine px_P.ic_ge rfl rfl (fun h => absurd h (nI_ge (b := 96) hi (by decide))) (fun _ => ?_)
      refine px_P.sn 1 (f1 := (14, [(0, .ref m), (1, .int (nI i))], [.ref m])) (S1 := S1) rfl ?_
      refine px_P.gf rfl rfl (by assumption) (v := .ref (m + 2)) rfl ?_
      refine px_P.sn 1 (f1 := (18, [(0, .ref m), (1, .int (nI i))], [.int (nI i), .ref (m + 2)])) (S1 := S1) rfl ?_
      refine px_P.ialdj (j := i) rfl (by assumption) rfl (by omega) (by decide) ?_
      cases hL : L i with
      | none =>
        rw [hL, List.append_nil] at unf
        rw [((hmA i hi).1 hL).1]
        refine px_P.if_le rfl rfl (fun _ => ?_) (fun h => absurd ((by decide)) h)
        refine px_P.sn 2 (f1 := (7, [(0, .ref m), (1, .int ((nI i) + 1))], [])) (S1 := S1) rfl ?_
        rw [nI_1]
        refine kk (A1, t1) S1 ?_
        show hS S S1 m q A0 A1 (flc L T D (i + 1)) t1
        rw [unf]
        exact h1
      | some s =>
        rw [hL] at unf
        obtain ⟨e1, e2, e3⟩ := (hmA i hi).2 s hL
        have hLs := (hw i s hi hL).2.1
        rw [e1]
        refine px_P.if_le rfl rfl (fun h => absurd h (nI_nle e2 (by omega))) (fun _ => ?_)
        refine px_P.sn 2 (f1 := (24, [(0, .ref m), (1, .int (nI i))], [.int (nI i), .ref m])) (S1 := S1) rfl ?_
        refine px_P.cv rfl rfl rfl (by assumption) rfl ?_
        show px_M _ px_m_Model_judge [.ref m, .int (nI i)] S1 _
        refine pm_moJudge (L := L) (by omega) hi h1 hm hw hL hT hTb hD (h12 i hi) (by omega) (fun S2 A2 t2 h2 => ?_)
        show px_P _ _ (27, [(0, .ref m), (1, .int (nI i))], []) S2 _
        refine px_P.sn 2 (f1 := (7, [(0, .ref m), (1, .int ((nI i) + 1))], [])) (S1 := S2) rfl ?_
        rw [nI_1]
        refine kk (A2, t2) S2 ?_
        show hS S S2 m q A0 A2 (flc L T D (i + 1)) t2
        rw [unf]
        exact h2)
    (by
      intro ⟨A1, t1⟩ S1 h1
      dsimp only at h1
      show px_P _ _ (7, [(0, .ref m), (1, .int (nI 96))], []) S1 _
      refine px_P.sn 2 (f1 := (10, [(0, .ref m), (1, .int (nI 96))], [.int 96, .int (nI 96)])) (S1 := S1) rfl ?_
      refine px_P.ic_ge rfl rfl (fun _ => ?_) (fun h => absurd ((by decide)) h)
      refine px_P.ret rfl ?_
      exact k S1 A1 t1 h1)
  have c0 := h.1
  refine px_M.go (by omega) (Nat.le_of_ble_eq_true rfl) ?_
  refine px_P.sn 2 (f1 := (2, [(0, .ref m)], [.int 0, .ref m])) (S1 := S) rfl ?_
  refine px_P.pf rfl rfl (by assumption) rfl (fun S1 u1 => ?_)
  refine px_P.sn 2 (f1 := (7, [(0, .ref m), (1, .int 0)], [])) (S1 := S1) rfl ?_
  refine lp 96 0 rfl (A0, q 8) S1 ⟨?_, mF.u (Nat.le_refl _) (by omega) u1, fun k x hx => (by cases hx), fun _ _ _ _ _ => rfl⟩
  exact h.ob u1
/-! ===== the model between the calls ===== -/
def mtx (A : Nat → Nat → Int32) (tt : Nat → List Nat) : Prop := ∀ p, p < 96 → A 2 p = nI (tt p).length ∧ ∀ j, j < (tt p).length → A 3 (60 * p + j) = nI (tf (tt p) j)
def mhh (A : Nat → Nat → Int32) (hh : List (Nat × List Nat)) : Prop := hh.length ≤ 16 ∧ (∀ j, j < hh.length → A 18 j = nI (hg hh j).1 ∧ (hg hh j).1 < 96 ∧ tyo (hg hh j).2 ∧ A 19 j = nI (hg hh j).2.length ∧ ∀ k, k < (hg hh j).2.length → A 20 (60 * j + k) = nI (tf (hg hh j).2 k)) ∧ ∀ c, c < 960 → ∃ v, v ≤ 255 ∧ A 20 c = nI v
/-- what growing and judging leave -/
def mgr (q : Nat → Int32) (A : Nat → Nat → Int32) (L : Nat → Option ln_S) : Prop := ∃ T D : Nat → Int32, d14 L A ∧ (∀ t, t < 208 → T t = eT L (A 13) t) ∧ lf_is L T ∧ (∀ p, p < 96 → ¬ L p = none → A 12 p = tyA L T p) ∧ (∀ t, t < 208 → D t = nI (dc L t)) ∧ q 2 = nI (flc L T D 96).length ∧ fl A (flc L T D 96)
def knw (A : Nat → Nat → Int32) (L : Nat → Option ln_S) : Prop := (∀ i, i < 43264 → A 21 i = 0 ∨ A 21 i = 1) ∧ tc_is (rd L) (fun s t => s < 208 ∧ t < 208 ∧ A 21 (208 * s + t) = 1)
def mI (S : px_S) (m : Nat) (ty : List Nat) (tt : Nat → List Nat) (hh : List (Nat × List Nat)) : Prop := ∃ (q : Nat → Int32) (A : Nat → Nat → Int32), mo_at S m q A ∧ (q 1 = nI ty.length ∧ tyo ty ∧ tya (A 1) ty) ∧ ttO tt ∧ mtx A tt ∧ ml A (sL tt) ∧ mgr q A (sL tt) ∧ (q 3 = nI hh.length ∧ mhh A hh) ∧ (q 4 = 0 ∨ (q 4 = 1 ∧ knw A (sL tt)))
theorem sL_wf {tt : Nat → List Nat} (h : ttO tt) : wfL (sL tt) := by
  intro p s hp hs
  unfold sL sx at hs
  split at hs
  · cases hs
  · cases hs
    have := pz_wf (tx := tf (tt p)) (N := (tt p).length) (m := p / 12) (by omega) (h.1 p).1
    exact ⟨this.1, by rw [this.2.1]; exact (h.1 p).1, by have := this.2.2.1; have := (h.1 p).1; omega, this.2.2.2⟩
theorem mgr_of {S S' : px_S} {m : Nat} {q : Nat → Int32} {A A' : Nat → Nat → Int32} {L : Nat → Option ln_S} {T D : Nat → Int32} {t : Int32} (h1 : d14 L A) (h2 : ∀ t, t < 208 → T t = eT L (A 13) t) (h3 : lf_is L T) (h4 : ∀ p, p < 96 → A 12 p = tyA L T p) (h5 : ∀ t, t < 208 → D t = nI (dc L t)) (h : hS S S' m q A A' (flc L T D 96) t) : mgr (mq2 q (nI (flc L T D 96).length) t) A' L := by
  refine ⟨T, D, fun t ht => ?_, fun t ht => ?_, h3, fun p hp _ => ?_, h5, rfl, h.2.2.1⟩
  · rw [h.2.2.2 14 (by decide) (by decide) (by decide) (by decide)]; exact h1 t ht
  · rw [h.2.2.2 13 (by decide) (by decide) (by decide) (by decide)]; exact h2 t ht
  · rw [h.2.2.2 12 (by decide) (by decide) (by decide) (by decide)]; exact h4 p hp
theorem d14.D {L : Nat → Option ln_S} {A : Nat → Nat → Int32} (h : d14 L A) : envD A (fun t => nI (dc L t)) := by
  intro t ht
  show A 14 t = 0 ↔ nI (dc L t) = 0
  rw [h t ht]
  have := dc_le L t
  by_cases e : dc L t = 0
  · rw [if_pos e, e]; exact ⟨fun _ => rfl, fun _ => rfl⟩
  · rw [if_neg e]
    exact ⟨fun z => absurd z (by decide), fun z => absurd z (nI_ne0 (by omega) (by omega))⟩
theorem lf_cg {L : Nat → Option ln_S} {T : Nat → Int32} {A : Nat → Nat → Int32} (h1 : d14 L A) (h2 : ∀ t, t < 208 → T t = eT L (A 13) t) : envT A T := fun t ht => (h2 t ht).trans (h1.env t ht)
