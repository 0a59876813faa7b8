/-! ===== the model: its lines; growing ===== -/
def mlA (A : Nat → Nat → Int32) (L : Nat → Option ln_S) (p : Nat) : Prop := (L p = none → A 2 p = 0 ∧ A 4 p = -1 ∧ A 5 p = -1 ∧ A 6 p = -1 ∧ A 8 p = 0) ∧ ∀ s, L p = some s → A 2 p = nI (ln_L s) ∧ 0 < ln_L s ∧ mr A p s
def ml (A : Nat → Nat → Int32) (L : Nat → Option ln_S) : Prop := ∀ p, p < 96 → mlA A L p
def wfL (L : Nat → Option ln_S) : Prop := ∀ p s, p < 96 → L p = some s → ln_wf s ∧ ln_L s ≤ 60 ∧ ln_n s ≤ 60 ∧ (ln_wr s = -1 → good (ln_st s) 0 (ln_n s))
theorem ml.cg {A A' : Nat → Nat → Int32} {L : Nat → Option ln_S} (h : ml A L) (e : ∀ i, 2 ≤ i → i ≤ 11 → A' i = A i) : ml A' L := by
  intro p hp
  have q := h p hp
  unfold mlA mr ste st1 at *
  rw [e 2 (by decide) (by decide), e 4 (by decide) (by decide), e 5 (by decide) (by decide), e 6 (by decide) (by decide), e 7 (by decide) (by decide), e 8 (by decide) (by decide), e 9 (by decide) (by decide), e 10 (by decide) (by decide), e 11 (by decide) (by decide)]
  exact q
def rdy (L : Nat → Option ln_S) (p : Nat) : Bool := match L p with
  | none => false
  | some s => decide (ln_wr s = -1)
theorem rdy_t {L : Nat → Option ln_S} {p : Nat} : rdy L p = true ↔ ∃ s, L p = some s ∧ ln_wr s = -1 := by
  unfold rdy
  cases L p with
  | none => exact ⟨fun h => (by cases h), fun ⟨z, h, _⟩ => (by cases h)⟩
  | some z => rw [decide_eq_true_iff]; exact ⟨fun h => ⟨z, rfl, h⟩, fun ⟨y, h, h2⟩ => by cases h; exact h2⟩
theorem ml.rd {A : Nat → Nat → Int32} {L : Nat → Option ln_S} (h : ml A L) (hw : wfL L) {p : Nat} (hp : p < 96) : (decide (0 < A 2 p) && decide (A 4 p < 0)) = rdy L p := by
  obtain ⟨h1, h2⟩ := h p hp
  unfold rdy
  cases hL : L p with
  | none =>
    rw [(h1 hL).1]
    rfl
  | some s =>
    obtain ⟨e1, e2, e3⟩ := h2 s hL
    obtain ⟨w1, w2, w3, w4⟩ := hw p s hp hL
    have : (0 : Int32) < nI (ln_L s) := nI_lt (a := 0) e2 (by omega)
    rw [e1, decide_eq_true this, e3.1, Bool.true_and]
    by_cases e : ln_wr s = -1
    · show decide (ln_wr s < 0) = decide (ln_wr s = -1)
      rw [e]; rfl
    · obtain ⟨q, q1, q2⟩ := w1.1.2 e
      show decide _ = decide _
      rw [decide_eq_false e, q2, decide_eq_false (nI_pos (by omega))]
def dfA (L : Nat → Option ln_S) (p : Nat) : Int32 := match L p with
  | none => -1
  | some s => ln_df s
theorem ml.df {A : Nat → Nat → Int32} {L : Nat → Option ln_S} (h : ml A L) {p : Nat} (hp : p < 96) : A 5 p = dfA L p := by
  obtain ⟨h1, h2⟩ := h p hp
  unfold dfA
  cases hL : L p with
  | none => exact (h1 hL).2.2.1
  | some s => exact (h2 s hL).2.2.2.1
theorem wfL.df {L : Nat → Option ln_S} (hw : wfL L) {p : Nat} (hp : p < 96) : (dfA L p = -1 ∧ ∀ t, t < 208 → dfb L p t = false) ∨ ∃ s t, L p = some s ∧ t < 208 ∧ dfA L p = nI t ∧ ln_df s = nI t ∧ ln_wr s = -1 := by
  unfold dfA dfb
  cases hL : L p with
  | none => exact Or.inl ⟨rfl, fun _ _ => rfl⟩
  | some s =>
    obtain ⟨w1, w2, w3, w4⟩ := hw p s hp hL
    rcases w1.2.1 with e | ⟨t, ht, e⟩
    · exact Or.inl ⟨e, fun t ht => decide_eq_false (fun z => nI_neg (n := t) (by omega) (by rw [← z]; exact e))⟩
    · refine Or.inr ⟨s, t, rfl, ht, e, e, ?_⟩
      apply Classical.byContradiction
      intro z
      exact nI_neg (n := t) (by omega) (by rw [← e]; exact (w1.2.2.2.2.2.1 z).1)
theorem nI_inj208 {s t : Nat} (hs : s < 208) (ht : t < 208) (h : nI s = nI t) : s = t := (nI_eq (by omega) (by omega)).mp h
def gS (S0 S : px_S) (m : Nat) (q : Nat → Int32) (A0 A : Nat → Nat → Int32) (FL : fl_T) (t : Int32) : Prop := mo_at S m (mq2 q (nI FL.length) t) A ∧ mF S0 S m ∧ fl A FL ∧ ∀ i, i ≠ 12 → i ≠ 13 → i ≠ 14 → i ≠ 15 → i ≠ 16 → i ≠ 17 → i ≠ 25 → A i = A0 i
theorem gS.up {S0 S S' : px_S} {m j : Nat} {q : Nat → Int32} {A0 A : Nat → Nat → Int32} {FL : fl_T} {t : Int32} {g : Nat → Int32} (h : gS S0 S m q A0 A FL t) (hj : j = 12 ∨ j = 13 ∨ j = 14) (u : px_Up S S' (m + j) (.inl (mo_ty j, mo_ln j, .inl g))) : gS S0 S' m q A0 (va_up A j g) FL t :=
  ⟨h.1.ar (by omega) (by omega) u, h.2.1.tr (mF.u (by omega) (by omega) u), h.2.2.1.cg (va_un (by omega)) (va_un (by omega)) (va_un (by omega)), fun i e1 e2 e3 e4 e5 e6 e7 => (va_un (by omega)).trans (h.2.2.2 i e1 e2 e3 e4 e5 e6 e7)⟩
theorem gS.ml {S0 S : px_S} {m : Nat} {q : Nat → Int32} {A0 A : Nat → Nat → Int32} {FL : fl_T} {t : Int32} {L : Nat → Option ln_S} (h : gS S0 S m q A0 A FL t) (k : ml A0 L) : ml A L := k.cg (fun i h1 h2 => h.2.2.2 i (by omega) (by omega) (by omega) (by omega) (by omega) (by omega) (by omega))
/-- a line's value, in the state of growing -/
theorem pm_gsValue {d m p : Nat} {t : Int32} {s : ln_S} {L : Nat → Option ln_S} {T : Nat → Int32} {q : Nat → Int32} {A0 A : Nat → Nat → Int32} {FL : fl_T} {S0 S : px_S} {Q : Option Value → px_S → Prop} (hd : 4 ≤ d) (hp : p < 96) (h : gS S0 S m q A0 A FL t) (hm : ml A0 L) (hw : wfL L) (hL : L p = some s) (hr : ln_wr s = -1) (hT : envT A T) (hTb : ∀ t, t < 208 → le32 (T t) lF) (hFL : FL.length ≤ 5940)
    (k : ∀ S' A' t', gS S0 S' m q A0 A' FL t' → (∀ i, i ≠ 15 → i ≠ 16 → i ≠ 17 → i ≠ 25 → A' i = A i) → Q (some (.int (ln_val s T))) S') : px_M d px_m_Model_value [.ref m, .int (nI p), .int 0] S Q := by
  obtain ⟨w1, w2, w3, w4⟩ := hw p s hp hL
  have hmr := ((h.ml hm) p hp).2 s hL
  have hn0 : 0 < ln_n s := w1.2.2.2.2.2.2 hr
  have e : ln_val s T = xe_ev (ln_st s) T (ln_n s) (ln_n s - 1) := by unfold ln_val; rw [if_neg (by omega)]
  rw [e] at k
  refine pm_moValue (b := false) (D := fun t => A 14 t) (q := mq2 q (nI FL.length) t) hd hp h.1 rfl h.2.2.1 (hmr.2.2.2.2 hr).2.2 w1.2.2.2.1 (w4 hr) w3 hT hTb (fun _ _ => Iff.rfl) (by omega) (fun S' A' t' g1 g2 g3 g4 => k S' A' t' ⟨?_, h.2.1.tr g2, ?_, fun i e1 e2 e3 e4 e5 e6 e7 => (g4 i e4 e5 e6 e7).trans (h.2.2.2 i e1 e2 e3 e4 e5 e6 e7)⟩ g4)
  · have e2 : mq2 (mq2 q (nI FL.length) t) (nI (FL ++ (bif false then nts p (ln_st s) T (fun t => A 14 t) (ln_n s) else [])).length) t' = mq2 q (nI FL.length) t' := by
      rw [cond_false, List.append_nil]
      funext i
      unfold mq2
      by_cases h2 : i = 2
      · simp [h2]
      · by_cases h8 : i = 8
        · simp [h8]
        · simp [h2, h8]
    rw [e2] at g1
    exact g1
  · rw [cond_false, List.append_nil] at g3
    exact g3
