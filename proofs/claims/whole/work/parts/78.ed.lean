/-! ===== the model: does a line read a symbol, or a stale one ===== -/
theorem ml.st {A : Nat → Nat → Int32} {L : Nat → Option ln_S} (h : ml A L) {p : Nat} (hp : p < 96) {s : ln_S} (hs : L p = some s) (hr : ln_wr s = -1) : ste A p (ln_n s) (ln_st s) := (((h p hp).2 s hs).2.2.2.2 hr).2.2
/-- a test over a line's symbols, step by step: c is what is asked of a symbol -/
theorem rs_step {s : ln_S} {c : Nat → Bool} {i : Nat} {b : Bool} (hb : b = true ↔ ∃ j, j < i ∧ (ln_st s j).1 = 1 ∧ c (ln_st s j).2.1 = true) : (b || (decide ((ln_st s i).1 = 1) && c (ln_st s i).2.1)) = true ↔ ∃ j, j < i + 1 ∧ (ln_st s j).1 = 1 ∧ c (ln_st s j).2.1 = true := by
  rw [Bool.or_eq_true, hb, Bool.and_eq_true, decide_eq_true_eq]
  constructor
  · rintro (⟨j, h1, h2⟩ | h)
    · exact ⟨j, by omega, h2⟩
    · exact ⟨i, by omega, h⟩
  · rintro ⟨j, h1, h2⟩
    by_cases e : j = i
    · subst e; exact Or.inr h2
    · exact Or.inl ⟨j, by omega, h2⟩
theorem rs_fin {L : Nat → Option ln_S} (hw : wfL L) {p : Nat} (hp : p < 96) {s : ln_S} (hs : L p = some s) {c : Nat → Bool} {b : Bool} (hb : b = true ↔ ∃ j, j < ln_n s ∧ (ln_st s j).1 = 1 ∧ c (ln_st s j).2.1 = true) : b = true ↔ ∃ z t, L p = some z ∧ t < 208 ∧ ss_in (ln_W z) t = true ∧ c t = true := by
  have w1 := (hw p s hp hs).1
  rw [hb]
  constructor
  · rintro ⟨j, h1, h2, h3⟩
    have ht := (w1.2.2.2.1 j h1).2.2.1 h2
    exact ⟨s, _, hs, ht, (w1.2.2.2.2.1 _ (by omega)).mpr ⟨j, h1, h2, rfl⟩, h3⟩
  · rintro ⟨z, t, h1, h2, h3, h4⟩
    rw [hs] at h1
    cases h1
    obtain ⟨j, g1, g2, g3⟩ := (w1.2.2.2.2.1 t (by omega)).mp h3
    exact ⟨j, g1, g2, by rw [g3]; exact h4⟩
theorem rs_no {L : Nat → Option ln_S} (hw : wfL L) {p : Nat} (hp : p < 96) (hr : rdy L p = false) {c : Nat → Bool} : ¬ ∃ z t, L p = some z ∧ t < 208 ∧ ss_in (ln_W z) t = true ∧ c t = true := by
  rintro ⟨z, t, h1, h2, h3, h4⟩
  have w1 := (hw p z hp h1).1
  have hz : ¬ ln_wr z = -1 := fun e => by rw [rdy_t.mpr ⟨z, h1, e⟩] at hr; cases hr
  obtain ⟨j, g1, _⟩ := (w1.2.2.2.2.1 t (by omega)).mp h3
  have := (w1.2.2.2.2.2.1 hz).2
  omega
theorem pm_moReads {d m p u : Nat} {L : Nat → Option ln_S} {q : Nat → Int32} {A : Nat → Nat → Int32} {S : px_S} {Q : Option Value → px_S → Prop} (hd : 2 ≤ d) (hp : p < 96) (hu : u < 208) (h : mo_at S m q A) (hm : ml A L) (hw : wfL L)
    (k : ∀ b : Bool, (b = true ↔ ∃ z t, L p = some z ∧ t < 208 ∧ ss_in (ln_W z) t = true ∧ decide (t = u) = true) → Q (some (.int (bif b then 1 else 0))) S) : px_M d px_m_Model_reads [.ref m, .int (nI p), .int (nI u)] S Q := by
  have c0 := h.1
  have hrd := hm.rd hw hp
  have out : ∀ (b : Bool) (x : Int32), (b = true ↔ ∃ z t, L p = some z ∧ t < 208 ∧ ss_in (ln_W z) t = true ∧ decide (t = u) = true) → px_P (d - 1) px_m_Model_reads (70, [(0, .ref m), (1, .int (nI p)), (2, .int (nI u)), (3, .int (bif b then 1 else 0)), (4, .int x)], []) S Q := by
    intro b x hb
    have hk := k b hb
    cases b with
    | true =>
      show px_P _ _ (70, [(0, .ref m), (1, .int (nI p)), (2, .int (nI u)), (3, .int 1), (4, .int x)], []) S _
      refine px_P.sn 1 (f1 := (71, [(0, .ref m), (1, .int (nI p)), (2, .int (nI u)), (3, .int 1), (4, .int x)], [.int 1])) (S1 := S) rfl ?_
      refine px_P.ret rfl ?_
      exact hk
    | false =>
      show px_P _ _ (70, [(0, .ref m), (1, .int (nI p)), (2, .int (nI u)), (3, .int 0), (4, .int x)], []) S _
      refine px_P.sn 1 (f1 := (71, [(0, .ref m), (1, .int (nI p)), (2, .int (nI u)), (3, .int 0), (4, .int x)], [.int 0])) (S1 := S) rfl ?_
      refine px_P.ret rfl ?_
      exact hk
  refine px_M.go (by omega) (Nat.le_of_ble_eq_true rfl) ?_
  refine px_P.sn 6 (f1 := (8, [(0, .ref m), (1, .int (nI p)), (2, .int (nI u)), (3, .int 0), (4, .int (64 * (nI p)))], [])) (S1 := S) rfl ?_
  rw [show (64 : Int32) * nI p = nI (64 * p + 0) by rw [show (64 : Int32) = nI 64 from rfl, pk_mul, Nat.add_zero]]
  cases hr : rdy L p with
  | false =>
    rw [hr] at hrd
    show px_P _ _ (8, [(0, .ref m), (1, .int (nI p)), (2, .int (nI u)), (3, .int 0), (4, .int (nI (64 * p + 0)))], []) S _
    refine px_P.sn 2 (f1 := (10, [(0, .ref m), (1, .int (nI p)), (2, .int (nI u)), (3, .int 0), (4, .int (nI (64 * p + 0)))], [.int (nI p), .ref m])) (S1 := S) rfl ?_
    refine px_P.cv rfl rfl rfl (by assumption) rfl ?_
    show px_M _ px_m_Model_isRead [.ref m, .int (nI p)] S _
    refine pm_moIsRead (by omega) hp h ?_
    rw [hrd]
    show px_P _ _ (13, [(0, .ref m), (1, .int (nI p)), (2, .int (nI u)), (3, .int 0), (4, .int (nI (64 * p + 0)))], [.int 0]) S _
    refine px_P.if_eq rfl rfl (fun _ => ?_) (fun h => absurd ((by decide)) h)
    exact out false _ ⟨fun z => (by cases z), fun z => absurd z (rs_no hw hp hr)⟩
  | true =>
    obtain ⟨s, hs, hws⟩ := rdy_t.mp hr
    have hst := hm.st hp hs hws
    have hn := (hw p s hp hs).2.2.1
    rw [hr] at hrd
    have lp := px_for (d := d - 1) (mi := px_m_Model_reads) (Q := Q) (X := Bool) (ln_n s) (fun i b => (8, [(0, .ref m), (1, .int (nI p)), (2, .int (nI u)), (3, .int (bif b then 1 else 0)), (4, .int (nI (64 * p + i)))], []))
      (fun i b S1 => S1 = S ∧ (b = true ↔ ∃ j, j < i ∧ (ln_st s j).1 = 1 ∧ decide ((ln_st s j).2.1 = u) = true))
      (by
        intro i hi b S1 ⟨hS, hb⟩ kk
        subst hS
        have hy := kk _ S1 ⟨rfl, rs_step (c := fun t => decide (t = u)) hb⟩
        obtain ⟨s9, s10, s11⟩ := hst.2 i hi
        have hok := (hw p s hp hs).1.2.2.2.1 i hi
        have tail : ∀ (b' : Bool) (x : Int32), (b || (decide ((ln_st s i).1 = 1) && decide ((ln_st s i).2.1 = u))) = b' → px_P (d - 1) px_m_Model_reads (63, [(0, .ref m), (1, .int (nI p)), (2, .int (nI u)), (3, .int x), (4, .int (nI (64 * p + i)))], [.int (bif b' then 1 else 0)]) S1 Q := by
          intro b' x e
          rw [e] at hy
          refine px_P.sn 3 (f1 := (8, [(0, .ref m), (1, .int (nI p)), (2, .int (nI u)), (3, .int (bif b' then 1 else 0)), (4, .int ((nI (64 * p + i)) + 1))], [])) (S1 := S1) rfl ?_
          rw [nI_1, show 64 * p + i + 1 = 64 * p + (i + 1) by omega]
          exact hy
        have yes : ∀ x : Int32, (b || (decide ((ln_st s i).1 = 1) && decide ((ln_st s i).2.1 = u))) = true → px_P (d - 1) px_m_Model_reads (58, [(0, .ref m), (1, .int (nI p)), (2, .int (nI u)), (3, .int x), (4, .int (nI (64 * p + i)))], []) S1 Q := by
          intro x e
          refine px_P.sn 2 (f1 := (63, [(0, .ref m), (1, .int (nI p)), (2, .int (nI u)), (3, .int x), (4, .int (nI (64 * p + i)))], [.int 1])) (S1 := S1) rfl ?_
          exact tail true x e
        have no : ∀ x : Int32, (b || (decide ((ln_st s i).1 = 1) && decide ((ln_st s i).2.1 = u))) = false → px_P (d - 1) px_m_Model_reads (62, [(0, .ref m), (1, .int (nI p)), (2, .int (nI u)), (3, .int x), (4, .int (nI (64 * p + i)))], []) S1 Q := by
          intro x e
          refine px_P.sn 1 (f1 := (63, [(0, .ref m), (1, .int (nI p)), (2, .int (nI u)), (3, .int x), (4, .int (nI (64 * p + i)))], [.int 0])) (S1 := S1) rfl ?_
          exact tail false x e
        show px_P _ _ (8, [(0, .ref m), (1, .int (nI p)), (2, .int (nI u)), (3, .int (bif b then 1 else 0)), (4, .int (nI (64 * p + i)))], []) S1 _
        have r8 : S1.1 (m + 8) = some (.inl (0, 96, .inl (A 8))) := h.2 8 (by decide) (by decide)
        have r9 : S1.1 (m + 9) = some (.inl (0, 6144, .inl (A 9))) := h.2 9 (by decide) (by decide)
        have r10 : S1.1 (m + 10) = some (.inl (0, 6144, .inl (A 10))) := h.2 10 (by decide) (by decide)
        refine px_P.sn 2 (f1 := (10, [(0, .ref m), (1, .int (nI p)), (2, .int (nI u)), (3, .int (bif b then 1 else 0)), (4, .int (nI (64 * p + i)))], [.int (nI p), .ref m])) (S1 := S1) rfl ?_
        refine px_P.cv rfl rfl rfl (by assumption) rfl ?_
        show px_M _ px_m_Model_isRead [.ref m, .int (nI p)] S1 _
        refine pm_moIsRead (by omega) hp h ?_
        rw [hrd]
        show px_P _ _ (13, [(0, .ref m), (1, .int (nI p)), (2, .int (nI u)), (3, .int (bif b then 1 else 0)), (4, .int (nI (64 * p + i)))], [.int 1]) S1 _
        refine px_P.if_eq rfl rfl (fun h => absurd h ((by decide))) (fun _ => ?_)
        refine px_P.sn 5 (f1 := (23, [(0, .ref m), (1, .int (nI p)), (2, .int (nI u)), (3, .int (bif b then 1 else 0)), (4, .int (nI (64 * p + i)))], [.ref m, .int (64 * (nI p)), .int (nI (64 * p + i))])) (S1 := S1) rfl ?_
        refine px_P.gf rfl rfl (by assumption) (v := .ref (m + 8)) rfl ?_
        refine px_P.sn 1 (f1 := (27, [(0, .ref m), (1, .int (nI p)), (2, .int (nI u)), (3, .int (bif b then 1 else 0)), (4, .int (nI (64 * p + i)))], [.int (nI p), .ref (m + 8), .int (64 * (nI p)), .int (nI (64 * p + i))])) (S1 := S1) rfl ?_
        refine px_P.ialdj (j := p) rfl (by assumption) rfl (by omega) (by decide) ?_
        rw [hst.1]
        refine px_P.sn 1 (f1 := (29, [(0, .ref m), (1, .int (nI p)), (2, .int (nI u)), (3, .int (bif b then 1 else 0)), (4, .int (nI (64 * p + i)))], [.int ((64 * (nI p)) + (nI (ln_n s))), .int (nI (64 * p + i))])) (S1 := S1) rfl ?_
        rw [show (64 : Int32) * nI p + nI (ln_n s) = nI (64 * p + ln_n s) by rw [show (64 : Int32) = nI 64 from rfl, pk_mul, nI_add]]
        refine px_P.ic_ge rfl rfl (fun h => absurd h (nI_ge (by omega) (by omega))) (fun _ => ?_)
        refine px_P.sn 1 (f1 := (33, [(0, .ref m), (1, .int (nI p)), (2, .int (nI u)), (3, .int (bif b then 1 else 0)), (4, .int (nI (64 * p + i)))], [.int (bif b then 1 else 0)])) (S1 := S1) rfl ?_
        cases b with
        | true =>
          show px_P _ _ (33, [(0, .ref m), (1, .int (nI p)), (2, .int (nI u)), (3, .int 1), (4, .int (nI (64 * p + i)))], [.int 1]) S1 _
          refine px_P.if_ne rfl rfl (fun _ => ?_) (fun h => absurd h ((by decide)))
          exact yes 1 rfl
        | false =>
          show px_P _ _ (33, [(0, .ref m), (1, .int (nI p)), (2, .int (nI u)), (3, .int 0), (4, .int (nI (64 * p + i)))], [.int 0]) S1 _
          refine px_P.if_ne rfl rfl (fun h => absurd ((by decide)) h) (fun _ => ?_)
          refine px_P.sn 1 (f1 := (37, [(0, .ref m), (1, .int (nI p)), (2, .int (nI u)), (3, .int 0), (4, .int (nI (64 * p + i)))], [.ref m])) (S1 := S1) rfl ?_
          refine px_P.gf rfl rfl (by assumption) (v := .ref (m + 9)) rfl ?_
          refine px_P.sn 1 (f1 := (42, [(0, .ref m), (1, .int (nI p)), (2, .int (nI u)), (3, .int 0), (4, .int (nI (64 * p + i)))], [.int (nI (64 * p + i)), .ref (m + 9)])) (S1 := S1) rfl ?_
          refine px_P.ialdj (j := 64 * p + i) rfl (by assumption) rfl (by omega) (by decide) ?_
          rw [s9]
          refine px_P.sn 1 (f1 := (44, [(0, .ref m), (1, .int (nI p)), (2, .int (nI u)), (3, .int 0), (4, .int (nI (64 * p + i)))], [.int 2, .int (nI ((ln_st s i).1 + 1))])) (S1 := S1) rfl ?_
          have h8 := hok.1
          by_cases h1 : (ln_st s i).1 = 1
          · refine px_P.ic_ne rfl rfl (fun h => absurd ((by rw [h1]; rfl)) h) (fun _ => ?_)
            refine px_P.sn 1 (f1 := (48, [(0, .ref m), (1, .int (nI p)), (2, .int (nI u)), (3, .int 0), (4, .int (nI (64 * p + i)))], [.ref m])) (S1 := S1) rfl ?_
            refine px_P.gf rfl rfl (by assumption) (v := .ref (m + 10)) rfl ?_
            refine px_P.sn 1 (f1 := (53, [(0, .ref m), (1, .int (nI p)), (2, .int (nI u)), (3, .int 0), (4, .int (nI (64 * p + i)))], [.int (nI (64 * p + i)), .ref (m + 10)])) (S1 := S1) rfl ?_
            refine px_P.ialdj (j := 64 * p + i) rfl (by assumption) rfl (by omega) (by decide) ?_
            have ew : wth (ln_st s i) = (ln_st s i).2.1 := if_pos (by omega)
            rw [s10, ew]
            refine px_P.sn 1 (f1 := (55, [(0, .ref m), (1, .int (nI p)), (2, .int (nI u)), (3, .int 0), (4, .int (nI (64 * p + i)))], [.int (nI u), .int (nI (ln_st s i).2.1)])) (S1 := S1) rfl ?_
            have h208 := hok.2.2.1 h1
            refine px_P.ic_ne rfl rfl (fun z => ?_) (fun z => ?_)
            · exact no 0 (by rw [decide_eq_false (show ¬ (ln_st s i).2.1 = u from fun e => z (by rw [e])), Bool.and_false]; rfl)
            · exact yes 0 (by rw [decide_eq_true h1, decide_eq_true (nI_inj208 h208 hu z)]; rfl)
          · refine px_P.ic_ne rfl rfl (fun _ => ?_) (fun h => absurd h ((fun z => h1 (by have := (nI_eq (b := 2) (by omega) (by decide)).mp z; omega))))
            exact no 0 (by rw [decide_eq_false h1]; rfl))
      (by
        intro b S1 ⟨hS, hb⟩
        subst hS
        show px_P _ _ (8, [(0, .ref m), (1, .int (nI p)), (2, .int (nI u)), (3, .int (bif b then 1 else 0)), (4, .int (nI (64 * p + ln_n s)))], []) S1 _
        have r8 : S1.1 (m + 8) = some (.inl (0, 96, .inl (A 8))) := h.2 8 (by decide) (by decide)
        refine px_P.sn 2 (f1 := (10, [(0, .ref m), (1, .int (nI p)), (2, .int (nI u)), (3, .int (bif b then 1 else 0)), (4, .int (nI (64 * p + ln_n s)))], [.int (nI p), .ref m])) (S1 := S1) rfl ?_
        refine px_P.cv rfl rfl rfl (by assumption) rfl ?_
        show px_M _ px_m_Model_isRead [.ref m, .int (nI p)] S1 _
        refine pm_moIsRead (by omega) hp h ?_
        rw [hrd]
        show px_P _ _ (13, [(0, .ref m), (1, .int (nI p)), (2, .int (nI u)), (3, .int (bif b then 1 else 0)), (4, .int (nI (64 * p + ln_n s)))], [.int 1]) S1 _
        refine px_P.if_eq rfl rfl (fun h => absurd h ((by decide))) (fun _ => ?_)
        refine px_P.sn 5 (f1 := (23, [(0, .ref m), (1, .int (nI p)), (2, .int (nI u)), (3, .int (bif b then 1 else 0)), (4, .int (nI (64 * p + ln_n s)))], [.ref m, .int (64 * (nI p)), .int (nI (64 * p + ln_n s))])) (S1 := S1) rfl ?_
        refine px_P.gf rfl rfl (by assumption) (v := .ref (m + 8)) rfl ?_
        refine px_P.sn 1 (f1 := (27, [(0, .ref m), (1, .int (nI p)), (2, .int (nI u)), (3, .int (bif b then 1 else 0)), (4, .int (nI (64 * p + ln_n s)))], [.int (nI p), .ref (m + 8), .int (64 * (nI p)), .int (nI (64 * p + ln_n s))])) (S1 := S1) rfl ?_
        refine px_P.ialdj (j := p) rfl (by assumption) rfl (by omega) (by decide) ?_
        rw [hst.1]
        refine px_P.sn 1 (f1 := (29, [(0, .ref m), (1, .int (nI p)), (2, .int (nI u)), (3, .int (bif b then 1 else 0)), (4, .int (nI (64 * p + ln_n s)))], [.int ((64 * (nI p)) + (nI (ln_n s))), .int (nI (64 * p + ln_n s))])) (S1 := S1) rfl ?_
        rw [show (64 : Int32) * nI p + nI (ln_n s) = nI (64 * p + ln_n s) by rw [show (64 : Int32) = nI 64 from rfl, pk_mul, nI_add]]
        refine px_P.ic_ge rfl rfl (fun _ => ?_) (fun h => absurd (Int32.le_refl _) h)
        exact out b _ (rs_fin hw hp hs (c := fun t => decide (t = u)) hb))
    exact lp (ln_n s) 0 (by omega) false S ⟨rfl, fun z => (by cases z), fun ⟨j, hj, _⟩ => absurd hj (by omega)⟩
