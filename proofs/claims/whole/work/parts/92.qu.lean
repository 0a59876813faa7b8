/-! ===== the model: circles ===== -/
def oneb (A : Nat → Nat → Int32) (s t : Nat) : Bool := decide (s = t) || (hb A s t && hb A t s)
theorem pm_moAreOne {d m s t : Nat} {q : Nat → Int32} {A : Nat → Nat → Int32} {S : px_S} {Q : Option Value → px_S → Prop} (hd : 1 ≤ d) (hs : s < 208) (ht : t < 208) (h : mo_at S m q A) (k : Q (some (.int (bif oneb A s t then 1 else 0))) S) : px_M d px_m_Model_areOne [.ref m, .int (nI s), .int (nI t)] S Q := by
  have c0 := h.1
  have yes : oneb A s t = true → px_P (d - 1) px_m_Model_areOne (35, [(0, .ref m), (1, .int (nI s)), (2, .int (nI t))], []) S Q := by
    intro e
    rw [e] at k
    refine px_P.sn 2 (f1 := (40, [(0, .ref m), (1, .int (nI s)), (2, .int (nI t))], [.int 1])) (S1 := S) rfl ?_
    refine px_P.ret rfl ?_
    exact k
  have no : oneb A s t = false → px_P (d - 1) px_m_Model_areOne (39, [(0, .ref m), (1, .int (nI s)), (2, .int (nI t))], []) S Q := by
    intro e
    rw [e] at k
    refine px_P.sn 1 (f1 := (40, [(0, .ref m), (1, .int (nI s)), (2, .int (nI t))], [.int 0])) (S1 := S) rfl ?_
    refine px_P.ret rfl ?_
    exact k
  have r21 : S.1 (m + 21) = some (.inl (2, 43264, .inl (A 21))) := h.2 21 (by decide) (by decide)
  refine px_M.go (by omega) (Nat.le_of_ble_eq_true rfl) ?_
  refine px_P.sn 2 (f1 := (2, [(0, .ref m), (1, .int (nI s)), (2, .int (nI t))], [.int (nI t), .int (nI s)])) (S1 := S) rfl ?_
  refine px_P.ic_eq rfl rfl (fun z => ?_) (fun z => ?_)
  · exact yes (by unfold oneb; rw [decide_eq_true (nI_inj208 hs ht z)]; rfl)
  · have ne : ¬ s = t := fun e => z (by rw [e])
    refine px_P.sn 1 (f1 := (6, [(0, .ref m), (1, .int (nI s)), (2, .int (nI t))], [.ref m])) (S1 := S) rfl ?_
    refine px_P.gf rfl rfl (by assumption) (v := .ref (m + 21)) rfl ?_
    refine px_P.sn 5 (f1 := (16, [(0, .ref m), (1, .int (nI s)), (2, .int (nI t))], [.int ((208 * (nI s)) + (nI t)), .ref (m + 21)])) (S1 := S) rfl ?_
    rw [e208]
    refine px_P.zaldj (j := 208 * s + t) rfl (by assumption) rfl (by omega) (by decide) ?_
    refine px_P.if_eq rfl rfl (fun z1 => ?_) (fun z1 => ?_)
    · exact no (by unfold oneb; rw [decide_eq_false ne, show hb A s t = false from decide_eq_false (fun w => w z1)]; rfl)
    · refine px_P.sn 1 (f1 := (21, [(0, .ref m), (1, .int (nI s)), (2, .int (nI t))], [.ref m])) (S1 := S) rfl ?_
      refine px_P.gf rfl rfl (by assumption) (v := .ref (m + 21)) rfl ?_
      refine px_P.sn 5 (f1 := (31, [(0, .ref m), (1, .int (nI s)), (2, .int (nI t))], [.int ((208 * (nI t)) + (nI s)), .ref (m + 21)])) (S1 := S) rfl ?_
      rw [e208]
      refine px_P.zaldj (j := 208 * t + s) rfl (by assumption) rfl (by omega) (by decide) ?_
      refine px_P.if_eq rfl rfl (fun z2 => ?_) (fun z2 => ?_)
      · exact no (by unfold oneb; rw [decide_eq_false ne, show hb A t s = false from decide_eq_false (fun w => w z2), Bool.and_false]; rfl)
      · exact yes (by unfold oneb; rw [show hb A s t = true from decide_eq_true z1, show hb A t s = true from decide_eq_true z2]; simp)
def lsp (e : Nat → Bool) (s v : Nat) : Prop := v ≤ s ∧ e v = true ∧ ∀ t, t < v → e t = false
theorem pm_moLeast {d m s : Nat} {q : Nat → Int32} {A : Nat → Nat → Int32} {S : px_S} {Q : Option Value → px_S → Prop} (hd : 2 ≤ d) (hs : s < 208) (h : mo_at S m q A) (k : ∀ v, lsp (oneb A s) s v → Q (some (.int (nI v))) S) : px_M d px_m_Model_leastOf [.ref m, .int (nI s)] S Q := by
  have c0 := h.1
  have lp : ∀ (j v : Nat), j ≤ s → j ≤ v → v ≤ s → oneb A s v = true → (∀ t, j < t → t < v → oneb A s t = false) → px_P (d - 1) px_m_Model_leastOf (4, [(0, .ref m), (1, .int (nI s)), (2, .int (nI v)), (3, .int (nI j))], []) S Q := by
    intro j
    induction j with
    | zero =>
      intro v hj hv0 hv h1 h2
      have out : ∀ w : Nat, lsp (oneb A s) s w → px_P (d - 1) px_m_Model_leastOf (22, [(0, .ref m), (1, .int (nI s)), (2, .int (nI v)), (3, .int (nI 0))], [.int (nI w)]) S Q := by
        intro w hw
        refine px_P.sn 3 (f1 := (4, [(0, .ref m), (1, .int (nI s)), (2, .int (nI w)), (3, .int ((nI 0) + (-1)))], [])) (S1 := S) rfl ?_
        refine px_P.sn 1 (f1 := (5, [(0, .ref m), (1, .int (nI s)), (2, .int (nI w)), (3, .int ((nI 0) + (-1)))], [.int ((nI 0) + (-1))])) (S1 := S) rfl ?_
        refine px_P.if_lt rfl rfl (fun _ => ?_) (fun h => absurd ((by decide)) h)
        refine px_P.sn 1 (f1 := (30, [(0, .ref m), (1, .int (nI s)), (2, .int (nI w)), (3, .int ((nI 0) + (-1)))], [.int (nI w)])) (S1 := S) rfl ?_
        refine px_P.ret rfl ?_
        exact k w hw
      refine px_P.sn 1 (f1 := (5, [(0, .ref m), (1, .int (nI s)), (2, .int (nI v)), (3, .int (nI 0))], [.int (nI 0)])) (S1 := S) rfl ?_
      refine px_P.if_lt rfl rfl (fun h => absurd h ((by decide))) (fun _ => ?_)
      refine px_P.sn 3 (f1 := (11, [(0, .ref m), (1, .int (nI s)), (2, .int (nI v)), (3, .int (nI 0))], [.int (nI 0), .int (nI s), .ref m])) (S1 := S) rfl ?_
      refine px_P.cv rfl rfl rfl (by assumption) rfl ?_
      show px_M _ px_m_Model_areOne [.ref m, .int (nI s), .int (nI 0)] S _
      refine pm_moAreOne (by omega) hs (by omega) h ?_
      cases hz : oneb A s 0 with
      | true =>
        show px_P _ _ (14, [(0, .ref m), (1, .int (nI s)), (2, .int (nI v)), (3, .int (nI 0))], [.int 1]) S _
        show px_P _ _ (14, [(0, .ref m), (1, .int (nI s)), (2, .int (nI v)), (3, .int (nI 0))], [.int 1]) S _
        refine px_P.if_eq rfl rfl (fun h => absurd h ((by decide))) (fun _ => ?_)
        refine px_P.sn 2 (f1 := (22, [(0, .ref m), (1, .int (nI s)), (2, .int (nI v)), (3, .int (nI 0))], [.int (nI 0)])) (S1 := S) rfl ?_
        exact out 0 ⟨by omega, hz, fun t ht => absurd ht (by omega)⟩
      | false =>
        show px_P _ _ (14, [(0, .ref m), (1, .int (nI s)), (2, .int (nI v)), (3, .int (nI 0))], [.int 0]) S _
        show px_P _ _ (14, [(0, .ref m), (1, .int (nI s)), (2, .int (nI v)), (3, .int (nI 0))], [.int 0]) S _
        refine px_P.if_eq rfl rfl (fun _ => ?_) (fun h => absurd ((by decide)) h)
        refine px_P.sn 1 (f1 := (22, [(0, .ref m), (1, .int (nI s)), (2, .int (nI v)), (3, .int (nI 0))], [.int (nI v)])) (S1 := S) rfl ?_
        refine out v ⟨hv, h1, fun t ht => ?_⟩
        by_cases e : t = 0
        · rw [e]; exact hz
        · exact h2 t (by omega) ht
    | succ j ih =>
      intro v hj hv0 hv h1 h2
      have out : ∀ w : Nat, j ≤ w → w ≤ s → oneb A s w = true → (∀ t, j < t → t < w → oneb A s t = false) → px_P (d - 1) px_m_Model_leastOf (22, [(0, .ref m), (1, .int (nI s)), (2, .int (nI v)), (3, .int (nI (j + 1)))], [.int (nI w)]) S Q := by
        intro w w0 w1 w2 w3
        refine px_P.sn 3 (f1 := (4, [(0, .ref m), (1, .int (nI s)), (2, .int (nI w)), (3, .int ((nI (j + 1)) + (-1)))], [])) (S1 := S) rfl ?_
        rw [pk_m1]
        exact ih w (by omega) w0 w1 w2 w3
      refine px_P.sn 1 (f1 := (5, [(0, .ref m), (1, .int (nI s)), (2, .int (nI v)), (3, .int (nI (j + 1)))], [.int (nI (j + 1))])) (S1 := S) rfl ?_
      refine px_P.if_lt rfl rfl (fun h => absurd h (nI_pos (by omega))) (fun _ => ?_)
      refine px_P.sn 3 (f1 := (11, [(0, .ref m), (1, .int (nI s)), (2, .int (nI v)), (3, .int (nI (j + 1)))], [.int (nI (j + 1)), .int (nI s), .ref m])) (S1 := S) rfl ?_
      refine px_P.cv rfl rfl rfl (by assumption) rfl ?_
      show px_M _ px_m_Model_areOne [.ref m, .int (nI s), .int (nI (j + 1))] S _
      refine pm_moAreOne (by omega) hs (by omega) h ?_
      cases hz : oneb A s (j + 1) with
      | true =>
        show px_P _ _ (14, [(0, .ref m), (1, .int (nI s)), (2, .int (nI v)), (3, .int (nI (j + 1)))], [.int 1]) S _
        show px_P _ _ (14, [(0, .ref m), (1, .int (nI s)), (2, .int (nI v)), (3, .int (nI (j + 1)))], [.int 1]) S _
        refine px_P.if_eq rfl rfl (fun h => absurd h ((by decide))) (fun _ => ?_)
        refine px_P.sn 2 (f1 := (22, [(0, .ref m), (1, .int (nI s)), (2, .int (nI v)), (3, .int (nI (j + 1)))], [.int (nI (j + 1))])) (S1 := S) rfl ?_
        exact out (j + 1) (by omega) hj hz (fun t t1 t2 => absurd t1 (by omega))
      | false =>
        show px_P _ _ (14, [(0, .ref m), (1, .int (nI s)), (2, .int (nI v)), (3, .int (nI (j + 1)))], [.int 0]) S _
        show px_P _ _ (14, [(0, .ref m), (1, .int (nI s)), (2, .int (nI v)), (3, .int (nI (j + 1)))], [.int 0]) S _
        refine px_P.if_eq rfl rfl (fun _ => ?_) (fun h => absurd ((by decide)) h)
        refine px_P.sn 1 (f1 := (22, [(0, .ref m), (1, .int (nI s)), (2, .int (nI v)), (3, .int (nI (j + 1)))], [.int (nI v)])) (S1 := S) rfl ?_
        refine out v (by omega) hv h1 (fun t t1 t2 => ?_)
        by_cases e : t = j + 1
        · rw [e]; exact hz
        · exact h2 t (by omega) t2
  refine px_M.go (by omega) (Nat.le_of_ble_eq_true rfl) ?_
  refine px_P.sn 4 (f1 := (4, [(0, .ref m), (1, .int (nI s)), (2, .int (nI s)), (3, .int (nI s))], [])) (S1 := S) rfl ?_
  exact lp s s (Nat.le_refl _) (Nat.le_refl _) (Nat.le_refl _) (by unfold oneb; rw [decide_eq_true rfl]; rfl) (fun t t1 t2 => absurd t1 (by omega))
theorem pm_moSize {d m s : Nat} {q : Nat → Int32} {A : Nat → Nat → Int32} {S : px_S} {Q : Option Value → px_S → Prop} (hd : 2 ≤ d) (hs : s < 208) (h : mo_at S m q A) (k : Q (some (.int (nI (ct (oneb A s) 208)))) S) : px_M d px_m_Model_sizeOf [.ref m, .int (nI s)] S Q := by
  have c0 := h.1
  have lp := px_for (d := d - 1) (mi := px_m_Model_sizeOf) (Q := Q) (X := Unit) 208 (fun i _ => (4, [(0, .ref m), (1, .int (nI s)), (2, .int (nI (ct (oneb A s) i))), (3, .int (nI i))], []))
    (fun _ _ S' => S' = S)
    (by
      intro i hi _ S1 hS kk
      subst hS
      have hk := kk () S1 rfl
      generalize hx : ct (oneb A s) i = x at hk ⊢
      show px_P _ _ (4, [(0, .ref m), (1, .int (nI s)), (2, .int (nI x)), (3, .int (nI i))], []) S1 _
      refine px_P.sn 2 (f1 := (8, [(0, .ref m), (1, .int (nI s)), (2, .int (nI x)), (3, .int (nI i))], [.int 208, .int (nI i)])) (S1 := S1) rfl ?_
      refine px_P.ic_ge rfl rfl (fun h => absurd h (nI_ge (b := 208) hi (by decide))) (fun _ => ?_)
      refine px_P.sn 3 (f1 := (14, [(0, .ref m), (1, .int (nI s)), (2, .int (nI x)), (3, .int (nI i))], [.int (nI i), .int (nI s), .ref m])) (S1 := S1) rfl ?_
      refine px_P.cv rfl rfl rfl (by assumption) rfl ?_
      show px_M _ px_m_Model_areOne [.ref m, .int (nI s), .int (nI i)] S1 _
      refine pm_moAreOne (by omega) hs hi h ?_
      cases hz : oneb A s i with
      | true =>
        rw [ct_s (p := oneb A s) (n := i) hz, hx] at hk
        show px_P _ _ (17, [(0, .ref m), (1, .int (nI s)), (2, .int (nI x)), (3, .int (nI i))], [.int 1]) S1 _
        show px_P _ _ (17, [(0, .ref m), (1, .int (nI s)), (2, .int (nI x)), (3, .int (nI i))], [.int 1]) S1 _
        refine px_P.if_eq rfl rfl (fun h => absurd h ((by decide))) (fun _ => ?_)
        refine px_P.sn 7 (f1 := (4, [(0, .ref m), (1, .int (nI s)), (2, .int ((nI x) + 1)), (3, .int ((nI i) + 1))], [])) (S1 := S1) rfl ?_
        rw [nI_1, nI_1]
        exact hk
      | false =>
        rw [ct_z (p := oneb A s) (n := i) hz, hx] at hk
        show px_P _ _ (17, [(0, .ref m), (1, .int (nI s)), (2, .int (nI x)), (3, .int (nI i))], [.int 0]) S1 _
        show px_P _ _ (17, [(0, .ref m), (1, .int (nI s)), (2, .int (nI x)), (3, .int (nI i))], [.int 0]) S1 _
        refine px_P.if_eq rfl rfl (fun _ => ?_) (fun h => absurd ((by decide)) h)
        refine px_P.sn 4 (f1 := (4, [(0, .ref m), (1, .int (nI s)), (2, .int (nI x)), (3, .int ((nI i) + 1))], [])) (S1 := S1) rfl ?_
        rw [nI_1]
        exact hk)
    (by
      intro _ S1 hS
      subst hS
      show px_P _ _ (4, [(0, .ref m), (1, .int (nI s)), (2, .int (nI (ct (oneb A s) 208))), (3, .int (nI 208))], []) S1 _
      refine px_P.sn 2 (f1 := (8, [(0, .ref m), (1, .int (nI s)), (2, .int (nI (ct (oneb A s) 208))), (3, .int (nI 208))], [.int 208, .int (nI 208)])) (S1 := S1) rfl ?_
      refine px_P.ic_ge rfl rfl (fun _ => ?_) (fun h => absurd ((by decide)) h)
      refine px_P.sn 1 (f1 := (35, [(0, .ref m), (1, .int (nI s)), (2, .int (nI (ct (oneb A s) 208))), (3, .int (nI 208))], [.int (nI (ct (oneb A s) 208))])) (S1 := S1) rfl ?_
      refine px_P.ret rfl ?_
      exact k)
  refine px_M.go (by omega) (Nat.le_of_ble_eq_true rfl) ?_
  refine px_P.sn 4 (f1 := (4, [(0, .ref m), (1, .int (nI s)), (2, .int 0), (3, .int 0)], [])) (S1 := S) rfl ?_
  exact lp 208 0 rfl () S rfl
/-! what both sides know of circles -/
theorem tc_un {r h h' : Nat → Nat → Prop} (a : tc_is r h) (b : tc_is r h') (s t : Nat) : h s t ↔ h' s t := ⟨a.2.2 h' b.1 b.2.1 s t, b.2.2 h a.1 a.2.1 s t⟩
theorem knw_hb {A : Nat → Nat → Int32} {L : Nat → Option ln_S} {H : Nat → Nat → Int64} (h : knw A L) (k : tc_is (rd L) (hr H)) {s t : Nat} (hs : s < 208) (ht : t < 208) : hb A s t = ss_in (H s) t := by
  have e := tc_un h.2 k s t
  apply Bool.eq_iff_iff.mpr
  unfold hb bz
  rw [decide_eq_true_eq]
  constructor
  · intro w
    have : A 21 (208 * s + t) = 1 := by
      rcases h.1 (208 * s + t) (by omega) with z | z
      · exact absurd z w
      · exact z
    exact (e.mp ⟨hs, ht, this⟩).2.2
  · intro w
    have := (e.mpr ⟨hs, ht, w⟩).2.2
    rw [this]
    decide
theorem lsf_is {q : Nat → Bool} {s : Nat} : ∀ n, (lsf q s n < n ∧ q (lsf q s n) = true ∧ ∀ t, t < lsf q s n → q t = false) ∨ (lsf q s n = s ∧ ∀ t, t < n → q t = false)
  | 0 => Or.inr ⟨rfl, fun t ht => absurd ht (by omega)⟩
  | n + 1 => by
    rcases lsf_is (q := q) (s := s) n with ⟨h1, h2, h3⟩ | ⟨h1, h2⟩
    · have hc : ¬ (ct q n = 0 ∧ q n = true) := fun z => by
        have := ct_zero.mp z.1 _ h1
        rw [h2] at this
        cases this
      have e : lsf q s (n + 1) = lsf q s n := by
        show (if _ then _ else _) = _
        rw [if_neg hc]
      rw [e]
      exact Or.inl ⟨by omega, h2, h3⟩
    · by_cases hq : q n = true
      · have e : lsf q s (n + 1) = n := by
          show (if _ then _ else _) = _
          rw [if_pos ⟨ct_zero.mpr h2, hq⟩]
        rw [e]
        exact Or.inl ⟨by omega, hq, h2⟩
      · have e : lsf q s (n + 1) = lsf q s n := lsf_z (Bool.eq_false_iff.mpr hq)
        rw [e]
        refine Or.inr ⟨h1, fun t ht => ?_⟩
        by_cases et : t = n
        · rw [et]; exact Bool.eq_false_iff.mpr hq
        · exact h2 t (by omega)
theorem lsp_lsf {A : Nat → Nat → Int32} {L : Nat → Option ln_S} {H : Nat → Nat → Int64} {s v : Nat} (h : knw A L) (k : tc_is (rd L) (hr H)) (hs : s < 208) (hl : lsp (oneb A s) s v) : v = lsf (bo H s) s s := by
  have eb : ∀ t, t < s → oneb A s t = bo H s t := by
    intro t ht
    unfold oneb bo
    rw [decide_eq_false (by omega), Bool.false_or, knw_hb h k hs (by omega), knw_hb h k (by omega) hs]
  obtain ⟨v1, v2, v3⟩ := hl
  rcases lsf_is (q := bo H s) (s := s) s with ⟨h1, h2, h3⟩ | ⟨h1, h2⟩
  · generalize lsf (bo H s) s s = w at *
    rcases Nat.lt_trichotomy v w with z | z | z
    · rw [eb v (by omega), h3 v z] at v2; cases v2
    · exact z
    · have := v3 w z
      rw [eb w h1, h2] at this
      cases this
  · rw [h1]
    by_cases e : v = s
    · exact e
    · rw [eb v (by omega), h2 v (by omega)] at v2; cases v2
