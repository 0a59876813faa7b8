/-! ===== Circles ===== -/
def ci_at (S : px_S) (c : Nat) (H : Nat → Nat → Int64) (ls df : Nat → Int32) (ds cc sc : Nat) : Prop :=
  S.1 c = some (.inr (0, [.ref (c + 1), .ref (c + 2), .ref (c + 3), .int (nI ds), .int (nI cc), .int (nI sc)])) ∧ (∃ hf : Nat → Option Nat, S.1 (c + 1) = some (.inl (5, 208, .inr (.inr (.inr (.inr hf))))) ∧ ∀ j, j < 208 → hf j = some (c + 4 + 2 * j)) ∧
  S.1 (c + 2) = some (.inl (0, 208, .inl ls)) ∧ S.1 (c + 3) = some (.inl (0, 208, .inl df)) ∧ ∀ j, j < 208 → S.1 (c + 4 + 2 * j) = some (.inr (6, [.ref (c + 5 + 2 * j)])) ∧ S.1 (c + 5 + 2 * j) = some (.inl (1, 4, .inr (.inl (H j))))
theorem ci_at.keep {S S' : px_S} {c ds cc sc : Nat} {H : Nat → Nat → Int64} {ls df : Nat → Int32} (a : ci_at S c H ls df ds cc sc) (hk : ∀ q, c ≤ q → q < c + 420 → S'.1 q = S.1 q) : ci_at S' c H ls df ds cc sc := by
  obtain ⟨a0, ⟨hf, a1, a2⟩, a3, a4, a5⟩ := a
  exact ⟨(hk _ (by omega) (by omega)).trans a0, ⟨hf, (hk _ (by omega) (by omega)).trans a1, a2⟩, (hk _ (by omega) (by omega)).trans a3, (hk _ (by omega) (by omega)).trans a4, fun j hj => ⟨(hk _ (by omega) (by omega)).trans (a5 j hj).1, (hk _ (by omega) (by omega)).trans (a5 j hj).2⟩⟩
/-- one set of it has changed -/
theorem ci_at.set {S S' : px_S} {c ds cc sc s : Nat} {H : Nat → Nat → Int64} {ls df : Nat → Int32} {g : Nat → Int64} (a : ci_at S c H ls df ds cc sc) (hs : s < 208) (u : px_Up S S' (c + 5 + 2 * s) (.inl (1, 4, .inr (.inl g)))) : ci_at S' c (va_up H s g) ls df ds cc sc := by
  obtain ⟨a0, ⟨hf, a1, a2⟩, a3, a4, a5⟩ := a
  refine ⟨u.n a0 (by omega), ⟨hf, u.n a1 (by omega), a2⟩, u.n a3 (by omega), u.n a4 (by omega), fun j hj => ⟨u.n (a5 j hj).1 (by omega), ?_⟩⟩
  by_cases e : j = s
  · subst e
    simp only [va_up, if_true]
    exact u.s
  · simp only [va_up, if_neg e]
    exact u.n (a5 j hj).2 (by omega)
theorem ct_ex {p : Nat → Bool} {m : Nat} : ∀ {n : Nat}, m < ct p n → ∃ s, s < n ∧ p s = true ∧ ct p s = m
  | 0, h => absurd h (by simp [ct])
  | n + 1, h => by
    cases hp : p n with
    | true =>
      rw [ct_s hp] at h
      by_cases e : ct p n = m
      · exact ⟨n, by omega, hp, e⟩
      · obtain ⟨s, h1, h2⟩ := ct_ex (p := p) (m := m) (n := n) (by omega)
        exact ⟨s, by omega, h2⟩
    | false =>
      rw [ct_z hp] at h
      obtain ⟨s, h1, h2⟩ := ct_ex (p := p) (m := m) (n := n) h
      exact ⟨s, by omega, h2⟩
theorem ct_mono {p : Nat → Bool} {a b : Nat} (h : a ≤ b) : ct p a ≤ ct p b := by
  induction h with
  | refl => exact Nat.le_refl _
  | step _ ih =>
    rename_i m _
    cases hp : p m with
    | true => rw [ct_s hp]; omega
    | false => rw [ct_z hp]; exact ih
theorem ct_lt {p : Nat → Bool} {a b : Nat} (h : a < b) (hp : p a = true) : ct p a < ct p b := by
  have h1 := ct_mono (p := p) (show a + 1 ≤ b from h)
  rw [ct_s hp] at h1
  omega
theorem pm_ciListed {d c y tT tD ds cc sc : Nat} {H : Nat → Nat → Int64} {ls df D : Nat → Int32} {S : px_S} {Q : Option Value → px_S → Prop} (hd : 3 ≤ d) (hc : ci_at S c H ls df ds cc sc) (hy : S.1 y = some (.inr (7, [.ref tT, .ref tD]))) (hD : S.1 tD = some (.inl (0, 208, .inl D))) (hyo : y < c ∨ c + 420 ≤ y) (hDo : tD < c ∨ c + 420 ≤ tD)
    (k : ∀ S' H' ls' df', ci_at S' c H' ls' df' (ct (fun s => decide (0 < D s)) 208) cc sc → (∀ s j, s < 208 → j < 4 → H' s j = 0) → (∀ s, s < 208 → ls' s = -1) → (∀ s, s < 208 → 0 < D s → df' (ct (fun s => decide (0 < D s)) s) = nI s) → (∀ q, (q < c ∨ c + 420 ≤ q) → S'.1 q = S.1 q) → S'.2 = S.2 → Q none S') :
    px_M d px_m_Circles_listDefined [.ref c, .ref y] S Q := by
  obtain ⟨p, hp⟩ : ∃ p : Nat → Bool, p = fun s => decide (0 < D s) := ⟨_, rfl⟩
  rw [← hp] at k
  have pT : ∀ s, 0 < D s → p s = true := fun s h => by rw [hp]; exact decide_eq_true h
  have pF : ∀ s, ¬ 0 < D s → p s = false := fun s h => by rw [hp]; exact decide_eq_false h
  have lp : ∀ (m i : Nat), i + m = 208 → ∀ (S1 : px_S) (H1 : Nat → Nat → Int64) (ls1 df1 : Nat → Int32), ci_at S1 c H1 ls1 df1 (ct p i) cc sc → (∀ s j, s < i → j < 4 → H1 s j = 0) → (∀ s, s < i → ls1 s = -1) → (∀ s, s < i → 0 < D s → df1 (ct p s) = nI s) → (∀ q, (q < c ∨ c + 420 ≤ q) → S1.1 q = S.1 q) → S1.2 = S.2 →
      px_P (d - 1) px_m_Circles_listDefined (7, [(0, .ref c), (1, .ref y), (2, .int (nI i))], []) S1 Q := by
    intro m
    induction m with
    | zero =>
      intro i hi S1 H1 ls1 df1 h1 h2 h3 h4 h5 h6
      have hi2 : i = 208 := by omega
      subst hi2
      refine px_P.sn 2 (f1 := (11, [(0, .ref c), (1, .ref y), (2, .int (nI 208))], [.int 208, .int (nI 208)])) (S1 := S1) rfl ?_
      refine px_P.ic_ge rfl rfl (fun _ => ?_) (fun h => absurd (nI_le (a := 208) (by omega) (by omega)) h)
      refine px_P.ret rfl ?_
      exact k S1 H1 ls1 df1 h1 h2 h3 h4 h5 h6
    | succ m ih =>
      intro i hi S1 H1 ls1 df1 h1 h2 h3 h4 h5 h6
      have h1' := h1
      obtain ⟨a0, ⟨hf, a1, a2⟩, a3, a4, a5⟩ := h1
      have hct := ct_le p i
      refine px_P.sn 2 (f1 := (11, [(0, .ref c), (1, .ref y), (2, .int (nI i))], [.int 208, .int (nI i)])) (S1 := S1) rfl ?_
      refine px_P.ic_ge rfl rfl (fun h => absurd h (nI_ge (b := 208) (by omega) (by decide))) (fun _ => ?_)
      refine px_P.sn 1 (f1 := (15, [(0, .ref c), (1, .ref y), (2, .int (nI i))], [.ref c])) (S1 := S1) rfl ?_
      refine px_P.gf rfl rfl (by assumption) (v := .ref (c + 1)) rfl ?_
      refine px_P.sn 1 (f1 := (19, [(0, .ref c), (1, .ref y), (2, .int (nI i))], [.int (nI i), .ref (c + 1)])) (S1 := S1) rfl ?_
      refine px_P.aaldj (j := i) rfl (by assumption) rfl rfl (by omega) (by decide) ?_
      rw [a2 i (by omega)]
      show px_P _ _ (20, [(0, .ref c), (1, .ref y), (2, .int (nI i))], [.ref (c + 4 + 2 * i)]) S1 _
      have g1 := (a5 i (by omega)).1
      have g2 := (a5 i (by omega)).2
      refine px_P.cv rfl rfl rfl (by assumption) rfl ?_
      show px_M _ px_m_SymbolSet_clear [.ref (c + 4 + 2 * i)] S1 _
      refine pm_ss_clear (by omega) (by omega) g1 g2 (fun S2 g u2 hz => ?_)
      obtain ⟨b0, ⟨hf2, b1, b2⟩, b3, b4, b5⟩ := h1'.set (by omega) u2
      show px_P _ _ (23, [(0, .ref c), (1, .ref y), (2, .int (nI i))], []) S2 _
      refine px_P.sn 1 (f1 := (24, [(0, .ref c), (1, .ref y), (2, .int (nI i))], [.ref c])) (S1 := S2) rfl ?_
      refine px_P.gf rfl rfl (by assumption) (v := .ref (c + 2)) rfl ?_
      refine px_P.sn 2 (f1 := (29, [(0, .ref c), (1, .ref y), (2, .int (nI i))], [.int (-1), .int (nI i), .ref (c + 2)])) (S1 := S2) rfl ?_
      refine px_P.iastj (j := i) rfl (by assumption) rfl (by omega) (by decide) (fun S3 u3 => ?_)
      have c0 := u3.n b0 (by omega)
      have c4 := u3.n b4 (by omega)
      have fr3 : ∀ q, (q < c ∨ c + 420 ≤ q) → S3.1 q = S.1 q := fun q hq => by rw [u3.o (by omega), u2.o (by omega)]; exact h5 q hq
      have hy3 := (fr3 y hyo).trans hy
      have t3 : S3.2 = S.2 := by rw [u3.t, u2.t, h6]
      refine px_P.sn 2 (f1 := (32, [(0, .ref c), (1, .ref y), (2, .int (nI i))], [.int (nI i), .ref y])) (S1 := S3) rfl ?_
      refine px_P.cv rfl rfl rfl (by assumption) rfl ?_
      show px_M _ px_m_Symbols_definersOf [.ref y, .int (nI i)] S3 _
      refine pm_definersOf (by omega) hy3 ((fr3 tD hDo).trans hD) (by omega) ?_
      show px_P _ _ (35, [(0, .ref c), (1, .ref y), (2, .int (nI i))], [.int (D i)]) S3 _
      have hH : ∀ s j, s < i + 1 → j < 4 → va_up H1 i g s j = 0 := by
        intro s j hs hj
        by_cases e : s = i
        · simp only [va_up, if_pos e]; exact hz j hj
        · simp only [va_up, if_neg e]; exact h2 s j (by omega) hj
      have hls : ∀ s, s < i + 1 → upd ls1 i (-1) s = -1 := by
        intro s hs
        by_cases e : s = i
        · subst e; exact pk_us
        · rw [pk_un e]; exact h3 s (by omega)
      refine px_P.if_le rfl rfl (fun hq => ?_) (fun hq => ?_)
      · refine px_P.sn 2 (f1 := (7, [(0, .ref c), (1, .ref y), (2, .int ((nI i) + 1))], [])) (S1 := S3) rfl ?_
        rw [nI_1]
        have hpf := pF i (Int32.not_lt.mpr hq)
        refine ih (i + 1) (by omega) S3 _ _ df1 ⟨?_, ⟨hf2, u3.n b1 (by omega), b2⟩, u3.s, c4, fun j hj => ⟨u3.n (b5 j hj).1 (by omega), u3.n (b5 j hj).2 (by omega)⟩⟩ hH hls (fun s hs h0 => ?_) fr3 t3
        · rw [ct_z hpf]; exact c0
        · by_cases e : s = i
          · subst e; exact absurd h0 (Int32.not_lt.mpr hq)
          · exact h4 s (by omega) h0
      · refine px_P.sn 1 (f1 := (39, [(0, .ref c), (1, .ref y), (2, .int (nI i))], [.ref c])) (S1 := S3) rfl ?_
        refine px_P.gf rfl rfl (by assumption) (v := .ref (c + 3)) rfl ?_
        refine px_P.sn 1 (f1 := (43, [(0, .ref c), (1, .ref y), (2, .int (nI i))], [.ref c, .ref (c + 3)])) (S1 := S3) rfl ?_
        refine px_P.gf rfl rfl (by assumption) (v := .int (nI (ct p i))) rfl ?_
        refine px_P.sn 1 (f1 := (47, [(0, .ref c), (1, .ref y), (2, .int (nI i))], [.int (nI i), .int (nI (ct p i)), .ref (c + 3)])) (S1 := S3) rfl ?_
        refine px_P.iastj (j := ct p i) rfl (by assumption) rfl (by omega) (by decide) (fun S4 u4 => ?_)
        have e0 := u4.n c0 (by omega)
        refine px_P.sn 2 (f1 := (50, [(0, .ref c), (1, .ref y), (2, .int (nI i))], [.ref c, .ref c])) (S1 := S4) rfl ?_
        refine px_P.gf rfl rfl (by assumption) (v := .int (nI (ct p i))) rfl ?_
        refine px_P.sn 2 (f1 := (55, [(0, .ref c), (1, .ref y), (2, .int (nI i))], [.int ((nI (ct p i)) + 1), .ref c])) (S1 := S4) rfl ?_
        refine px_P.pf rfl rfl (by assumption) rfl (fun S5 u5 => ?_)
        have e5 := u5.s
        refine px_P.sn 2 (f1 := (7, [(0, .ref c), (1, .ref y), (2, .int ((nI i) + 1))], [])) (S1 := S5) rfl ?_
        have hpt := pT i (Int32.not_le.mp hq)
        rw [nI_1]
        rw [nI_1, ← ct_s hpt] at e5
        refine ih (i + 1) (by omega) S5 _ _ _ ⟨e5, ⟨hf2, u5.n (u4.n (u3.n b1 (by omega)) (by omega)) (by omega), b2⟩, u5.n (u4.n u3.s (by omega)) (by omega), u5.n u4.s (by omega), fun j hj => ⟨u5.n (u4.n (u3.n (b5 j hj).1 (by omega)) (by omega)) (by omega), u5.n (u4.n (u3.n (b5 j hj).2 (by omega)) (by omega)) (by omega)⟩⟩ hH hls (fun s hs h0 => ?_) (fun q hq => by rw [u5.o (by omega), u4.o (by omega)]; exact fr3 q hq) (by rw [u5.t, u4.t, t3])
        by_cases e : s = i
        · subst e; exact pk_us
        · have := ct_lt (p := p) (show s < i by omega) (pT s h0)
          rw [pk_un (by omega)]; exact h4 s (by omega) h0
  obtain ⟨a0, ⟨hf, a1, a2⟩, a3, a4, a5⟩ := hc
  refine px_M.go (by omega) (Nat.le_of_ble_eq_true rfl) ?_
  refine px_P.sn 2 (f1 := (2, [(0, .ref c), (1, .ref y)], [.int 0, .ref c])) (S1 := S) rfl ?_
  refine px_P.pf rfl rfl (by assumption) rfl (fun S1 u1 => ?_)
  refine px_P.sn 2 (f1 := (7, [(0, .ref c), (1, .ref y), (2, .int 0)], [])) (S1 := S1) rfl ?_
  exact lp 208 0 rfl S1 H ls df ⟨u1.s, ⟨hf, u1.n a1 (by omega), a2⟩, u1.n a3 (by omega), u1.n a4 (by omega), fun j hj => ⟨u1.n (a5 j hj).1 (by omega), u1.n (a5 j hj).2 (by omega)⟩⟩ (fun s j hs => absurd hs (by omega)) (fun s hs => absurd hs (by omega)) (fun s hs => absurd hs (by omega)) (fun q hq => u1.o (by omega)) u1.t
