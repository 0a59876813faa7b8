/-! ===== the lines that there are: by address; by place ===== -/
theorem px_forE {d mi : Nat} {Q : Option Value → px_S → Prop} {X : Type} (p : Nat → Bool) (N : Nat) (F : Nat → X → px_F) (I : Nat → X → px_S → Prop) (skip : ∀ n, n < N → p n = false → ∀ y S, I n y S → I (n + 1) y S) (body : ∀ n, n < N → p n = true → ∀ y S, I n y S → (∀ y' S', I (n + 1) y' S' → px_P d mi (F (ct p n + 1) y') S' Q) → px_P d mi (F (ct p n) y) S Q) (fin : ∀ y S, I N y S → px_P d mi (F (ct p N) y) S Q) :
    ∀ (m n : Nat), n + m = N → ∀ y S, I n y S → px_P d mi (F (ct p n) y) S Q
  | 0, n, h, y, S, hi => by
    have e : n = N := by omega
    subst e
    exact fin y S hi
  | m + 1, n, h, y, S, hi => by
    cases hp : p n with
    | false =>
      have := px_forE p N F I skip body fin m (n + 1) (by omega) y S (skip n (by omega) hp y S hi)
      rw [ct_z hp] at this
      exact this
    | true =>
      refine body n (by omega) hp y S hi (fun y' S' hi' => ?_)
      have := px_forE p N F I skip body fin m (n + 1) (by omega) y' S' hi'
      rw [ct_s hp] at this
      exact this
theorem nI_neg {n : Nat} (h : n < 2 ^ 31) : ¬ nI n = -1 := by
  intro e
  have := nI_pos' h
  rw [e] at this
  exact absurd this (by decide)
/-- what is sure of a line that has been read -/
def ln_wf (s : ln_S) : Prop := ln_ok s ∧ (ln_df s = -1 ∨ ∃ t, t < 208 ∧ ln_df s = nI t) ∧ (ln_dc s = -1 ∨ ∃ m, m < 2 ^ 20 ∧ ln_dc s = nI m) ∧ (∀ j, j < ln_n s → xe_ok1 (ln_st s j) j) ∧
  (∀ t, t < 256 → (ss_in (ln_W s) t = true ↔ ∃ j, j < ln_n s ∧ (ln_st s j).1 = 1 ∧ (ln_st s j).2.1 = t)) ∧ (¬ ln_wr s = -1 → ln_df s = -1 ∧ ln_n s = 0) ∧ (ln_wr s = -1 → 0 < ln_n s)
abbrev ln_G : Type := Nat → Option (ln_S × ln_D)
def lo_at (S : px_S) (lo : Nat) (G : ln_G) : Prop := (∀ a s D, G a = some (s, D) → ln_at S a s D ∧ ln_wf s ∧ ∀ q, ln_own a s q → lo ≤ q ∧ q < S.2.1) ∧ ∀ a b s D s' D' q, a ≠ b → G a = some (s, D) → G b = some (s', D') → ln_own a s q → ¬ ln_own b s' q
theorem lo_at.keep {S S' : px_S} {lo : Nat} {G : ln_G} (h : lo_at S lo G) (hk : ∀ q, lo ≤ q → q < S.2.1 → S'.1 q = S.1 q) (hn : S.2.1 ≤ S'.2.1) : lo_at S' lo G := by
  refine ⟨fun a s D hg => ?_, h.2⟩
  obtain ⟨h1, h2, h3⟩ := h.1 a s D hg
  exact ⟨h1.keep (fun q hq => hk q (h3 q hq).1 (h3 q hq).2), h2, fun q hq => ⟨(h3 q hq).1, by have := (h3 q hq).2; omega⟩⟩
theorem lo_at.set {S S' : px_S} {lo a : Nat} {G : ln_G} {s : ln_S} {D D' : ln_D} (h : lo_at S lo G) (hg : G a = some (s, D)) (ha : ln_at S' a s D') (hk : ∀ q, ¬ ln_own a s q → S'.1 q = S.1 q) (hn : S'.2 = S.2) : lo_at S' lo (va_up G a (some (s, D'))) := by
  have key : ∀ b s1 D1, va_up G a (some (s, D')) b = some (s1, D1) → ∃ D2, G b = some (s1, D2) ∧ (b ≠ a → D2 = D1) ∧ (b = a → s1 = s ∧ D1 = D') := by
    intro b s1 D1 hb
    by_cases e : b = a
    · subst e
      simp only [va_up, if_true] at hb
      cases hb
      exact ⟨D, hg, fun z => absurd rfl z, fun _ => ⟨rfl, rfl⟩⟩
    · simp only [va_up, if_neg e] at hb
      exact ⟨D1, hb, fun _ => rfl, fun z => absurd z e⟩
  refine ⟨fun b s1 D1 hb => ?_, fun b c s1 D1 s2 D2 q hne hb hc hq => ?_⟩
  · obtain ⟨D2, h1, h2, h3⟩ := key b s1 D1 hb
    obtain ⟨q1, q2, q3⟩ := h.1 b s1 D2 h1
    refine ⟨?_, q2, fun q hq => ⟨(q3 q hq).1, by rw [hn]; exact (q3 q hq).2⟩⟩
    by_cases e : b = a
    · obtain ⟨e1, e2⟩ := h3 e
      subst e e1 e2
      exact ha
    · have e2 := h2 e
      subst e2
      exact q1.keep (fun q hq => hk q (fun z => h.2 b a s1 D2 s D q e h1 hg hq z))
  · obtain ⟨D3, h1, _, _⟩ := key b s1 D1 hb
    obtain ⟨D4, h2, _, _⟩ := key c s2 D2 hc
    exact h.2 b c s1 D3 s2 D4 q hne h1 h2 hq
/-- what stands at a place -/
def sp (la : Nat → Option Nat) (G : ln_G) (p : Nat) : Option ln_S := (la p).bind (fun a => (G a).map Prod.fst)
theorem sp_n {la : Nat → Option Nat} {G : ln_G} {p : Nat} (h : la p = none) : sp la G p = none := by simp [sp, h]
theorem sp_s {la : Nat → Option Nat} {G : ln_G} {p a : Nat} {s : ln_S} {D : ln_D} (h : la p = some a) (hg : G a = some (s, D)) : sp la G p = some s := by simp [sp, h, hg]
theorem sp_set {la : Nat → Option Nat} {G : ln_G} {a : Nat} {s : ln_S} {D D' : ln_D} (hg : G a = some (s, D)) : sp la (va_up G a (some (s, D'))) = sp la G := by
  funext p
  unfold sp
  cases la p with
  | none => rfl
  | some b =>
    by_cases e : b = a
    · subst e; simp [va_up, hg]
    · simp [va_up, e]
/-- all addresses of a list of lines are of lines -/
def la_ok (la : Nat → Option Nat) (G : ln_G) (n : Nat) : Prop := ∀ p a, p < n → la p = some a → ∃ s D, G a = some (s, D)
theorem la_ok.set {la : Nat → Option Nat} {G : ln_G} {n a : Nat} {s : ln_S} {D D' : ln_D} (h : la_ok la G n) (hg : G a = some (s, D)) : la_ok la (va_up G a (some (s, D'))) n := by
  intro p b hp hb
  by_cases e : b = a
  · subst e; exact ⟨s, D', by simp [va_up]⟩
  · obtain ⟨s1, D1, h1⟩ := h p b hp hb
    exact ⟨s1, D1, by simp [va_up, e, h1]⟩
theorem lo_at.cell {S : px_S} {lo a : Nat} {G : ln_G} {s : ln_S} {D : ln_D} (h : lo_at S lo G) (hg : G a = some (s, D)) : ∃ fs, S.1 a = some (.inr (4, fs)) := by
  obtain ⟨e, fa, M, K, F, C, P, h1, h2, h3, h4, h5, h6, _⟩ := (h.1 a s D hg).1
  exact ⟨_, h6⟩
/-- the line at one place defines s and reads t -/
def rd1 (L : Nat → Option ln_S) (p s t : Nat) : Prop := ∃ z, L p = some z ∧ ln_df z = nI s ∧ ss_in (ln_W z) t = true
def rd (L : Nat → Option ln_S) (s t : Nat) : Prop := s < 208 ∧ t < 208 ∧ ∃ p, p < 96 ∧ rd1 L p s t
theorem pm_ss_addSelf {d a t : Nat} {f : Nat → Int64} {S : px_S} {Q : Option Value → px_S → Prop} (hd : 1 ≤ d) (hat : a ≠ t) (ha : S.1 a = some (.inr (6, [.ref t]))) (ht : S.1 t = some (.inl (1, 4, .inr (.inl f))))
    (k : ∀ S1 f', px_Up S S1 t (.inl (1, 4, .inr (.inl f'))) → (∀ j, j < 4 → f' j = f j) → Q none S1) : px_M d px_m_SymbolSet_addAll [.ref a, .ref a] S Q := by
  refine px_M.go hd (Nat.le_of_ble_eq_true rfl) ?_
  refine px_P.sn 2 (f1 := (2, [(0, .ref a), (1, .ref a), (2, .int 0)], [])) (S1 := S) rfl ?_
  have lp : ∀ (m i : Nat), i + m = 4 → ∀ (S1 : px_S) (h : Nat → Int64), px_Up S S1 t (.inl (1, 4, .inr (.inl h))) → (∀ j, j < 4 → h j = f j) → px_P (d - 1) px_m_SymbolSet_addAll (2, [(0, .ref a), (1, .ref a), (2, .int (nI i))], []) S1 Q := by
    intro m
    induction m with
    | zero =>
      intro i hi S1 h u h1
      refine px_P.sn 2 (f1 := (4, [(0, .ref a), (1, .ref a), (2, .int (nI i))], [.int 4, .int (nI i)])) (S1 := S1) rfl ?_
      refine px_P.ic_ge rfl rfl (fun _ => ?_) (fun h => absurd (nI_le (a := 4) (by omega) (by omega)) h)
      refine px_P.ret rfl ?_
      exact k S1 h u h1
    | succ m ih =>
      intro i hi S1 h u h1
      have ha1 := u.n ha hat
      have ht1 := u.s
      refine px_P.sn 2 (f1 := (4, [(0, .ref a), (1, .ref a), (2, .int (nI i))], [.int 4, .int (nI i)])) (S1 := S1) rfl ?_
      refine px_P.ic_ge rfl rfl (fun h => absurd h (nI_ge (b := 4) (by omega) (by decide))) (fun _ => ?_)
      refine px_P.sn 1 (f1 := (8, [(0, .ref a), (1, .ref a), (2, .int (nI i))], [.ref a])) (S1 := S1) rfl ?_
      refine px_P.gf rfl rfl (by assumption) (v := .ref t) rfl ?_
      refine px_P.sn 2 (f1 := (13, [(0, .ref a), (1, .ref a), (2, .int (nI i))], [.int (nI i), .ref t, .int (nI i), .ref t])) (S1 := S1) rfl ?_
      refine px_P.laldj (j := i) rfl (by assumption) rfl (by omega) (by decide) ?_
      refine px_P.sn 1 (f1 := (15, [(0, .ref a), (1, .ref a), (2, .int (nI i))], [.ref a, .long (h i), .int (nI i), .ref t])) (S1 := S1) rfl ?_
      refine px_P.gf rfl rfl (by assumption) (v := .ref t) rfl ?_
      refine px_P.sn 1 (f1 := (19, [(0, .ref a), (1, .ref a), (2, .int (nI i))], [.int (nI i), .ref t, .long (h i), .int (nI i), .ref t])) (S1 := S1) rfl ?_
      refine px_P.laldj (j := i) rfl (by assumption) rfl (by omega) (by decide) ?_
      refine px_P.sn 1 (f1 := (21, [(0, .ref a), (1, .ref a), (2, .int (nI i))], [.long ((h i) ||| (h i)), .int (nI i), .ref t])) (S1 := S1) rfl ?_
      refine px_P.lastj (j := i) rfl (by assumption) rfl (by omega) (by decide) (fun S2 u2 => ?_)
      refine px_P.sn 2 (f1 := (2, [(0, .ref a), (1, .ref a), (2, .int ((nI i) + 1))], [])) (S1 := S2) rfl ?_
      rw [nI_1]
      refine ih (i + 1) (by omega) S2 _ (u.u u2) (fun j hj => ?_)
      by_cases e : j = i
      · subst e; simp only [vp_updL, if_true]; rw [← h1 j hj]; exact Int64.or_self
      · simp only [vp_updL, if_neg e]; exact h1 j hj
  exact lp 4 0 rfl S f (px_Up.rf ht) (fun _ _ => rfl)
