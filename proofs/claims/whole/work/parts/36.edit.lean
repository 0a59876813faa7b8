/-! ===== an edit: the least types again ===== -/
def dfb (L : Nat → Option ln_S) (p t : Nat) : Bool := match L p with
  | some z => decide (ln_df z = nI t)
  | none => false
theorem dfb_t {L : Nat → Option ln_S} {p t : Nat} : dfb L p t = true ↔ ∃ z, L p = some z ∧ ln_df z = nI t := by
  unfold dfb
  cases L p with
  | none => exact ⟨fun h => (by cases h), fun ⟨z, h, _⟩ => (by cases h)⟩
  | some z => rw [decide_eq_true_iff]; exact ⟨fun h => ⟨z, rfl, h⟩, fun ⟨y, h, h2⟩ => by cases h; exact h2⟩
def dc (L : Nat → Option ln_S) (t : Nat) : Nat := ct (fun p => dfb L p t) 96
theorem ct_zero {q : Nat → Bool} : ∀ {n : Nat}, ct q n = 0 ↔ ∀ i, i < n → q i = false
  | 0 => ⟨fun _ i hi => absurd hi (by omega), fun _ => rfl⟩
  | n + 1 => by
    have ih := ct_zero (q := q) (n := n)
    constructor
    · intro h i hi
      cases hq : q n with
      | true => rw [ct_s hq] at h; omega
      | false =>
        rw [ct_z hq] at h
        by_cases e : i = n
        · subst e; exact hq
        · exact ih.mp h i (by omega)
    · intro h
      rw [ct_z (h n (by omega))]
      exact ih.mpr (fun i hi => h i (by omega))
theorem ct_one {q q' : Nat → Bool} {p : Nat} (hq : ∀ i, i ≠ p → q' i = q i) : ∀ {n : Nat}, p < n → ct q' n + (bif q p then 1 else 0) = ct q n + (bif q' p then 1 else 0)
  | 0, h => absurd h (by omega)
  | n + 1, h => by
    by_cases e : p = n
    · subst e
      have : ct q' p = ct q p := ct_congr (fun i hi => hq i (by omega))
      show ct q' p + _ + _ = ct q p + _ + _
      rw [this]
      omega
    · have ih := ct_one hq (n := n) (by omega)
      show ct q' n + _ + _ = ct q n + _ + _
      rw [hq n (Ne.symm e)]
      omega
theorem dc_no {L : Nat → Option ln_S} {t : Nat} : dc L t = 0 ↔ df_no L t := by
  unfold dc
  rw [ct_zero]
  constructor
  · intro h p z hp hz hd
    have := dfb_t.mpr ⟨z, hz, hd⟩
    rw [h p hp] at this
    cases this
  · intro h p hp
    cases hb : dfb L p t with
    | false => rfl
    | true => obtain ⟨z, h1, h2⟩ := dfb_t.mp hb; exact absurd h2 (h p z hp h1)
theorem dc_le (L : Nat → Option ln_S) (t : Nat) : dc L t ≤ 96 := ct_le _ _
theorem lF16 : le32 16 lF := bd_nI (m := 16) (by omega)
/-- what an edit leaves as it was -/
def ed_ok (L L' : Nat → Option ln_S) (p0 : Nat) (lkb tch : Nat → Bool) : Prop := (∀ p, p ≠ p0 → L' p = L p) ∧ (∀ p z, p < 96 → L p = some z → ln_wf z) ∧ (∀ p z, p < 96 → L' p = some z → ln_wf z) ∧ cl_ok L' (fun p => lkb p = true) (fun t => tch t = true) ∧ lkb p0 = true ∧ (∀ z t, L p0 = some z → t < 208 → ln_df z = nI t → tch t = true) ∧ p0 < 96
theorem ed_ok.un {L L' : Nat → Option ln_S} {p0 : Nat} {lkb tch : Nat → Bool} (h : ed_ok L L' p0 lkb tch) {p t : Nat} {z : ln_S} (hp : p < 96) (ht : t < 208) (hf : tch t = false) (hz : L p = some z ∨ L' p = some z) (hd : ln_df z = nI t) : p ≠ p0 ∧ L p = some z ∧ L' p = some z ∧ lkb p = false ∧ ∀ u, lr z u → tch u = false := by
  obtain ⟨h1, h2, h3, h4, h5, h6, h7⟩ := h
  have hpp : p ≠ p0 := by
    intro e
    subst e
    rcases hz with hz | hz
    · rw [h6 z t hz ht hd] at hf; cases hf
    · rw [h4.2 p z t hp hz h5 ht hd] at hf; cases hf
  have hz2 : L' p = some z := hz.elim (fun q => by rw [h1 p hpp]; exact q) id
  have hlk : lkb p = false := by
    cases hb : lkb p with
    | false => rfl
    | true => rw [h4.2 p z t hp hz2 hb ht hd] at hf; cases hf
  refine ⟨hpp, by rw [← h1 p hpp]; exact hz2, hz2, hlk, fun u hu => ?_⟩
  cases hb : tch u with
  | false => rfl
  | true => rw [h4.1 p z u hp hz2 hu.1 hu.2 hb] at hlk; cases hlk
theorem ed_ok.no {L L' : Nat → Option ln_S} {p0 : Nat} {lkb tch : Nat → Bool} (h : ed_ok L L' p0 lkb tch) {t : Nat} (ht : t < 208) (hf : tch t = false) : df_no L t ↔ df_no L' t := by
  constructor
  · intro hn p z hp hz hd
    exact hn p z hp (h.un hp ht hf (Or.inr hz) hd).2.1 hd
  · intro hn p z hp hz hd
    exact hn p z hp (h.un hp ht hf (Or.inl hz) hd).2.2.1 hd
/-- types of one side, with all forms where something was touched -/
theorem ed_up {L L' : Nat → Option ln_S} {p0 : Nat} {lkb tch : Nat → Bool} (h : ed_ok L L' p0 lkb tch) {A B : Nat → Option ln_S} (hAB : (A = L ∧ B = L') ∨ (A = L' ∧ B = L)) {X : Nat → Int32} (x1 : ∀ t, t < 208 → le32 (X t) lF) (x2 : cs_ok B X) (x3 : ∀ t, t < 208 → df_no B t → le32 16 (X t)) {T : Nat → Int32} (hT : lf_is A T) : ∀ t, t < 208 → tch t = false → le32 (T t) (X t) := by
  obtain ⟨Y, hY⟩ : ∃ Y : Nat → Int32, Y = fun t => if tch t = true then lF else X t := ⟨_, rfl⟩
  have y1 : ∀ t, tch t = true → Y t = lF := fun t ht => by rw [hY]; exact if_pos ht
  have y2 : ∀ t, tch t = false → Y t = X t := fun t ht => by rw [hY]; exact if_neg (by rw [ht]; exact Bool.false_ne_true)
  have bd : ∀ t, t < 208 → le32 (Y t) lF := by
    intro t ht
    cases hb : tch t with
    | true => rw [y1 t hb]; exact le32.rf _
    | false => rw [y2 t hb]; exact x1 t ht
  have wfA : ∀ p z, p < 96 → A p = some z → ln_wf z := by
    rcases hAB with ⟨e, _⟩ | ⟨e, _⟩ <;> rw [e]
    · exact h.2.1
    · exact h.2.2.1
  have both : ∀ p z, A p = some z → L p = some z ∨ L' p = some z := by
    intro p z hz
    rcases hAB with ⟨e, _⟩ | ⟨e, _⟩ <;> rw [e] at hz
    · exact Or.inl hz
    · exact Or.inr hz
  have toB : ∀ p z, L p = some z → L' p = some z → B p = some z := by
    intro p z h1 h2
    rcases hAB with ⟨_, e⟩ | ⟨_, e⟩ <;> rw [e]
    · exact h2
    · exact h1
  have := hT.2.2.2 Y bd (fun p z t hp hz ht hd => ?_) (fun t ht hn => ?_)
  · intro t ht hf
    have q := this t ht
    rw [y2 t hf] at q
    exact q
  · have wf := wfA p z hp hz
    cases hb : tch t with
    | true =>
      rw [y1 t hb]
      exact ln_says_bd wf (ln_val_bd wf (fun u hu => bd u hu.1))
    | false =>
      obtain ⟨_, e1, e2, _, e3⟩ := h.un hp ht hb (both p z hz) hd
      rw [y2 t hb, ln_val_eq wf (X := X) (fun u hu => y2 u (e3 u hu))]
      exact x2 p z t hp (toB p z e1 e2) ht hd
  · cases hb : tch t with
    | true => rw [y1 t hb]; exact lF16
    | false =>
      rw [y2 t hb]
      refine x3 t ht ?_
      have e := h.no ht hb
      rcases hAB with ⟨z1, z2⟩ | ⟨z1, z2⟩ <;> rw [z2] <;> rw [z1] at hn
      · exact e.mp hn
      · exact e.mpr hn
/-- how many forms there are in all -/
def mu (T : Nat → Int32) : Nat := ct (fun i => bt (T (i / 20)) (i % 20)) 4160
theorem ct_sub {q q' : Nat → Bool} : ∀ {n : Nat}, (∀ i, i < n → q i = true → q' i = true) → ct q n ≤ ct q' n
  | 0, _ => Nat.le_refl _
  | n + 1, h => by
    have ih := ct_sub (n := n) (fun i hi => h i (by omega))
    show ct q n + _ ≤ ct q' n + _
    cases hq : q n with
    | false => simp; omega
    | true => rw [h n (by omega) hq]; simp; omega
theorem ct_sub1 {q q' : Nat → Bool} {p : Nat} (hp : q p = false) (hp' : q' p = true) : ∀ {n : Nat}, p < n → (∀ i, i < n → q i = true → q' i = true) → ct q n + 1 ≤ ct q' n
  | 0, h, _ => absurd h (by omega)
  | n + 1, h, hs => by
    by_cases e : p = n
    · subst e
      rw [ct_z hp, ct_s hp']
      have := ct_sub (n := p) (fun i hi => hs i (by omega))
      omega
    · have ih := ct_sub1 hp hp' (n := n) (by omega) (fun i hi => hs i (by omega))
      show ct q n + _ + 1 ≤ ct q' n + _
      cases hq : q n with
      | false => simp; omega
      | true => rw [hs n (by omega) hq]; simp; omega
theorem mu_up {T T' : Nat → Int32} (hl : ∀ t, t < 208 → le32 (T t) (T' t)) (hb : ∀ t, t < 208 → le32 (T' t) lF) {t : Nat} (ht : t < 208) (hn : ¬ T' t = T t) : mu T + 1 ≤ mu T' := by
  obtain ⟨i, hi, h1, h2⟩ : ∃ i, i < 32 ∧ bt (T t) i = false ∧ bt (T' t) i = true := by
    apply Classical.byContradiction
    intro hq
    refine hn (le32.as (fun i hi h1 => ?_) (hl t ht))
    cases h2 : bt (T t) i with
    | true => rfl
    | false => exact absurd ⟨i, hi, h2, h1⟩ hq
  have h20 := bt_20 (hb t ht) hi h2
  have e1 : (20 * t + i) / 20 = t := by omega
  have e2 : (20 * t + i) % 20 = i := by omega
  refine ct_sub1 (p := 20 * t + i) (by rw [e1, e2]; exact h1) (by rw [e1, e2]; exact h2) (by omega) (fun j hj q => hl (j / 20) (by omega) _ (by omega) q)
/-- the workspace between the calls -/
def wsI (la : Nat → Option Nat) (G : ln_G) (T D : Nat → Int32) : Prop := la_ok la G 96 ∧ (∀ t, t < 208 → D t = nI (dc (sp la G) t)) ∧ lf_is (sp la G) T ∧ ∀ p a s E, p < 96 → la p = some a → G a = some (s, E) → E.1 = ln_val s T ∧ fg s (xe_ev (ln_st s) T (ln_n s)) D (ln_val s T) E.2.2
/-- what is looked at again -/
def lk_is (L : Nat → Option ln_S) (p0 : Nat) (I P R : Nat → Prop) : Prop := P p0 ∧ (∀ t, t < 208 → I t → R t) ∧ cl_ok L P R ∧ ∀ P' R', cl_ok L P' R' → P' p0 → (∀ t, t < 208 → I t → R' t) → (∀ p, p < 96 → P p → P' p) ∧ ∀ t, t < 208 → R t → R' t
