/-! ===== circles counted; ranks ===== -/
theorem ct_uniq {q : Nat → Bool} {t n : Nat} (ht : t < n) (h : q t = true) (hu : ∀ i, i < n → q i = true → i = t) : ct q n = 1 := by
  have e : ct q n = ct (fun i => decide (i = t)) n := ct_congr (fun i hi => by
    show q i = decide (i = t)
    by_cases z : i = t
    · rw [z, h, decide_eq_true rfl]
    · rw [decide_eq_false z]; exact Bool.eq_false_iff.mpr (fun w => z (hu i hi w)))
  have e2 := ct_put (q := fun _ => false) (q' := fun i => decide (i = t)) (t := t) rfl (decide_eq_true rfl) (fun i hi => decide_eq_false hi) n
  rw [e, e2, if_pos ht, ct_zero.mpr (fun _ _ => rfl)]
theorem ct_is1 {q : Nat → Bool} {n : Nat} (h : ct q n = 1) : ∃ t, t < n ∧ q t = true ∧ ∀ i, i < n → q i = true → i = t := by
  obtain ⟨s, h1, h2, h3⟩ := ct_ex (p := q) (m := 0) (n := n) (by omega)
  refine ⟨s, h1, h2, fun i hi w => ?_⟩
  rcases Nat.lt_trichotomy i s with z | z | z
  · rw [ct_zero.mp h3 i z] at w; cases w
  · exact z
  · have a1 := ct_lt (p := q) z h2
    have a2 := ct_lt (p := q) hi w
    omega
def sec1 (e : Nat → Nat → Bool) (s : Nat) : Bool := decide (ct (e s) s = 1)
def fs1 (e : Nat → Nat → Bool) (n s : Nat) : Bool := decide (ct (e s) s = 0) && decide (¬ ct (fun t => decide (s < t) && e s t) n = 0)
theorem fs1_t {e : Nat → Nat → Bool} {n s : Nat} : fs1 e n s = true ↔ (∀ t, t < s → e s t = false) ∧ ∃ t, t < n ∧ s < t ∧ e s t = true := by
  unfold fs1
  rw [Bool.and_eq_true, decide_eq_true_eq, decide_eq_true_eq, ct_zero]
  refine and_congr Iff.rfl ?_
  rw [ct_zero]
  constructor
  · intro h
    apply Classical.byContradiction
    intro z
    apply h
    intro i hi
    apply Bool.eq_false_iff.mpr
    intro w
    rw [Bool.and_eq_true, decide_eq_true_eq] at w
    exact z ⟨i, hi, w.1, w.2⟩
  · rintro ⟨t, h1, h2, h3⟩ h
    have := h t h1
    rw [decide_eq_true h2, h3] at this
    cases this
theorem cir_eq {e : Nat → Nat → Bool} {N : Nat} (sy : ∀ s t, s < N → t < N → e s t = true → e t s = true) (tr : ∀ s t u, s < N → t < N → u < N → e s t = true → e t u = true → e s u = true) : ∀ n, n ≤ N → ct (sec1 e) n = ct (fs1 e n) n
  | 0, _ => rfl
  | n + 1, hn => by
    have ih := cir_eq sy tr n (by omega)
    have last : fs1 e (n + 1) n = false := by
      apply Bool.eq_false_iff.mpr
      intro w
      obtain ⟨_, t, h1, h2, _⟩ := fs1_t.mp w
      omega
    rw [ct_z (p := fs1 e (n + 1)) (n := n) last]
    by_cases hs : sec1 e n = true
    · rw [ct_s hs]
      obtain ⟨t0, a1, a2, a3⟩ := ct_is1 (of_decide_eq_true hs)
      have f0 : fs1 e n t0 = false := by
        apply Bool.eq_false_iff.mpr
        intro w
        obtain ⟨_, t, h1, h2, h3⟩ := fs1_t.mp w
        have := a3 t h1 (tr n t0 t (by omega) (by omega) (by omega) a2 h3)
        omega
      have f1 : fs1 e (n + 1) t0 = true := by
        refine fs1_t.mpr ⟨fun t ht => ?_, n, by omega, a1, sy n t0 (by omega) (by omega) a2⟩
        apply Bool.eq_false_iff.mpr
        intro w
        have := a3 t (by omega) (tr n t0 t (by omega) (by omega) (by omega) a2 w)
        omega
      have same : ∀ s, s < n → s ≠ t0 → fs1 e (n + 1) s = fs1 e n s := by
        intro s hsn hst
        apply Bool.eq_iff_iff.mpr
        rw [fs1_t, fs1_t]
        refine and_congr Iff.rfl ⟨fun ⟨t, h1, h2, h3⟩ => ⟨t, ?_, h2, h3⟩, fun ⟨t, h1, h2, h3⟩ => ⟨t, by omega, h2, h3⟩⟩
        by_cases et : t = n
        · subst et
          exact absurd (a3 s hsn (sy s t (by omega) (by omega) h3)) hst
        · omega
      have q1 : ct (fs1 e (n + 1)) n = ct (fun s => if s = t0 then true else fs1 e n s) n := ct_congr (fun s hsn => by
        show fs1 e (n + 1) s = if s = t0 then true else fs1 e n s
        by_cases z : s = t0
        · rw [if_pos z, z, f1]
        · rw [if_neg z]; exact same s hsn z)
      have q2 := ct_put (q := fs1 e n) (q' := fun s => if s = t0 then true else fs1 e n s) (t := t0) f0 (by simp) (fun i hi => by simp [hi]) n
      rw [q1, q2, if_pos a1, ih]
    · rw [ct_z (Bool.eq_false_iff.mpr hs), ih]
      refine ct_congr (fun s hsn => ?_)
      apply Bool.eq_iff_iff.mpr
      rw [fs1_t, fs1_t]
      constructor
      · rintro ⟨h1, t, h2, h3, h4⟩
        exact ⟨h1, t, by omega, h3, h4⟩
      · rintro ⟨h1, t, h2, h3, h4⟩
        refine ⟨h1, ?_⟩
        apply Classical.byContradiction
        intro z
        have et : t = n := by
          apply Classical.byContradiction
          intro w
          exact z ⟨t, by omega, h3, h4⟩
        subst et
        apply hs
        refine decide_eq_true (ct_uniq hsn (sy s t (by omega) (by omega) h4) (fun i hi w => ?_))
        have w2 := tr s t i (by omega) (by omega) (by omega) h4 w
        rcases Nat.lt_trichotomy i s with y | y | y
        · rw [h1 i y] at w2; cases w2
        · exact y
        · exact absurd ⟨i, hi, y, w2⟩ z
theorem one_sy {A : Nat → Nat → Int32} {s t : Nat} (h : oneb A s t = true) : oneb A t s = true := by
  unfold oneb at *
  rw [Bool.or_eq_true, decide_eq_true_eq, Bool.and_eq_true] at *
  exact h.elim (fun z => Or.inl z.symm) (fun z => Or.inr ⟨z.2, z.1⟩)
theorem hb_1 {A : Nat → Nat → Int32} {L : Nat → Option ln_S} (h : knw A L) {s t : Nat} (hs : s < 208) (ht : t < 208) : hb A s t = true ↔ (s < 208 ∧ t < 208 ∧ A 21 (208 * s + t) = 1) := by
  unfold hb bz
  rw [decide_eq_true_eq]
  rcases h.1 (208 * s + t) (by omega) with z | z
  · rw [z]; exact ⟨fun w => absurd rfl w, fun w => absurd w.2.2 (by decide)⟩
  · rw [z]; exact ⟨fun _ => ⟨hs, ht, rfl⟩, fun _ => by decide⟩
theorem one_tr {A : Nat → Nat → Int32} {L : Nat → Option ln_S} (h : knw A L) {s t u : Nat} (hs : s < 208) (ht : t < 208) (hu : u < 208) (h1 : oneb A s t = true) (h2 : oneb A t u = true) : oneb A s u = true := by
  unfold oneb at *
  rw [Bool.or_eq_true, decide_eq_true_eq, Bool.and_eq_true] at *
  rcases h1 with z1 | ⟨z1, z2⟩
  · subst z1; exact h2
  · rcases h2 with w1 | ⟨w1, w2⟩
    · subst w1; exact Or.inr ⟨z1, z2⟩
    · refine Or.inr ⟨(hb_1 h hs hu).mpr (h.2.2.1 s t u ((hb_1 h hs ht).mp z1) ((hb_1 h ht hu).mp w1)), (hb_1 h hu hs).mpr (h.2.2.1 u t s ((hb_1 h hu ht).mp w2) ((hb_1 h ht hs).mp z2))⟩
theorem hb_df {A : Nat → Nat → Int32} {L : Nat → Option ln_S} (h : knw A L) {s t : Nat} (hs : s < 208) (ht : t < 208) (w : hb A s t = true) : ¬ dc L s = 0 := by
  refine h.2.2.2 (fun a _ => ¬ dc L a = 0) (fun a b hr => ?_) (fun a b c g1 _ => g1) s t ((hb_1 h hs ht).mp w)
  obtain ⟨r1, r2, p, hp, z, z1, z2, z3⟩ := hr
  exact fun e => dc_no.mp e p z hp z1 z2
/-- the circles of both sides are as many -/
theorem cir_cnt {A : Nat → Nat → Int32} {L : Nat → Option ln_S} {H : Nat → Nat → Int64} (h : knw A L) (k : tc_is (rd L) (hr H)) : ct (ciC H) 208 = ct (fun s => decide (¬ dc L s = 0) && (decide (ct (oneb A s) s = 0) && decide (1 < ct (oneb A s) 208))) 208 := by
  have e1 : ct (ciC H) 208 = ct (sec1 (oneb A)) 208 := ct_congr (fun s hs => by
    unfold ciC sec1
    have : ct (bo H s) s = ct (oneb A s) s := ct_congr (fun t ht => by
      unfold oneb bo
      rw [decide_eq_false (by omega), Bool.false_or, knw_hb h k hs (by omega), knw_hb h k (by omega) hs])
    rw [this])
  rw [e1, cir_eq (N := 208) (fun s t _ _ w => one_sy w) (fun s t u h1 h2 h3 w1 w2 => one_tr h h1 h2 h3 w1 w2) 208 (Nat.le_refl _)]
  refine ct_congr (fun s hs => ?_)
  have self : oneb A s s = true := by unfold oneb; rw [decide_eq_true rfl]; rfl
  apply Bool.eq_iff_iff.mpr
  rw [fs1_t, Bool.and_eq_true, Bool.and_eq_true, decide_eq_true_eq, decide_eq_true_eq, decide_eq_true_eq, ct_zero]
  constructor
  · rintro ⟨h1, t, h2, h3, h4⟩
    refine ⟨?_, h1, ?_⟩
    · have h4' := h4
      unfold oneb at h4'
      rw [decide_eq_false (by omega), Bool.false_or, Bool.and_eq_true] at h4'
      exact hb_df h hs h2 h4'.1
    · have a1 := ct_lt (p := oneb A s) h3 self
      have a2 := ct_lt (p := oneb A s) h2 h4
      omega
  · rintro ⟨h0, h1, h2⟩
    refine ⟨h1, ?_⟩
    apply Classical.byContradiction
    intro z
    have := ct_uniq (q := oneb A s) hs self (fun i hi w => by
      rcases Nat.lt_trichotomy i s with y | y | y
      · rw [h1 i y] at w; cases w
      · exact y
      · exact absurd ⟨i, hi, y, w⟩ z)
    omega
theorem sm_mono {f : Nat → Nat} {a : Nat} : ∀ {b : Nat}, a ≤ b → sm f a ≤ sm f b
  | 0, h => by have : a = 0 := by omega
               rw [this]; exact Nat.le_refl _
  | b + 1, h => by
    by_cases e : a = b + 1
    · rw [e]; exact Nat.le_refl _
    · have := sm_mono (f := f) (a := a) (b := b) (by omega)
      show _ ≤ sm f b + f b
      omega
/-- a place's rank is its own -/
theorem rk_lt {L : Nat → Option ln_S} {T D : Nat → Int32} (hw : wfL L) {p i : Nat} {s : ln_S} (hp : p < 96) (hL : L p = some s) (hi : i ≤ ln_L s) (hf : ¬ fcd s T D i = 0) : ct (fun j => decide (¬ fcd s T D j = 0)) i < fzp L T D p := by
  obtain ⟨w1, w2, w3, w4⟩ := hw p s hp hL
  have e : fzp L T D p = ct (fun j => decide (¬ fcd s T D j = 0)) (ln_L s + 1) := by
    unfold fzp
    rw [hL]
    show fzd s T D = _
    unfold fzd
    rw [ln_fz_ct w1.1 w2]
    rfl
  rw [e]
  exact ct_lt (by omega) (decide_eq_true hf)
theorem rk_un {L : Nat → Option ln_S} {T D : Nat → Int32} (hw : wfL L) {p i p' i' : Nat} {s s' : ln_S} (hp : p < 96) (hL : L p = some s) (hi : i ≤ ln_L s) (hf : ¬ fcd s T D i = 0) (hp' : p' < 96) (hL' : L p' = some s') (hi' : i' ≤ ln_L s') (hf' : ¬ fcd s' T D i' = 0) (e : sm (fzp L T D) p + ct (fun j => decide (¬ fcd s T D j = 0)) i = sm (fzp L T D) p' + ct (fun j => decide (¬ fcd s' T D j = 0)) i') : p = p' ∧ i = i' := by
  have r1 := rk_lt hw hp hL hi hf
  have r2 := rk_lt hw hp' hL' hi' hf'
  have ep : p = p' := by
    rcases Nat.lt_trichotomy p p' with z | z | z
    · have := sm_mono (f := fzp L T D) (a := p + 1) (b := p') (by omega)
      have q : sm (fzp L T D) (p + 1) = sm (fzp L T D) p + fzp L T D p := rfl
      omega
    · exact z
    · have := sm_mono (f := fzp L T D) (a := p' + 1) (b := p) (by omega)
      have q : sm (fzp L T D) (p' + 1) = sm (fzp L T D) p' + fzp L T D p' := rfl
      omega
  subst ep
  rw [hL] at hL'
  cases hL'
  refine ⟨rfl, ?_⟩
  rcases Nat.lt_trichotomy i i' with z | z | z
  · have := ct_lt (p := fun j => decide (¬ fcd s T D j = 0)) z (decide_eq_true hf)
    omega
  · exact z
  · have := ct_lt (p := fun j => decide (¬ fcd s T D j = 0)) z (decide_eq_true hf')
    omega
