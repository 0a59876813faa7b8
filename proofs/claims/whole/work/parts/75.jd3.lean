/-! ===== the model: judging ===== -/
theorem mq2_2 (q : Nat → Int32) (a t b u : Int32) : mq2 (mq2 q a t) b u = mq2 q b u := by
  funext i
  unfold mq2
  by_cases h2 : i = 2
  · simp [h2]
  · by_cases h8 : i = 8
    · simp [h8]
    · simp [h2, h8]
def ju (p : Nat) (s : ln_S) (T D : Nat → Int32) (e : Nat) : fl_T := nts p (ln_st s) T D (ln_n s) ++ (bif ln_mis s (ln_val s T) then [(p, e, 5)] else [])
theorem nts_nd {p : Nat} {st : xe_T} {T D : Nat → Int32} {n : Nat} (hok : ∀ j, j < n → xe_ok1 (st j) j) (hpl : ∀ i j, i < j → j < n → (st i).2.2.2 ≠ (st j).2.2.2) : ∀ k, k ≤ n → (nts p st T D k).Pairwise (fun a b => a.2.1 ≠ b.2.1)
  | 0, _ => List.Pairwise.nil
  | k + 1, hk => by
    unfold nts
    rw [List.pairwise_append]
    refine ⟨nts_nd hok hpl k (by omega), ?_, fun a ha b hb => ?_⟩
    · split
      · exact List.Pairwise.nil
      · exact List.pairwise_singleton _ _
    · split at hb
      · cases hb
      · rw [List.mem_singleton] at hb
        obtain ⟨j, h1, h2, h3⟩ := (nts_mem hok (n := n) (by omega)).mp ha
        rw [hb, h3]
        exact hpl j k h1 (by omega)
theorem ju_ok {p e : Nat} {s : ln_S} {T D : Nat → Int32} (hw : ln_wf s) (hL : ln_L s ≤ 60) (hr : ln_wr s = -1) (he : ln_eq s = nI e) (heb : e < 2 ^ 31) : (∀ x, x ∈ ju p s T D e ↔ x ∈ cF p (fcd s T D) (ln_L s + 1)) ∧ (∀ x, x ∈ ju p s T D e → okx x ∧ x.1 = p) ∧ (ju p s T D e).Pairwise (fun a b => a.2.1 ≠ b.2.1) := by
  obtain ⟨⟨q, q1, q2, q3⟩, p1, p2⟩ := hw.1.1 hr
  have hq : q < 2 ^ 31 := by omega
  have hok := hw.2.2.2.1
  have mem : ∀ x, x ∈ ju p s T D e ↔ (∃ j, j < ln_n s ∧ ¬ xe_f (xe_ev (ln_st s) T (ln_n s)) D (ln_st s j) = -1 ∧ x = (p, (ln_st s j).2.2.2, xe_f (xe_ev (ln_st s) T (ln_n s)) D (ln_st s j))) ∨ (ln_mis s (ln_val s T) = true ∧ x = (p, e, 5)) := by
    intro x
    unfold ju
    rw [List.mem_append, nts_mem hok (Nat.le_refl _)]
    refine or_congr Iff.rfl ?_
    cases ln_mis s (ln_val s T) with
    | true => exact ⟨fun z => ⟨rfl, List.mem_singleton.mp z⟩, fun z => List.mem_singleton.mpr z.2⟩
    | false => exact ⟨fun z => (by cases z), fun z => (by cases z.1)⟩
  have hfc : ∀ i, fcd s T D i = (bif ln_mis s (ln_val s T) then upd (xe_fc (ln_st s) (xe_ev (ln_st s) T (ln_n s)) D (fun _ => 0) (ln_n s)) q 5 else xe_fc (ln_st s) (xe_ev (ln_st s) T (ln_n s)) D (fun _ => 0) (ln_n s)) i := by
    intro i
    unfold fcd ln_fc
    rw [if_pos hr, q2, nI_clamp hq]
  have eqe : 5 = (5 : Int32) := rfl
  have hbig : e < 2 ^ 31 := heb
  have eq : q = e := (nI_eq hq hbig).mp (q2.symm.trans he)
  subst eq
  refine ⟨fun x => ?_, fun x hx => ?_, ?_⟩
  · rw [mem x, cF_mem, hfc x.2.1]
    obtain ⟨a, b, c⟩ := x
    dsimp only
    have key := xe_fc_mem (st := ln_st s) (V := xe_ev (ln_st s) T (ln_n s)) (D := D) p2 b
    cases hm : ln_mis s (ln_val s T) with
    | false =>
      simp only [cond_false]
      constructor
      · rintro (⟨j, h1, h2, h3⟩ | h)
        · injection h3 with e1 e2
          injection e2 with e2 e3
          have hv := key.2 j h1 e2.symm h2
          exact ⟨e1, by have := p1 j h1; omega, by rw [hv]; obtain ⟨c', c1, c2, c3⟩ := xe_f_in h2; rw [c3]; exact nI_ne0 (by omega) (by omega), by rw [hv]; exact e3⟩
        · cases h.1
      · rintro ⟨h1, h2, h3, h4⟩
        obtain ⟨j, g1, g2, g3⟩ := key.1.mp h3
        exact Or.inl ⟨j, g1, g3, by rw [h1, h4, key.2 j g1 g2 g3, g2]⟩
    | true =>
      simp only [cond_true]
      by_cases eb : b = q
      · subst eb
        rw [pk_us]
        constructor
        · rintro (⟨j, h1, h2, h3⟩ | ⟨_, h⟩)
          · injection h3 with e1 e2
            injection e2 with e2 e3
            exact absurd e2.symm (q3 j h1)
          · injection h with e1 e2
            injection e2 with e2 e3
            exact ⟨e1, by omega, by decide, e3⟩
        · rintro ⟨h1, h2, h3, h4⟩
          exact Or.inr ⟨trivial, by rw [h1, h4]⟩
      · rw [pk_un eb]
        constructor
        · rintro (⟨j, h1, h2, h3⟩ | ⟨_, h⟩)
          · injection h3 with e1 e2
            injection e2 with e2 e3
            have hv := key.2 j h1 e2.symm h2
            exact ⟨e1, by have := p1 j h1; omega, by rw [hv]; obtain ⟨c', c1, c2, c3⟩ := xe_f_in h2; rw [c3]; exact nI_ne0 (by omega) (by omega), by rw [hv]; exact e3⟩
          · injection h with e1 e2
            injection e2 with e2 e3
            exact absurd e2 eb
        · rintro ⟨h1, h2, h3, h4⟩
          obtain ⟨j, g1, g2, g3⟩ := key.1.mp h3
          exact Or.inl ⟨j, g1, g3, by rw [h1, h4, key.2 j g1 g2 g3, g2]⟩
  · rcases (mem x).mp hx with ⟨j, h1, h2, h3⟩ | ⟨_, h⟩
    · rw [h3]
      have := p1 j h1
      exact ⟨⟨by show (ln_st s j).2.2.2 ≤ 60; omega, xe_f_in h2⟩, rfl⟩
    · rw [h]
      exact ⟨⟨by show q ≤ 60; omega, 5, by omega, by omega, rfl⟩, rfl⟩
  · unfold ju
    rw [List.pairwise_append]
    refine ⟨nts_nd hok p2 _ (Nat.le_refl _), ?_, fun a ha b hb => ?_⟩
    · cases ln_mis s (ln_val s T) with
      | true => exact List.pairwise_singleton _ _
      | false => exact List.Pairwise.nil
    · cases hm : ln_mis s (ln_val s T) with
      | false => rw [hm] at hb; cases hb
      | true =>
        rw [hm] at hb
        rw [cond_true, List.mem_singleton] at hb
        obtain ⟨j, h1, h2, h3⟩ := (nts_mem hok (Nat.le_refl _)).mp ha
        rw [hb, h3]
        exact q3 j h1
