/-! ===== what is found, in order: lists ===== -/
def cF (p : Nat) (f : Nat → Int32) : Nat → fl_T
  | 0 => []
  | n + 1 => cF p f n ++ (if f n = 0 then [] else [(p, n, f n)])
theorem cF_mem {p : Nat} {f : Nat → Int32} : ∀ {n : Nat} {x : Nat × Nat × Int32}, x ∈ cF p f n ↔ x.1 = p ∧ x.2.1 < n ∧ ¬ f x.2.1 = 0 ∧ x.2.2 = f x.2.1
  | 0, x => ⟨fun h => (by cases h), fun h => absurd h.2.1 (by omega)⟩
  | n + 1, x => by
    unfold cF
    rw [List.mem_append, cF_mem (n := n)]
    constructor
    · rintro (⟨h1, h2, h3, h4⟩ | h)
      · exact ⟨h1, by omega, h3, h4⟩
      · split at h
        · cases h
        · rename_i e
          rw [List.mem_singleton] at h
          subst h
          exact ⟨rfl, Nat.lt_succ_self _, e, rfl⟩
    · rintro ⟨h1, h2, h3, h4⟩
      by_cases e : x.2.1 = n
      · refine Or.inr ?_
        rw [if_neg (by rw [← e]; exact h3), List.mem_singleton]
        obtain ⟨a, b, c⟩ := x
        dsimp only at h1 h2 h3 h4 e
        rw [h1, h4, e]
      · exact Or.inl ⟨h1, by omega, h3, h4⟩
theorem cF_sorted {p : Nat} {f : Nat → Int32} : ∀ n, (cF p f n).Pairwise (fun a b => a.2.1 < b.2.1)
  | 0 => List.Pairwise.nil
  | n + 1 => by
    unfold cF
    rw [List.pairwise_append]
    refine ⟨cF_sorted n, ?_, fun a ha b hb => ?_⟩
    · split
      · exact List.Pairwise.nil
      · exact List.pairwise_singleton _ _
    · split at hb
      · cases hb
      · rw [List.mem_singleton] at hb
        subst hb
        exact (cF_mem.mp ha).2.1
theorem cF_len {p : Nat} {f : Nat → Int32} : ∀ n, (cF p f n).length = ct (fun j => decide (¬ f j = 0)) n
  | 0 => rfl
  | n + 1 => by
    unfold cF
    rw [List.length_append, cF_len n]
    by_cases e : f n = 0
    · rw [if_pos e, ct_z (by show decide (¬ f n = 0) = false; exact decide_eq_false (fun z => z e))]; rfl
    · rw [if_neg e, ct_s (by show decide (¬ f n = 0) = true; exact decide_eq_true e)]; rfl
theorem cF_get {p : Nat} {f : Nat → Int32} : ∀ {n k : Nat} {x : Nat × Nat × Int32}, (cF p f n)[k]? = some x → x.1 = p ∧ x.2.1 < n ∧ ¬ f x.2.1 = 0 ∧ x.2.2 = f x.2.1 ∧ ct (fun j => decide (¬ f j = 0)) x.2.1 = k
  | 0, k, x, h => by cases h
  | n + 1, k, x, h => by
    unfold cF at h
    by_cases e : k < (cF p f n).length
    · rw [List.getElem?_append_left e] at h
      obtain ⟨h1, h2, h3⟩ := cF_get h
      exact ⟨h1, by omega, h3⟩
    · rw [List.getElem?_append_right (by omega)] at h
      split at h
      · cases h
      · rename_i e2
        have : k - (cF p f n).length = 0 := by
          have := (List.getElem?_eq_some_iff.mp h).1
          simp only [List.length_cons, List.length_nil] at this
          omega
        rw [this] at h
        simp only [List.getElem?_cons_zero, Option.some.injEq] at h
        subst h
        have hl := cF_len (p := p) (f := f) n
        exact ⟨rfl, Nat.lt_succ_self _, e2, rfl, by show ct _ n = k; omega⟩
theorem srt_uniq : ∀ {l l' : fl_T}, l.Pairwise (fun a b => a.2.1 < b.2.1) → l'.Pairwise (fun a b => a.2.1 < b.2.1) → (∀ x, x ∈ l ↔ x ∈ l') → l = l'
  | [], [], _, _, _ => rfl
  | [], b :: l', _, _, h => absurd ((h b).mpr List.mem_cons_self) (by simp)
  | a :: l, [], _, _, h => absurd ((h a).mp List.mem_cons_self) (by simp)
  | a :: l, b :: l', h1, h2, h => by
    rw [List.pairwise_cons] at h1 h2
    have e : a = b := by
      rcases List.mem_cons.mp ((h a).mp List.mem_cons_self) with z | z
      · exact z
      · rcases List.mem_cons.mp ((h b).mpr List.mem_cons_self) with w | w
        · exact w.symm
        · have q1 := h2.1 a z
          have q2 := h1.1 b w
          omega
    subst e
    congr 1
    refine srt_uniq h1.2 h2.2 (fun x => ⟨fun hx => ?_, fun hx => ?_⟩)
    · rcases List.mem_cons.mp ((h x).mp (List.mem_cons_of_mem _ hx)) with z | z
      · subst z; have := h1.1 x hx; omega
      · exact z
    · rcases List.mem_cons.mp ((h x).mpr (List.mem_cons_of_mem _ hx)) with z | z
      · subst z; have := h2.1 x hx; omega
      · exact z
/-- one more line than another -/
def flc (L : Nat → Option ln_S) (T D : Nat → Int32) : Nat → fl_T
  | 0 => []
  | p + 1 => flc L T D p ++ (match L p with
    | none => []
    | some s => cF p (fcd s T D) (ln_L s + 1))
theorem flc_len {L : Nat → Option ln_S} {T D : Nat → Int32} (hw : wfL L) : ∀ n, n ≤ 96 → (flc L T D n).length = sm (fzp L T D) n
  | 0, _ => rfl
  | n + 1, hn => by
    unfold flc
    rw [List.length_append, flc_len hw n (by omega)]
    show _ = sm (fzp L T D) n + fzp L T D n
    unfold fzp
    cases hL : L n with
    | none => rfl
    | some s =>
      obtain ⟨w1, w2, w3, w4⟩ := hw n s (by omega) hL
      show _ + (cF n (fcd s T D) (ln_L s + 1)).length = _ + fzd s T D
      rw [cF_len]
      unfold fzd
      rw [ln_fz_ct w1.1 w2]
      rfl
theorem flc_get {L : Nat → Option ln_S} {T D : Nat → Int32} (hw : wfL L) : ∀ {n k : Nat} {x : Nat × Nat × Int32}, n ≤ 96 → (flc L T D n)[k]? = some x → x.1 < n ∧ ∃ s, L x.1 = some s ∧ x.2.1 ≤ ln_L s ∧ ¬ fcd s T D x.2.1 = 0 ∧ x.2.2 = fcd s T D x.2.1 ∧ sm (fzp L T D) x.1 + ct (fun j => decide (¬ fcd s T D j = 0)) x.2.1 = k
  | 0, k, x, hn, h => by cases h
  | n + 1, k, x, hn, h => by
    unfold flc at h
    have hl := flc_len (T := T) (D := D) hw n (by omega)
    by_cases e : k < (flc L T D n).length
    · rw [List.getElem?_append_left e] at h
      obtain ⟨h1, h2⟩ := flc_get hw (by omega) h
      exact ⟨by omega, h2⟩
    · rw [List.getElem?_append_right (by omega)] at h
      cases hL : L n with
      | none => rw [hL] at h; cases h
      | some s =>
        rw [hL] at h
        obtain ⟨h1, h2, h3, h4, h5⟩ := cF_get h
        refine ⟨by omega, s, by rw [h1]; exact hL, by omega, h3, h4, ?_⟩
        rw [h5, h1]
        omega
/-! keys -/
def okx (x : Nat × Nat × Int32) : Prop := x.2.1 ≤ 60 ∧ ∃ c, 1 ≤ c ∧ c ≤ 5 ∧ x.2.2 = nI c
def ky (x : Nat × Nat × Int32) : Nat := 8 * x.2.1 + x.2.2.toNatClampNeg
theorem ky_nI {x : Nat × Nat × Int32} (h : okx x) : 8 * nI x.2.1 + x.2.2 = nI (ky x) ∧ ky x < 1000 := by
  obtain ⟨h1, c, c1, c2, c3⟩ := h
  unfold ky
  rw [c3, nI_clamp (by omega), show (8 : Int32) = nI 8 from rfl, pk_mul, nI_add]
  exact ⟨rfl, by omega⟩
theorem ky_lt {x y : Nat × Nat × Int32} (hx : okx x) (hy : okx y) (h : ky x ≤ ky y) (hn : x.2.1 ≠ y.2.1) : x.2.1 < y.2.1 := by
  obtain ⟨h1, c, c1, c2, c3⟩ := hx
  obtain ⟨g1, e, e1, e2, e3⟩ := hy
  unfold ky at h
  rw [c3, e3, nI_clamp (by omega), nI_clamp (by omega)] at h
  omega
theorem srt_ins {Lr R : fl_T} {y : Nat × Nat × Int32} (h1 : (Lr.reverse ++ R).Pairwise (fun a b => ky a ≤ ky b)) (h2 : ∀ r, r ∈ R → ky y ≤ ky r) (h3 : ∀ z Lr', Lr = z :: Lr' → ky z ≤ ky y) : (Lr.reverse ++ y :: R).Pairwise (fun a b => ky a ≤ ky b) := by
  rw [List.pairwise_append] at h1 ⊢
  obtain ⟨q1, q2, q3⟩ := h1
  have all : ∀ l, l ∈ Lr → ky l ≤ ky y := by
    cases Lr with
    | nil => intro l hl; cases hl
    | cons z Lr' =>
      have hz := h3 z Lr' rfl
      intro l hl
      rcases List.mem_cons.mp hl with e | e
      · rw [e]; exact hz
      · rw [List.reverse_cons, List.pairwise_append] at q1
        have := q1.2.2 l (List.mem_reverse.mpr e) z (List.mem_singleton.mpr rfl)
        omega
  refine ⟨q1, List.pairwise_cons.mpr ⟨h2, q2⟩, fun a ha b hb => ?_⟩
  rcases List.mem_cons.mp hb with e | e
  · rw [e]; exact all a (List.mem_reverse.mp ha)
  · exact q3 a ha b e
theorem xe_f_in {V D : Nat → Int32} {q : Nat × Nat × Nat × Nat} (h : ¬ xe_f V D q = -1) : ∃ c, 1 ≤ c ∧ c ≤ 5 ∧ xe_f V D q = nI c := by
  unfold xe_f at h ⊢
  split
  · rename_i e; rw [if_pos e] at h
    split
    · exact ⟨2, by omega, by omega, rfl⟩
    · rename_i e2; rw [if_neg e2] at h; exact absurd rfl h
  · rename_i e; rw [if_neg e] at h
    split
    · rename_i e3; rw [if_pos e3] at h
      cases hb : fm_unL (V q.2.1) with
      | true => exact ⟨3, by omega, by omega, rfl⟩
      | false => rw [hb] at h; exact absurd rfl h
    · rename_i e3; rw [if_neg e3] at h
      split
      · rename_i e4; rw [if_pos e4] at h
        cases hb : fm_sumL (V q.2.1) (V q.2.2.1) with
        | true => exact ⟨4, by omega, by omega, rfl⟩
        | false => rw [hb] at h; exact absurd rfl h
      · rename_i e4; rw [if_neg e4] at h; exact absurd rfl h
theorem nts_mem {p : Nat} {st : xe_T} {T D : Nat → Int32} {n : Nat} (hok : ∀ j, j < n → xe_ok1 (st j) j) : ∀ {k : Nat} {x : Nat × Nat × Int32}, k ≤ n → (x ∈ nts p st T D k ↔ ∃ j, j < k ∧ ¬ xe_f (xe_ev st T n) D (st j) = -1 ∧ x = (p, (st j).2.2.2, xe_f (xe_ev st T n) D (st j)))
  | 0, x, _ => ⟨fun h => (by cases h), fun ⟨j, hj, _⟩ => absurd hj (by omega)⟩
  | k + 1, x, hk => by
    have e : xe_f (xe_ev st T k) D (st k) = xe_f (xe_ev st T n) D (st k) := xe_f_congr (hok k (by omega)) (fun j hj => by rw [xe_ev_at hj, xe_ev_at (show j < n by omega)]) (fun _ => rfl)
    unfold nts
    rw [List.mem_append, nts_mem hok (k := k) (by omega), e]
    constructor
    · rintro (⟨j, h1, h2⟩ | h)
      · exact ⟨j, by omega, h2⟩
      · split at h
        · cases h
        · rename_i e2
          exact ⟨k, by omega, e2, List.mem_singleton.mp h⟩
    · rintro ⟨j, h1, h2, h3⟩
      by_cases ej : j = k
      · subst ej
        exact Or.inr (by rw [if_neg h2]; exact List.mem_singleton.mpr h3)
      · exact Or.inl ⟨j, by omega, h2, h3⟩
theorem xe_fc_mem {st : xe_T} {V D : Nat → Int32} : ∀ {n : Nat}, (∀ i j, i < j → j < n → (st i).2.2.2 ≠ (st j).2.2.2) → ∀ i, ((¬ xe_fc st V D (fun _ => 0) n i = 0) ↔ ∃ j, j < n ∧ (st j).2.2.2 = i ∧ ¬ xe_f V D (st j) = -1) ∧ ∀ j, j < n → (st j).2.2.2 = i → ¬ xe_f V D (st j) = -1 → xe_fc st V D (fun _ => 0) n i = xe_f V D (st j)
  | 0, _, i => ⟨⟨fun h => absurd rfl h, fun ⟨j, hj, _⟩ => absurd hj (by omega)⟩, fun j hj => absurd hj (by omega)⟩
  | n + 1, h, i => by
    obtain ⟨h1, h2⟩ := xe_fc_mem (n := n) (V := V) (D := D) (fun a b h1 h2 => h a b h1 (by omega)) i
    unfold xe_fc
    by_cases e : xe_f V D (st n) = -1
    · rw [if_pos e]
      refine ⟨h1.trans ⟨fun ⟨j, q⟩ => ⟨j, by omega, q.2⟩, fun ⟨j, q1, q2, q3⟩ => ⟨j, ?_, q2, q3⟩⟩, fun j hj hp hf => ?_⟩
      · by_cases ej : j = n
        · subst ej; exact absurd e q3
        · omega
      · by_cases ej : j = n
        · subst ej; exact absurd e hf
        · exact h2 j (by omega) hp hf
    · rw [if_neg e]
      by_cases ei : i = (st n).2.2.2
      · rw [ei, pk_us]
        refine ⟨⟨fun _ => ⟨n, by omega, rfl, e⟩, fun _ => ?_⟩, fun j hj hp hf => ?_⟩
        · obtain ⟨c, c1, c2, c3⟩ := xe_f_in e
          rw [c3]
          exact nI_ne0 (by omega) (by omega)
        · by_cases ej : j = n
          · rw [ej]
          · exact absurd hp (h j n (by omega) (by omega))
      · rw [pk_un ei]
        refine ⟨h1.trans ⟨fun ⟨j, q⟩ => ⟨j, by omega, q.2⟩, fun ⟨j, q1, q2, q3⟩ => ⟨j, ?_, q2, q3⟩⟩, fun j hj hp hf => ?_⟩
        · by_cases ej : j = n
          · subst ej; exact absurd q2.symm ei
          · omega
        · by_cases ej : j = n
          · subst ej; exact absurd hp.symm ei
          · exact h2 j (by omega) hp hf
