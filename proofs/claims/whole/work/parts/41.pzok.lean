/-! ===== the reader's steps: a pile works them out as the places do ===== -/
def vm1 (T : Nat → Int32) (q : Nat × Nat × Nat × Nat) (y : (Nat → Int32) × Nat) : (Nat → Int32) × Nat :=
  if q.1 < 2 then (upd y.1 y.2 (xe_v (fun _ => 0) T q), y.2 + 1) else if q.1 < 6 then (upd y.1 (y.2 - 1) (xe_v (fun _ => y.1 (y.2 - 1)) T q), y.2)
  else (upd y.1 (y.2 - 2) (if q.1 = 6 then y.1 (y.2 - 2) ||| y.1 (y.2 - 1) else fm_sum (y.1 (y.2 - 2)) (y.1 (y.2 - 1))), y.2 - 1)
def vmr (st : xe_T) (T : Nat → Int32) (a : Nat) : Nat → (Nat → Int32) × Nat → (Nat → Int32) × Nat
  | 0, y => y
  | k + 1, y => vm1 T (st (a + k)) (vmr st T a k y)
def opk (st : xe_T) (T : Nat → Int32) (k : Nat) (y : (Nat → Int32) × Nat) : Prop := (2 ≤ (st k).1 → (st k).1 < 6 → 1 ≤ y.2 ∧ y.1 (y.2 - 1) = xe_ev st T k (st k).2.1) ∧ (6 ≤ (st k).1 → 2 ≤ y.2 ∧ y.1 (y.2 - 2) = xe_ev st T k (st k).2.1 ∧ y.1 (y.2 - 1) = xe_ev st T k (st k).2.2.1)
def good (st : xe_T) (a b : Nat) : Prop := a < b ∧ ∀ T y, (∀ j, j < y.2 → (vmr st T a (b - a) y).1 j = y.1 j) ∧ (vmr st T a (b - a) y).2 = y.2 + 1 ∧ (vmr st T a (b - a) y).1 y.2 = xe_ev st T b (b - 1) ∧ ∀ k, a ≤ k → k < b → opk st T k (vmr st T a (k - a) y)
theorem xe_ev_cg {st st' : xe_T} {T : Nat → Int32} : ∀ {n : Nat}, (∀ j, j < n → st j = st' j) → xe_ev st T n = xe_ev st' T n
  | 0, _ => rfl
  | n + 1, h => by
    unfold xe_ev
    rw [xe_ev_cg (n := n) (fun j hj => h j (by omega)), h n (by omega)]
theorem vmr_cg {st st' : xe_T} {T : Nat → Int32} {a : Nat} {y : (Nat → Int32) × Nat} : ∀ {k : Nat}, (∀ j, a ≤ j → j < a + k → st j = st' j) → vmr st T a k y = vmr st' T a k y
  | 0, _ => rfl
  | k + 1, h => by
    unfold vmr
    rw [vmr_cg (k := k) (fun j h1 h2 => h j h1 (by omega)), h (a + k) (by omega) (by omega)]
theorem vmr_add {st : xe_T} {T : Nat → Int32} {a k : Nat} {y : (Nat → Int32) × Nat} : ∀ (m : Nat), vmr st T a (k + m) y = vmr st T (a + k) m (vmr st T a k y)
  | 0 => rfl
  | m + 1 => by
    show vm1 T (st (a + (k + m))) (vmr st T a (k + m) y) = vm1 T (st (a + k + m)) (vmr st T (a + k) m (vmr st T a k y))
    rw [vmr_add m, Nat.add_assoc]
theorem good_cg {st st' : xe_T} {a b : Nat} (h : ∀ j, j < b → st j = st' j) (g : good st a b) : good st' a b := by
  refine ⟨g.1, fun T y => ?_⟩
  obtain ⟨g1, g2, g3, g4⟩ := g.2 T y
  have hab := g.1
  have e : vmr st T a (b - a) y = vmr st' T a (b - a) y := vmr_cg (fun j h1 h2 => h j (by omega))
  rw [e] at g1 g2 g3
  rw [xe_ev_cg h] at g3
  refine ⟨g1, g2, g3, fun k h1 h2 => ?_⟩
  have q := g4 k h1 h2
  rw [vmr_cg (st' := st') (fun j z1 z2 => h j (by omega))] at q
  unfold opk at q ⊢
  rw [h k h2, xe_ev_cg (n := k) (fun j hj => h j (by omega))] at q
  exact q
theorem good_leaf {st : xe_T} {a : Nat} (h : (st a).1 < 2) : good st a (a + 1) := by
  refine ⟨by omega, fun T y => ?_⟩
  rw [show a + 1 - a = 1 by omega]
  have e : vmr st T a 1 y = (upd y.1 y.2 (xe_v (fun _ => 0) T (st a)), y.2 + 1) := by
    show vm1 T (st (a + 0)) y = _
    unfold vm1
    rw [Nat.add_zero, if_pos h]
  rw [e]
  refine ⟨fun j hj => pk_un (by omega), rfl, ?_, fun k h1 h2 => ?_⟩
  · show upd y.1 y.2 _ y.2 = upd (xe_ev st T a) a _ (a + 1 - 1)
    rw [pk_us, Nat.add_sub_cancel, pk_us]
    unfold xe_v
    by_cases h0 : (st a).1 = 0
    · rw [if_pos h0, if_pos h0]
    · have h1 : (st a).1 = 1 := by omega
      rw [if_neg h0, if_neg h0, if_pos h1, if_pos h1]
  · have : k = a := by omega
    subst this
    exact ⟨fun z => absurd z (by omega), fun z => absurd z (by omega)⟩
theorem good_un {st : xe_T} {a b : Nat} (g : good st a b) (h2 : 2 ≤ (st b).1) (h6 : (st b).1 < 6) (hf : (st b).2.1 + 1 = b) : good st a (b + 1) := by
  have hab := g.1
  refine ⟨by omega, fun T y => ?_⟩
  obtain ⟨g1, g2, g3, g4⟩ := g.2 T y
  obtain ⟨Y, hY⟩ : ∃ Y, Y = vmr st T a (b - a) y := ⟨_, rfl⟩
  rw [← hY] at g1 g2 g3
  have e : vmr st T a (b + 1 - a) y = (upd Y.1 (Y.2 - 1) (xe_v (fun _ => Y.1 (Y.2 - 1)) T (st b)), Y.2) := by
    rw [show b + 1 - a = (b - a) + 1 by omega]
    show vm1 T (st (a + (b - a))) (vmr st T a (b - a) y) = _
    rw [← hY, show a + (b - a) = b by omega]
    unfold vm1
    rw [if_neg (by omega), if_pos h6]
  have ev : xe_ev st T (b + 1) (b + 1 - 1) = xe_v (xe_ev st T b) T (st b) := by
    show upd (xe_ev st T b) b _ (b + 1 - 1) = _
    rw [Nat.add_sub_cancel, pk_us]
  have hfirst : xe_ev st T b (st b).2.1 = Y.1 (Y.2 - 1) := by
    rw [g2, Nat.add_sub_cancel, g3]
    congr 1
    omega
  rw [e]
  refine ⟨fun j hj => ?_, g2, ?_, fun k k1 k2 => ?_⟩
  · dsimp only
    rw [pk_un (by omega)]; exact g1 j hj
  · dsimp only
    rw [ev, show y.2 = Y.2 - 1 by omega, pk_us]
    unfold xe_v
    simp only [hfirst]
    split
    · rfl
    · split
      · rfl
      · split
        · rfl
        · split
          · rfl
          · split
            · rfl
            · split
              · rfl
              · exfalso; omega
  · by_cases z : k = b
    · subst z
      rw [← hY]
      exact ⟨fun _ _ => ⟨by omega, hfirst.symm⟩, fun z => absurd z (by omega)⟩
    · exact g4 k k1 (by omega)
theorem good_bin {st : xe_T} {a b c : Nat} (g : good st a b) (g' : good st b c) (h6 : 6 ≤ (st c).1) (hf : (st c).2.1 + 1 = b) (hs : (st c).2.2.1 + 1 = c) (h8 : (st c).1 < 8) : good st a (c + 1) := by
  have hab := g.1
  have hbc := g'.1
  refine ⟨by omega, fun T y => ?_⟩
  obtain ⟨g1, g2, g3, g4⟩ := g.2 T y
  obtain ⟨Y, hY⟩ : ∃ Y, Y = vmr st T a (b - a) y := ⟨_, rfl⟩
  rw [← hY] at g1 g2 g3
  obtain ⟨f1, f2, f3, f4⟩ := g'.2 T Y
  obtain ⟨Z, hZ⟩ : ∃ Z, Z = vmr st T b (c - b) Y := ⟨_, rfl⟩
  rw [← hZ] at f1 f2 f3
  have mid : ∀ k, b ≤ k → vmr st T a (k - a) y = vmr st T b (k - b) Y := by
    intro k hk
    rw [show k - a = (b - a) + (k - b) by omega, vmr_add, show a + (b - a) = b by omega, hY]
  have e : vmr st T a (c + 1 - a) y = (upd Z.1 (Z.2 - 2) (if (st c).1 = 6 then Z.1 (Z.2 - 2) ||| Z.1 (Z.2 - 1) else fm_sum (Z.1 (Z.2 - 2)) (Z.1 (Z.2 - 1))), Z.2 - 1) := by
    rw [show c + 1 - a = (c - a) + 1 by omega]
    show vm1 T (st (a + (c - a))) (vmr st T a (c - a) y) = _
    rw [mid c (by omega), ← hZ, show a + (c - a) = c by omega]
    unfold vm1
    rw [if_neg (by omega), if_neg (by omega)]
  have ev : xe_ev st T (c + 1) (c + 1 - 1) = xe_v (xe_ev st T c) T (st c) := by
    show upd (xe_ev st T c) c _ (c + 1 - 1) = _
    rw [Nat.add_sub_cancel, pk_us]
  have v1 : xe_ev st T c (st c).2.1 = Z.1 (Z.2 - 2) := by
    rw [f2, g2, show y.2 + 1 + 1 - 2 = y.2 by omega, f1 y.2 (by omega), g3, show (st c).2.1 = b - 1 by omega, xe_ev_at (by omega), xe_ev_at (n := b) (by omega)]
  have v2 : xe_ev st T c (st c).2.2.1 = Z.1 (Z.2 - 1) := by
    rw [f2, Nat.add_sub_cancel, f3, show (st c).2.2.1 = c - 1 by omega]
  rw [e]
  refine ⟨fun j hj => ?_, by dsimp only; omega, ?_, fun k k1 k2 => ?_⟩
  · dsimp only
    rw [pk_un (by omega), f1 j (by omega)]; exact g1 j hj
  · dsimp only
    have hx : xe_v (xe_ev st T c) T (st c) = if (st c).1 = 6 then xe_ev st T c (st c).2.1 ||| xe_ev st T c (st c).2.2.1 else fm_sum (xe_ev st T c (st c).2.1) (xe_ev st T c (st c).2.2.1) := by
      unfold xe_v
      rw [if_neg (by omega), if_neg (by omega), if_neg (by omega), if_neg (by omega), if_neg (by omega), if_neg (by omega)]
    rw [ev, hx, v1, v2, show y.2 = Z.2 - 2 by omega, pk_us]
  · by_cases z : k = c
    · subst z
      rw [mid k (by omega), ← hZ]
      exact ⟨fun _ z => absurd z (by omega), fun _ => ⟨by omega, v1.symm, v2.symm⟩⟩
    · by_cases z2 : k < b
      · exact g4 k k1 z2
      · rw [mid k (by omega)]
        exact f4 k (by omega) (by omega)
/-- what a reader does from one state to another -/
def pq (N : Nat) (y : ps) (x : pr) : Prop := ps_a y ≤ ps_a x.2 ∧ ps_a x.2 ≤ N ∧ ps_n y ≤ ps_n x.2 ∧ ps_n x.2 + ps_a y ≤ ps_a x.2 + ps_n y ∧ (∀ j, j < ps_n y → ps_s x.2 j = ps_s y j) ∧ (∀ j, ps_n y ≤ j → j < ps_n x.2 → xe_ok1 (ps_s x.2 j) j ∧ ps_a y ≤ (ps_s x.2 j).2.2.2 ∧ (ps_s x.2 j).2.2.2 < ps_a x.2) ∧
  (∀ i j, ps_n y ≤ i → i < j → j < ps_n x.2 → (ps_s x.2 i).2.2.2 ≠ (ps_s x.2 j).2.2.2) ∧ (∀ t, t < 256 → (ss_in (ps_w x.2) t = true ↔ ss_in (ps_w y) t = true ∨ ∃ j, ps_n y ≤ j ∧ j < ps_n x.2 ∧ (ps_s x.2 j).1 = 1 ∧ (ps_s x.2 j).2.1 = t)) ∧
  ∀ s, x.1 = some s → s + 1 = ps_n x.2 ∧ ps_a y < ps_a x.2 ∧ good (ps_s x.2) (ps_n y) (ps_n x.2)
def pg (N : Nat) (P : ps → pr) : Prop := ∀ y, ps_a y ≤ N → pq N y (P y)
theorem pq_none {N a : Nat} {y : ps} {r : Option Nat} {z : ps} (h : pq N y (r, z)) (h1 : ps_a z ≤ a) (h2 : a ≤ N) : pq N y (none, ps_at z a) := by
  obtain ⟨q1, q2, q3, q4, q5, q6, q7, q8, q9⟩ := h
  refine ⟨Nat.le_trans q1 h1, h2, q3, ?_, q5, fun j j1 j2 => ?_, q7, q8, fun s hs => (by cases hs)⟩
  · show ps_n z + ps_a y ≤ a + ps_n y
    have : ps_n z + ps_a y ≤ ps_a z + ps_n y := q4
    omega
  · obtain ⟨w1, w2, w3⟩ := q6 j j1 j2
    refine ⟨w1, w2, ?_⟩
    have : (ps_s z j).2.2.2 < ps_a z := w3
    show (ps_s z j).2.2.2 < a
    omega
theorem pq_at {N a s : Nat} {y z : ps} (h : pq N y (some s, z)) (h1 : ps_a z ≤ a) (h2 : a ≤ N) : pq N y (some s, ps_at z a) := by
  have h9 := h.2.2.2.2.2.2.2.2 s rfl
  obtain ⟨q1, q2, q3, q4, q5, q6, q7, q8, q9⟩ := pq_none h h1 h2
  refine ⟨q1, q2, q3, q4, q5, q6, q7, q8, fun s' hs => ?_⟩
  cases hs
  refine ⟨h9.1, ?_, h9.2.2⟩
  have : ps_a y < ps_a z := h9.2.1
  show ps_a y < a
  omega
theorem pq_rf {N a : Nat} {y : ps} (h1 : ps_a y ≤ a) (h2 : a ≤ N) : pq N y (none, ps_at y a) :=
  ⟨h1, h2, Nat.le_refl _, by show ps_n y + ps_a y ≤ a + ps_n y; omega, fun _ _ => rfl, fun j j1 j2 => absurd j2 (by show ¬ j < ps_n y; omega), fun i j i1 i2 i3 => absurd i3 (by show ¬ j < ps_n y; omega), fun t _ => ⟨Or.inl, fun h => h.elim id (fun ⟨j, j1, j2, _⟩ => absurd j2 (by show ¬ j < ps_n y; omega))⟩, fun s hs => (by cases hs)⟩
/-- one more step behind what has been read; its set W -/
theorem pq_add {N b : Nat} {y z : ps} {r : Option Nat} {q : Nat × Nat × Nat × Nat} {W : Nat → Int64} (h : pq N y (r, z)) (hb : b ≤ N) (h1 : ps_a z ≤ b) (h4 : ps_n z + 1 + ps_a y ≤ b + ps_n y) (hok : xe_ok1 q (ps_n z)) (hp1 : ps_a y ≤ q.2.2.2) (hp2 : q.2.2.2 < b) (hpd : ∀ j, ps_n y ≤ j → j < ps_n z → (ps_s z j).2.2.2 ≠ q.2.2.2)
    (hW : ∀ t, t < 256 → (ss_in W t = true ↔ ss_in (ps_w z) t = true ∨ (q.1 = 1 ∧ q.2.1 = t))) (hg : good (va_up (ps_s z) (ps_n z) q) (ps_n y) (ps_n z + 1)) : pq N y (some (ps_n z), (b, ps_n z + 1, va_up (ps_s z) (ps_n z) q, W)) := by
  obtain ⟨q1, q2, q3, q4, q5, q6, q7, q8, q9⟩ := h
  dsimp only at q1 q2 q3 q4 q5 q6 q7 q8
  have new : va_up (ps_s z) (ps_n z) q (ps_n z) = q := by simp only [va_up, if_true]
  have oldn : ∀ j, j ≠ ps_n z → va_up (ps_s z) (ps_n z) q j = ps_s z j := fun j hj => by simp only [va_up, if_neg hj]
  refine ⟨Nat.le_trans q1 h1, hb, by show ps_n y ≤ ps_n z + 1; omega, h4, fun j hj => ?_, fun j j1 j2 => ?_, fun i j i1 i2 i3 => ?_, fun t ht => ?_, fun s hs => ?_⟩
  · show va_up (ps_s z) (ps_n z) q j = _
    rw [oldn j (by omega)]; exact q5 j hj
  · have j2' : j < ps_n z + 1 := j2
    show xe_ok1 (va_up (ps_s z) (ps_n z) q j) j ∧ ps_a y ≤ (va_up (ps_s z) (ps_n z) q j).2.2.2 ∧ (va_up (ps_s z) (ps_n z) q j).2.2.2 < b
    by_cases e : j = ps_n z
    · subst e; rw [new]; exact ⟨hok, hp1, hp2⟩
    · rw [oldn j e]
      obtain ⟨w1, w2, w3⟩ := q6 j j1 (by omega)
      exact ⟨w1, w2, by omega⟩
  · have i3' : j < ps_n z + 1 := i3
    show (va_up (ps_s z) (ps_n z) q i).2.2.2 ≠ (va_up (ps_s z) (ps_n z) q j).2.2.2
    rw [oldn i (by omega)]
    by_cases e : j = ps_n z
    · subst e; rw [new]; exact hpd i i1 (by omega)
    · rw [oldn j e]; exact q7 i j i1 i2 (by omega)
  · show ss_in W t = true ↔ _
    rw [hW t ht, q8 t ht]
    constructor
    · rintro ((e | ⟨j, j1, j2, j3⟩) | e)
      · exact Or.inl e
      · exact Or.inr ⟨j, j1, by show j < ps_n z + 1; omega, by show (va_up (ps_s z) (ps_n z) q j).1 = 1 ∧ (va_up (ps_s z) (ps_n z) q j).2.1 = t; rw [oldn j (by omega)]; exact j3⟩
      · exact Or.inr ⟨ps_n z, q3, by show ps_n z < ps_n z + 1; omega, by show (va_up (ps_s z) (ps_n z) q (ps_n z)).1 = 1 ∧ (va_up (ps_s z) (ps_n z) q (ps_n z)).2.1 = t; rw [new]; exact e⟩
    · rintro (e | ⟨j, j1, j2, j3⟩)
      · exact Or.inl (Or.inl e)
      · have j2' : j < ps_n z + 1 := j2
        have j3' : (va_up (ps_s z) (ps_n z) q j).1 = 1 ∧ (va_up (ps_s z) (ps_n z) q j).2.1 = t := j3
        by_cases e : j = ps_n z
        · subst e; rw [new] at j3'; exact Or.inr j3'
        · rw [oldn j e] at j3'; exact Or.inl (Or.inr ⟨j, j1, by omega, j3'⟩)
  · cases hs
    refine ⟨rfl, ?_, hg⟩
    show ps_a y < b
    omega
theorem lt_5 {k l : Nat} (h : lt k = some l) : l < 5 := by
  unfold lt at h
  repeat' split at h
  all_goals first | (cases h; omega) | cases h
theorem cn_lt {tx : Nat → Nat} {N a : Nat} (h : cn tx N a ≠ 0) : a < N := by
  unfold cn at h
  split at h
  · assumption
  · exact absurd rfl h
theorem lt_nz {k l : Nat} (h : lt k = some l) : k ≠ 0 := by
  intro e
  subst e
  simp [lt] at h
theorem good_add {st : xe_T} {n a : Nat} {q : Nat × Nat × Nat × Nat} (g : good st a n) (h2 : 2 ≤ q.1) (h6 : q.1 < 6) (hf : q.2.1 + 1 = n) : good (va_up st n q) a (n + 1) := by
  have e : va_up st n q n = q := by simp only [va_up, if_true]
  exact good_un (good_cg (fun j hj => by simp only [va_up, if_neg (show ¬ j = n by omega)]) g) (by rw [e]; exact h2) (by rw [e]; exact h6) (by rw [e]; exact hf)
theorem ss_nochange {W : Nat → Int64} {q : Nat × Nat × Nat × Nat} (h : ¬ q.1 = 1) : ∀ t, t < 256 → (ss_in W t = true ↔ ss_in W t = true ∨ (q.1 = 1 ∧ q.2.1 = t)) := fun t _ => ⟨Or.inl, fun z => z.elim id (fun z => absurd z.1 h)⟩
theorem pq_end {tx : Nat → Nat} {N s : Nat} {y z : ps} (h : pq N y (some s, z)) (hc : isE (cn tx N (ps_a z)) = true) : pq N y (pz_end tx N s z) := by
  have ha : ps_a z < N := cn_lt (fun e => by rw [e] at hc; exact absurd hc (by decide))
  have hb := nx_le (tx := tx) (a := ps_a z + 1) (N := N) (by omega)
  obtain ⟨e1, e2, e3⟩ := h.2.2.2.2.2.2.2.2 s rfl
  have e1' : s + 1 = ps_n z := e1
  have e2' : ps_a y < ps_a z := e2
  have e3' : good (ps_s z) (ps_n y) (ps_n z) := e3
  have h4 : ps_n z + ps_a y ≤ ps_a z + ps_n y := h.2.2.2.1
  have h6 : ∀ j, ps_n y ≤ j → j < ps_n z → _ := h.2.2.2.2.2.1
  have pl : ∀ j, ps_n y ≤ j → j < ps_n z → (ps_s z j).2.2.2 ≠ ps_a z := fun j j1 j2 => by
    have : (ps_s z j).2.2.2 < ps_a z := (h6 j j1 j2).2.2
    omega
  unfold pz_end
  dsimp only
  split
  · exact pq_add h (by omega) (by omega) (by omega) ⟨by show 4 < 8; omega, fun q => absurd q (by simp), fun q => absurd q (by simp), fun _ => by show s < ps_n z; omega, fun q => absurd q (by simp), fun q => absurd q (by simp)⟩ (by show ps_a y ≤ ps_a z; omega) (by show ps_a z < ps_a z + 1; omega) pl (ss_nochange (by simp)) (good_add e3' (by simp) (by simp) e1')
  · split
    · split
      · rename_i h3
        have hb2 := cn_lt (tx := tx) (N := N) (a := nx tx N (ps_a z + 1)) (by rw [h3]; decide)
        exact pq_add h (by omega) (by omega) (by omega) ⟨by show 3 < 8; omega, fun q => absurd q (by simp), fun q => absurd q (by simp), fun _ => by show s < ps_n z; omega, fun q => absurd q (by simp), fun q => absurd q (by simp)⟩ (by show ps_a y ≤ ps_a z; omega) (by show ps_a z < nx tx N (ps_a z + 1) + 1; omega) pl (ss_nochange (by simp)) (good_add e3' (by simp) (by simp) e1')
      · exact pq_none h (by omega) (by omega)
    · split
      · exact pq_none h (by omega) (by omega)
      · rename_i l hl
        split
        · exact pq_none h (by omega) (by omega)
        · rename_i hl4
          have h5 := lt_5 hl
          have hb2 := cn_lt (lt_nz hl)
          exact pq_add h (by omega) (by omega) (by omega) ⟨by show 5 < 8; omega, fun q => absurd q (by simp), fun q => absurd q (by simp), fun _ => by show s < ps_n z; omega, fun _ => by show l < 4; omega, fun q => absurd q (by simp)⟩ (by show ps_a y ≤ ps_a z; omega) (by show ps_a z < nx tx N (ps_a z + 1) + 1; omega) pl (ss_nochange (by simp)) (good_add e3' (by simp) (by simp) e1')
theorem pq_endL {tx : Nat → Nat} {N : Nat} {y : ps} : ∀ {k s : Nat} {z : ps}, pq N y (some s, z) → pq N y (pz_endL tx N k s z)
  | 0, _, _, h => h
  | k + 1, s, z, h => by
    have hb := nx_le (tx := tx) (a := ps_a z) (N := N) h.2.1
    unfold pz_endL
    split
    · rename_i hc
      have := pq_end (tx := tx) (pq_at h hb.1 hb.2) hc
      generalize pz_end tx N s (ps_at z (nx tx N (ps_a z))) = x at this ⊢
      obtain ⟨r, w⟩ := x
      cases r with
      | none => exact this
      | some r => exact pq_endL this
    · exact pq_at h hb.1 hb.2
theorem pq_binL {tx : Nat → Nat} {N c kd : Nat} {P : ps → pr} {y : ps} (hP : pg N P) (hc : c ≠ 0) (hk : kd = 6 ∨ kd = 7) : ∀ {k s : Nat} {z : ps}, pq N y (some s, z) → pq N y (pz_binL tx N c kd P k s z)
  | 0, _, _, h => h
  | k + 1, s, z, h => by
    have hb := nx_le (tx := tx) (a := ps_a z) (N := N) h.2.1
    unfold pz_binL
    split
    · rename_i hcc
      have ha : nx tx N (ps_a z) < N := cn_lt (by rw [hcc]; exact hc)
      have hp := hP (ps_at z (nx tx N (ps_a z) + 1)) (by show nx tx N (ps_a z) + 1 ≤ N; omega)
      generalize P (ps_at z (nx tx N (ps_a z) + 1)) = x at hp ⊢
      obtain ⟨r, w⟩ := x
      have q1 : ps_a y ≤ ps_a z := h.1
      have q2 : ps_a z ≤ N := h.2.1
      have q3 : ps_n y ≤ ps_n z := h.2.2.1
      have q4 : ps_n z + (ps_a y) ≤ ps_a z + ps_n y := h.2.2.2.1
      have q5 : ∀ j, j < ps_n y → ps_s z j = ps_s y j := h.2.2.2.2.1
      have q6 : ∀ j, ps_n y ≤ j → j < ps_n z → xe_ok1 (ps_s z j) j ∧ ps_a y ≤ (ps_s z j).2.2.2 ∧ (ps_s z j).2.2.2 < ps_a z := h.2.2.2.2.2.1
      have q7 : ∀ i j, ps_n y ≤ i → i < j → j < ps_n z → (ps_s z i).2.2.2 ≠ (ps_s z j).2.2.2 := h.2.2.2.2.2.2.1
      have q8 : ∀ t, t < 256 → (ss_in (ps_w z) t = true ↔ ss_in (ps_w y) t = true ∨ ∃ j, ps_n y ≤ j ∧ j < ps_n z ∧ (ps_s z j).1 = 1 ∧ (ps_s z j).2.1 = t) := h.2.2.2.2.2.2.2.1
      have q9 : ∀ u, some s = some u → u + 1 = ps_n z ∧ ps_a y < ps_a z ∧ good (ps_s z) (ps_n y) (ps_n z) := h.2.2.2.2.2.2.2.2
      have p1 : nx tx N (ps_a z) + 1 ≤ ps_a w := hp.1
      have p2 : ps_a w ≤ N := hp.2.1
      have p3 : ps_n z ≤ ps_n w := hp.2.2.1
      have p4 : ps_n w + (nx tx N (ps_a z) + 1) ≤ ps_a w + ps_n z := hp.2.2.2.1
      have p5 : ∀ j, j < ps_n z → ps_s w j = ps_s z j := hp.2.2.2.2.1
      have p6 : ∀ j, ps_n z ≤ j → j < ps_n w → xe_ok1 (ps_s w j) j ∧ nx tx N (ps_a z) + 1 ≤ (ps_s w j).2.2.2 ∧ (ps_s w j).2.2.2 < ps_a w := hp.2.2.2.2.2.1
      have p7 : ∀ i j, ps_n z ≤ i → i < j → j < ps_n w → (ps_s w i).2.2.2 ≠ (ps_s w j).2.2.2 := hp.2.2.2.2.2.2.1
      have p8 : ∀ t, t < 256 → (ss_in (ps_w w) t = true ↔ ss_in (ps_w z) t = true ∨ ∃ j, ps_n z ≤ j ∧ j < ps_n w ∧ (ps_s w j).1 = 1 ∧ (ps_s w j).2.1 = t) := hp.2.2.2.2.2.2.2.1
      have p9 : ∀ s, r = some s → s + 1 = ps_n w ∧ nx tx N (ps_a z) + 1 < ps_a w ∧ good (ps_s w) (ps_n z) (ps_n w) := hp.2.2.2.2.2.2.2.2
      have hall : pq N y (none, w) := by
        refine ⟨by show ps_a y ≤ ps_a w; omega, p2, by show ps_n y ≤ ps_n w; omega, by show ps_n w + ps_a y ≤ ps_a w + ps_n y; omega, fun j hj => ?_, fun j j1 j2 => ?_, fun i j i1 i2 i3 => ?_, fun t ht => ?_, fun s hs => (by cases hs)⟩
        · show ps_s w j = ps_s y j
          rw [p5 j (by omega)]; exact q5 j hj
        · show xe_ok1 (ps_s w j) j ∧ ps_a y ≤ (ps_s w j).2.2.2 ∧ (ps_s w j).2.2.2 < ps_a w
          have j2' : j < ps_n w := j2
          by_cases e : j < ps_n z
          · rw [p5 j e]
            obtain ⟨w1, w2, w3⟩ := q6 j j1 e
            exact ⟨w1, w2, by omega⟩
          · obtain ⟨w1, w2, w3⟩ := p6 j (by omega) j2'
            exact ⟨w1, by omega, w3⟩
        · show (ps_s w i).2.2.2 ≠ (ps_s w j).2.2.2
          have i3' : j < ps_n w := i3
          by_cases e : j < ps_n z
          · rw [p5 j e, p5 i (by omega)]; exact q7 i j i1 i2 e
          · by_cases e2 : i < ps_n z
            · rw [p5 i e2]
              have w3 := (q6 i i1 e2).2.2
              have w2 := (p6 j (by omega) i3').2.1
              omega
            · exact p7 i j (by omega) i2 i3'
        · show ss_in (ps_w w) t = true ↔ _
          rw [p8 t ht, q8 t ht]
          constructor
          · rintro ((e | ⟨j, j1, j2, j3⟩) | ⟨j, j1, j2, j3⟩)
            · exact Or.inl e
            · exact Or.inr ⟨j, j1, by show j < ps_n w; omega, by show (ps_s w j).1 = 1 ∧ (ps_s w j).2.1 = t; rw [p5 j j2]; exact j3⟩
            · exact Or.inr ⟨j, by omega, j2, j3⟩
          · rintro (e | ⟨j, j1, j2, j3⟩)
            · exact Or.inl (Or.inl e)
            · have j3' : (ps_s w j).1 = 1 ∧ (ps_s w j).2.1 = t := j3
              by_cases e : j < ps_n z
              · rw [p5 j e] at j3'; exact Or.inl (Or.inr ⟨j, j1, e, j3'⟩)
              · exact Or.inr ⟨j, by omega, j2, j3'⟩
      cases r with
      | none => exact hall
      | some r =>
        obtain ⟨e1, e2, e3⟩ := q9 s rfl
        obtain ⟨f1, f2, f3⟩ := p9 r rfl
        have hn := f3.1
        refine pq_binL hP hc hk ?_
        refine pq_add hall p2 (Nat.le_refl _) (by omega) ⟨by show kd < 8; omega, fun q => absurd q (by show ¬ kd = 0; omega), fun q => absurd q (by show ¬ kd = 1; omega), fun _ => by show s < ps_n w; omega, fun q => absurd q (by show ¬ kd = 5; omega), fun _ => by show r < ps_n w; omega⟩ (by show ps_a y ≤ nx tx N (ps_a z); omega) (by show nx tx N (ps_a z) < ps_a w; omega) (fun j j1 j2 => ?_) (ss_nochange (by show ¬ kd = 1; omega)) ?_
        · show (ps_s w j).2.2.2 ≠ nx tx N (ps_a z)
          by_cases e : j < ps_n z
          · rw [p5 j e]
            have := (q6 j j1 e).2.2
            omega
          · have := (p6 j (by omega) j2).2.1
            omega
        · have e : va_up (ps_s w) (ps_n w) (kd, s, r, nx tx N (ps_a z)) (ps_n w) = (kd, s, r, nx tx N (ps_a z)) := by simp only [va_up, if_true]
          have ee : ∀ j, j < ps_n w → ps_s w j = va_up (ps_s w) (ps_n w) (kd, s, r, nx tx N (ps_a z)) j := fun j hj => by simp only [va_up, if_neg (show ¬ j = ps_n w by omega)]
          refine good_bin (b := ps_n z) (good_cg (fun j hj => ?_) e3) (good_cg ee f3) (by rw [e]; show 6 ≤ kd; omega) (by rw [e]; show s + 1 = ps_n z; exact e1) (by rw [e]; exact f1) (by rw [e]; show kd < 8; omega)
          rw [← ee j (by omega)]
          exact (p5 j hj).symm
    · exact pq_at h hb.1 hb.2
theorem pg_part {tx : Nat → Nat} {N : Nat} {A : ps → pr} (hA : pg N A) : pg N (pz_part tx N A) := by
  intro y hy
  have := hA y hy
  unfold pz_part
  generalize A y = x at this ⊢
  obtain ⟨r, w⟩ := x
  cases r with
  | none => exact this
  | some r => exact pq_endL this
theorem pg_or {tx : Nat → Nat} {N : Nat} {A : ps → pr} (hA : pg N A) : pg N (pz_or tx N A) := by
  intro y hy
  have := pg_part (tx := tx) hA y hy
  unfold pz_or
  generalize pz_part tx N A y = x at this ⊢
  obtain ⟨r, w⟩ := x
  cases r with
  | none => exact this
  | some r => exact pq_binL (pg_part hA) (by decide) (Or.inl rfl) this
theorem pg_sumA {tx : Nat → Nat} {N : Nat} {A : ps → pr} (hA : pg N A) : pg N (pz_sumA tx N A) := by
  intro y hy
  have := pg_or (tx := tx) hA y hy
  unfold pz_sumA
  generalize pz_or tx N A y = x at this ⊢
  obtain ⟨r, w⟩ := x
  cases r with
  | none => exact this
  | some r => exact pq_binL (pg_or hA) (by decide) (Or.inr rfl) this
