/-! ===== a pile of open things reads as the plain reader ===== -/
def qe (q q' : Nat × Nat × Nat × Nat) : Prop := q.1 = q'.1 ∧ wth q = wth q' ∧ (q.1 ≠ 2 → q.2.2.2 = q'.2.2.2)
theorem qe.rf (q : Nat × Nat × Nat × Nat) : qe q q := ⟨rfl, rfl, fun _ => rfl⟩
def eqv (y z : ps) : Prop := ps_a y = ps_a z ∧ ps_n y = ps_n z ∧ ∀ k, k < ps_n y → qe (ps_s y k) (ps_s z k)
/-- what is open is taken away: y' with O' is z with O -/
def jq (all : Bool) (y' : ps) (O' : List Nat) (z : ps) (O : List Nat) : Prop := ps_a y' = ps_a z ∧ (jn all O' (ps_n y') (ps_s y')).1 = ps_n z ∧ (jn all O' (ps_n y') (ps_s y')).2.2 = O ∧ ∀ k, k < ps_n z → qe ((jn all O' (ps_n y') (ps_s y')).2.1 k) (ps_s z k)
def tp (all : Bool) (O : List Nat) : Prop := ∀ o O', O = o :: O' → ¬ (o % 100 = 7 ∨ (all = true ∧ o % 100 = 8))
theorem jn_tp {all : Bool} {O : List Nat} (h : tp all O) (n : Nat) (st : xe_T) : jn all O n st = (n, st, O) := by
  cases O with
  | nil => rfl
  | cons o O' =>
    show (if _ then _ else _) = _
    rw [if_neg (h o O' rfl)]
theorem jq_rf {all : Bool} {O : List Nat} {z : ps} (h : tp all O) : jq all z O z O := by
  unfold jq
  rw [jn_tp h]
  exact ⟨rfl, rfl, rfl, fun k _ => qe.rf _⟩
theorem jq_ad {all : Bool} {O : List Nat} {z : ps} {s r a : Nat} (h : tp all O) : jq all z ((100 * a + 7) :: O) (ps_add z (ps_a z) (6, s, r, a)) O := by
  unfold jq
  have e : jn all ((100 * a + 7) :: O) (ps_n z) (ps_s z) = (ps_n z + 1, va_up (ps_s z) (ps_n z) (6, 0, 0, a), O) := by
    show (if _ then jn all O _ _ else _) = _
    rw [if_pos (Or.inl (by omega)), jn_tp h, show (100 * a + 7) % 100 - 1 = 6 by omega, show (100 * a + 7) / 100 = a by omega]
  rw [e]
  refine ⟨rfl, rfl, rfl, fun k hk => ?_⟩
  show qe (va_up (ps_s z) (ps_n z) (6, 0, 0, a) k) (va_up (ps_s z) (ps_n z) (6, s, r, a) k)
  by_cases ek : k = ps_n z
  · simp only [va_up, if_pos ek]
    exact ⟨rfl, rfl, fun _ => rfl⟩
  · simp only [va_up, if_neg ek]
    exact qe.rf _
theorem jn_ft : ∀ (O : List Nat) (n : Nat) (st : xe_T), jn true O n st = jn true (jn false O n st).2.2 (jn false O n st).1 (jn false O n st).2.1
  | [], n, st => rfl
  | o :: O, n, st => by
    by_cases h7 : o % 100 = 7
    · have e1 : jn true (o :: O) n st = jn true O (n + 1) (va_up st n (o % 100 - 1, 0, 0, o / 100)) := by
        show (if _ then jn true O _ _ else _) = _
        rw [if_pos (Or.inl h7)]
      have e2 : jn false (o :: O) n st = jn false O (n + 1) (va_up st n (o % 100 - 1, 0, 0, o / 100)) := by
        show (if _ then jn false O _ _ else _) = _
        rw [if_pos (Or.inl h7)]
      rw [e1, e2]
      exact jn_ft O _ _
    · rw [jn_tp (all := false) (O := o :: O) (fun o' O' e z => by cases e; exact z.elim h7 (fun z => absurd z.1 (by decide)))]
theorem jq_ft {y' z : ps} {O' O : List Nat} {s r a : Nat} (h : jq false y' O' z ((100 * a + 8) :: O)) (ht : tp true O) : jq true y' O' (ps_add z (ps_a z) (7, s, r, a)) O := by
  obtain ⟨h1, h2, h3, h4⟩ := h
  unfold jq
  have e : jn true O' (ps_n y') (ps_s y') = (ps_n z + 1, va_up (jn false O' (ps_n y') (ps_s y')).2.1 (ps_n z) (7, 0, 0, a), O) := by
    rw [jn_ft, h3, h2]
    show (if _ then jn true O _ _ else _) = _
    rw [if_pos (Or.inr ⟨rfl, by omega⟩), jn_tp ht, show (100 * a + 8) % 100 - 1 = 7 by omega, show (100 * a + 8) / 100 = a by omega]
  rw [e]
  refine ⟨h1, rfl, rfl, fun k hk => ?_⟩
  show qe (va_up _ (ps_n z) (7, 0, 0, a) k) (va_up (ps_s z) (ps_n z) (7, s, r, a) k)
  by_cases ek : k = ps_n z
  · simp only [va_up, if_pos ek]
    exact ⟨rfl, rfl, fun _ => rfl⟩
  · simp only [va_up, if_neg ek]
    have hk' : k < ps_n z + 1 := hk
    exact h4 k (by omega)
/-- what a machine with open things must keep: K1 wants an atom, K2 is behind one, K3 behind its endings, W is wrong -/
def mxH (tx : Nat → Nat) (N mo : Nat) (K1 K2 K3 : ps → List Nat → Prop) (W : Nat → Prop) : Prop :=
  (∀ y z O, eqv y z → (K1 y O → K1 z O) ∧ (K2 y O → K2 z O)) ∧
  (∀ y O, ps_a y ≤ N → ¬ ((cn tx N (nx tx N (ps_a y)) = 91 ∨ cn tx N (nx tx N (ps_a y)) = 40) ∧ brk O < 12) → (∀ s z, pz_atom tx N mo none y = (some s, z) → K2 z O) → (∀ z, pz_atom tx N mo none y = (none, z) → W (ps_a z)) → K1 y O) ∧
  (∀ y O, ps_a y ≤ N → (cn tx N (nx tx N (ps_a y)) = 91 ∨ cn tx N (nx tx N (ps_a y)) = 40) → brk O < 12 → K1 (ps_at y (nx tx N (ps_a y) + 1)) (cn tx N (nx tx N (ps_a y)) :: O) → K1 y O) ∧
  (∀ y O s, ps_a y ≤ N → (∀ r z, pz_endL tx N 60 s y = (some r, z) → nx tx N (ps_a z) = ps_a z → ps_a z ≤ N → K3 z O) → (∀ z, pz_endL tx N 60 s y = (none, z) → W (ps_a z)) → K2 y O) ∧
  (∀ y O, ps_a y ≤ N → nx tx N (ps_a y) = ps_a y → cn tx N (ps_a y) = 124 → K1 (ps_a y + 1, (jn false O (ps_n y) (ps_s y)).1, (jn false O (ps_n y) (ps_s y)).2.1, ps_w y) ((100 * ps_a y + 7) :: (jn false O (ps_n y) (ps_s y)).2.2) → K3 y O) ∧
  (∀ y O, ps_a y ≤ N → nx tx N (ps_a y) = ps_a y → cn tx N (ps_a y) = 43 → K1 (ps_a y + 1, (jn true O (ps_n y) (ps_s y)).1, (jn true O (ps_n y) (ps_s y)).2.1, ps_w y) ((100 * ps_a y + 8) :: (jn true O (ps_n y) (ps_s y)).2.2) → K3 y O) ∧
  ∀ y O b O', ps_a y ≤ N → nx tx N (ps_a y) = ps_a y → ¬ cn tx N (ps_a y) = 124 → ¬ cn tx N (ps_a y) = 43 → (jn true O (ps_n y) (ps_s y)).2.2 = b :: O' → (¬ cn tx N (ps_a y) = (if b = 91 then 93 else 41) → W (ps_a y)) →
    (cn tx N (ps_a y) = (if b = 91 then 93 else 41) → K2 (if b = 91 then (ps_a y + 1, (jn true O (ps_n y) (ps_s y)).1 + 1, va_up (jn true O (ps_n y) (ps_s y)).2.1 (jn true O (ps_n y) (ps_s y)).1 (2, 0, 0, ps_a y), ps_w y) else (ps_a y + 1, (jn true O (ps_n y) (ps_s y)).1, (jn true O (ps_n y) (ps_s y)).2.1, ps_w y)) O') → K3 y O
theorem mx_part {tx : Nat → Nat} {N mo B : Nat} {K1 K2 K3 : ps → List Nat → Prop} {W : Nat → Prop} {At : ps → pr} (H : mxH tx N mo K1 K2 K3 W) (hg : pg N At)
    (hA : ∀ y O, brk O = B → ps_a y ≤ N → (∀ s z, At y = (some s, z) → K2 z O) → (∀ z, At y = (none, z) → W (ps_a z)) → K1 y O) {y : ps} {O : List Nat} (hb : brk O = B) (ha : ps_a y ≤ N)
    (k : ∀ r z, pz_part tx N At y = (some r, z) → nx tx N (ps_a z) = ps_a z → ps_a z ≤ N → K3 z O) (kw : ∀ z, pz_part tx N At y = (none, z) → W (ps_a z)) : K1 y O := by
  refine hA y O hb ha (fun s z hz => ?_) (fun z hz => ?_)
  · have e : pz_part tx N At y = pz_endL tx N 60 s z := by unfold pz_part; rw [hz]
    rw [e] at k kw
    have q := hg y ha
    rw [hz] at q
    exact H.2.2.2.1 z O s q.2.1 k kw
  · exact kw z (by unfold pz_part; rw [hz])
theorem cn_N {tx : Nat → Nat} {N a : Nat} (h : N ≤ a) : cn tx N a = 0 := if_neg (by omega)
theorem isb_op (a i : Nat) (hi : i = 7 ∨ i = 8) : isb (100 * a + i) = false := by
  unfold isb
  exact decide_eq_false (by omega)
theorem mx_or {tx : Nat → Nat} {N mo B : Nat} {K1 K2 K3 : ps → List Nat → Prop} {W : Nat → Prop} {At : ps → pr} (hN : N ≤ 60) (H : mxH tx N mo K1 K2 K3 W) (hg : pg N At)
    (hA : ∀ y O, brk O = B → ps_a y ≤ N → (∀ s z, At y = (some s, z) → K2 z O) → (∀ z, At y = (none, z) → W (ps_a z)) → K1 y O) {y : ps} {O : List Nat} (hb : brk O = B) (ht : tp false O) (ha : ps_a y ≤ N)
    (k : ∀ r z, pz_or tx N At y = (some r, z) → nx tx N (ps_a z) = ps_a z → ps_a z ≤ N → ¬ cn tx N (ps_a z) = 124 → ∀ y' O', jq false y' O' z O → K3 y' O') (kw : ∀ z, pz_or tx N At y = (none, z) → W (ps_a z)) : K1 y O := by
  have bl : ∀ (j : Nat) (s : Nat) (z1 y' : ps) (O' : List Nat), N ≤ j + ps_a z1 → ps_a z1 ≤ N → nx tx N (ps_a z1) = ps_a z1 → jq false y' O' z1 O →
      (∀ r z, pz_binL tx N 124 6 (pz_part tx N At) j s z1 = (some r, z) → nx tx N (ps_a z) = ps_a z → ps_a z ≤ N → ¬ cn tx N (ps_a z) = 124 → ∀ y' O', jq false y' O' z O → K3 y' O') →
      (∀ z, pz_binL tx N 124 6 (pz_part tx N At) j s z1 = (none, z) → W (ps_a z)) → K3 y' O' := by
    intro j
    induction j with
    | zero =>
      intro s z1 y' O' h1 h2 h3 h4 k1 k2
      exact k1 s z1 rfl h3 h2 (by rw [cn_N (by omega)]; decide) y' O' h4
    | succ j ih =>
      intro s z1 y' O' h1 h2 h3 h4 k1 k2
      have un : pz_binL tx N 124 6 (pz_part tx N At) (j + 1) s z1 = (if cn tx N (ps_a z1) = 124 then (match pz_part tx N At (ps_at z1 (ps_a z1 + 1)) with
        | (none, z) => (none, z)
        | (some r, z) => pz_binL tx N 124 6 (pz_part tx N At) j (ps_n z) (ps_add z (ps_a z) (6, s, r, ps_a z1))) else (some s, z1)) := by
        show (if cn tx N (nx tx N (ps_a z1)) = 124 then _ else _) = _
        rw [h3]
        rfl
      by_cases hc : cn tx N (ps_a z1) = 124
      · rw [if_pos hc] at un
        have haN : ps_a z1 < N := cn_lt (tx := tx) (by omega)
        obtain ⟨j1, j2, j3, j4⟩ := h4
        refine H.2.2.2.2.1 y' O' (by omega) (by rw [j1]; exact h3) (by rw [j1]; exact hc) ?_
        rw [j3, j1]
        refine (H.1 (ps_at z1 (ps_a z1 + 1)) (ps_a z1 + 1, (jn false O' (ps_n y') (ps_s y')).1, (jn false O' (ps_n y') (ps_s y')).2.1, ps_w y') _ ⟨rfl, j2.symm, fun i hi => ?_⟩).1 ?_
        · obtain ⟨e1, e2, e3⟩ := j4 i hi
          exact ⟨e1.symm, e2.symm, fun z => (e3 (by rw [e1]; exact z)).symm⟩
        · refine mx_part H hg hA (by rw [brk_cons, isb_op _ 7 (Or.inl rfl), hb]; rfl) (by show ps_a z1 + 1 ≤ N; omega) (fun r z hz hn hl => ?_) (fun z hz => ?_)
          · rw [hz] at un
            have q := pg_part (tx := tx) hg (ps_at z1 (ps_a z1 + 1)) (by show ps_a z1 + 1 ≤ N; omega)
            rw [hz] at q
            have q2 := q.1
            have q2' : ps_a z1 + 1 ≤ ps_a z := q2
            exact ih (ps_n z) (ps_add z (ps_a z) (6, s, r, ps_a z1)) z ((100 * ps_a z1 + 7) :: O) (by show N ≤ j + ps_a z; omega) hl hn (jq_ad ht) (fun r' z' hz' => k1 r' z' (un.trans hz')) (fun z' hz' => k2 z' (un.trans hz'))
          · rw [hz] at un
            exact k2 z un
      · rw [if_neg hc] at un
        exact k1 s z1 un h3 h2 hc y' O' h4
  refine mx_part H hg hA hb ha (fun r z hz hn hl => ?_) (fun z hz => ?_)
  · have e : pz_or tx N At y = pz_binL tx N 124 6 (pz_part tx N At) 60 r z := by unfold pz_or; rw [hz]
    rw [e] at k kw
    exact bl 60 r z z O (by omega) hl hn (jq_rf ht) k kw
  · exact kw z (by unfold pz_or; rw [hz])
theorem tp_tf {O : List Nat} (h : tp true O) : tp false O := fun o O' e z => h o O' e (z.elim Or.inl (fun z => absurd z.1 (by decide)))
theorem mx_sumA {tx : Nat → Nat} {N mo B : Nat} {K1 K2 K3 : ps → List Nat → Prop} {W : Nat → Prop} {At : ps → pr} (hN : N ≤ 60) (H : mxH tx N mo K1 K2 K3 W) (hg : pg N At)
    (hA : ∀ y O, brk O = B → ps_a y ≤ N → (∀ s z, At y = (some s, z) → K2 z O) → (∀ z, At y = (none, z) → W (ps_a z)) → K1 y O) {y : ps} {O : List Nat} (hb : brk O = B) (ht : tp true O) (ha : ps_a y ≤ N)
    (k : ∀ r z, pz_sumA tx N At y = (some r, z) → nx tx N (ps_a z) = ps_a z → ps_a z ≤ N → ¬ cn tx N (ps_a z) = 124 → ¬ cn tx N (ps_a z) = 43 → ∀ y' O', jq true y' O' z O → K3 y' O') (kw : ∀ z, pz_sumA tx N At y = (none, z) → W (ps_a z)) : K1 y O := by
  have bl : ∀ (j : Nat) (s : Nat) (z1 y' : ps) (O' : List Nat), N ≤ j + ps_a z1 → ps_a z1 ≤ N → nx tx N (ps_a z1) = ps_a z1 → ¬ cn tx N (ps_a z1) = 124 → jq true y' O' z1 O →
      (∀ r z, pz_binL tx N 43 7 (pz_or tx N At) j s z1 = (some r, z) → nx tx N (ps_a z) = ps_a z → ps_a z ≤ N → ¬ cn tx N (ps_a z) = 124 → ¬ cn tx N (ps_a z) = 43 → ∀ y' O', jq true y' O' z O → K3 y' O') →
      (∀ z, pz_binL tx N 43 7 (pz_or tx N At) j s z1 = (none, z) → W (ps_a z)) → K3 y' O' := by
    intro j
    induction j with
    | zero =>
      intro s z1 y' O' h1 h2 h3 h3b h4 k1 k2
      exact k1 s z1 rfl h3 h2 h3b (by rw [cn_N (by omega)]; decide) y' O' h4
    | succ j ih =>
      intro s z1 y' O' h1 h2 h3 h3b h4 k1 k2
      have un : pz_binL tx N 43 7 (pz_or tx N At) (j + 1) s z1 = (if cn tx N (ps_a z1) = 43 then (match pz_or tx N At (ps_at z1 (ps_a z1 + 1)) with
        | (none, z) => (none, z)
        | (some r, z) => pz_binL tx N 43 7 (pz_or tx N At) j (ps_n z) (ps_add z (ps_a z) (7, s, r, ps_a z1))) else (some s, z1)) := by
        show (if cn tx N (nx tx N (ps_a z1)) = 43 then _ else _) = _
        rw [h3]
        rfl
      by_cases hc : cn tx N (ps_a z1) = 43
      · rw [if_pos hc] at un
        have haN : ps_a z1 < N := cn_lt (tx := tx) (by omega)
        obtain ⟨j1, j2, j3, j4⟩ := h4
        refine H.2.2.2.2.2.1 y' O' (by omega) (by rw [j1]; exact h3) (by rw [j1]; exact hc) ?_
        rw [j3, j1]
        refine (H.1 (ps_at z1 (ps_a z1 + 1)) (ps_a z1 + 1, (jn true O' (ps_n y') (ps_s y')).1, (jn true O' (ps_n y') (ps_s y')).2.1, ps_w y') _ ⟨rfl, j2.symm, fun i hi => ?_⟩).1 ?_
        · obtain ⟨e1, e2, e3⟩ := j4 i hi
          exact ⟨e1.symm, e2.symm, fun z => (e3 (by rw [e1]; exact z)).symm⟩
        · refine mx_or hN H hg hA (by rw [brk_cons, isb_op _ 8 (Or.inr rfl), hb]; rfl) (fun o O'' e z => by cases e; exact z.elim (fun z => by omega) (fun z => absurd z.1 (by decide))) (by show ps_a z1 + 1 ≤ N; omega) (fun r z hz hn hl h124 y2 O2 hj => ?_) (fun z hz => ?_)
          · rw [hz] at un
            have q := pg_or (tx := tx) hg (ps_at z1 (ps_a z1 + 1)) (by show ps_a z1 + 1 ≤ N; omega)
            rw [hz] at q
            have q2' : ps_a z1 + 1 ≤ ps_a z := q.1
            exact ih (ps_n z) (ps_add z (ps_a z) (7, s, r, ps_a z1)) y2 O2 (by show N ≤ j + ps_a z; omega) hl hn h124 (jq_ft hj ht) (fun r' z' hz' => k1 r' z' (un.trans hz')) (fun z' hz' => k2 z' (un.trans hz'))
          · rw [hz] at un
            exact k2 z un
      · rw [if_neg hc] at un
        exact k1 s z1 un h3 h2 h3b hc y' O' h4
  refine mx_or hN H hg hA hb (tp_tf ht) ha (fun r z hz hn hl h124 y' O' hj => ?_) (fun z hz => ?_)
  · have e : pz_sumA tx N At y = pz_binL tx N 43 7 (pz_or tx N At) 60 r z := by unfold pz_sumA; rw [hz]
    rw [e] at k kw
    refine bl 60 r z y' O' (by omega) hl hn h124 ?_ k kw
    obtain ⟨j1, j2, j3, j4⟩ := hj
    unfold jq
    rw [jn_ft, j3, jn_tp ht]
    exact ⟨j1, j2, rfl, j4⟩
  · exact kw z (by unfold pz_sumA; rw [hz])
theorem mx_sum {tx : Nat → Nat} {N mo : Nat} {K1 K2 K3 : ps → List Nat → Prop} {W : Nat → Prop} (hN : N ≤ 60) (hm : mo < 8) (H : mxH tx N mo K1 K2 K3 W) : ∀ (D B : Nat), B + D = 12 → ∀ (y : ps) (O : List Nat), brk O = B → tp true O → ps_a y ≤ N →
    (∀ r z, pz_sum tx N mo D y = (some r, z) → nx tx N (ps_a z) = ps_a z → ps_a z ≤ N → ¬ cn tx N (ps_a z) = 124 → ¬ cn tx N (ps_a z) = 43 → ∀ y' O', jq true y' O' z O → K3 y' O') → (∀ z, pz_sum tx N mo D y = (none, z) → W (ps_a z)) → K1 y O
  | 0, B, hB, y, O, hb, ht, ha, k, kw => mx_sumA hN H (pg_atom hm (fun J e => by cases e)) (fun y' O' hb' ha' k1 k2 => H.2.1 y' O' ha' (fun z => by omega) k1 k2) hb ht ha k kw
  | D + 1, B, hB, y, O, hb, ht, ha, k, kw => by
    refine mx_sumA (At := pz_atom tx N mo (some (pz_sum tx N mo D))) hN H (pg_atom hm (fun J e => by cases e; exact pg_sum hm D)) (fun y' O' hb' ha' k1 k2 => ?_) hb ht ha k kw
    by_cases hc : cn tx N (nx tx N (ps_a y')) = 91 ∨ cn tx N (nx tx N (ps_a y')) = 40
    · have nx1 := nx_le (tx := tx) ha'
      have haN : nx tx N (ps_a y') < N := cn_lt (tx := tx) (by omega)
      have e : pz_atom tx N mo (some (pz_sum tx N mo D)) y' = (match pz_sum tx N mo D (ps_at y' (nx tx N (ps_a y') + 1)) with
        | (none, z) => (none, z)
        | (some r, z) => if cn tx N (nx tx N (ps_a z)) = (if cn tx N (nx tx N (ps_a y')) = 91 then 93 else 41) then (if cn tx N (nx tx N (ps_a y')) = 91 then (some (ps_n z), ps_add z (nx tx N (ps_a z) + 1) (2, r, 0, nx tx N (ps_a y'))) else (some r, ps_at z (nx tx N (ps_a z) + 1))) else (none, ps_at z (nx tx N (ps_a z)))) := by
        unfold pz_atom
        have l0 : lt (cn tx N (nx tx N (ps_a y'))) = none := by rcases hc with z | z <;> rw [z] <;> rfl
        have l1 : ¬ isN (cn tx N (nx tx N (ps_a y'))) = true := by rcases hc with z | z <;> rw [z] <;> decide
        have l2 : ¬ (48 ≤ cn tx N (nx tx N (ps_a y')) ∧ cn tx N (nx tx N (ps_a y')) < 56) := by omega
        simp only [l0, if_neg l1, if_neg l2, if_pos hc]
        rfl
      rw [e] at k1 k2
      refine H.2.2.1 y' O' ha' hc (by omega) ?_
      generalize hcc : cn tx N (nx tx N (ps_a y')) = c at hc k1 k2 ⊢
      refine mx_sum hN hm H D (B + 1) (by omega) _ (c :: O') (by rw [brk_cons, hb', show isb c = true from decide_eq_true (by omega)]; rfl) (fun o O'' e z => by cases e; omega) (by show nx tx N (ps_a y') + 1 ≤ N; omega) (fun r z hz hn hl h124 h43 y2 O2 hj => ?_) (fun z hz => ?_)
      · rw [hz] at k1 k2
        simp only [hn] at k1 k2
        obtain ⟨j1, j2, j3, j4⟩ := hj
        refine H.2.2.2.2.2.2 y2 O2 c O' (by omega) (by rw [j1]; exact hn) (by rw [j1]; exact h124) (by rw [j1]; exact h43) j3 (fun q => ?_) (fun q => ?_)
        · rw [j1] at q ⊢
          exact k2 (ps_at z (ps_a z)) (by rw [if_neg q])
        · rw [j1] at q ⊢
          simp only [if_pos q] at k1
          have sy : ∀ i, i < ps_n z → qe (ps_s z i) ((jn true O2 (ps_n y2) (ps_s y2)).2.1 i) := fun i hi => by
            obtain ⟨e1, e2, e3⟩ := j4 i hi
            exact ⟨e1.symm, e2.symm, fun z => (e3 (by rw [e1]; exact z)).symm⟩
          by_cases h91 : c = 91
          · simp only [if_pos h91] at k1 ⊢
            refine (H.1 (ps_add z (ps_a z + 1) (2, r, 0, nx tx N (ps_a y'))) (ps_a z + 1, (jn true O2 (ps_n y2) (ps_s y2)).1 + 1, va_up (jn true O2 (ps_n y2) (ps_s y2)).2.1 (jn true O2 (ps_n y2) (ps_s y2)).1 (2, 0, 0, ps_a z), ps_w y2) _ ⟨rfl, ?_, fun i hi => ?_⟩).2 (k1 _ _ rfl)
            · show ps_n z + 1 = (jn true O2 (ps_n y2) (ps_s y2)).1 + 1
              rw [j2]
            · show qe (va_up (ps_s z) (ps_n z) (2, r, 0, nx tx N (ps_a y')) i) (va_up (jn true O2 (ps_n y2) (ps_s y2)).2.1 (jn true O2 (ps_n y2) (ps_s y2)).1 (2, 0, 0, ps_a z) i)
              rw [j2]
              by_cases ei : i = ps_n z
              · simp only [va_up, if_pos ei]
                exact ⟨rfl, rfl, fun z => absurd rfl z⟩
              · simp only [va_up, if_neg ei]
                have hi' : i < ps_n z + 1 := hi
                exact sy i (by omega)
          · simp only [if_neg h91] at k1 ⊢
            exact (H.1 (ps_at z (ps_a z + 1)) (ps_a z + 1, (jn true O2 (ps_n y2) (ps_s y2)).1, (jn true O2 (ps_n y2) (ps_s y2)).2.1, ps_w y2) _ ⟨rfl, j2.symm, sy⟩).2 (k1 _ _ rfl)
      · rw [hz] at k2
        exact k2 z rfl
    · have e : pz_atom tx N mo (some (pz_sum tx N mo D)) y' = pz_atom tx N mo none y' := by
        unfold pz_atom
        simp only [if_neg hc]
      rw [e] at k1 k2
      exact H.2.1 y' O' ha' (fun z => hc z.1) k1 k2
