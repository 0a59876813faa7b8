/-! ===== the plain reader: atoms, sums, the whole line ===== -/
theorem good_new {st : xe_T} {n : Nat} {q : Nat × Nat × Nat × Nat} (h : q.1 < 2) : good (va_up st n q) n (n + 1) := good_leaf (by simp only [va_up, if_true]; exact h)
theorem ss_put_256 {f : Nat → Int64} {n : Nat} (hn : n < 208) (y : Nat) : ss_in (ss_put f n) y = (ss_in f y || decide (y = n)) := ss_put_in hn y
theorem pq_name {tx : Nat → Nat} {N o pl b : Nat} {y : ps} (ho : o < 8) (h1 : ps_a y ≤ pl) (h2 : pl ≤ b) (hb : b ≤ N) : pq N y (pz_name tx N o pl (ps_at y b)) := by
  have hn := nx_le (tx := tx) (a := b) hb
  show pq N y (if isN (cn tx N (nx tx N b)) = true then (some (ps_n y), (nx tx N b + 1, ps_n y + 1, va_up (ps_s y) (ps_n y) (1, 26 * o + (cn tx N (nx tx N b) - 65), 0, pl), ss_put (ps_w y) (26 * o + (cn tx N (nx tx N b) - 65)))) else (none, ps_at y (nx tx N b)))
  split
  · rename_i hc
    have hc' : (decide (65 ≤ cn tx N (nx tx N b)) && decide (cn tx N (nx tx N b) ≤ 90)) = true := hc
    rw [Bool.and_eq_true, decide_eq_true_iff, decide_eq_true_iff] at hc'
    have hlt : nx tx N b < N := cn_lt (tx := tx) (by omega)
    have ht : 26 * o + (cn tx N (nx tx N b) - 65) < 208 := by omega
    refine pq_add (pq_rf (a := nx tx N b) (by omega) (by omega)) (z := ps_at y (nx tx N b)) (q := (1, 26 * o + (cn tx N (nx tx N b) - 65), 0, pl)) (by omega) (by show nx tx N b ≤ _; omega) (by show ps_n y + 1 + ps_a y ≤ _ + ps_n y; omega) ⟨by show 1 < 8; omega, fun q => absurd q (by simp), fun _ => ht, fun q => absurd q (by simp), fun q => absurd q (by simp), fun q => absurd q (by simp)⟩ h1 (by show pl < _; omega) (fun j j1 j2 => absurd j2 (by show ¬ j < ps_n y; omega)) (fun t ht2 => ?_) (good_new (by simp))
    rw [ss_put_in ht, Bool.or_eq_true, decide_eq_true_iff]
    constructor
    · rintro (e | e)
      · exact Or.inl e
      · exact Or.inr ⟨rfl, e.symm⟩
    · rintro (e | ⟨_, e⟩)
      · exact Or.inl e
      · exact Or.inr e.symm
  · exact pq_rf (by omega) hn.2
theorem pg_atom {tx : Nat → Nat} {N m : Nat} {I : Option (ps → pr)} (hm : m < 8) (hI : ∀ J, I = some J → pg N J) : pg N (pz_atom tx N m I) := by
  intro y hy
  have hn := nx_le (tx := tx) (a := ps_a y) hy
  unfold pz_atom
  dsimp only
  split
  · rename_i l hl
    have hlt := cn_lt (lt_nz hl)
    have h5 := lt_5 hl
    exact pq_add (pq_rf (a := nx tx N (ps_a y)) (by omega) (by omega)) (z := ps_at y (nx tx N (ps_a y))) (q := (0, l, 0, nx tx N (ps_a y))) (b := nx tx N (ps_a y) + 1) (W := ps_w y) (by omega) (by show nx tx N (ps_a y) ≤ _; omega) (by show ps_n y + 1 + ps_a y ≤ _ + ps_n y; omega) ⟨by show 0 < 8; omega, fun _ => h5, fun q => absurd q (by simp), fun q => absurd q (by simp), fun q => absurd q (by simp), fun q => absurd q (by simp)⟩ (by show ps_a y ≤ nx tx N (ps_a y); omega) (by show nx tx N (ps_a y) < _; omega) (fun j j1 j2 => absurd j2 (by show ¬ j < ps_n y; omega)) (ss_nochange (by simp)) (good_new (by simp))
  · split
    · exact pq_name hm hn.1 (Nat.le_refl _) hn.2
    · split
      · rename_i hd
        have hlt : nx tx N (ps_a y) < N := cn_lt (tx := tx) (by omega)
        have hn2 := nx_le (tx := tx) (a := nx tx N (ps_a y) + 1) (N := N) (by omega)
        split
        · rename_i hdot
          have hlt2 := cn_lt (tx := tx) (N := N) (a := nx tx N (nx tx N (ps_a y) + 1)) (by rw [hdot]; decide)
          exact pq_name (by omega) hn.1 (by omega) (by omega)
        · exact pq_rf (by omega) (by omega)
      · split
        · rename_i hc
          have hlt : nx tx N (ps_a y) < N := cn_lt (tx := tx) (by omega)
          split
          · exact pq_rf hn.1 hn.2
          · rename_i J
            have hJ := hI J rfl (ps_at y (nx tx N (ps_a y) + 1)) (by show nx tx N (ps_a y) + 1 ≤ N; omega)
            generalize J (ps_at y (nx tx N (ps_a y) + 1)) = x at hJ ⊢
            obtain ⟨r, w⟩ := x
            have p1 : nx tx N (ps_a y) + 1 ≤ ps_a w := hJ.1
            have p2 : ps_a w ≤ N := hJ.2.1
            have p3 : ps_n y ≤ ps_n w := hJ.2.2.1
            have p4 : ps_n w + (nx tx N (ps_a y) + 1) ≤ ps_a w + ps_n y := hJ.2.2.2.1
            have p5 : ∀ j, j < ps_n y → ps_s w j = ps_s y j := hJ.2.2.2.2.1
            have p6 : ∀ j, ps_n y ≤ j → j < ps_n w → xe_ok1 (ps_s w j) j ∧ nx tx N (ps_a y) + 1 ≤ (ps_s w j).2.2.2 ∧ (ps_s w j).2.2.2 < ps_a w := hJ.2.2.2.2.2.1
            have p9 : ∀ s, r = some s → s + 1 = ps_n w ∧ nx tx N (ps_a y) + 1 < ps_a w ∧ good (ps_s w) (ps_n y) (ps_n w) := hJ.2.2.2.2.2.2.2.2
            have all : pq N y (r, w) := ⟨by show ps_a y ≤ ps_a w; omega, p2, p3, by show ps_n w + ps_a y ≤ ps_a w + ps_n y; omega, p5, fun j j1 j2 => ⟨(p6 j j1 j2).1, by have := (p6 j j1 j2).2.1; show ps_a y ≤ (ps_s w j).2.2.2; omega, (p6 j j1 j2).2.2⟩, hJ.2.2.2.2.2.2.1, hJ.2.2.2.2.2.2.2.1, fun s hs => ⟨(p9 s hs).1, by have := (p9 s hs).2.1; show ps_a y < ps_a w; omega, (p9 s hs).2.2⟩⟩
            have hn3 := nx_le (tx := tx) (a := ps_a w) p2
            cases r with
            | none => exact all
            | some r =>
              dsimp only
              obtain ⟨e1, e2, e3⟩ := p9 r rfl
              by_cases h91 : cn tx N (nx tx N (ps_a y)) = 91
              · simp only [if_pos h91]
                split
                · rename_i hclose
                  have hlt3 := cn_lt (tx := tx) (N := N) (a := nx tx N (ps_a w)) (by rw [hclose]; decide)
                  exact pq_add all (z := w) (q := (2, r, 0, nx tx N (ps_a y))) (b := nx tx N (ps_a w) + 1) (W := ps_w w) (by omega) (by omega) (by omega) ⟨by show 2 < 8; omega, fun q => absurd q (by simp), fun q => absurd q (by simp), fun _ => by show r < ps_n w; omega, fun q => absurd q (by simp), fun q => absurd q (by simp)⟩ (by show ps_a y ≤ nx tx N (ps_a y); omega) (by show nx tx N (ps_a y) < _; omega) (fun j j1 j2 => by have := (p6 j j1 j2).2.1; show (ps_s w j).2.2.2 ≠ nx tx N (ps_a y); omega) (ss_nochange (by simp)) (good_add e3 (by simp) (by simp) e1)
                · exact pq_none all hn3.1 hn3.2
              · simp only [if_neg h91]
                split
                · rename_i hclose
                  have hlt3 := cn_lt (tx := tx) (N := N) (a := nx tx N (ps_a w)) (by rw [hclose]; decide)
                  exact pq_at all (by omega) (by omega)
                · exact pq_none all hn3.1 hn3.2
        · exact pq_rf hn.1 hn.2
theorem pg_sum {tx : Nat → Nat} {N m : Nat} (hm : m < 8) : ∀ D, pg N (pz_sum tx N m D)
  | 0 => pg_sumA (pg_atom hm (fun J hJ => by cases hJ))
  | D + 1 => pg_sumA (pg_atom hm (fun J hJ => by cases hJ; exact pg_sum hm D))
/-! the head -/
theorem pz_br_le {tx : Nat → Nat} {N : Nat} : ∀ {k t a : Nat}, a ≤ N → a ≤ (pz_br tx N k t a).2 ∧ (pz_br tx N k t a).2 ≤ N ∧ ∀ u, (pz_br tx N k t a).1 = some u → u ≤ t + k
  | 0, t, a, h => ⟨Nat.le_refl _, h, fun u hu => by cases hu; omega⟩
  | k + 1, t, a, h => by
    have h1 := nx_le (tx := tx) (a := a) h
    unfold pz_br
    split
    · rename_i hc
      have hlt := cn_lt (tx := tx) (N := N) (a := nx tx N a) (by rw [hc]; decide)
      have h2 := nx_le (tx := tx) (a := nx tx N a + 1) (N := N) (by omega)
      split
      · rename_i hc2
        have hlt2 := cn_lt (tx := tx) (N := N) (a := nx tx N (nx tx N a + 1)) (by rw [hc2]; decide)
        have ih := pz_br_le (tx := tx) (N := N) (k := k) (t := t + 1) (a := nx tx N (nx tx N a + 1) + 1) (by omega)
        exact ⟨by omega, ih.2.1, fun u hu => by have := ih.2.2 u hu; omega⟩
      · exact ⟨by show a ≤ nx tx N (nx tx N a + 1); omega, h2.2, fun u hu => by cases hu⟩
    · exact ⟨h1.1, h1.2, fun u hu => by cases hu; omega⟩
theorem bd_f {l t : Nat} (hl : l < 5) (ht : t ≤ 3) : le32 ((1 : Int32) <<< (nI (l + 5 * t) &&& 31)) lF := lF_b.mpr (fun i hi q => by
  rw [bt_1 (by omega), decide_eq_true_iff] at q
  omega)
theorem pz_wd_le {tx : Nat → Nat} {N : Nat} : ∀ {k : Nat} {w : Int32} {a : Nat}, a ≤ N → le32 w lF → a ≤ (pz_wd tx N k w a).2 ∧ (pz_wd tx N k w a).2 ≤ N ∧ ∀ u, (pz_wd tx N k w a).1 = some u → le32 u lF
  | 0, w, a, h, hw => ⟨Nat.le_refl _, h, fun u hu => by cases hu⟩
  | k + 1, w, a, h, hw => by
    have h1 := nx_le (tx := tx) (a := a) h
    unfold pz_wd
    split
    · exact ⟨h1.1, h1.2, fun u hu => by cases hu⟩
    · rename_i l hl
      have hlt := cn_lt (lt_nz hl)
      have hbr := pz_br_le (tx := tx) (N := N) (k := 3) (t := 0) (a := nx tx N a + 1) (by omega)
      generalize pz_br tx N 3 0 (nx tx N a + 1) = x at hbr ⊢
      obtain ⟨r, b⟩ := x
      cases r with
      | none => exact ⟨by have : nx tx N a + 1 ≤ b := hbr.1; show a ≤ b; omega, hbr.2.1, fun u hu => by cases hu⟩
      | some t =>
        have b1 : nx tx N a + 1 ≤ b := hbr.1
        have b2 : b ≤ N := hbr.2.1
        have b3 := hbr.2.2 t rfl
        have h2 := nx_le (tx := tx) (a := b) b2
        have hw2 := hw.or (bd_f (t := t) (lt_5 hl) (by omega))
        dsimp only
        split
        · rename_i hc
          have hlt2 := cn_lt (tx := tx) (N := N) (a := nx tx N b) (by rw [hc]; decide)
          have ih := pz_wd_le (tx := tx) (N := N) (k := k) (a := nx tx N b + 1) (by omega) hw2
          exact ⟨by omega, ih.2.1, ih.2.2⟩
        · exact ⟨by show a ≤ nx tx N b; omega, h2.2, fun u hu => by cases hu; exact hw2⟩
theorem lF_nat {x : Int32} (h : le32 x lF) : ∃ m, m < 2 ^ 20 ∧ x = nI m := by
  have e : x &&& lF = x := bt_ext (fun i hi => by
    rw [bt_and]
    cases hb : bt x i with
    | false => rfl
    | true => rw [h i hi hb]; rfl)
  obtain ⟨j, h1, h2⟩ := pk_andE x (m := lF) 20 (by decide)
  exact ⟨j, h1, by rw [← e]; exact h2⟩
/-- what a good head tells -/
def hd_ok (N m : Nat) (x : Option (Int32 × Int32 × Nat) × Nat) : Prop := x.2 ≤ N ∧ ∀ df dc q, x.1 = some (df, dc, q) → (df = -1 ∨ ∃ t, t < 208 ∧ df = nI t) ∧ (dc = -1 ∨ ∃ u, u < 2 ^ 20 ∧ dc = nI u) ∧ q + 1 = x.2
theorem hd_eq {tx : Nat → Nat} {N m b : Nat} {df dc : Int32} (hb : b ≤ N) (h1 : df = -1 ∨ ∃ t, t < 208 ∧ df = nI t) (h2 : dc = -1 ∨ ∃ u, u < 2 ^ 20 ∧ dc = nI u) : hd_ok N m (if cn tx N (nx tx N b) = 61 then (some (df, dc, nx tx N b), nx tx N b + 1) else (none, nx tx N b)) := by
  have hn := nx_le (tx := tx) (a := b) hb
  split
  · rename_i hc
    have hlt := cn_lt (tx := tx) (N := N) (a := nx tx N b) (by rw [hc]; decide)
    exact ⟨by show nx tx N b + 1 ≤ N; omega, fun df' dc' q hq => by cases hq; exact ⟨h1, h2, rfl⟩⟩
  · exact ⟨hn.2, fun df' dc' q hq => by cases hq⟩
theorem pz_hd_ok {tx : Nat → Nat} {N m : Nat} (hm : m < 8) : hd_ok N m (pz_hd tx N m) := by
  have hn := nx_le (tx := tx) (a := 0) (N := N) (Nat.zero_le _)
  unfold pz_hd
  dsimp only
  split
  · rename_i hc
    have hc' : (decide (65 ≤ cn tx N (nx tx N 0)) && decide (cn tx N (nx tx N 0) ≤ 90)) = true := hc
    rw [Bool.and_eq_true, decide_eq_true_iff, decide_eq_true_iff] at hc'
    have hlt : nx tx N 0 < N := cn_lt (tx := tx) (by omega)
    have hn2 := nx_le (tx := tx) (a := nx tx N 0 + 1) (N := N) (by omega)
    have hdf : (nI (26 * m + (cn tx N (nx tx N 0) - 65)) = -1 ∨ ∃ t, t < 208 ∧ nI (26 * m + (cn tx N (nx tx N 0) - 65)) = nI t) := Or.inr ⟨_, by omega, rfl⟩
    split
    · rename_i hc2
      have hlt2 := cn_lt (tx := tx) (N := N) (a := nx tx N (nx tx N 0 + 1)) (by rw [hc2]; decide)
      have hw := pz_wd_le (tx := tx) (N := N) (k := 60) (w := 0) (a := nx tx N (nx tx N 0 + 1) + 1) (by omega) (le32.z _)
      generalize pz_wd tx N 60 0 (nx tx N (nx tx N 0 + 1) + 1) = x at hw ⊢
      obtain ⟨r, b⟩ := x
      cases r with
      | none => exact ⟨hw.2.1, fun df' dc' q hq => by cases hq⟩
      | some w => exact hd_eq hw.2.1 hdf (Or.inr (lF_nat (hw.2.2 w rfl)))
    · exact hd_eq hn2.2 hdf (Or.inl rfl)
  · exact hd_eq hn.2 (Or.inl rfl) (Or.inl rfl)
theorem pz_bad_wf {N a : Nat} (ha : a ≤ N) (hN : N ≤ 60) : ln_wf (pz_bad N a) := by
  have hw : ¬ nI a = -1 := nI_neg (by omega)
  refine ⟨⟨fun h => absurd h hw, fun _ => ⟨a, ha, rfl⟩⟩, Or.inl rfl, Or.inl rfl, fun j hj => absurd hj (by show ¬ j < 0; omega), fun t ht => ⟨fun h => ?_, fun ⟨j, hj, _⟩ => absurd hj (by show ¬ j < 0; omega)⟩, fun _ => ⟨rfl, rfl⟩, fun h => absurd h hw⟩
  have : ss_in (fun _ => (0 : Int64)) t = true := h
  unfold ss_in at this
  simp at this
/-- the line that is read is a line as it must be; its steps can be worked out on a pile -/
theorem pz_wf {tx : Nat → Nat} {N m : Nat} (hm : m < 8) (hN : N ≤ 60) : ln_wf (pz tx N m) ∧ ln_L (pz tx N m) = N ∧ ln_n (pz tx N m) ≤ N ∧ (ln_wr (pz tx N m) = -1 → good (ln_st (pz tx N m)) 0 (ln_n (pz tx N m))) := by
  have hh := pz_hd_ok (tx := tx) (N := N) hm
  have bad : ∀ a, a ≤ N → ln_wf (pz_bad N a) ∧ ln_L (pz_bad N a) = N ∧ ln_n (pz_bad N a) ≤ N ∧ (ln_wr (pz_bad N a) = -1 → good (ln_st (pz_bad N a)) 0 (ln_n (pz_bad N a))) := fun a ha => ⟨pz_bad_wf ha hN, rfl, Nat.zero_le _, fun h => absurd h (nI_neg (by omega))⟩
  unfold pz
  generalize pz_hd tx N m = x at hh ⊢
  obtain ⟨r, a⟩ := x
  cases r with
  | none => exact bad a hh.1
  | some q =>
    obtain ⟨df, dc, eq⟩ := q
    obtain ⟨h1, h2⟩ := hh
    obtain ⟨h3, h4, h5⟩ := h2 df dc eq rfl
    dsimp only at h1 h5 ⊢
    have hs := pg_sum (tx := tx) (N := N) hm 12 (ps_0 a) h1
    generalize pz_sum tx N m 12 (ps_0 a) = y at hs ⊢
    obtain ⟨r, z⟩ := y
    have p1 : a ≤ ps_a z := hs.1
    have p2 : ps_a z ≤ N := hs.2.1
    have p4 : ps_n z + a ≤ ps_a z + 0 := hs.2.2.2.1
    cases r with
    | none => exact bad _ p2
    | some s =>
      have hn := nx_le (tx := tx) (a := ps_a z) p2
      dsimp only
      split
      · have p6 : ∀ j, 0 ≤ j → j < ps_n z → xe_ok1 (ps_s z j) j ∧ a ≤ (ps_s z j).2.2.2 ∧ (ps_s z j).2.2.2 < ps_a z := hs.2.2.2.2.2.1
        have p7 : ∀ i j, 0 ≤ i → i < j → j < ps_n z → (ps_s z i).2.2.2 ≠ (ps_s z j).2.2.2 := hs.2.2.2.2.2.2.1
        have p8 : ∀ t, t < 256 → (ss_in (ps_w z) t = true ↔ ss_in (fun _ => (0 : Int64)) t = true ∨ ∃ j, 0 ≤ j ∧ j < ps_n z ∧ (ps_s z j).1 = 1 ∧ (ps_s z j).2.1 = t) := hs.2.2.2.2.2.2.2.1
        obtain ⟨e1, e2, e3⟩ := hs.2.2.2.2.2.2.2.2 s rfl
        have e3' : good (ps_s z) 0 (ps_n z) := e3
        have hq := e3'.1
        refine ⟨⟨⟨fun _ => ⟨⟨eq, by show eq ≤ N; omega, rfl, fun j hj => ?_⟩, fun j hj => ?_, fun i j i1 i2 => p7 i j (Nat.zero_le _) i1 i2⟩, fun h => absurd rfl h⟩, h3, h4, fun j hj => (p6 j (Nat.zero_le _) hj).1, fun t ht => ?_, fun h => absurd rfl h, fun _ => hq⟩, rfl, by show ps_n z ≤ N; omega, fun _ => e3'⟩
        · have := (p6 j (Nat.zero_le _) hj).2.1
          show (ps_s z j).2.2.2 ≠ eq
          omega
        · have := (p6 j (Nat.zero_le _) hj).2.2
          show (ps_s z j).2.2.2 ≤ N
          omega
        · show ss_in (ps_w z) t = true ↔ ∃ j, j < ps_n z ∧ (ps_s z j).1 = 1 ∧ (ps_s z j).2.1 = t
          rw [p8 t ht]
          constructor
          · rintro (e | ⟨j, _, j2, j3⟩)
            · unfold ss_in at e; simp at e
            · exact ⟨j, j2, j3⟩
          · rintro ⟨j, j2, j3⟩
            exact Or.inr ⟨j, Nat.zero_le _, j2, j3⟩
      · exact bad _ hn.2
