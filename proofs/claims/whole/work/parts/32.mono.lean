/-! ===== values grow with the types ===== -/
theorem lF_b {x : Int32} : le32 x lF ↔ ∀ i, i < 32 → bt x i = true → i < 20 := by
  constructor
  · intro h i hi hb; exact bt_20 h hi hb
  · intro h i hi hb
    unfold lF
    rw [bt_cF i hi]
    exact decide_eq_true (h i hi hb)
theorem le_listed {a b : Int32} (h : le32 a b) : le32 (fm_listed a) (fm_listed b) := by
  intro i hi q
  rw [fm_listed_b _ i hi] at q ⊢
  rcases q with ⟨q1, q2, q3⟩ | ⟨q1, j, q2, q3, q4⟩
  · exact Or.inl ⟨q1, h _ (by omega) q2, q3⟩
  · exact Or.inr ⟨q1, j, q2, q3, h _ (by omega) q4⟩
theorem bd_listed {a : Int32} (h : le32 a lF) : le32 (fm_listed a) lF := lF_b.mpr (fun i hi q => by
  rw [fm_listed_b _ i hi] at q
  rcases q with ⟨q1, q2, q3⟩ | ⟨q1, _⟩
  · have := bt_20 h (by omega) q2; omega
  · omega)
theorem le_un {a b : Int32} (h : le32 a b) : le32 (fm_un a) (fm_un b) := by
  intro i hi q
  rw [fm_un_b _ i hi] at q ⊢
  rcases q with q | ⟨q1, q2⟩
  · refine Or.inl (h _ ?_ q)
    rcases Nat.lt_or_ge (5 + i) 32 with z | z
    · exact z
    · rw [bt_big a z] at q; cases q
  · exact Or.inr ⟨q1, h _ (by omega) q2⟩
theorem bd_un {a : Int32} (h : le32 a lF) : le32 (fm_un a) lF := lF_b.mpr (fun i hi q => by
  rw [fm_un_b _ i hi] at q
  rcases q with q | ⟨q1, _⟩
  · rcases Nat.lt_or_ge (5 + i) 32 with z | z
    · have := bt_20 h z q; omega
    · rw [bt_big a z] at q; cases q
  · omega)
theorem le_and {a b : Int32} (c : Int32) (h : le32 a b) : le32 (a &&& c) (b &&& c) := by
  intro i hi q
  rw [bt_and, Bool.and_eq_true] at q ⊢
  exact ⟨h i hi q.1, q.2⟩
theorem le_an (a c : Int32) : le32 (a &&& c) a := by
  intro i hi q
  rw [bt_and, Bool.and_eq_true] at q
  exact q.1
theorem le_na {a b : Int32} {l : Nat} (hl : l < 5) (h : le32 a b) : le32 (fm_na a (nI l)) (fm_na b (nI l)) := by
  intro i hi q
  rw [fm_na_b _ hl i hi] at q ⊢
  exact ⟨q.1, q.2.elim (fun z => Or.inl (h _ (by omega) z)) (fun z => Or.inr (h _ (by omega) z))⟩
theorem bd_na {a : Int32} {l : Nat} (hl : l < 5) : le32 (fm_na a (nI l)) lF := lF_b.mpr (fun i hi q => by
  rw [fm_na_b _ hl i hi] at q
  omega)
theorem le_sum {a b c d : Int32} (ha : le32 a lF) (hb : le32 b lF) (hc : le32 c lF) (hd : le32 d lF) (h1 : le32 a c) (h2 : le32 b d) : le32 (fm_sum a b) (fm_sum c d) := by
  intro i hi q
  rw [fm_sum_b ha hb i hi] at q
  rw [fm_sum_b hc hd i hi]
  obtain ⟨f, q1, q2, g, q3, q4, q5⟩ := q
  exact ⟨f, q1, h1 _ (by omega) q2, g, q3, h2 _ (by omega) q4, q5⟩
theorem bd_sum {a b : Int32} (ha : le32 a lF) (hb : le32 b lF) : le32 (fm_sum a b) lF := lF_b.mpr (fun i hi q => by
  rw [fm_sum_b ha hb i hi] at q
  obtain ⟨f, q1, q2, g, q3, q4, q5⟩ := q
  exact so_20 q1 q3 q5)
theorem bd_1 {l : Nat} (hl : l < 5) : le32 ((1 : Int32) <<< (nI l &&& 31)) lF := lF_b.mpr (fun i hi q => by
  rw [bt_1 (by omega), decide_eq_true_iff] at q
  omega)
theorem bd_nI {m : Nat} (h : m < 2 ^ 20) : le32 (nI m) lF := lF_b.mpr (fun i hi q => by
  unfold bt at q
  rw [← BitVec.testBit_toNat, pk_tn (by omega)] at q
  apply Classical.byContradiction
  intro hn
  rw [Nat.testBit_lt_two_pow (Nat.lt_of_lt_of_le h (Nat.pow_le_pow_right (by omega) (by omega)))] at q
  cases q)
/-- the symbols that a list of steps reads -/
def nm (st : xe_T) (n t : Nat) : Prop := ∃ j, j < n ∧ (st j).1 = 1 ∧ (st j).2.1 = t
theorem xe_ev_bd {st : xe_T} {T : Nat → Int32} : ∀ {n : Nat}, (∀ j, j < n → xe_ok1 (st j) j) → (∀ t, nm st n t → le32 (T t) lF) → ∀ j, j < n → le32 (xe_ev st T n j) lF
  | 0, _, _, _, hj => absurd hj (by omega)
  | n + 1, hok, hT, j, hj => by
    have ih := xe_ev_bd (n := n) (fun j hj => hok j (by omega)) (fun t ⟨j, h1, h2⟩ => hT t ⟨j, by omega, h2⟩)
    by_cases e : j = n
    · subst e
      show le32 (upd (xe_ev st T j) j _ j) lF
      rw [pk_us]
      obtain ⟨o1, o2, o3, o4, o5, o6⟩ := hok j (by omega)
      have hname : (st j).1 = 1 → le32 (T (st j).2.1) lF := fun z => hT _ ⟨j, by omega, z, rfl⟩
      generalize st j = q at o1 o2 o3 o4 o5 o6 hname ⊢
      unfold xe_v
      split
      · rename_i h; exact bd_1 (o2 h)
      · split
        · rename_i h; exact hname h
        · rename_i h0 h1
          have e1 := ih q.2.1 (o4 (by omega))
          split
          · exact bd_listed e1
          · split
            · exact bd_un e1
            · split
              · exact (le_an _ _).tr e1
              · split
                · rename_i h; exact bd_na (by have := o5 h; omega)
                · have e2 := ih q.2.2.1 (o6 (by omega))
                  split
                  · exact e1.or e2
                  · exact bd_sum e1 e2
    · show le32 (upd (xe_ev st T n) n _ j) lF
      rw [pk_un e]
      exact ih j (by omega)
theorem xe_ev_le {st : xe_T} {T X : Nat → Int32} : ∀ {n : Nat}, (∀ j, j < n → xe_ok1 (st j) j) → (∀ t, nm st n t → le32 (T t) (X t)) → (∀ t, nm st n t → le32 (X t) lF) → ∀ j, j < n → le32 (xe_ev st T n j) (xe_ev st X n j)
  | 0, _, _, _, _, hj => absurd hj (by omega)
  | n + 1, hok, hT, hX, j, hj => by
    have ih := xe_ev_le (n := n) (fun j hj => hok j (by omega)) (fun t ⟨j, h1, h2⟩ => hT t ⟨j, by omega, h2⟩) (fun t ⟨j, h1, h2⟩ => hX t ⟨j, by omega, h2⟩)
    have bx := xe_ev_bd (T := X) (n := n) (fun j hj => hok j (by omega)) (fun t ⟨j, h1, h2⟩ => hX t ⟨j, by omega, h2⟩)
    by_cases e : j = n
    · subst e
      show le32 (upd (xe_ev st T j) j _ j) (upd (xe_ev st X j) j _ j)
      rw [pk_us, pk_us]
      obtain ⟨o1, o2, o3, o4, o5, o6⟩ := hok j (by omega)
      have hname : (st j).1 = 1 → le32 (T (st j).2.1) (X (st j).2.1) := fun z => hT _ ⟨j, by omega, z, rfl⟩
      generalize st j = q at o1 o2 o3 o4 o5 o6 hname ⊢
      unfold xe_v
      split
      · exact le32.rf _
      · split
        · rename_i h; exact hname h
        · rename_i h0 h1
          have e1 := ih q.2.1 (o4 (by omega))
          have f1 := bx q.2.1 (o4 (by omega))
          split
          · exact le_listed e1
          · split
            · exact le_un e1
            · split
              · exact le_and _ e1
              · split
                · rename_i h; exact le_na (by have := o5 h; omega) e1
                · have e2 := ih q.2.2.1 (o6 (by omega))
                  have f2 := bx q.2.2.1 (o6 (by omega))
                  split
                  · exact (e1.tr (le32.l _ _)).or (e2.tr (le32.r _ _))
                  · exact le_sum (e1.tr f1) (e2.tr f2) f1 f2 e1 e2
    · show le32 (upd (xe_ev st T n) n _ j) (upd (xe_ev st X n) n _ j)
      rw [pk_un e, pk_un e]
      exact ih j (by omega)
theorem xe_ev_eq {st : xe_T} {T X : Nat → Int32} : ∀ {n : Nat}, (∀ j, j < n → xe_ok1 (st j) j) → (∀ t, nm st n t → T t = X t) → ∀ j, j < n → xe_ev st T n j = xe_ev st X n j
  | 0, _, _, _, hj => absurd hj (by omega)
  | n + 1, hok, hT, j, hj => by
    have ih := xe_ev_eq (n := n) (fun j hj => hok j (by omega)) (fun t ⟨j, h1, h2⟩ => hT t ⟨j, by omega, h2⟩)
    by_cases e : j = n
    · subst e
      show upd (xe_ev st T j) j _ j = upd (xe_ev st X j) j _ j
      rw [pk_us, pk_us, xe_v_congr (hok j (by omega)) ih]
      unfold xe_v
      by_cases h1 : (st j).1 = 1
      · have := hT _ ⟨j, by omega, h1, rfl⟩
        rw [this]
      · simp only [h1, if_false]
    · show upd (xe_ev st T n) n _ j = upd (xe_ev st X n) n _ j
      rw [pk_un e, pk_un e]
      exact ih j (by omega)
/-- what a line reads -/
def lr (s : ln_S) (t : Nat) : Prop := t < 208 ∧ ss_in (ln_W s) t = true
theorem lr_nm {s : ln_S} (h : ln_wf s) {t : Nat} : nm (ln_st s) (ln_n s) t ↔ lr s t := by
  constructor
  · rintro ⟨j, h1, h2, h3⟩
    have ht : t < 208 := by rw [← h3]; exact (h.2.2.2.1 j h1).2.2.1 h2
    exact ⟨ht, (h.2.2.2.2.1 t (by omega)).mpr ⟨j, h1, h2, h3⟩⟩
  · rintro ⟨h1, h2⟩
    exact (h.2.2.2.2.1 t (by omega)).mp h2
theorem ln_val_bd {s : ln_S} {T : Nat → Int32} (h : ln_wf s) (hT : ∀ t, lr s t → le32 (T t) lF) : le32 (ln_val s T) lF := by
  unfold ln_val
  split
  · exact le32.z _
  · exact xe_ev_bd h.2.2.2.1 (fun t ht => hT t ((lr_nm h).mp ht)) _ (by omega)
theorem ln_val_le {s : ln_S} {T X : Nat → Int32} (h : ln_wf s) (hT : ∀ t, lr s t → le32 (T t) (X t)) (hX : ∀ t, lr s t → le32 (X t) lF) : le32 (ln_val s T) (ln_val s X) := by
  unfold ln_val
  split
  · exact le32.z _
  · exact xe_ev_le h.2.2.2.1 (fun t ht => hT t ((lr_nm h).mp ht)) (fun t ht => hX t ((lr_nm h).mp ht)) _ (by omega)
theorem ln_val_eq {s : ln_S} {T X : Nat → Int32} (h : ln_wf s) (hT : ∀ t, lr s t → T t = X t) : ln_val s T = ln_val s X := by
  unfold ln_val
  split
  · rfl
  · exact xe_ev_eq h.2.2.2.1 (fun t ht => hT t ((lr_nm h).mp ht)) _ (by omega)
theorem ln_says_le {s : ln_S} {a b : Int32} (h : le32 a b) : le32 (ln_says s a) (ln_says s b) := by
  unfold ln_says
  split
  · exact h
  · exact le32.rf _
theorem ln_says_bd {s : ln_S} {a : Int32} (hw : ln_wf s) (h : le32 a lF) : le32 (ln_says s a) lF := by
  unfold ln_says
  split
  · exact h
  · rename_i hn
    rcases hw.2.2.1 with e | ⟨m, hm, e⟩
    · exact absurd e hn
    · rw [e]; exact bd_nI hm
/-- the types hold all that the lines say -/
def cs_ok (L : Nat → Option ln_S) (X : Nat → Int32) : Prop := ∀ p z t, p < 96 → L p = some z → t < 208 → ln_df z = nI t → le32 (ln_says z (ln_val z X)) (X t)
def df_no (L : Nat → Option ln_S) (t : Nat) : Prop := ∀ p z, p < 96 → L p = some z → ¬ ln_df z = nI t
/-- the least types -/
def lf_is (L : Nat → Option ln_S) (T : Nat → Int32) : Prop := (∀ t, t < 208 → le32 (T t) lF) ∧ cs_ok L T ∧ (∀ t, t < 208 → df_no L t → le32 16 (T t)) ∧ ∀ X : Nat → Int32, (∀ t, t < 208 → le32 (X t) lF) → cs_ok L X → (∀ t, t < 208 → df_no L t → le32 16 (X t)) → ∀ t, t < 208 → le32 (T t) (X t)
theorem lf_is.un {L : Nat → Option ln_S} {T T' : Nat → Int32} (h : lf_is L T) (h' : lf_is L T') : ∀ t, t < 208 → T t = T' t := fun t ht =>
  (h.2.2.2 T' h'.1 h'.2.1 h'.2.2.1 t ht).as (h'.2.2.2 T h.1 h.2.1 h.2.2.1 t ht)
