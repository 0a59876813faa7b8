/-! ===== locals may be forgotten; loops ===== -/
def px_asc : px_L → Bool
  | [] => true
  | q :: r => (match r with
    | [] => true
    | p :: _ => Nat.blt q.1 p.1) && px_asc r
def px_RL (ls ls' : px_L) : Prop := (∀ i v, px_lget ls i = some v → px_lget ls' i = some v) ∧ (ls.map Prod.fst).Nodup
theorem px_lget_of {ls : px_L} {i : Nat} {v : Value} (hn : (ls.map Prod.fst).Nodup) (h : (i, v) ∈ ls) : px_lget ls i = some v := by
  induction ls with
  | nil => cases h
  | cons q r ih =>
    rw [List.map_cons, List.nodup_cons] at hn
    unfold px_lget
    rcases List.mem_cons.mp h with e | e
    · subst e
      rw [Nat.beq_refl]; rfl
    · have hq : q.1 ≠ i := fun z => hn.1 (List.mem_map.mpr ⟨_, e, z.symm⟩)
      rw [show Nat.beq q.1 i = false from by
        cases hb : Nat.beq q.1 i with
        | false => rfl
        | true => exact absurd (Nat.eq_of_beq_eq_true hb) hq]
      exact ih hn.2 e
theorem px_lgm {ls : px_L} {i : Nat} {v : Value} (h : px_lget ls i = some v) : (i, v) ∈ ls := by
  induction ls with
  | nil => cases h
  | cons q r ih =>
    unfold px_lget at h
    cases hb : Nat.beq q.1 i with
    | false => rw [hb] at h; exact List.mem_cons_of_mem _ (ih h)
    | true =>
      rw [hb] at h
      have e := Nat.eq_of_beq_eq_true hb
      cases h
      subst e
      exact List.mem_cons_self
theorem px_asc_lt : ∀ {ls : px_L} {q : Nat × Value}, px_asc (q :: ls) = true → ∀ p, p ∈ ls → q.1 < p.1
  | [], _, _, _, h => by cases h
  | r :: t, q, ha, p, h => by
    have h1 : (Nat.blt q.1 r.1 && px_asc (r :: t)) = true := ha
    rw [Bool.and_eq_true] at h1
    have h2 : q.1 < r.1 := Nat.le_of_ble_eq_true h1.1
    rcases List.mem_cons.mp h with e | e
    · rw [e]; exact h2
    · exact Nat.lt_trans h2 (px_asc_lt h1.2 p e)
theorem px_asc_nd : ∀ {ls : px_L}, px_asc ls = true → (ls.map Prod.fst).Nodup
  | [], _ => List.nodup_nil
  | q :: r, h => by
    rw [List.map_cons, List.nodup_cons]
    refine ⟨fun hm => ?_, px_asc_nd (ls := r) ?_⟩
    · obtain ⟨p, hp, e⟩ := List.mem_map.mp hm
      have := px_asc_lt h p hp
      omega
    · have h1 : (_ && px_asc r) = true := h
      rw [Bool.and_eq_true] at h1
      exact h1.2
theorem px_RL_of {ls ls' : px_L} (hk : px_asc ls' = true) (hs : ls.Sublist ls') : px_RL ls ls' :=
  ⟨fun _ _ h => px_lget_of (px_asc_nd hk) (hs.subset (px_lgm h)), (hs.map Prod.fst).nodup (px_asc_nd hk)⟩
theorem px_insm {ls : px_L} {i : Nat} {v : Value} {q : Nat × Value} : q ∈ px_ins ls i v ↔ q = (i, v) ∨ q ∈ ls := by
  induction ls with
  | nil => simp [px_ins]
  | cons p r ih =>
    unfold px_ins
    cases Nat.blt i p.1 with
    | true => simp
    | false =>
      simp only [cond_false, List.mem_cons, ih]
      constructor
      · rintro (h | h | h)
        · exact Or.inr (Or.inl h)
        · exact Or.inl h
        · exact Or.inr (Or.inr h)
      · rintro (h | h | h)
        · exact Or.inr (Or.inl h)
        · exact Or.inl h
        · exact Or.inr (Or.inr h)
theorem px_ins_nd {ls : px_L} {i : Nat} {v : Value} (hn : (ls.map Prod.fst).Nodup) (hi : ∀ q, q ∈ ls → q.1 ≠ i) : ((px_ins ls i v).map Prod.fst).Nodup := by
  induction ls with
  | nil => simp [px_ins]
  | cons p r ih =>
    rw [List.map_cons, List.nodup_cons] at hn
    unfold px_ins
    cases Nat.blt i p.1 with
    | true =>
      simp only [cond_true, List.map_cons]
      rw [List.nodup_cons]
      refine ⟨fun hm => ?_, by rw [List.nodup_cons]; exact hn⟩
      rw [← List.map_cons] at hm
      obtain ⟨q, hq, e⟩ := List.mem_map.mp hm
      exact hi q hq e
    | false =>
      simp only [cond_false, List.map_cons]
      rw [List.nodup_cons]
      refine ⟨fun hm => ?_, ih hn.2 (fun q hq => hi q (List.mem_cons_of_mem _ hq))⟩
      obtain ⟨q, hq, e⟩ := List.mem_map.mp hm
      rcases px_insm.mp hq with h | h
      · subst h; exact hi p List.mem_cons_self e.symm
      · exact hn.1 (List.mem_map.mpr ⟨q, h, e⟩)
def px_cf1 (i : Nat) (q : Nat × Value) : Bool := !(Nat.beq q.1 i) && !(Nat.beq (q.1 + 1) i && Nat.beq q.2.category 2)
def px_cf2 (i : Nat) (q : Nat × Value) : Bool := !(Nat.beq q.1 i) && (!(Nat.beq q.1 (i + 1)) && !(Nat.beq (q.1 + 1) i && Nat.beq q.2.category 2))
theorem px_cut1_f (ls : px_L) (i : Nat) : px_cut1 ls i = ls.filter (px_cf1 i) := by
  induction ls with
  | nil => rfl
  | cons q r ih =>
    unfold px_cut1
    rw [List.filter_cons, ih]
    show (bif px_cf1 i q then _ else _) = _
    cases px_cf1 i q <;> rfl
theorem px_cut2_f (ls : px_L) (i : Nat) : px_cut2 ls i = ls.filter (px_cf2 i) := by
  induction ls with
  | nil => rfl
  | cons q r ih =>
    unfold px_cut2
    rw [List.filter_cons, ih]
    show (bif px_cf2 i q then _ else _) = _
    cases px_cf2 i q <;> rfl
theorem px_RL.st {ls ls' : px_L} {i : Nat} {v : Value} {p : Nat × Value → Bool} (h : px_RL ls ls') (hn' : (ls'.map Prod.fst).Nodup) (hp : ∀ q, p q = true → q.1 ≠ i) :
    px_RL (px_ins (ls.filter p) i v) (px_ins (ls'.filter p) i v) ∧ ((px_ins (ls'.filter p) i v).map Prod.fst).Nodup := by
  have nd : ∀ l : px_L, (l.map Prod.fst).Nodup → ((px_ins (l.filter p) i v).map Prod.fst).Nodup := fun l hl =>
    px_ins_nd ((List.filter_sublist.map Prod.fst).nodup hl) (fun q hq => hp q (List.mem_filter.mp hq).2)
  refine ⟨⟨fun j w hj => ?_, nd ls h.2⟩, nd ls' hn'⟩
  refine px_lget_of (nd ls' hn') ?_
  rcases px_insm.mp (px_lgm hj) with e | e
  · exact px_insm.mpr (Or.inl e)
  · obtain ⟨e1, e2⟩ := List.mem_filter.mp e
    exact px_insm.mpr (Or.inr (List.mem_filter.mpr ⟨px_lgm (h.1 _ _ (px_lget_of h.2 e1)), e2⟩))
theorem px_cf1_ne {i : Nat} {q : Nat × Value} (h : px_cf1 i q = true) : q.1 ≠ i := by
  intro e
  unfold px_cf1 at h
  rw [e, Nat.beq_refl] at h
  cases h
theorem px_cf2_ne {i : Nat} {q : Nat × Value} (h : px_cf2 i q = true) : q.1 ≠ i := by
  intro e
  unfold px_cf2 at h
  rw [e, Nat.beq_refl] at h
  cases h
def px_RM (ls ls' : px_L) : Prop := px_RL ls ls' ∧ (ls'.map Prod.fst).Nodup
theorem px_RM.s1 {ls ls' : px_L} (h : px_RM ls ls') (i : Nat) (v : Value) : px_RM (px_ls1 ls i v) (px_ls1 ls' i v) := by
  unfold px_ls1
  rw [px_cut1_f, px_cut1_f]
  exact h.1.st h.2 (fun q => px_cf1_ne)
theorem px_RM.s2 {ls ls' : px_L} (h : px_RM ls ls') (i : Nat) (v : Value) : px_RM (px_ls2 ls i v) (px_ls2 ls' i v) := by
  unfold px_ls2
  rw [px_cut2_f, px_cut2_f]
  exact h.1.st h.2 (fun q => px_cf2_ne)
/-- what an instruction does with more locals than it needs -/
def px_wk (g : Nat → px_L → List Value → px_S → px_R) : Prop := ∀ pc ls ls' st S f1 S1, px_RM ls ls' → g pc ls st S = some (f1, S1) → ∃ f1' : px_F, g pc ls' st S = some (f1', S1) ∧ f1'.1 = f1.1 ∧ f1'.2.2 = f1.2.2 ∧ px_RM f1.2.1 f1'.2.1
theorem px_wk_of {g : Nat → px_L → List Value → px_S → px_R} (h : ∃ k : Nat → List Value → px_S → Option (Nat × List Value × px_S), ∀ pc ls st S, g pc ls st S = (k pc st S).map (fun q => ((q.1, ls, q.2.1), q.2.2))) : px_wk g := by
  obtain ⟨k, hk⟩ := h
  intro pc ls ls' st S f1 S1 hr hg
  rw [hk] at hg
  cases hq : k pc st S with
  | none => rw [hq] at hg; cases hg
  | some q =>
    rw [hq] at hg
    cases hg
    exact ⟨(q.1, ls', q.2.1), by rw [hk, hq]; rfl, rfl, rfl, hr⟩
/-- one that leaves the locals alone, told by what it does with none -/
theorem px_wk_nil {g : Nat → px_L → List Value → px_S → px_R} (h : ∀ pc ls st S, g pc ls st S = (g pc [] st S).map (fun q => ((q.1.1, ls, q.1.2.2), q.2))) : px_wk g := by
  refine px_wk_of ⟨fun pc st S => (g pc [] st S).map (fun q => (q.1.1, q.1.2.2, q.2)), fun pc ls st S => ?_⟩
  rw [h, Option.map_map]
  rfl
theorem px_k_w (v : Value) (n : Nat) : px_wk (px_k v n) := px_wk_nil (fun pc ls st S => by
  simp only [px_k, Bool.cond_eq_ite]
  repeat' split
  all_goals first | rfl | (simp_all; done))
theorem px_ii_w (g : Int32 → Int32 → Int32) : px_wk (px_ii g) := px_wk_nil (fun pc ls st S => by
  simp only [px_ii, Bool.cond_eq_ite]
  repeat' split
  all_goals first | rfl | (simp_all; done))
theorem px_ll_w (g : Int64 → Int64 → Int64) : px_wk (px_ll g) := px_wk_nil (fun pc ls st S => by
  simp only [px_ll, Bool.cond_eq_ite]
  repeat' split
  all_goals first | rfl | (simp_all; done))
theorem px_li_w (g : Int64 → Int32 → Int64) : px_wk (px_li g) := px_wk_nil (fun pc ls st S => by
  simp only [px_li, Bool.cond_eq_ite]
  repeat' split
  all_goals first | rfl | (simp_all; done))
theorem px_lc_w  : px_wk (px_lc) := px_wk_nil (fun pc ls st S => by
  simp only [px_lc, Bool.cond_eq_ite]
  repeat' split
  all_goals first | rfl | (simp_all; done))
theorem px_dv_w (g : Int32 → Int32 → Int32) : px_wk (px_dv g) := px_wk_nil (fun pc ls st S => by
  simp only [px_dv, Bool.cond_eq_ite]
  repeat' split
  all_goals first | rfl | (simp_all; done))
theorem px_i1_w (g : Int32 → Int32) : px_wk (px_i1 g) := px_wk_nil (fun pc ls st S => by
  simp only [px_i1, Bool.cond_eq_ite]
  repeat' split
  all_goals first | rfl | (simp_all; done))
theorem px_il_w  : px_wk (px_il) := px_wk_nil (fun pc ls st S => by
  simp only [px_il, Bool.cond_eq_ite]
  repeat' split
  all_goals first | rfl | (simp_all; done))
theorem px_l2_w  : px_wk (px_l2) := px_wk_nil (fun pc ls st S => by
  simp only [px_l2, Bool.cond_eq_ite]
  repeat' split
  all_goals first | rfl | (simp_all; done))
theorem px_dup_w  : px_wk (px_dup) := px_wk_nil (fun pc ls st S => by
  simp only [px_dup, Bool.cond_eq_ite]
  repeat' split
  all_goals first | rfl | (simp_all; done))
theorem px_pop_w  : px_wk (px_pop) := px_wk_nil (fun pc ls st S => by
  simp only [px_pop, Bool.cond_eq_ite]
  repeat' split
  all_goals first | rfl | (simp_all; done))
theorem px_dx1_w  : px_wk (px_dx1) := px_wk_nil (fun pc ls st S => by
  simp only [px_dx1, Bool.cond_eq_ite]
  repeat' split
  all_goals first | rfl | (simp_all; done))
theorem px_dx2_w  : px_wk (px_dx2) := px_wk_nil (fun pc ls st S => by
  simp only [px_dx2, Bool.cond_eq_ite]
  repeat' split
  all_goals first | rfl | (simp_all; done))
theorem px_d2_w  : px_wk (px_d2) := px_wk_nil (fun pc ls st S => by
  simp only [px_d2, Bool.cond_eq_ite]
  repeat' split
  all_goals first | rfl | (simp_all; done))
theorem px_if0_w (c : ClassFile.Cond) (off : Int) : px_wk (px_if0 c off) := px_wk_nil (fun pc ls st S => by
  simp only [px_if0, Bool.cond_eq_ite]
  repeat' split
  all_goals first | rfl | (simp_all; done))
theorem px_if2_w (c : ClassFile.Cond) (off : Int) : px_wk (px_if2 c off) := px_wk_nil (fun pc ls st S => by
  simp only [px_if2, Bool.cond_eq_ite]
  repeat' split
  all_goals first | rfl | (simp_all; done))
theorem px_go_w (off : Int) : px_wk (px_go off) := px_wk_nil (fun pc ls st S => by
  simp only [px_go, Bool.cond_eq_ite]
  repeat' split
  all_goals first | rfl | (simp_all; done))
theorem px_nul_w (off : Int) : px_wk (px_nul off) := px_wk_nil (fun pc ls st S => by
  simp only [px_nul, Bool.cond_eq_ite]
  repeat' split
  all_goals first | rfl | (simp_all; done))
theorem px_nnl_w (off : Int) : px_wk (px_nnl off) := px_wk_nil (fun pc ls st S => by
  simp only [px_nnl, Bool.cond_eq_ite]
  repeat' split
  all_goals first | rfl | (simp_all; done))
theorem px_lsw_w (d : Int) (ps : Array (Int × Int)) : px_wk (px_lsw d ps) := px_wk_nil (fun pc ls st S => by
  simp only [px_lsw, Bool.cond_eq_ite]
  repeat' split
  all_goals first | rfl | (simp_all; done))
theorem px_tsw_w (d lo hi : Int) (offs : Array Int) : px_wk (px_tsw d lo hi offs) := px_wk_nil (fun pc ls st S => by
  simp only [px_tsw, Bool.cond_eq_ite]
  repeat' split
  all_goals first | rfl | (simp_all; done))
theorem px_kon_w (o : Option Int32) (n : Nat) : px_wk (px_kon o n) := px_wk_nil (fun pc ls st S => by
  simp only [px_kon, Bool.cond_eq_ite]
  repeat' split
  all_goals first | rfl | (simp_all; done))
theorem px_konl_w (o : Option Int64) : px_wk (px_konl o) := px_wk_nil (fun pc ls st S => by
  simp only [px_konl, Bool.cond_eq_ite]
  repeat' split
  all_goals first | rfl | (simp_all; done))
theorem px_get_w (o : Option (Nat × Nat)) : px_wk (px_get o) := px_wk_nil (fun pc ls st S => by
  simp only [px_get, Bool.cond_eq_ite]
  repeat' split
  all_goals first | rfl | (simp_all; done))
theorem px_put_w (mi : Nat) (o : Option (Nat × Nat)) : px_wk (px_put mi o) := px_wk_nil (fun pc ls st S => by
  simp only [px_put, Bool.cond_eq_ite]
  repeat' split
  all_goals first | rfl | (simp_all; done))
theorem px_new_w (o : Option Nat) : px_wk (px_new o) := px_wk_nil (fun pc ls st S => by
  simp only [px_new, Bool.cond_eq_ite]
  repeat' split
  all_goals first | rfl | (simp_all; done))
theorem px_nwa_w (o : Option vp_A) (t n : Nat) : px_wk (px_nwa o t n) := px_wk_nil (fun pc ls st S => by
  simp only [px_nwa, Bool.cond_eq_ite]
  repeat' split
  all_goals first | rfl | (simp_all; done))
theorem px_len_w  : px_wk (px_len) := px_wk_nil (fun pc ls st S => by
  simp only [px_len, Bool.cond_eq_ite]
  repeat' split
  all_goals first | rfl | (simp_all; done))
theorem px_ali_w (t : Nat) : px_wk (px_ali t) := px_wk_nil (fun pc ls st S => by
  simp only [px_ali, Bool.cond_eq_ite]
  repeat' split
  all_goals first | rfl | (simp_all; done))
theorem px_all_w  : px_wk (px_all) := px_wk_nil (fun pc ls st S => by
  simp only [px_all, Bool.cond_eq_ite]
  repeat' split
  all_goals first | rfl | (simp_all; done))
theorem px_ala_w  : px_wk (px_ala) := px_wk_nil (fun pc ls st S => by
  simp only [px_ala, Bool.cond_eq_ite]
  repeat' split
  all_goals first | rfl | (simp_all; done))
theorem px_asi_w (t : Nat) : px_wk (px_asi t) := px_wk_nil (fun pc ls st S => by
  simp only [px_asi, Bool.cond_eq_ite]
  repeat' split
  all_goals first | rfl | (simp_all; done))
theorem px_asl_w  : px_wk (px_asl) := px_wk_nil (fun pc ls st S => by
  simp only [px_asl, Bool.cond_eq_ite]
  repeat' split
  all_goals first | rfl | (simp_all; done))
theorem px_asa_w  : px_wk (px_asa) := px_wk_nil (fun pc ls st S => by
  simp only [px_asa, Bool.cond_eq_ite]
  repeat' split
  all_goals first | rfl | (simp_all; done))
theorem px_ob_w (b : Bool) : px_wk (px_ob b) := px_wk_nil (fun pc ls st S => by
  simp only [px_ob, Bool.cond_eq_ite]
  repeat' split
  all_goals first | rfl | (simp_all; done))
theorem px_ldi_w (k n : Nat) : px_wk (px_ldi k n) := fun pc ls ls' st S f1 S1 hr hg => by
  unfold px_ldi at *
  split at hg
  · rename_i x hx
    cases hg
    rw [hr.1.1 _ _ hx]
    exact ⟨_, rfl, rfl, rfl, hr⟩
  · cases hg
theorem px_ldl_w (k n : Nat) : px_wk (px_ldl k n) := fun pc ls ls' st S f1 S1 hr hg => by
  unfold px_ldl at *
  split at hg
  · rename_i x hx
    cases hg
    rw [hr.1.1 _ _ hx]
    exact ⟨_, rfl, rfl, rfl, hr⟩
  · cases hg
theorem px_lda_w (k n : Nat) : px_wk (px_lda k n) := fun pc ls ls' st S f1 S1 hr hg => by
  unfold px_lda at *
  split at hg
  · rename_i x hx
    cases hg
    rw [hr.1.1 _ _ hx]
    exact ⟨_, rfl, rfl, rfl, hr⟩
  · rename_i hx
    cases hg
    rw [hr.1.1 _ _ hx]
    exact ⟨_, rfl, rfl, rfl, hr⟩
  · cases hg
theorem px_sti_w (M k n : Nat) : px_wk (px_sti M k n) := fun pc ls ls' st S f1 S1 hr hg => by
  unfold px_sti at *
  split at hg
  · cases hb : Nat.blt k M with
    | false => rw [hb] at hg; cases hg
    | true =>
      rw [hb] at hg
      cases hg
      exact ⟨_, rfl, rfl, rfl, hr.s1 _ _⟩
  · cases hg
theorem px_stl_w (M k n : Nat) : px_wk (px_stl M k n) := fun pc ls ls' st S f1 S1 hr hg => by
  unfold px_stl at *
  split at hg
  · cases hb : Nat.blt (k + 1) M with
    | false => rw [hb] at hg; cases hg
    | true =>
      rw [hb] at hg
      cases hg
      exact ⟨_, rfl, rfl, rfl, hr.s2 _ _⟩
  · cases hg
theorem px_sta_w (M k n : Nat) : px_wk (px_sta M k n) := fun pc ls ls' st S f1 S1 hr hg => by
  unfold px_sta at *
  split at hg
  · cases hb : Nat.blt k M with
    | false => rw [hb] at hg; cases hg
    | true =>
      rw [hb] at hg
      cases hg
      exact ⟨_, rfl, rfl, rfl, hr.s1 _ _⟩
  · cases hb : Nat.blt k M with
    | false => rw [hb] at hg; cases hg
    | true =>
      rw [hb] at hg
      cases hg
      exact ⟨_, rfl, rfl, rfl, hr.s1 _ _⟩
  · cases hg
theorem px_inc_w (M k : Nat) (d : Int) : px_wk (px_inc M k d) := fun pc ls ls' st S f1 S1 hr hg => by
  unfold px_inc at *
  split at hg
  · rename_i x hx
    cases hb : Nat.blt k M with
    | false => rw [hb] at hg; cases hg
    | true =>
      rw [hb] at hg
      cases hg
      rw [hr.1.1 _ _ hx]
      exact ⟨_, rfl, rfl, rfl, hr.s1 _ _⟩
  · cases hg
theorem px_no_w : px_wk (fun _ _ _ _ => none) := fun pc ls ls' st S f1 S1 hr hg => by cases hg
theorem px_do_w (mi : Nat) (i : Instr) : px_wk (px_do mi i) := by
  unfold px_do
  split
  all_goals first
    | exact px_k_w _ _ 
    | exact px_ii_w _ 
    | exact px_ll_w _ 
    | exact px_li_w _ 
    | exact px_lc_w 
    | exact px_dv_w _ 
    | exact px_i1_w _ 
    | exact px_il_w 
    | exact px_l2_w 
    | exact px_dup_w 
    | exact px_pop_w 
    | exact px_dx1_w 
    | exact px_dx2_w 
    | exact px_d2_w 
    | exact px_if0_w _ _ 
    | exact px_if2_w _ _ 
    | exact px_go_w _ 
    | exact px_nul_w _ 
    | exact px_nnl_w _ 
    | exact px_lsw_w _ _ 
    | exact px_tsw_w _ _ _ _ 
    | exact px_kon_w _ _ 
    | exact px_konl_w _ 
    | exact px_get_w _ 
    | exact px_put_w _ _ 
    | exact px_new_w _ 
    | exact px_nwa_w _ _ _ 
    | exact px_len_w 
    | exact px_ali_w _ 
    | exact px_all_w 
    | exact px_ala_w 
    | exact px_asi_w _ 
    | exact px_asl_w 
    | exact px_asa_w 
    | exact px_ob_w _ 
    | exact px_ldi_w _ _ 
    | exact px_ldl_w _ _ 
    | exact px_lda_w _ _ 
    | exact px_sti_w _ _ _ 
    | exact px_stl_w _ _ _ 
    | exact px_sta_w _ _ _ 
    | exact px_inc_w _ _ _ 
    | exact px_no_w
theorem px_Run.wk {C : px_C} {mi : Nat} : ∀ (n : Nat) (f f' : px_F) (S : px_S) (v : Option Value) (S' : px_S), f'.1 = f.1 → f'.2.2 = f.2.2 → px_RM f.2.1 f'.2.1 → px_Run C mi n f S v S' → px_Run C mi n f' S v S'
  | 0, _, _, _, _, _, _, _, _, h => h
  | n + 1, f, f', S, v, S', h1, h2, h3, h => by
    obtain ⟨pc, ls, st⟩ := f
    obtain ⟨pc', ls', st'⟩ := f'
    dsimp only at h1 h2 h3
    subst h1 h2
    rcases h with ⟨e1, e2⟩ | ⟨f1, S1, e1, e2⟩ | ⟨mj, As, r, v1, S1, e1, e2, e3⟩
    · exact Or.inl ⟨e1, e2⟩
    · refine Or.inr (Or.inl ?_)
      unfold px_step at *
      dsimp only at *
      cases hat : px_at mi pc' with
      | none => rw [hat] at e1; cases e1
      | some i =>
        rw [hat] at e1
        dsimp only at e1
        obtain ⟨f1', q1, q2, q3, q4⟩ := px_do_w mi i pc' ls ls' st' S f1 S1 h3 e1
        exact ⟨f1', S1, q1, px_Run.wk n f1 f1' S1 v S' q2 q3 q4 e2⟩
    · exact Or.inr (Or.inr ⟨mj, As, r, v1, S1, e1, e2, px_Run.wk n (pc' + 3, ls, v1.toList ++ r) (pc' + 3, ls', v1.toList ++ r) S1 v S' rfl rfl h3 e3⟩)
/-- locals that are not needed any more -/
theorem px_P.wk {d mi pc : Nat} {ls ls' : px_L} {st : List Value} {S : px_S} {Q : Option Value → px_S → Prop} (hk : px_asc ls' = true) (hs : ls.Sublist ls') (h : px_P d mi (pc, ls, st) S Q) : px_P d mi (pc, ls', st) S Q := by
  obtain ⟨n, v, S', h1, h2⟩ := h
  exact ⟨n, v, S', px_Run.wk n (pc, ls, st) (pc, ls', st) S v S' rfl rfl ⟨px_RL_of hk hs, px_asc_nd hk⟩ h1, h2⟩
/-- a loop that counts up, with what it carries along -/
theorem px_for {d mi : Nat} {Q : Option Value → px_S → Prop} {X : Type} (N : Nat) (F : Nat → X → px_F) (I : Nat → X → px_S → Prop) (body : ∀ i, i < N → ∀ y S, I i y S → (∀ y' S', I (i + 1) y' S' → px_P d mi (F (i + 1) y') S' Q) → px_P d mi (F i y) S Q) (fin : ∀ y S, I N y S → px_P d mi (F N y) S Q) :
    ∀ (m i : Nat), i + m = N → ∀ y S, I i y S → px_P d mi (F i y) S Q
  | 0, i, h, y, S, hi => by
    have e : i = N := by omega
    subst e
    exact fin y S hi
  | m + 1, i, h, y, S, hi => body i (by omega) y S hi (fun y' S' hi' => px_for N F I body fin m (i + 1) (by omega) y' S' hi')
