/-! inversions of the families -/
theorem px_blt {a b : Nat} (h : Nat.blt a b = true) : a < b := Nat.le_of_ble_eq_true h
theorem px_cat1e {v : Value} (h : px_cat1 v = true) : v.category = 1 := Nat.eq_of_beq_eq_true h
theorem px_jmp_eq {pc : Nat} {off : Int} {t : Nat} (h : px_jmp pc off = some t) : (pc : Int) + off = (t : Int) := by
  unfold px_jmp at h
  split at h
  · rename_i z hz; cases h; rw [hz]; rfl
  · cases h
theorem px_lget_mem : ∀ {ls : px_L} {i : Nat} {v : Value}, px_lget ls i = some v → (i, v) ∈ ls
  | [], _, _, h => by cases h
  | q :: r, i, v, h => by
    unfold px_lget at h
    cases hc : Nat.beq q.1 i with
    | true =>
      rw [hc] at h
      simp only [cond_true] at h
      cases h
      cases Nat.eq_of_beq_eq_true hc
      exact List.mem_cons_self
    | false =>
      rw [hc] at h
      exact List.mem_cons_of_mem _ (px_lget_mem h)
theorem px_lat {a : Array Slot} {nL : Nat} {ls : px_L} {i : Nat} {v : Value} (hl : lv_has a nL ls) (h : px_lget ls i = some v) : a[i]? = some (.val v) := hl.2.2 (i, v) (px_lget_mem h)
theorem px_lpos {ls : px_L} {i : Nat} {v : Value} (h : px_lget ls i = some v) : ∃ k : Nat, ls[k]? = some (i, v) := List.getElem?_of_mem (px_lget_mem h)
theorem px_ins_mem : ∀ {l : px_L} {i : Nat} {v : Value} {q : Nat × Value}, q ∈ px_ins l i v → q = (i, v) ∨ q ∈ l
  | [], _, _, _, h => Or.inl (List.mem_singleton.mp h)
  | x :: r, i, v, q, h => by
    unfold px_ins at h
    cases hc : Nat.blt i x.1 with
    | true =>
      rw [hc] at h
      rcases List.mem_cons.mp h with h | h
      · exact Or.inl h
      · exact Or.inr h
    | false =>
      rw [hc] at h
      rcases List.mem_cons.mp h with h | h
      · exact Or.inr (by rw [h]; exact List.mem_cons_self)
      · rcases px_ins_mem h with h | h
        · exact Or.inl h
        · exact Or.inr (List.mem_cons_of_mem _ h)
theorem px_beq (a b : Nat) : Nat.beq a b = (a == b) := by
  cases h : Nat.beq a b with
  | true => rw [Nat.eq_of_beq_eq_true h]; simp
  | false => have h1 := Nat.ne_of_beq_eq_false h; simp [h1]
theorem px_cut1_eq : ∀ (l : px_L) (i : Nat), px_cut1 l i = l.filter (fun q => !(q.1 == i) && !(q.1 + 1 == i && q.2.category == 2))
  | [], _ => rfl
  | x :: r, i => by
    unfold px_cut1
    rw [px_cut1_eq r i, List.filter_cons, px_beq, px_beq, px_beq]
    cases (!(x.1 == i) && !(x.1 + 1 == i && x.2.category == 2)) <;> rfl
theorem px_cut2_eq : ∀ (l : px_L) (i : Nat), px_cut2 l i = l.filter (fun q => !(q.1 == i) && (!(q.1 == i + 1) && !(q.1 + 1 == i && q.2.category == 2)))
  | [], _ => rfl
  | x :: r, i => by
    unfold px_cut2
    rw [px_cut2_eq r i, List.filter_cons, px_beq, px_beq, px_beq, px_beq]
    cases (!(x.1 == i) && (!(x.1 == i + 1) && !(x.1 + 1 == i && x.2.category == 2))) <;> rfl
theorem px_ls1_has {a : Array Slot} {nL i : Nat} {ls : px_L} {v : Value} (h : lv_has a nL ((i, v) :: ls.filter (fun q => !(q.1 == i) && !(q.1 + 1 == i && q.2.category == 2)))) : lv_has a nL (px_ls1 ls i v) :=
  ⟨h.1, h.2.1, fun q hq => h.2.2 q (by
    rcases px_ins_mem hq with hq | hq
    · rw [hq]; exact List.mem_cons_self
    · rw [px_cut1_eq] at hq; exact List.mem_cons_of_mem _ hq)⟩
theorem px_ls2_has {a : Array Slot} {nL i : Nat} {ls : px_L} {v : Value} (h : lv_has a nL ((i, v) :: ls.filter (fun q => !(q.1 == i) && (!(q.1 == i + 1) && !(q.1 + 1 == i && q.2.category == 2))))) : lv_has a nL (px_ls2 ls i v) :=
  ⟨h.1, h.2.1, fun q hq => h.2.2 q (by
    rcases px_ins_mem hq with hq | hq
    · rw [hq]; exact List.mem_cons_self
    · rw [px_cut2_eq] at hq; exact List.mem_cons_of_mem _ hq)⟩
theorem px_inv {i : Int32} {n : Nat} (h : px_in i n = true) : vp_in i n := by
  have h1 := of_decide_eq_true (p := ¬ (i < 0 ∨ n ≤ i.toNatClampNeg)) h
  exact h1
theorem px_fitN : ∀ {ty : FieldType} {v : Value}, px_fit ty v = true → fits ty v = true
  | .int, .int _, _ => rfl
  | .long, .long _, _ => rfl
  | .boolean, .int _, h => h
  | .char, .int _, h => h
  | .object _, .null, _ => rfl
  | .object _, .ref _, _ => rfl
  | .array _, .null, _ => rfl
  | .array _, .ref _, _ => rfl
theorem px_fitW : ∀ {ty : FieldType} {v : Value}, px_fit ty v = true → narrow ty v = v
  | .int, .int _, _ => rfl
  | .long, .long _, _ => rfl
  | .boolean, .int x, h => by
    simp only [px_fit, Bool.or_eq_true, beq_iff_eq] at h
    rcases h with rfl | rfl <;> rfl
  | .char, .int x, h => by
    simp only [px_fit, Bool.and_eq_true, decide_eq_true_eq] at h
    obtain ⟨q, hq, rfl⟩ := nI_of2 (n := 65535) (M := 65535) rfl (Int32.not_lt.mpr h.1) h.2
    exact (pk_charN (by omega)).1
  | .object _, .null, _ => rfl
  | .object _, .ref _, _ => rfl
  | .array _, .null, _ => rfl
  | .array _, .ref _, _ => rfl
theorem px_k_inv {v : Value} {n : Nat} {pc : Nat} {ls : px_L} {st : List Value} {S : px_S} {q : px_F × px_S} (h : px_k v n pc ls st S = some q) : q = ((pc + n, ls, v :: st), S) := by
  cases h; rfl
theorem px_ldi_inv {k n : Nat} {pc : Nat} {ls : px_L} {st : List Value} {S : px_S} {q : px_F × px_S} (h : px_ldi k n pc ls st S = some q) : ∃ x, px_lget ls k = some (.int x) ∧ q = ((pc + n, ls, .int x :: st), S) := by
  unfold px_ldi at h
  split at h
  · rename_i hg; cases h; exact ⟨_, hg, rfl⟩
  · cases h
theorem px_ldl_inv {k n : Nat} {pc : Nat} {ls : px_L} {st : List Value} {S : px_S} {q : px_F × px_S} (h : px_ldl k n pc ls st S = some q) : ∃ x, px_lget ls k = some (.long x) ∧ q = ((pc + n, ls, .long x :: st), S) := by
  unfold px_ldl at h
  split at h
  · rename_i hg; cases h; exact ⟨_, hg, rfl⟩
  · cases h
theorem px_lda_inv {k n : Nat} {pc : Nat} {ls : px_L} {st : List Value} {S : px_S} {q : px_F × px_S} (h : px_lda k n pc ls st S = some q) : (∃ x, px_lget ls k = some (.ref x) ∧ q = ((pc + n, ls, .ref x :: st), S)) ∨ (px_lget ls k = some .null ∧ q = ((pc + n, ls, .null :: st), S)) := by
  unfold px_lda at h
  split at h
  · rename_i hg; cases h; exact Or.inl ⟨_, hg, rfl⟩
  · rename_i hg; cases h; exact Or.inr ⟨hg, rfl⟩
  · cases h
theorem px_sti_inv {M k n : Nat} {pc : Nat} {ls : px_L} {st : List Value} {S : px_S} {q : px_F × px_S} (h : px_sti M k n pc ls st S = some q) : ∃ x r, k < M ∧ st = .int x :: r ∧ q = ((pc + n, px_ls1 ls k (.int x), r), S) := by
  unfold px_sti at h
  split at h
  · cases hc : Nat.blt k M with
    | true => rw [hc] at h; cases h; exact ⟨_, _, px_blt hc, rfl, rfl⟩
    | false => rw [hc] at h; cases h
  · cases h
theorem px_stl_inv {M k n : Nat} {pc : Nat} {ls : px_L} {st : List Value} {S : px_S} {q : px_F × px_S} (h : px_stl M k n pc ls st S = some q) : ∃ x r, k + 1 < M ∧ st = .long x :: r ∧ q = ((pc + n, px_ls2 ls k (.long x), r), S) := by
  unfold px_stl at h
  split at h
  · cases hc : Nat.blt (k + 1) M with
    | true => rw [hc] at h; cases h; exact ⟨_, _, px_blt hc, rfl, rfl⟩
    | false => rw [hc] at h; cases h
  · cases h
theorem px_sta_inv {M k n : Nat} {pc : Nat} {ls : px_L} {st : List Value} {S : px_S} {q : px_F × px_S} (h : px_sta M k n pc ls st S = some q) : (∃ x r, k < M ∧ st = .ref x :: r ∧ q = ((pc + n, px_ls1 ls k (.ref x), r), S)) ∨ (∃ r, k < M ∧ st = .null :: r ∧ q = ((pc + n, px_ls1 ls k .null, r), S)) := by
  unfold px_sta at h
  split at h
  · cases hc : Nat.blt k M with
    | true => rw [hc] at h; cases h; exact Or.inl ⟨_, _, px_blt hc, rfl, rfl⟩
    | false => rw [hc] at h; cases h
  · cases hc : Nat.blt k M with
    | true => rw [hc] at h; cases h; exact Or.inr ⟨_, px_blt hc, rfl, rfl⟩
    | false => rw [hc] at h; cases h
  · cases h
theorem px_inc_inv {M k : Nat} {d : Int} {pc : Nat} {ls : px_L} {st : List Value} {S : px_S} {q : px_F × px_S} (h : px_inc M k d pc ls st S = some q) : ∃ x, px_lget ls k = some (.int x) ∧ k < M ∧ q = ((pc + 3, px_ls1 ls k (.int (x + Int32.ofInt d)), st), S) := by
  unfold px_inc at h
  split at h
  · rename_i hg
    cases hc : Nat.blt k M with
    | true => rw [hc] at h; cases h; exact ⟨_, hg, px_blt hc, rfl⟩
    | false => rw [hc] at h; cases h
  · cases h
theorem px_ii_inv {g : Int32 → Int32 → Int32} {pc : Nat} {ls : px_L} {st : List Value} {S : px_S} {q : px_F × px_S} (h : px_ii g pc ls st S = some q) : ∃ x y r, st = .int y :: .int x :: r ∧ q = ((pc + 1, ls, .int (g x y) :: r), S) := by
  unfold px_ii at h
  split at h
  · cases h; exact ⟨_, _, _, rfl, rfl⟩
  · cases h
theorem px_ll_inv {g : Int64 → Int64 → Int64} {pc : Nat} {ls : px_L} {st : List Value} {S : px_S} {q : px_F × px_S} (h : px_ll g pc ls st S = some q) : ∃ x y r, st = .long y :: .long x :: r ∧ q = ((pc + 1, ls, .long (g x y) :: r), S) := by
  unfold px_ll at h
  split at h
  · cases h; exact ⟨_, _, _, rfl, rfl⟩
  · cases h
theorem px_li_inv {g : Int64 → Int32 → Int64} {pc : Nat} {ls : px_L} {st : List Value} {S : px_S} {q : px_F × px_S} (h : px_li g pc ls st S = some q) : ∃ x y r, st = .int y :: .long x :: r ∧ q = ((pc + 1, ls, .long (g x y) :: r), S) := by
  unfold px_li at h
  split at h
  · cases h; exact ⟨_, _, _, rfl, rfl⟩
  · cases h
theorem px_lc_inv {pc : Nat} {ls : px_L} {st : List Value} {S : px_S} {q : px_F × px_S} (h : px_lc pc ls st S = some q) : ∃ x y r, st = .long y :: .long x :: r ∧ q = ((pc + 1, ls, .int (lg_cmp x y) :: r), S) := by
  unfold px_lc at h
  split at h
  · cases h; exact ⟨_, _, _, rfl, rfl⟩
  · cases h
theorem px_dv_inv {g : Int32 → Int32 → Int32} {pc : Nat} {ls : px_L} {st : List Value} {S : px_S} {q : px_F × px_S} (h : px_dv g pc ls st S = some q) : ∃ x y r, ¬ y = 0 ∧ st = .int y :: .int x :: r ∧ q = ((pc + 1, ls, .int (g x y) :: r), S) := by
  unfold px_dv at h
  split at h
  · rename_i y x r
    cases hc : decide (y = 0) with
    | true => rw [hc] at h; cases h
    | false => rw [hc] at h; cases h; exact ⟨_, _, _, of_decide_eq_false hc, rfl, rfl⟩
  · cases h
theorem px_i1_inv {g : Int32 → Int32} {pc : Nat} {ls : px_L} {st : List Value} {S : px_S} {q : px_F × px_S} (h : px_i1 g pc ls st S = some q) : ∃ x r, st = .int x :: r ∧ q = ((pc + 1, ls, .int (g x) :: r), S) := by
  unfold px_i1 at h
  split at h
  · cases h; exact ⟨_, _, rfl, rfl⟩
  · cases h
theorem px_il_inv {pc : Nat} {ls : px_L} {st : List Value} {S : px_S} {q : px_F × px_S} (h : px_il pc ls st S = some q) : ∃ x r, st = .int x :: r ∧ q = ((pc + 1, ls, .long x.toInt64 :: r), S) := by
  unfold px_il at h
  split at h
  · cases h; exact ⟨_, _, rfl, rfl⟩
  · cases h
theorem px_l2_inv {pc : Nat} {ls : px_L} {st : List Value} {S : px_S} {q : px_F × px_S} (h : px_l2 pc ls st S = some q) : ∃ x r, st = .long x :: r ∧ q = ((pc + 1, ls, .int x.toInt32 :: r), S) := by
  unfold px_l2 at h
  split at h
  · cases h; exact ⟨_, _, rfl, rfl⟩
  · cases h
theorem px_dup_inv {pc : Nat} {ls : px_L} {st : List Value} {S : px_S} {q : px_F × px_S} (h : px_dup pc ls st S = some q) : ∃ v r, v.category = 1 ∧ st = v :: r ∧ q = ((pc + 1, ls, v :: v :: r), S) := by
  unfold px_dup at h
  split at h
  · rename_i v r
    cases hc : (px_cat1 v) with
    | true => rw [hc] at h; cases h; exact ⟨_, _, px_cat1e hc, rfl, rfl⟩
    | false => rw [hc] at h; cases h
  · cases h
theorem px_pop_inv {pc : Nat} {ls : px_L} {st : List Value} {S : px_S} {q : px_F × px_S} (h : px_pop pc ls st S = some q) : ∃ v r, v.category = 1 ∧ st = v :: r ∧ q = ((pc + 1, ls, r), S) := by
  unfold px_pop at h
  split at h
  · rename_i v r
    cases hc : (px_cat1 v) with
    | true => rw [hc] at h; cases h; exact ⟨_, _, px_cat1e hc, rfl, rfl⟩
    | false => rw [hc] at h; cases h
  · cases h
theorem px_dx1_inv {pc : Nat} {ls : px_L} {st : List Value} {S : px_S} {q : px_F × px_S} (h : px_dx1 pc ls st S = some q) : ∃ v u r, (v.category = 1 ∧ u.category = 1) ∧ st = v :: u :: r ∧ q = ((pc + 1, ls, v :: u :: v :: r), S) := by
  unfold px_dx1 at h
  split at h
  · rename_i v u r
    cases hc : (px_cat1 v && px_cat1 u) with
    | true => rw [hc] at h; cases h; exact ⟨_, _, _, ⟨px_cat1e (Bool.and_eq_true_iff.mp hc).1, px_cat1e (Bool.and_eq_true_iff.mp hc).2⟩, rfl, rfl⟩
    | false => rw [hc] at h; cases h
  · cases h
theorem px_d2_inv {pc : Nat} {ls : px_L} {st : List Value} {S : px_S} {q : px_F × px_S} (h : px_d2 pc ls st S = some q) : ∃ v u r, (v.category = 1 ∧ u.category = 1) ∧ st = v :: u :: r ∧ q = ((pc + 1, ls, v :: u :: v :: u :: r), S) := by
  unfold px_d2 at h
  split at h
  · rename_i v u r
    cases hc : (px_cat1 v && px_cat1 u) with
    | true => rw [hc] at h; cases h; exact ⟨_, _, _, ⟨px_cat1e (Bool.and_eq_true_iff.mp hc).1, px_cat1e (Bool.and_eq_true_iff.mp hc).2⟩, rfl, rfl⟩
    | false => rw [hc] at h; cases h
  · cases h
theorem px_dx2_inv {pc : Nat} {ls : px_L} {st : List Value} {S : px_S} {q : px_F × px_S} (h : px_dx2 pc ls st S = some q) : ∃ v u t r, (v.category = 1 ∧ u.category = 1 ∧ t.category = 1) ∧ st = v :: u :: t :: r ∧ q = ((pc + 1, ls, v :: u :: t :: v :: r), S) := by
  unfold px_dx2 at h
  split at h
  · rename_i v u t r
    cases hc : (px_cat1 v && (px_cat1 u && px_cat1 t)) with
    | true => rw [hc] at h; cases h; exact ⟨_, _, _, _, ⟨px_cat1e (Bool.and_eq_true_iff.mp hc).1, px_cat1e (Bool.and_eq_true_iff.mp (Bool.and_eq_true_iff.mp hc).2).1, px_cat1e (Bool.and_eq_true_iff.mp (Bool.and_eq_true_iff.mp hc).2).2⟩, rfl, rfl⟩
    | false => rw [hc] at h; cases h
  · cases h
theorem px_if0_inv {cd : ClassFile.Cond} {off : Int} {pc : Nat} {ls : px_L} {st : List Value} {S : px_S} {q : px_F × px_S} (h : px_if0 cd off pc ls st S = some q) : ∃ x r t, px_jmp pc off = some t ∧ st = .int x :: r ∧ q = ((bif px_c0 cd x then t else pc + 3, ls, r), S) := by
  unfold px_if0 at h
  split at h
  · rename_i hj; cases h; exact ⟨_, _, _, hj, rfl, rfl⟩
  · cases h
theorem px_if2_inv {cd : ClassFile.Cond} {off : Int} {pc : Nat} {ls : px_L} {st : List Value} {S : px_S} {q : px_F × px_S} (h : px_if2 cd off pc ls st S = some q) : ∃ x y r t, px_jmp pc off = some t ∧ st = .int y :: .int x :: r ∧ q = ((bif px_c2 cd x y then t else pc + 3, ls, r), S) := by
  unfold px_if2 at h
  split at h
  · rename_i hj; cases h; exact ⟨_, _, _, _, hj, rfl, rfl⟩
  · cases h
theorem px_go_inv {off : Int} {pc : Nat} {ls : px_L} {st : List Value} {S : px_S} {q : px_F × px_S} (h : px_go off pc ls st S = some q) : ∃ t, px_jmp pc off = some t ∧ q = ((t, ls, st), S) := by
  unfold px_go at h
  split at h
  · rename_i hj; cases h; exact ⟨_, hj, rfl⟩
  · cases h
theorem px_nul_inv {off : Int} {pc : Nat} {ls : px_L} {st : List Value} {S : px_S} {q : px_F × px_S} (h : px_nul off pc ls st S = some q) : (∃ r t, px_jmp pc off = some t ∧ st = .null :: r ∧ q = ((t, ls, r), S)) ∨ (∃ a r, st = .ref a :: r ∧ q = ((pc + 3, ls, r), S)) := by
  unfold px_nul at h
  split at h
  · rename_i hj; cases h; exact Or.inl ⟨_, _, hj, rfl, rfl⟩
  · cases h; exact Or.inr ⟨_, _, rfl, rfl⟩
  · cases h
theorem px_nnl_inv {off : Int} {pc : Nat} {ls : px_L} {st : List Value} {S : px_S} {q : px_F × px_S} (h : px_nnl off pc ls st S = some q) : (∃ a r t, px_jmp pc off = some t ∧ st = .ref a :: r ∧ q = ((t, ls, r), S)) ∨ (∃ r, st = .null :: r ∧ q = ((pc + 3, ls, r), S)) := by
  unfold px_nnl at h
  split at h
  · rename_i hj; cases h; exact Or.inl ⟨_, _, _, hj, rfl, rfl⟩
  · cases h; exact Or.inr ⟨_, rfl, rfl⟩
  · cases h
theorem px_lsw_inv {dflt : Int} {ps : Array (Int × Int)} {pc : Nat} {ls : px_L} {st : List Value} {S : px_S} {q : px_F × px_S} (h : px_lsw dflt ps pc ls st S = some q) : ∃ x r t, px_jmp pc (Op.lookupswitch.offset ps.toList dflt x.toInt) = some t ∧ (ps.toList.zip (ps.toList.drop 1)).all (fun (a, next) => a.1 < next.1) = true ∧ st = .int x :: r ∧ q = ((t, ls, r), S) := by
  unfold px_lsw at h
  split at h
  · split at h
    · rename_i hj
      cases hc : (ps.toList.zip (ps.toList.drop 1)).all (fun (a, next) => a.1 < next.1) with
      | true => rw [hc] at h; cases h; exact ⟨_, _, _, hj, rfl, rfl, rfl⟩
      | false => rw [hc] at h; cases h
    · cases h
  · cases h
theorem px_tsw_inv {dflt lo hi : Int} {offs : Array Int} {pc : Nat} {ls : px_L} {st : List Value} {S : px_S} {q : px_F × px_S} (h : px_tsw dflt lo hi offs pc ls st S = some q) : ∃ x r t, st = .int x :: r ∧ q = ((t, ls, r), S) ∧ (((x.toInt < lo ∨ hi < x.toInt) ∧ px_jmp pc dflt = some t) ∨ (¬ (x.toInt < lo ∨ hi < x.toInt) ∧ ∃ off, offs[(x.toInt - lo).toNat]? = some off ∧ px_jmp pc off = some t)) := by
  unfold px_tsw at h
  split at h
  · rename_i x r
    cases hc : decide (x.toInt < lo ∨ hi < x.toInt) with
    | true =>
      rw [hc] at h
      simp only [cond_true] at h
      split at h
      · rename_i hj; cases h; exact ⟨_, _, _, rfl, rfl, Or.inl ⟨of_decide_eq_true hc, hj⟩⟩
      · cases h
    | false =>
      rw [hc] at h
      simp only [cond_false] at h
      split at h
      · rename_i ho
        split at h
        · rename_i hj; cases h; exact ⟨_, _, _, rfl, rfl, Or.inr ⟨of_decide_eq_false hc, _, ho, hj⟩⟩
        · cases h
      · cases h
  · cases h
theorem px_kon_inv {o : Option Int32} {n : Nat} {pc : Nat} {ls : px_L} {st : List Value} {S : px_S} {q : px_F × px_S} (h : px_kon o n pc ls st S = some q) : ∃ v, o = some v ∧ q = ((pc + n, ls, .int v :: st), S) := by
  unfold px_kon at h
  split at h
  · cases h; exact ⟨_, rfl, rfl⟩
  · cases h
theorem px_konl_inv {o : Option Int64} {pc : Nat} {ls : px_L} {st : List Value} {S : px_S} {q : px_F × px_S} (h : px_konl o pc ls st S = some q) : ∃ v, o = some v ∧ q = ((pc + 3, ls, .long v :: st), S) := by
  unfold px_konl at h
  split at h
  · cases h; exact ⟨_, rfl, rfl⟩
  · cases h
theorem px_get_inv {o : Option (Nat × Nat)} {pc : Nat} {ls : px_L} {st : List Value} {S : px_S} {q : px_F × px_S} (h : px_get o pc ls st S = some q) : ∃ a r ci k fs v, o = some (ci, k) ∧ S.1 a = some (.inr (ci, fs)) ∧ fs[k]? = some v ∧ st = .ref a :: r ∧ q = ((pc + 3, ls, v :: r), S) := by
  unfold px_get at h
  split at h
  · split at h
    · rename_i a r ci k _ cj fs hw
      cases hc : Nat.beq cj ci with
      | true =>
        rw [hc] at h
        simp only [cond_true] at h
        split at h
        · rename_i hv; cases h
          cases Nat.eq_of_beq_eq_true hc
          exact ⟨_, _, _, _, _, _, rfl, hw, hv, rfl, rfl⟩
        · cases h
      | false => rw [hc] at h; cases h
    · cases h
  · cases h
theorem px_put_inv {mi : Nat} {o : Option (Nat × Nat)} {pc : Nat} {ls : px_L} {st : List Value} {S : px_S} {q : px_F × px_S} (h : px_put mi o pc ls st S = some q) : ∃ v a r ci k fs, o = some (ci, k) ∧ S.1 a = some (.inr (ci, fs)) ∧ k < fs.length ∧ px_fit (px_ft ci k) v = true ∧ px_may mi ci k = true ∧ st = v :: .ref a :: r ∧ q = ((pc + 3, ls, r), (va_up S.1 a (some (.inr (ci, fs.set k v))), S.2)) := by
  unfold px_put at h
  split at h
  · split at h
    · rename_i v a r ci k _ cj fs hw
      cases hc : (Nat.beq cj ci && (Nat.blt k fs.length && (px_fit (px_ft ci k) v && px_may mi ci k))) with
      | true =>
        rw [hc] at h
        simp only [cond_true] at h
        cases h
        simp only [Bool.and_eq_true] at hc
        obtain ⟨h1, h2, h3, h4⟩ := hc
        cases Nat.eq_of_beq_eq_true h1
        exact ⟨_, _, _, _, _, _, rfl, hw, px_blt h2, h3, h4, rfl, rfl⟩
      | false => rw [hc] at h; cases h
    · cases h
  · cases h
theorem px_new_inv {o : Option Nat} {pc : Nat} {ls : px_L} {st : List Value} {S : px_S} {q : px_F × px_S} (h : px_new o pc ls st S = some q) : ∃ ci, o = some ci ∧ q = ((pc + 3, ls, .ref S.2.1 :: st), (va_up S.1 S.2.1 (some (.inr (ci, px_def ci))), S.2.1 + 1, S.2.2 + px_nf ci)) := by
  unfold px_new at h
  split at h
  · cases h; exact ⟨_, rfl, rfl⟩
  · cases h
theorem px_nwa_inv {o : Option vp_A} {t0 n0 : Nat} {pc : Nat} {ls : px_L} {st : List Value} {S : px_S} {q : px_F × px_S} (h : px_nwa o t0 n0 pc ls st S = some q) : ∃ n r z, o = some z ∧ ¬ (n < 0 ∨ 67108864 < n.toNatClampNeg) ∧ st = .int n :: r ∧ q = ((pc + n0, ls, .ref S.2.1 :: r), (va_up S.1 S.2.1 (some (.inl (t0, n.toNatClampNeg, z.2))), S.2.1 + 1, S.2.2 + n.toNatClampNeg)) := by
  unfold px_nwa at h
  split at h
  · rename_i n r z
    cases hc : decide (n < 0 ∨ 67108864 < n.toNatClampNeg) with
    | true => rw [hc] at h; cases h
    | false => rw [hc] at h; cases h; exact ⟨_, _, _, rfl, of_decide_eq_false hc, rfl, rfl⟩
  · cases h
theorem px_len_inv {pc : Nat} {ls : px_L} {st : List Value} {S : px_S} {q : px_F × px_S} (h : px_len pc ls st S = some q) : ∃ a r t x, S.1 a = some (.inl (t, x)) ∧ t < px_nty ∧ st = .ref a :: r ∧ q = ((pc + 1, ls, .int (Int32.ofNat x.1) :: r), S) := by
  unfold px_len at h
  split at h
  · split at h
    · rename_i t x hw
      cases hc : Nat.blt t px_nty with
      | true => rw [hc] at h; cases h; exact ⟨_, _, _, _, hw, px_blt hc, rfl, rfl⟩
      | false => rw [hc] at h; cases h
    · cases h
  · cases h
theorem px_ali_inv {t0 : Nat} {pc : Nat} {ls : px_L} {st : List Value} {S : px_S} {q : px_F × px_S} (h : px_ali t0 pc ls st S = some q) : ∃ i a r t n f, S.1 a = some (.inl (t, n, .inl f)) ∧ t = t0 ∧ px_in i n = true ∧ st = .int i :: .ref a :: r ∧ q = ((pc + 1, ls, .int (f i.toNatClampNeg) :: r), S) := by
  unfold px_ali at h
  split at h
  · rename_i i a r
    split at h
    · rename_i t n f hw
      cases hc : (Nat.beq t t0 && px_in i n) with
      | true =>
        rw [hc] at h
        simp only [cond_true] at h
        cases h
        simp only [Bool.and_eq_true] at hc
        exact ⟨_, _, _, _, _, _, hw, Nat.eq_of_beq_eq_true hc.1, hc.2, rfl, rfl⟩
      | false => rw [hc] at h; cases h
    · cases h
  · cases h
theorem px_all_inv {pc : Nat} {ls : px_L} {st : List Value} {S : px_S} {q : px_F × px_S} (h : px_all pc ls st S = some q) : ∃ i a r t n f, S.1 a = some (.inl (t, n, .inr (.inl f))) ∧ t = 1 ∧ px_in i n = true ∧ st = .int i :: .ref a :: r ∧ q = ((pc + 1, ls, .long (f i.toNatClampNeg) :: r), S) := by
  unfold px_all at h
  split at h
  · rename_i i a r
    split at h
    · rename_i t n f hw
      cases hc : (Nat.beq t 1 && px_in i n) with
      | true =>
        rw [hc] at h
        simp only [cond_true] at h
        cases h
        simp only [Bool.and_eq_true] at hc
        exact ⟨_, _, _, _, _, _, hw, Nat.eq_of_beq_eq_true hc.1, hc.2, rfl, rfl⟩
      | false => rw [hc] at h; cases h
    · cases h
  · cases h
theorem px_ala_inv {pc : Nat} {ls : px_L} {st : List Value} {S : px_S} {q : px_F × px_S} (h : px_ala pc ls st S = some q) : ∃ i a r t n f, S.1 a = some (.inl (t, n, .inr (.inr (.inr (.inr f))))) ∧ px_tr t = true ∧ px_in i n = true ∧ st = .int i :: .ref a :: r ∧ q = ((pc + 1, ls, va_rf (f i.toNatClampNeg) :: r), S) := by
  unfold px_ala at h
  split at h
  · rename_i i a r
    split at h
    · rename_i t n f hw
      cases hc : (px_tr t && px_in i n) with
      | true =>
        rw [hc] at h
        simp only [cond_true] at h
        cases h
        simp only [Bool.and_eq_true] at hc
        exact ⟨_, _, _, _, _, _, hw, hc.1, hc.2, rfl, rfl⟩
      | false => rw [hc] at h; cases h
    · cases h
  · cases h
theorem px_asi_inv {t0 : Nat} {pc : Nat} {ls : px_L} {st : List Value} {S : px_S} {q : px_F × px_S} (h : px_asi t0 pc ls st S = some q) : ∃ x i a r n f, S.1 a = some (.inl (t0, n, .inl f)) ∧ px_in i n = true ∧ px_fit (px_ty t0) (.int x) = true ∧ st = .int x :: .int i :: .ref a :: r ∧ q = ((pc + 1, ls, r), (va_up S.1 a (some (.inl (t0, n, .inl (upd f i.toNatClampNeg x)))), S.2)) := by
  unfold px_asi at h
  split at h
  · rename_i x i a r
    split at h
    · rename_i t n f hw
      cases hc : (Nat.beq t t0 && (px_in i n && px_fit (px_ty t0) (.int x))) with
      | true =>
        rw [hc] at h
        simp only [cond_true] at h
        cases h
        simp only [Bool.and_eq_true] at hc
        cases Nat.eq_of_beq_eq_true hc.1
        exact ⟨_, _, _, _, _, _, hw, hc.2.1, hc.2.2, rfl, rfl⟩
      | false => rw [hc] at h; cases h
    · cases h
  · cases h
theorem px_asl_inv {pc : Nat} {ls : px_L} {st : List Value} {S : px_S} {q : px_F × px_S} (h : px_asl pc ls st S = some q) : ∃ x i a r n f, S.1 a = some (.inl (1, n, .inr (.inl f))) ∧ px_in i n = true ∧ st = .long x :: .int i :: .ref a :: r ∧ q = ((pc + 1, ls, r), (va_up S.1 a (some (.inl (1, n, .inr (.inl (vp_updL f i.toNatClampNeg x))))), S.2)) := by
  unfold px_asl at h
  split at h
  · rename_i x i a r
    split at h
    · rename_i t n f hw
      cases hc : (Nat.beq t 1 && px_in i n) with
      | true =>
        rw [hc] at h
        simp only [cond_true] at h
        cases h
        simp only [Bool.and_eq_true] at hc
        cases Nat.eq_of_beq_eq_true hc.1
        exact ⟨_, _, _, _, _, _, hw, hc.2, rfl, rfl⟩
      | false => rw [hc] at h; cases h
    · cases h
  · cases h
theorem px_asa_inv {pc : Nat} {ls : px_L} {st : List Value} {S : px_S} {q : px_F × px_S} (h : px_asa pc ls st S = some q) : ∃ i a r t n f, S.1 a = some (.inl (t, n, .inr (.inr (.inr (.inr f))))) ∧ px_tr t = true ∧ px_in i n = true ∧
    ((∃ v ci fs, S.1 v = some (.inr (ci, fs)) ∧ px_tc t ci = true ∧ st = .ref v :: .int i :: .ref a :: r ∧ q = ((pc + 1, ls, r), (va_up S.1 a (some (.inl (t, n, .inr (.inr (.inr (.inr (va_up f i.toNatClampNeg (some v)))))))), S.2))) ∨
     (st = .null :: .int i :: .ref a :: r ∧ q = ((pc + 1, ls, r), (va_up S.1 a (some (.inl (t, n, .inr (.inr (.inr (.inr (va_up f i.toNatClampNeg none))))))), S.2)))) := by
  unfold px_asa at h
  split at h
  · rename_i v i a r
    split at h
    · rename_i t n f ci fs hw hv
      cases hc : (px_tr t && (px_in i n && px_tc t ci)) with
      | true =>
        rw [hc] at h
        simp only [cond_true] at h
        cases h
        simp only [Bool.and_eq_true] at hc
        exact ⟨_, _, _, _, _, _, hw, hc.1, hc.2.1, Or.inl ⟨_, _, _, hv, hc.2.2, rfl, rfl⟩⟩
      | false => rw [hc] at h; cases h
    · cases h
  · rename_i i a r
    split at h
    · rename_i t n f hw
      cases hc : (px_tr t && px_in i n) with
      | true =>
        rw [hc] at h
        simp only [cond_true] at h
        cases h
        simp only [Bool.and_eq_true] at hc
        exact ⟨_, _, _, _, _, _, hw, hc.1, hc.2, Or.inr ⟨rfl, rfl⟩⟩
      | false => rw [hc] at h; cases h
    · cases h
  · cases h
theorem px_ob_inv {b : Bool} {pc : Nat} {ls : px_L} {st : List Value} {S : px_S} {q : px_F × px_S} (h : px_ob b pc ls st S = some q) : ∃ a r, b = true ∧ (r.map fun v => v.category).sum ≤ 8 ∧ st = .ref a :: r ∧ q = ((pc + 3, ls, r), S) := by
  unfold px_ob at h
  split at h
  · rename_i a r
    cases hc : (b && Nat.ble ((r.map fun v => v.category).sum) 8) with
    | true =>
      rw [hc] at h
      simp only [cond_true] at h
      cases h
      simp only [Bool.and_eq_true] at hc
      exact ⟨_, _, hc.1, Nat.le_of_ble_eq_true hc.2, rfl, rfl⟩
    | false => rw [hc] at h; cases h
  · cases h
