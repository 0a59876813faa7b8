/-! ===== the model: brackets, join ===== -/
def isb (o : Nat) : Bool := decide (o % 100 = 91 ∨ o % 100 = 40)
def brk (O : List Nat) : Nat := ct (fun j => isb (O.getD (O.length - 1 - j) 0)) O.length
theorem getD_s (o : Nat) (O : List Nat) (i : Nat) : (o :: O).getD (i + 1) 0 = O.getD i 0 := by simp
theorem brk_cons (o : Nat) (O : List Nat) : brk (o :: O) = brk O + (if isb o = true then 1 else 0) := by
  unfold brk
  have e0 : isb ((o :: O).getD ((o :: O).length - 1 - O.length) 0) = isb o := by simp
  have e1 : ct (fun j => isb ((o :: O).getD ((o :: O).length - 1 - j) 0)) O.length = ct (fun j => isb (O.getD (O.length - 1 - j) 0)) O.length := by
    refine ct_congr (fun j hj => ?_)
    show isb ((o :: O).getD ((o :: O).length - 1 - j) 0) = isb (O.getD (O.length - 1 - j) 0)
    rw [show (o :: O).length - 1 - j = (O.length - 1 - j) + 1 by simp only [List.length_cons]; omega, getD_s]
  show ct _ (O.length + 1) = _
  by_cases e : isb o = true
  · rw [ct_s (by show isb _ = true; rw [e0]; exact e), e1, if_pos e]
  · rw [ct_z (by show isb _ = false; rw [e0]; exact Bool.eq_false_iff.mpr e), e1, if_neg e]; omega
theorem stO.bd {A : Nat → Nat → Int32} {O : List Nat} (h : stO A O) (i : Nat) : O.getD i 0 ≤ 6100 := by
  by_cases e : i < O.length
  · rw [show O.getD i 0 = O[i] by simp [List.getD, e]]
    exact h.2 _ (List.getElem_mem e)
  · rw [show O.getD i 0 = 0 by simp [List.getD, e]]
    omega
theorem stO.tl {A : Nat → Nat → Int32} {o : Nat} {O : List Nat} (h : stO A (o :: O)) : stO A O ∧ A 24 O.length = nI o ∧ o ≤ 6100 := by
  refine ⟨⟨fun j hj => ?_, fun x hx => h.2 x (List.mem_cons_of_mem _ hx)⟩, ?_, h.2 o List.mem_cons_self⟩
  · rw [h.1 j (by simp only [List.length_cons]; omega), show (o :: O).length - 1 - j = (O.length - 1 - j) + 1 by simp only [List.length_cons]; omega, getD_s]
  · rw [h.1 O.length (by simp only [List.length_cons]; omega), show (o :: O).length - 1 - O.length = 0 by simp]
    rfl
theorem stO.co {A A' : Nat → Nat → Int32} {o : Nat} {O : List Nat} (h : stO A O) (ho : o ≤ 6100) (ha : A' 24 = upd (A 24) O.length (nI o)) : stO A' (o :: O) := by
  refine ⟨fun j hj => ?_, fun x hx => ?_⟩
  · rw [ha]
    by_cases e : j = O.length
    · subst e
      rw [pk_us, show (o :: O).length - 1 - O.length = 0 by simp]
      rfl
    · have hj' : j < O.length := by simp only [List.length_cons] at hj; omega
      rw [pk_un e, h.1 j hj', show (o :: O).length - 1 - j = (O.length - 1 - j) + 1 by simp only [List.length_cons]; omega, getD_s]
  · rcases List.mem_cons.mp hx with rfl | z
    · exact ho
    · exact h.2 x z
theorem pm_moBrackets {d m p n a : Nat} {q0 : Nat → Int32} {A0 A : Nat → Nat → Int32} {st : xe_T} {O : List Nat} {S0 S : px_S} {Q : Option Value → px_S → Prop} (hd : 1 ≤ d) (hO : O.length ≤ 64) (h : stm S0 S m p q0 A0 A a n st O)
    (k : Q (some (.int (nI (brk O)))) S) : px_M d px_m_Model_brackets [.ref m] S Q := by
  have c0 := h.1.1
  have hb := h.2.2.2.2
  have lp := px_for (d := d - 1) (mi := px_m_Model_brackets) (Q := Q) (X := Unit) O.length (fun i _ => (4, [(0, .ref m), (1, .int (nI (ct (fun j => isb (O.getD (O.length - 1 - j) 0)) i))), (2, .int (nI i))], []))
    (fun _ _ S' => S' = S)
    (by
      intro i hi _ S' hS kk
      subst hS
      have hk := kk () S' rfl
      have hbd := hb.bd (O.length - 1 - i)
      have hv := hb.1 i hi
      generalize hx : ct (fun j => isb (O.getD (O.length - 1 - j) 0)) i = x at hk ⊢
      generalize ho : O.getD (O.length - 1 - i) 0 = o at hbd hv
      show px_P _ _ (4, [(0, .ref m), (1, .int (nI x)), (2, .int (nI i))], []) S' _
      have r24 : S'.1 (m + 24) = some (.inl (0, 64, .inl (A 24))) := h.1.2 24 (by decide) (by decide)
      refine px_P.sn 2 (f1 := (6, [(0, .ref m), (1, .int (nI x)), (2, .int (nI i))], [.ref m, .int (nI i)])) (S1 := S') rfl ?_
      refine px_P.gf rfl rfl (by assumption) (v := .int (nI O.length)) rfl ?_
      refine px_P.ic_ge rfl rfl (fun h => absurd h (nI_ge hi (by omega))) (fun _ => ?_)
      refine px_P.sn 1 (f1 := (13, [(0, .ref m), (1, .int (nI x)), (2, .int (nI i))], [.ref m])) (S1 := S') rfl ?_
      refine px_P.gf rfl rfl (by assumption) (v := .ref (m + 24)) rfl ?_
      refine px_P.sn 1 (f1 := (17, [(0, .ref m), (1, .int (nI x)), (2, .int (nI i))], [.int (nI i), .ref (m + 24)])) (S1 := S') rfl ?_
      refine px_P.ialdj (j := i) rfl (by assumption) rfl (by omega) (by decide) ?_
      rw [hv]
      refine px_P.sn 1 (f1 := (20, [(0, .ref m), (1, .int (nI x)), (2, .int (nI i))], [.int 100, .int (nI o)])) (S1 := S') rfl ?_
      refine px_P.irem rfl (by decide) ?_
      have er : nI o - nI o / 100 * 100 = nI (o % 100) := pk_rem (d := 100) (by omega) (by decide) (by decide)
      rw [er]
      refine px_P.sn 3 (f1 := (25, [(0, .ref m), (1, .int (nI x)), (2, .int (nI i)), (3, .int (nI (o % 100)))], [.int 91, .int (nI (o % 100))])) (S1 := S') rfl ?_
      have yes : o % 100 = 91 ∨ o % 100 = 40 → ct (fun j => isb (O.getD (O.length - 1 - j) 0)) (i + 1) = x + 1 := by
        intro z
        rw [ct_s (by show isb _ = true; rw [ho]; unfold isb; exact decide_eq_true z), hx]
      have no : ¬ (o % 100 = 91 ∨ o % 100 = 40) → ct (fun j => isb (O.getD (O.length - 1 - j) 0)) (i + 1) = x := by
        intro z
        rw [ct_z (by show isb _ = false; rw [ho]; unfold isb; exact decide_eq_false z), hx]
      refine px_P.ic_eq rfl rfl (fun h1 => ?_) (fun h1 => ?_)
      · rw [yes (Or.inl ((nI_eq (b := 91) (by omega) (by decide)).mp h1))] at hk
        refine px_P.sn 7 (f1 := (4, [(0, .ref m), (1, .int ((nI x) + 1)), (2, .int ((nI i) + 1)), (3, .int (nI (o % 100)))], [])) (S1 := S') rfl ?_
        show px_P _ _ (4, [(0, .ref m), (1, .int ((nI x) + 1)), (2, .int ((nI i) + 1)), (3, .int (nI (o % 100)))], []) S' _
        refine px_P.wk (ls := [(0, .ref m), (1, .int ((nI x) + 1)), (2, .int ((nI i) + 1))]) rfl (.cons_cons _ (.cons_cons _ (.cons_cons _ (.cons _ .slnil)))) ?_
        rw [nI_1, nI_1]
        exact hk
      · refine px_P.sn 2 (f1 := (31, [(0, .ref m), (1, .int (nI x)), (2, .int (nI i)), (3, .int (nI (o % 100)))], [.int 40, .int (nI (o % 100))])) (S1 := S') rfl ?_
        refine px_P.ic_ne rfl rfl (fun h2 => ?_) (fun h2 => ?_)
        · rw [no (fun z => z.elim (fun z => h1 (by rw [z]; rfl)) (fun z => h2 (by rw [z]; rfl)))] at hk
          refine px_P.sn 4 (f1 := (4, [(0, .ref m), (1, .int (nI x)), (2, .int ((nI i) + 1)), (3, .int (nI (o % 100)))], [])) (S1 := S') rfl ?_
          show px_P _ _ (4, [(0, .ref m), (1, .int (nI x)), (2, .int ((nI i) + 1)), (3, .int (nI (o % 100)))], []) S' _
          refine px_P.wk (ls := [(0, .ref m), (1, .int (nI x)), (2, .int ((nI i) + 1))]) rfl (.cons_cons _ (.cons_cons _ (.cons_cons _ (.cons _ .slnil)))) ?_
          rw [nI_1]
          exact hk
        · rw [yes (Or.inr ((nI_eq (b := 40) (by omega) (by decide)).mp h2))] at hk
          refine px_P.sn 7 (f1 := (4, [(0, .ref m), (1, .int ((nI x) + 1)), (2, .int ((nI i) + 1)), (3, .int (nI (o % 100)))], [])) (S1 := S') rfl ?_
          show px_P _ _ (4, [(0, .ref m), (1, .int ((nI x) + 1)), (2, .int ((nI i) + 1)), (3, .int (nI (o % 100)))], []) S' _
          refine px_P.wk (ls := [(0, .ref m), (1, .int ((nI x) + 1)), (2, .int ((nI i) + 1))]) rfl (.cons_cons _ (.cons_cons _ (.cons_cons _ (.cons _ .slnil)))) ?_
          rw [nI_1, nI_1]
          exact hk)
    (by
      intro _ S' hS
      subst hS
      show px_P _ _ (4, [(0, .ref m), (1, .int (nI (brk O))), (2, .int (nI O.length))], []) S' _
      refine px_P.sn 2 (f1 := (6, [(0, .ref m), (1, .int (nI (brk O))), (2, .int (nI O.length))], [.ref m, .int (nI O.length)])) (S1 := S') rfl ?_
      refine px_P.gf rfl rfl (by assumption) (v := .int (nI O.length)) rfl ?_
      refine px_P.ic_ge rfl rfl (fun _ => ?_) (fun h => absurd (Int32.le_refl _) h)
      refine px_P.sn 1 (f1 := (49, [(0, .ref m), (1, .int (nI (brk O))), (2, .int (nI O.length))], [.int (nI (brk O))])) (S1 := S') rfl ?_
      refine px_P.ret rfl ?_
      exact k)
  refine px_M.go (by omega) (Nat.le_of_ble_eq_true rfl) ?_
  refine px_P.sn 4 (f1 := (4, [(0, .ref m), (1, .int 0), (2, .int 0)], [])) (S1 := S) rfl ?_
  exact lp O.length 0 (by omega) () S rfl
def jn (all : Bool) : List Nat → Nat → xe_T → Nat × xe_T × List Nat
  | [], n, st => (n, st, [])
  | o :: O, n, st => if o % 100 = 7 ∨ (all = true ∧ o % 100 = 8) then jn all O (n + 1) (va_up st n (o % 100 - 1, 0, 0, o / 100)) else (n, st, o :: O)
theorem pm_moJoin {d m p a : Nat} {all : Bool} {q0 : Nat → Int32} {A0 : Nat → Nat → Int32} {S0 : px_S} {Q : Option Value → px_S → Prop} (hd : 2 ≤ d) (hp : p < 96) : ∀ {O : List Nat} {n : Nat} {st : xe_T} {A : Nat → Nat → Int32} {S : px_S}, n + O.length ≤ 64 → stm S0 S m p q0 A0 A a n st O →
    (∀ S' A', stm S0 S' m p q0 A0 A' a (jn all O n st).1 (jn all O n st).2.1 (jn all O n st).2.2 → Q none S') → px_M d px_m_Model_join [.ref m, .int (bif all then 1 else 0)] S Q := by
  have lp : ∀ (O : List Nat) (n : Nat) (st : xe_T) (A : Nat → Nat → Int32) (S : px_S), n + O.length ≤ 64 → stm S0 S m p q0 A0 A a n st O →
    (∀ S' A', stm S0 S' m p q0 A0 A' a (jn all O n st).1 (jn all O n st).2.1 (jn all O n st).2.2 → Q none S') → px_P (d - 1) px_m_Model_join (0, [(0, .ref m), (1, .int (bif all then 1 else 0))], []) S Q := by
    intro O
    induction O with
    | nil =>
      intro n st A S hn h k
      have c0 : S.1 m = some (.inr (10, mo_ob m (mq q0 (nI a) (nI p) (nI 0)))) := h.1.1
      refine px_P.sn 1 (f1 := (1, [(0, .ref m), (1, .int (bif all then 1 else 0))], [.ref m])) (S1 := S) rfl ?_
      refine px_P.gf rfl rfl (by assumption) (v := .int (nI 0)) rfl ?_
      refine px_P.if_le rfl rfl (fun _ => ?_) (fun h => absurd ((by decide)) h)
      refine px_P.ret rfl ?_
      exact k S A h
    | cons o O ih =>
      intro n st A S hn h k
      simp only [List.length_cons] at hn
      have c0 : S.1 m = some (.inr (10, mo_ob m (mq q0 (nI a) (nI p) (nI (O.length + 1))))) := h.1.1
      obtain ⟨t1, t2, t3⟩ := h.2.2.2.2.tl
      have er : nI o - nI o / 100 * 100 = nI (o % 100) := pk_rem (d := 100) (by omega) (by decide) (by decide)
      have ed : nI o / 100 = nI (o / 100) := pk_div (d := 100) (by omega) (by decide) (by decide)
      have stop : ¬ (o % 100 = 7 ∨ (all = true ∧ o % 100 = 8)) → px_P (d - 1) px_m_Model_join (91, [(0, .ref m), (1, .int (bif all then 1 else 0))], []) S Q := by
        intro z
        have e : jn all (o :: O) n st = (n, st, o :: O) := by unfold jn; rw [if_neg z]
        rw [e] at k
        refine px_P.ret rfl ?_
        exact k S A h
      have pop : (o % 100 = 7 ∨ (all = true ∧ o % 100 = 8)) → px_P (d - 1) px_m_Model_join (49, [(0, .ref m), (1, .int (bif all then 1 else 0))], []) S Q := by
        intro z
        have e : jn all (o :: O) n st = jn all O (n + 1) (va_up st n (o % 100 - 1, 0, 0, o / 100)) := by
          show (if _ then _ else _) = _
          rw [if_pos z]
        rw [e] at k
        refine px_P.sn 2 (f1 := (51, [(0, .ref m), (1, .int (bif all then 1 else 0))], [.ref m, .ref m])) (S1 := S) rfl ?_
        refine px_P.gf rfl rfl (by assumption) (v := .int (nI (O.length + 1))) rfl ?_
        refine px_P.sn 2 (f1 := (56, [(0, .ref m), (1, .int (bif all then 1 else 0))], [.int ((nI (O.length + 1)) - 1), .ref m])) (S1 := S) rfl ?_
        rw [nI_pred]
        refine px_P.pf rfl rfl (by assumption) rfl (fun S1 u1 => ?_)
        have h1 : stm S0 S1 m p q0 A0 A a n st O := ⟨h.1.ob u1, h.2.1.tr (mF.u (Nat.le_refl _) (by omega) u1), h.2.2.1, h.2.2.2.1, t1⟩
        have c1 := h1.1.1
        have r24 : S1.1 (m + 24) = some (.inl (0, 64, .inl (A 24))) := h1.1.2 24 (by decide) (by decide)
        refine px_P.sn 2 (f1 := (61, [(0, .ref m), (1, .int (bif all then 1 else 0))], [.ref m, .ref m])) (S1 := S1) rfl ?_
        refine px_P.gf rfl rfl (by assumption) (v := .ref (m + 24)) rfl ?_
        refine px_P.sn 1 (f1 := (65, [(0, .ref m), (1, .int (bif all then 1 else 0))], [.ref m, .ref (m + 24), .ref m])) (S1 := S1) rfl ?_
        refine px_P.gf rfl rfl (by assumption) (v := .int (nI O.length)) rfl ?_
        refine px_P.ialdj (j := O.length) rfl (by assumption) rfl (by omega) (by decide) ?_
        rw [t2]
        refine px_P.sn 1 (f1 := (71, [(0, .ref m), (1, .int (bif all then 1 else 0))], [.int 100, .int (nI o), .ref m])) (S1 := S1) rfl ?_
        refine px_P.irem rfl (by decide) ?_
        rw [er]
        refine px_P.sn 2 (f1 := (74, [(0, .ref m), (1, .int (bif all then 1 else 0))], [.ref m, .int 0, .int (nI (o % 100)), .ref m])) (S1 := S1) rfl ?_
        refine px_P.gf rfl rfl (by assumption) (v := .ref (m + 24)) rfl ?_
        refine px_P.sn 1 (f1 := (78, [(0, .ref m), (1, .int (bif all then 1 else 0))], [.ref m, .ref (m + 24), .int 0, .int (nI (o % 100)), .ref m])) (S1 := S1) rfl ?_
        refine px_P.gf rfl rfl (by assumption) (v := .int (nI O.length)) rfl ?_
        refine px_P.ialdj (j := O.length) rfl (by assumption) rfl (by omega) (by decide) ?_
        rw [t2]
        refine px_P.sn 1 (f1 := (84, [(0, .ref m), (1, .int (bif all then 1 else 0))], [.int 100, .int (nI o), .int 0, .int (nI (o % 100)), .ref m])) (S1 := S1) rfl ?_
        refine px_P.idiv rfl (by decide) ?_
        rw [ed]
        refine px_P.cv rfl rfl rfl (by assumption) rfl ?_
        show px_M _ px_m_Model_step [.ref m, .int (nI (o % 100)), .int 0, .int (nI (o / 100))] S1 _
        show px_M _ px_m_Model_step [.ref m, .int (nI (o % 100)), .int (nI 0), .int (nI (o / 100))] S1 _
        refine pm_moStep (q4 := (o % 100 - 1, 0, 0, o / 100)) (by omega) hp (by omega) h1 (by show o % 100 = o % 100 - 1 + 1; omega) ?_ (fun _ => rfl) (fun S2 A2 h2 => ?_)
        · show 0 = wth (o % 100 - 1, 0, 0, o / 100)
          unfold wth
          split
          · rfl
          · split
            · rfl
            · rfl
        show px_P _ _ (88, [(0, .ref m), (1, .int (bif all then 1 else 0))], []) S2 _
        refine px_P.sn 1 (f1 := (0, [(0, .ref m), (1, .int (bif all then 1 else 0))], [])) (S1 := S2) rfl ?_
        exact ih (n + 1) _ A2 S2 (by omega) h2 k
      have r24 : S.1 (m + 24) = some (.inl (0, 64, .inl (A 24))) := h.1.2 24 (by decide) (by decide)
      refine px_P.sn 1 (f1 := (1, [(0, .ref m), (1, .int (bif all then 1 else 0))], [.ref m])) (S1 := S) rfl ?_
      refine px_P.gf rfl rfl (by assumption) (v := .int (nI (O.length + 1))) rfl ?_
      refine px_P.if_le rfl rfl (fun h => absurd h (nI_nle (by omega) (by omega))) (fun _ => ?_)
      refine px_P.sn 1 (f1 := (8, [(0, .ref m), (1, .int (bif all then 1 else 0))], [.ref m])) (S1 := S) rfl ?_
      refine px_P.gf rfl rfl (by assumption) (v := .ref (m + 24)) rfl ?_
      refine px_P.sn 1 (f1 := (12, [(0, .ref m), (1, .int (bif all then 1 else 0))], [.ref m, .ref (m + 24)])) (S1 := S) rfl ?_
      refine px_P.gf rfl rfl (by assumption) (v := .int (nI (O.length + 1))) rfl ?_
      refine px_P.sn 2 (f1 := (17, [(0, .ref m), (1, .int (bif all then 1 else 0))], [.int ((nI (O.length + 1)) - 1), .ref (m + 24)])) (S1 := S) rfl ?_
      rw [nI_pred]
      show px_P _ _ (17, [(0, .ref m), (1, .int (bif all then 1 else 0))], [.int (nI O.length), .ref (m + 24)]) S _
      refine px_P.ialdj (j := O.length) rfl (by assumption) rfl (by omega) (by decide) ?_
      rw [t2]
      refine px_P.sn 1 (f1 := (20, [(0, .ref m), (1, .int (bif all then 1 else 0))], [.int 100, .int (nI o)])) (S1 := S) rfl ?_
      refine px_P.irem rfl (by decide) ?_
      rw [er]
      refine px_P.sn 1 (f1 := (23, [(0, .ref m), (1, .int (bif all then 1 else 0))], [.int 7, .int (nI (o % 100))])) (S1 := S) rfl ?_
      refine px_P.ic_eq rfl rfl (fun h7 => ?_) (fun h7 => ?_)
      · exact pop (Or.inl ((nI_eq (b := 7) (by omega) (by decide)).mp h7))
      · cases all with
        | false =>
          refine px_P.sn 1 (f1 := (27, [(0, .ref m), (1, .int 0)], [.int 0])) (S1 := S) rfl ?_
          refine px_P.if_eq rfl rfl (fun _ => ?_) (fun h => absurd ((by decide)) h)
          exact stop (fun z => z.elim (fun z => h7 (by rw [z]; rfl)) (fun z => absurd z.1 (by decide)))
        | true =>
          refine px_P.sn 1 (f1 := (27, [(0, .ref m), (1, .int 1)], [.int 1])) (S1 := S) rfl ?_
          refine px_P.if_eq rfl rfl (fun h => absurd h ((by decide))) (fun _ => ?_)
          refine px_P.sn 1 (f1 := (31, [(0, .ref m), (1, .int 1)], [.ref m])) (S1 := S) rfl ?_
          refine px_P.gf rfl rfl (by assumption) (v := .ref (m + 24)) rfl ?_
          refine px_P.sn 1 (f1 := (35, [(0, .ref m), (1, .int 1)], [.ref m, .ref (m + 24)])) (S1 := S) rfl ?_
          refine px_P.gf rfl rfl (by assumption) (v := .int (nI (O.length + 1))) rfl ?_
          refine px_P.sn 2 (f1 := (40, [(0, .ref m), (1, .int 1)], [.int ((nI (O.length + 1)) - 1), .ref (m + 24)])) (S1 := S) rfl ?_
          rw [nI_pred]
          show px_P _ _ (40, [(0, .ref m), (1, .int 1)], [.int (nI O.length), .ref (m + 24)]) S _
          refine px_P.ialdj (j := O.length) rfl (by assumption) rfl (by omega) (by decide) ?_
          rw [t2]
          refine px_P.sn 1 (f1 := (43, [(0, .ref m), (1, .int 1)], [.int 100, .int (nI o)])) (S1 := S) rfl ?_
          refine px_P.irem rfl (by decide) ?_
          rw [er]
          refine px_P.sn 1 (f1 := (46, [(0, .ref m), (1, .int 1)], [.int 8, .int (nI (o % 100))])) (S1 := S) rfl ?_
          refine px_P.ic_ne rfl rfl (fun h8 => ?_) (fun h8 => ?_)
          · exact stop (fun z => z.elim (fun z => h7 (by rw [z]; rfl)) (fun z => h8 (by rw [z.2]; rfl)))
          · exact pop (Or.inr ⟨rfl, (nI_eq (b := 8) (by omega) (by decide)).mp h8⟩)
  intro O n st A S hn h k
  refine px_M.go (by omega) (Nat.le_of_ble_eq_true rfl) ?_
  exact lp O n st A S hn h k
