/-! ===== the model's sums ===== -/
def smP (a b : Int32) (f g : Nat) (r : Int32) : Prop := ∀ i, i < 32 → (bt r i = true ↔ ∃ f' g', f' < 20 ∧ g' < 20 ∧ (f' < f ∨ (f' = f ∧ g' < g)) ∧ bt a f' = true ∧ bt b g' = true ∧ so f' g' i = true)
theorem smP.no {a b r : Int32} {f g : Nat} (h : smP a b f g r) (hn : ¬ (bt a f = true ∧ bt b g = true)) : smP a b f (g + 1) r := by
  intro i hi
  rw [h i hi]
  constructor
  · rintro ⟨f', g', q1, q2, q3, q4, q5, q6⟩
    exact ⟨f', g', q1, q2, by omega, q4, q5, q6⟩
  · rintro ⟨f', g', q1, q2, q3, q4, q5, q6⟩
    refine ⟨f', g', q1, q2, ?_, q4, q5, q6⟩
    rcases q3 with q3 | ⟨q3, q7⟩
    · exact Or.inl q3
    · by_cases e : g' = g
      · subst e; subst q3; exact absurd ⟨q4, q5⟩ hn
      · exact Or.inr ⟨q3, by omega⟩
theorem smP.yes {a b r : Int32} {f g : Nat} (h : smP a b f g r) (hf : f < 20) (hg : g < 20) (ha : bt a f = true) (hb : bt b g = true) : smP a b f (g + 1) (r ||| (if soV f g < 0 then 0 else soV f g)) := by
  intro i hi
  rw [bt_or, Bool.or_eq_true, h i hi, soV_b f hf g hg i hi]
  constructor
  · rintro (⟨f', g', q1, q2, q3, q4, q5, q6⟩ | q)
    · exact ⟨f', g', q1, q2, by omega, q4, q5, q6⟩
    · exact ⟨f, g, hf, hg, by omega, ha, hb, q⟩
  · rintro ⟨f', g', q1, q2, q3, q4, q5, q6⟩
    rcases q3 with q3 | ⟨q3, q7⟩
    · exact Or.inl ⟨f', g', q1, q2, Or.inl q3, q4, q5, q6⟩
    · by_cases e : g' = g
      · subst e; subst q3; exact Or.inr q6
      · exact Or.inl ⟨f', g', q1, q2, Or.inr ⟨q3, by omega⟩, q4, q5, q6⟩
theorem smP.nx {a b r : Int32} {f : Nat} (h : smP a b f 20 r) : smP a b (f + 1) 0 r := by
  intro i hi
  rw [h i hi]
  constructor
  · rintro ⟨f', g', q1, q2, q3, q⟩
    exact ⟨f', g', q1, q2, by omega, q⟩
  · rintro ⟨f', g', q1, q2, q3, q⟩
    exact ⟨f', g', q1, q2, by omega, q⟩
theorem pm_moSum {d : Nat} {a b : Int32} {S : px_S} {Q : Option Value → px_S → Prop} (hd : 2 ≤ d) (ha : le32 a lF) (hb : le32 b lF) (k : Q (some (.int (fm_sum a b))) S) : px_M d px_m_Model_sum [.int a, .int b] S Q := by
  have lp := px_for (d := d - 1) (mi := px_m_Model_sum) (Q := Q) (X := Int32) 20 (fun f r => (4, [(0, .int a), (1, .int b), (2, .int r), (3, .int (nI f))], []))
    (fun f r S' => S' = S ∧ smP a b f 0 r)
    (by
      intro f hf r S' hS kk
      obtain ⟨hS, hI⟩ := hS
      subst hS
      have inner := px_for (d := d - 1) (mi := px_m_Model_sum) (Q := Q) (X := Int32) 20 (fun g r => (13, [(0, .int a), (1, .int b), (2, .int r), (3, .int (nI f)), (4, .int (nI g))], []))
        (fun g r S1 => S1 = S' ∧ smP a b f g r)
        (by
          intro g hg r S1 hS1 kk1
          obtain ⟨hS1, hI1⟩ := hS1
          subst hS1
          have skip : ¬ (bt a f = true ∧ bt b g = true) → px_P (d - 1) px_m_Model_sum (61, [(0, .int a), (1, .int b), (2, .int r), (3, .int (nI f)), (4, .int (nI g))], []) S1 Q := by
            intro z
            refine px_P.sn 2 (f1 := (13, [(0, .int a), (1, .int b), (2, .int r), (3, .int (nI f)), (4, .int ((nI g) + 1))], [])) (S1 := S1) rfl ?_
            rw [nI_1]
            exact kk1 r S1 ⟨rfl, hI1.no z⟩
          show px_P _ _ (13, [(0, .int a), (1, .int b), (2, .int r), (3, .int (nI f)), (4, .int (nI g))], []) S1 _
          refine px_P.sn 2 (f1 := (17, [(0, .int a), (1, .int b), (2, .int r), (3, .int (nI f)), (4, .int (nI g))], [.int 20, .int (nI g)])) (S1 := S1) rfl ?_
          refine px_P.ic_ge rfl rfl (fun h => absurd h (nI_ge (b := 20) hg (by decide))) (fun _ => ?_)
          refine px_P.sn 6 (f1 := (26, [(0, .int a), (1, .int b), (2, .int r), (3, .int (nI f)), (4, .int (nI g))], [.int 1, .int ((a >>> ((nI f) &&& 31)) &&& 1)])) (S1 := S1) rfl ?_
          refine px_P.ic_ne rfl rfl (fun z1 => ?_) (fun z1 => ?_)
          · exact skip (fun q => z1 ((pick_1 a (by omega)).mpr q.1))
          · refine px_P.sn 6 (f1 := (36, [(0, .int a), (1, .int b), (2, .int r), (3, .int (nI f)), (4, .int (nI g))], [.int 1, .int ((b >>> ((nI g) &&& 31)) &&& 1)])) (S1 := S1) rfl ?_
            refine px_P.ic_ne rfl rfl (fun z2 => ?_) (fun z2 => ?_)
            · exact skip (fun q => z2 ((pick_1 b (by omega)).mpr q.2))
            · have hy := hI1.yes hf hg ((pick_1 a (by omega)).mp z1) ((pick_1 b (by omega)).mp z2)
              refine px_P.sn 2 (f1 := (42, [(0, .int a), (1, .int b), (2, .int r), (3, .int (nI f)), (4, .int (nI g))], [.int (nI g), .int (nI f)])) (S1 := S1) rfl ?_
              refine px_P.call rfl ?_
              show px_M _ px_m_Model_sumOf [.int (nI f), .int (nI g)] S1 _
              refine pm_moSumOf (by omega) hf hg ?_
              show px_P _ _ (45, [(0, .int a), (1, .int b), (2, .int r), (3, .int (nI f)), (4, .int (nI g))], [.int (soV f g)]) S1 _
              refine px_P.sn 3 (f1 := (50, [(0, .int a), (1, .int b), (2, .int r), (3, .int (nI f)), (4, .int (nI g)), (5, .int (soV f g))], [.int (soV f g), .int r])) (S1 := S1) rfl ?_
              refine px_P.if_ge rfl rfl (fun z3 => ?_) (fun z3 => ?_)
              · rw [if_neg (Int32.not_lt.mpr z3)] at hy
                refine px_P.sn 5 (f1 := (13, [(0, .int a), (1, .int b), (2, .int (r ||| (soV f g))), (3, .int (nI f)), (4, .int ((nI g) + 1)), (5, .int (soV f g))], [])) (S1 := S1) rfl ?_
                show px_P _ _ (13, [(0, .int a), (1, .int b), (2, .int (r ||| (soV f g))), (3, .int (nI f)), (4, .int ((nI g) + 1)), (5, .int (soV f g))], []) S1 _
                refine px_P.wk (ls := [(0, .int a), (1, .int b), (2, .int (r ||| (soV f g))), (3, .int (nI f)), (4, .int ((nI g) + 1))]) rfl (.cons_cons _ (.cons_cons _ (.cons_cons _ (.cons_cons _ (.cons_cons _ (.cons _ .slnil)))))) ?_
                rw [nI_1]
                exact kk1 _ S1 ⟨rfl, hy⟩
              · rw [if_pos (Int32.not_le.mp z3)] at hy
                refine px_P.sn 6 (f1 := (13, [(0, .int a), (1, .int b), (2, .int (r ||| 0)), (3, .int (nI f)), (4, .int ((nI g) + 1)), (5, .int (soV f g))], [])) (S1 := S1) rfl ?_
                show px_P _ _ (13, [(0, .int a), (1, .int b), (2, .int (r ||| 0)), (3, .int (nI f)), (4, .int ((nI g) + 1)), (5, .int (soV f g))], []) S1 _
                refine px_P.wk (ls := [(0, .int a), (1, .int b), (2, .int (r ||| 0)), (3, .int (nI f)), (4, .int ((nI g) + 1))]) rfl (.cons_cons _ (.cons_cons _ (.cons_cons _ (.cons_cons _ (.cons_cons _ (.cons _ .slnil)))))) ?_
                rw [nI_1]
                exact kk1 _ S1 ⟨rfl, hy⟩)
        (by
          intro r S1 hS1
          obtain ⟨hS1, hI1⟩ := hS1
          subst hS1
          show px_P _ _ (13, [(0, .int a), (1, .int b), (2, .int r), (3, .int (nI f)), (4, .int (nI 20))], []) S1 _
          refine px_P.sn 2 (f1 := (17, [(0, .int a), (1, .int b), (2, .int r), (3, .int (nI f)), (4, .int (nI 20))], [.int 20, .int (nI 20)])) (S1 := S1) rfl ?_
          refine px_P.ic_ge rfl rfl (fun _ => ?_) (fun h => absurd ((by decide)) h)
          refine px_P.sn 2 (f1 := (4, [(0, .int a), (1, .int b), (2, .int r), (3, .int ((nI f) + 1)), (4, .int (nI 20))], [])) (S1 := S1) rfl ?_
          show px_P _ _ (4, [(0, .int a), (1, .int b), (2, .int r), (3, .int ((nI f) + 1)), (4, .int (nI 20))], []) S1 _
          refine px_P.wk (ls := [(0, .int a), (1, .int b), (2, .int r), (3, .int ((nI f) + 1))]) rfl (.cons_cons _ (.cons_cons _ (.cons_cons _ (.cons_cons _ (.cons _ .slnil))))) ?_
          rw [nI_1]
          exact kk r S1 ⟨rfl, hI1.nx⟩)
      show px_P _ _ (4, [(0, .int a), (1, .int b), (2, .int r), (3, .int (nI f))], []) S' _
      refine px_P.sn 2 (f1 := (7, [(0, .int a), (1, .int b), (2, .int r), (3, .int (nI f))], [.int 20, .int (nI f)])) (S1 := S') rfl ?_
      refine px_P.ic_ge rfl rfl (fun h => absurd h (nI_ge (b := 20) hf (by decide))) (fun _ => ?_)
      refine px_P.sn 2 (f1 := (13, [(0, .int a), (1, .int b), (2, .int r), (3, .int (nI f)), (4, .int 0)], [])) (S1 := S') rfl ?_
      exact inner 20 0 rfl r S' ⟨rfl, hI⟩)
    (by
      intro r S' hS
      obtain ⟨hS, hI⟩ := hS
      subst hS
      show px_P _ _ (4, [(0, .int a), (1, .int b), (2, .int r), (3, .int (nI 20))], []) S' _
      refine px_P.sn 2 (f1 := (7, [(0, .int a), (1, .int b), (2, .int r), (3, .int (nI 20))], [.int 20, .int (nI 20)])) (S1 := S') rfl ?_
      refine px_P.ic_ge rfl rfl (fun _ => ?_) (fun h => absurd ((by decide)) h)
      refine px_P.sn 1 (f1 := (74, [(0, .int a), (1, .int b), (2, .int r), (3, .int (nI 20))], [.int r])) (S1 := S') rfl ?_
      refine px_P.ret rfl ?_
      have e : r = fm_sum a b := by
        apply bt_ext
        intro i hi
        apply Bool.eq_iff_iff.mpr
        rw [hI i hi, fm_sum_b ha hb i hi]
        constructor
        · rintro ⟨f', g', q1, q2, q3, q4, q5, q6⟩
          exact ⟨f', q1, q4, g', q2, q5, q6⟩
        · rintro ⟨f', q1, q4, g', q2, q5, q6⟩
          exact ⟨f', g', q1, q2, by omega, q4, q5, q6⟩
      rw [e]
      exact k)
  refine px_M.go (by omega) (Nat.le_of_ble_eq_true rfl) ?_
  refine px_P.sn 4 (f1 := (4, [(0, .int a), (1, .int b), (2, .int 0), (3, .int 0)], [])) (S1 := S) rfl ?_
  refine lp 20 0 rfl 0 S ⟨rfl, fun i hi => ?_⟩
  rw [bt_0]
  exact ⟨fun q => (by cases q), fun ⟨f', g', q1, q2, q3, q⟩ => by omega⟩
def lkP (a b : Int32) (f g : Nat) (r : Bool) : Prop := r = true ↔ ∃ f' g', f' < 20 ∧ g' < 20 ∧ (f' < f ∨ (f' = f ∧ g' < g)) ∧ bt a f' = true ∧ bt b g' = true ∧ soN f' g' = true
theorem lkP.up {a b : Int32} {r : Bool} {f g : Nat} (h : lkP a b f g r) (hf : f < 20) (hg : g < 20) : lkP a b f (g + 1) (r || (bt a f && bt b g && soN f g)) := by
  unfold lkP at *
  rw [Bool.or_eq_true, h, Bool.and_eq_true, Bool.and_eq_true]
  constructor
  · rintro (⟨f', g', q1, q2, q3, q4, q5, q6⟩ | ⟨⟨q1, q2⟩, q3⟩)
    · exact ⟨f', g', q1, q2, by omega, q4, q5, q6⟩
    · exact ⟨f, g, hf, hg, by omega, q1, q2, q3⟩
  · rintro ⟨f', g', q1, q2, q3, q4, q5, q6⟩
    rcases q3 with q3 | ⟨q3, q7⟩
    · exact Or.inl ⟨f', g', q1, q2, Or.inl q3, q4, q5, q6⟩
    · by_cases e : g' = g
      · subst e; subst q3; exact Or.inr ⟨⟨q4, q5⟩, q6⟩
      · exact Or.inl ⟨f', g', q1, q2, Or.inr ⟨q3, by omega⟩, q4, q5, q6⟩
theorem lkP.nx {a b : Int32} {r : Bool} {f : Nat} (h : lkP a b f 20 r) : lkP a b (f + 1) 0 r := by
  unfold lkP at *
  rw [h]
  constructor
  · rintro ⟨f', g', q1, q2, q3, q⟩
    exact ⟨f', g', q1, q2, by omega, q⟩
  · rintro ⟨f', g', q1, q2, q3, q⟩
    exact ⟨f', g', q1, q2, by omega, q⟩
theorem pm_moLacks {d : Nat} {a b : Int32} {S : px_S} {Q : Option Value → px_S → Prop} (hd : 2 ≤ d) (ha : le32 a lF) (hb : le32 b lF) (k : Q (some (.int (bif fm_sumL a b then 1 else 0))) S) : px_M d px_m_Model_lacksSum [.int a, .int b] S Q := by
  have lp := px_for (d := d - 1) (mi := px_m_Model_lacksSum) (Q := Q) (X := Bool) 20 (fun f r => (4, [(0, .int a), (1, .int b), (2, .int (bif r then 1 else 0)), (3, .int (nI f))], []))
    (fun f r S' => S' = S ∧ lkP a b f 0 r)
    (by
      intro f hf r S' hS kk
      obtain ⟨hS, hI⟩ := hS
      subst hS
      have inner := px_for (d := d - 1) (mi := px_m_Model_lacksSum) (Q := Q) (X := Bool) 20 (fun g r => (13, [(0, .int a), (1, .int b), (2, .int (bif r then 1 else 0)), (3, .int (nI f)), (4, .int (nI g))], []))
        (fun g r S1 => S1 = S' ∧ lkP a b f g r)
        (by
          intro g hg r S1 hS1 kk1
          obtain ⟨hS1, hI1⟩ := hS1
          subst hS1
          have hy := kk1 _ S1 ⟨rfl, hI1.up hf hg⟩
          have no : (r || (bt a f && bt b g && soN f g)) = false → ∀ x : Int32, px_P (d - 1) px_m_Model_lacksSum (56, [(0, .int a), (1, .int b), (2, .int x), (3, .int (nI f)), (4, .int (nI g))], []) S1 Q := by
            intro z x
            rw [z] at hy
            refine px_P.sn 4 (f1 := (13, [(0, .int a), (1, .int b), (2, .int 0), (3, .int (nI f)), (4, .int ((nI g) + 1))], [])) (S1 := S1) rfl ?_
            rw [nI_1]
            exact hy
          have yes : (r || (bt a f && bt b g && soN f g)) = true → ∀ x : Int32, px_P (d - 1) px_m_Model_lacksSum (52, [(0, .int a), (1, .int b), (2, .int x), (3, .int (nI f)), (4, .int (nI g))], []) S1 Q := by
            intro z x
            rw [z] at hy
            refine px_P.sn 5 (f1 := (13, [(0, .int a), (1, .int b), (2, .int 1), (3, .int (nI f)), (4, .int ((nI g) + 1))], [])) (S1 := S1) rfl ?_
            rw [nI_1]
            exact hy
          cases r with
          | true =>
            show px_P _ _ (13, [(0, .int a), (1, .int b), (2, .int 1), (3, .int (nI f)), (4, .int (nI g))], []) S1 _
            refine px_P.sn 2 (f1 := (17, [(0, .int a), (1, .int b), (2, .int 1), (3, .int (nI f)), (4, .int (nI g))], [.int 20, .int (nI g)])) (S1 := S1) rfl ?_
            refine px_P.ic_ge rfl rfl (fun h => absurd h (nI_ge (b := 20) hg (by decide))) (fun _ => ?_)
            refine px_P.sn 1 (f1 := (21, [(0, .int a), (1, .int b), (2, .int 1), (3, .int (nI f)), (4, .int (nI g))], [.int 1])) (S1 := S1) rfl ?_
            refine px_P.if_ne rfl rfl (fun _ => ?_) (fun h => absurd h ((by decide)))
            exact yes rfl 1
          | false =>
            show px_P _ _ (13, [(0, .int a), (1, .int b), (2, .int 0), (3, .int (nI f)), (4, .int (nI g))], []) S1 _
            refine px_P.sn 2 (f1 := (17, [(0, .int a), (1, .int b), (2, .int 0), (3, .int (nI f)), (4, .int (nI g))], [.int 20, .int (nI g)])) (S1 := S1) rfl ?_
            refine px_P.ic_ge rfl rfl (fun h => absurd h (nI_ge (b := 20) hg (by decide))) (fun _ => ?_)
            refine px_P.sn 1 (f1 := (21, [(0, .int a), (1, .int b), (2, .int 0), (3, .int (nI f)), (4, .int (nI g))], [.int 0])) (S1 := S1) rfl ?_
            refine px_P.if_ne rfl rfl (fun h => absurd ((by decide)) h) (fun _ => ?_)
            refine px_P.sn 6 (f1 := (30, [(0, .int a), (1, .int b), (2, .int 0), (3, .int (nI f)), (4, .int (nI g))], [.int 1, .int ((a >>> ((nI f) &&& 31)) &&& 1)])) (S1 := S1) rfl ?_
            refine px_P.ic_ne rfl rfl (fun z1 => ?_) (fun z1 => ?_)
            · exact no (by rw [Bool.eq_false_iff.mpr (fun q => z1 ((pick_1 a (by omega)).mpr q))]; rfl) 0
            · refine px_P.sn 6 (f1 := (40, [(0, .int a), (1, .int b), (2, .int 0), (3, .int (nI f)), (4, .int (nI g))], [.int 1, .int ((b >>> ((nI g) &&& 31)) &&& 1)])) (S1 := S1) rfl ?_
              refine px_P.ic_ne rfl rfl (fun z2 => ?_) (fun z2 => ?_)
              · exact no (by rw [Bool.eq_false_iff.mpr (fun q => z2 ((pick_1 b (by omega)).mpr q)), Bool.and_false]; rfl) 0
              · refine px_P.sn 2 (f1 := (46, [(0, .int a), (1, .int b), (2, .int 0), (3, .int (nI f)), (4, .int (nI g))], [.int (nI g), .int (nI f)])) (S1 := S1) rfl ?_
                refine px_P.call rfl ?_
                show px_M _ px_m_Model_sumOf [.int (nI f), .int (nI g)] S1 _
                refine pm_moSumOf (by omega) hf hg ?_
                show px_P _ _ (49, [(0, .int a), (1, .int b), (2, .int 0), (3, .int (nI f)), (4, .int (nI g))], [.int (soV f g)]) S1 _
                refine px_P.if_ge rfl rfl (fun z3 => ?_) (fun z3 => ?_)
                · exact no (by rw [show soN f g = false from decide_eq_false (Int32.not_lt.mpr z3), Bool.and_false]; rfl) 0
                · exact yes (by rw [show soN f g = true from decide_eq_true (Int32.not_le.mp z3), (pick_1 a (by omega)).mp z1, (pick_1 b (by omega)).mp z2]; rfl) 0)
        (by
          intro r S1 hS1
          obtain ⟨hS1, hI1⟩ := hS1
          subst hS1
          show px_P _ _ (13, [(0, .int a), (1, .int b), (2, .int (bif r then 1 else 0)), (3, .int (nI f)), (4, .int (nI 20))], []) S1 _
          refine px_P.sn 2 (f1 := (17, [(0, .int a), (1, .int b), (2, .int (bif r then 1 else 0)), (3, .int (nI f)), (4, .int (nI 20))], [.int 20, .int (nI 20)])) (S1 := S1) rfl ?_
          refine px_P.ic_ge rfl rfl (fun _ => ?_) (fun h => absurd ((by decide)) h)
          refine px_P.sn 2 (f1 := (4, [(0, .int a), (1, .int b), (2, .int (bif r then 1 else 0)), (3, .int ((nI f) + 1)), (4, .int (nI 20))], [])) (S1 := S1) rfl ?_
          show px_P _ _ (4, [(0, .int a), (1, .int b), (2, .int (bif r then 1 else 0)), (3, .int ((nI f) + 1)), (4, .int (nI 20))], []) S1 _
          refine px_P.wk (ls := [(0, .int a), (1, .int b), (2, .int (bif r then 1 else 0)), (3, .int ((nI f) + 1))]) rfl (.cons_cons _ (.cons_cons _ (.cons_cons _ (.cons_cons _ (.cons _ .slnil))))) ?_
          rw [nI_1]
          exact kk r S1 ⟨rfl, hI1.nx⟩)
      show px_P _ _ (4, [(0, .int a), (1, .int b), (2, .int (bif r then 1 else 0)), (3, .int (nI f))], []) S' _
      refine px_P.sn 2 (f1 := (7, [(0, .int a), (1, .int b), (2, .int (bif r then 1 else 0)), (3, .int (nI f))], [.int 20, .int (nI f)])) (S1 := S') rfl ?_
      refine px_P.ic_ge rfl rfl (fun h => absurd h (nI_ge (b := 20) hf (by decide))) (fun _ => ?_)
      refine px_P.sn 2 (f1 := (13, [(0, .int a), (1, .int b), (2, .int (bif r then 1 else 0)), (3, .int (nI f)), (4, .int 0)], [])) (S1 := S') rfl ?_
      exact inner 20 0 rfl r S' ⟨rfl, hI⟩)
    (by
      intro r S' hS
      obtain ⟨hS, hI⟩ := hS
      subst hS
      have e : r = fm_sumL a b := by
        apply Bool.eq_iff_iff.mpr
        unfold lkP at hI
        rw [hI, mo_lacks ha hb]
        constructor
        · rintro ⟨f', g', q1, q2, q3, q4, q5, q6⟩
          exact ⟨f', q1, q4, g', q2, q5, q6⟩
        · rintro ⟨f', q1, q4, g', q2, q5, q6⟩
          exact ⟨f', g', q1, q2, by omega, q4, q5, q6⟩
      rw [← e] at k
      cases r with
      | true =>
        show px_P _ _ (4, [(0, .int a), (1, .int b), (2, .int 1), (3, .int (nI 20))], []) S' _
        refine px_P.sn 2 (f1 := (7, [(0, .int a), (1, .int b), (2, .int 1), (3, .int (nI 20))], [.int 20, .int (nI 20)])) (S1 := S') rfl ?_
        refine px_P.ic_ge rfl rfl (fun _ => ?_) (fun h => absurd ((by decide)) h)
        refine px_P.sn 1 (f1 := (71, [(0, .int a), (1, .int b), (2, .int 1), (3, .int (nI 20))], [.int 1])) (S1 := S') rfl ?_
        refine px_P.ret rfl ?_
        exact k
      | false =>
        show px_P _ _ (4, [(0, .int a), (1, .int b), (2, .int 0), (3, .int (nI 20))], []) S' _
        refine px_P.sn 2 (f1 := (7, [(0, .int a), (1, .int b), (2, .int 0), (3, .int (nI 20))], [.int 20, .int (nI 20)])) (S1 := S') rfl ?_
        refine px_P.ic_ge rfl rfl (fun _ => ?_) (fun h => absurd ((by decide)) h)
        refine px_P.sn 1 (f1 := (71, [(0, .int a), (1, .int b), (2, .int 0), (3, .int (nI 20))], [.int 0])) (S1 := S') rfl ?_
        refine px_P.ret rfl ?_
        exact k)
  refine px_M.go (by omega) (Nat.le_of_ble_eq_true rfl) ?_
  refine px_P.sn 4 (f1 := (4, [(0, .int a), (1, .int b), (2, .int 0), (3, .int 0)], [])) (S1 := S) rfl ?_
  refine lp 20 0 rfl false S ⟨rfl, ?_⟩
  unfold lkP
  exact ⟨fun q => (by cases q), fun ⟨f', g', q1, q2, q3, q⟩ => by omega⟩
