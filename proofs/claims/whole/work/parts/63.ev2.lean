/-! ===== the model's forms: the methods ===== -/
theorem pm_moWrapped {d : Nat} {x : Int32} {S : px_S} {Q : Option Value → px_S → Prop} (hd : 1 ≤ d) (h : le32 x lF) (k : Q (some (.int (fm_listed x))) S) : px_M d px_m_Model_wrapped [.int x] S Q := by
  rw [← mo_listed h] at k
  refine px_M.go (by omega) (Nat.le_of_ble_eq_true rfl) ?_
  refine px_P.sn 9 (f1 := (11, [(0, .int x), (1, .int ((x <<< (5 &&& 31)) &&& 1048575))], [.int (x >>> (15 &&& 31))])) (S1 := S) rfl ?_
  refine px_P.if_eq rfl rfl (fun z => ?_) (fun z => ?_)
  · rw [if_pos z] at k
    refine px_P.sn 1 (f1 := (22, [(0, .int x), (1, .int ((x <<< (5 &&& 31)) &&& 1048575))], [.int ((x <<< (5 &&& 31)) &&& 1048575)])) (S1 := S) rfl ?_
    refine px_P.ret rfl ?_
    exact k
  · rw [if_neg z] at k
    refine px_P.sn 4 (f1 := (22, [(0, .int x), (1, .int ((x <<< (5 &&& 31)) &&& 1048575))], [.int (((x <<< (5 &&& 31)) &&& 1048575) ||| 524288)])) (S1 := S) rfl ?_
    refine px_P.ret rfl ?_
    exact k
theorem pm_moIsFirst {d : Nat} {x : Int32} {S : px_S} {Q : Option Value → px_S → Prop} (hd : 1 ≤ d) (k : Q (some (.int (bif fm_unL x then 1 else 0))) S) : px_M d px_m_Model_isFirst [.int x] S Q := by
  refine px_M.go (by omega) (Nat.le_of_ble_eq_true rfl) ?_
  refine px_P.sn 3 (f1 := (4, [(0, .int x)], [.int (x &&& 15)])) (S1 := S) rfl ?_
  refine px_P.if_eq rfl rfl (fun z => ?_) (fun z => ?_)
  · rw [Bool.eq_false_iff.mpr (fun w => (mo_first x).mpr w z)] at k
    refine px_P.sn 1 (f1 := (12, [(0, .int x)], [.int 0])) (S1 := S) rfl ?_
    refine px_P.ret rfl ?_
    exact k
  · rw [(mo_first x).mp z] at k
    refine px_P.sn 2 (f1 := (12, [(0, .int x)], [.int 1])) (S1 := S) rfl ?_
    refine px_P.ret rfl ?_
    exact k
/-- kind is 3 to 6: wrap, unwrap, without, only -/
theorem pm_moChanged {d kd l : Nat} {x : Int32} {T : Nat → Int32} {S : px_S} {Q : Option Value → px_S → Prop} (hd : 2 ≤ d) (h : le32 x lF) (h2 : 2 ≤ kd) (h6 : kd < 6) (hl : kd = 5 → l < 5) (fs pl : Nat) (k : Q (some (.int (xe_v (fun _ => x) T (kd, fs, l, pl)))) S) : px_M d px_m_Model_changed [.int x, .int (nI (kd + 1)), .int (nI (wth (kd, fs, l, pl)))] S Q := by
  have hk : kd = 2 ∨ kd = 3 ∨ kd = 4 ∨ kd = 5 := by omega
  rcases hk with rfl | rfl | rfl | rfl
  · have kk : Q (some (.int (fm_listed x))) S := k
    show px_M d px_m_Model_changed [.int x, .int 3, .int 0] S Q
    refine px_M.go (by omega) (Nat.le_of_ble_eq_true rfl) ?_
    refine px_P.sn 2 (f1 := (2, [(0, .int x), (1, .int 3), (2, .int 0)], [.int 3, .int 3])) (S1 := S) rfl ?_
    refine px_P.ic_ne rfl rfl (fun h => absurd ((by decide)) h) (fun _ => ?_)
    refine px_P.sn 1 (f1 := (6, [(0, .int x), (1, .int 3), (2, .int 0)], [.int x])) (S1 := S) rfl ?_
    refine px_P.call rfl ?_
    show px_M _ px_m_Model_wrapped [.int x] S _
    refine pm_moWrapped (by omega) h ?_
    show px_P _ _ (9, [(0, .int x), (1, .int 3), (2, .int 0)], [.int (fm_listed x)]) S _
    refine px_P.ret rfl ?_
    exact kk
  · have kk : Q (some (.int (fm_un x))) S := k
    rw [← mo_un h] at kk
    show px_M d px_m_Model_changed [.int x, .int 4, .int 0] S Q
    refine px_M.go (by omega) (Nat.le_of_ble_eq_true rfl) ?_
    refine px_P.sn 2 (f1 := (2, [(0, .int x), (1, .int 4), (2, .int 0)], [.int 3, .int 4])) (S1 := S) rfl ?_
    refine px_P.ic_ne rfl rfl (fun _ => ?_) (fun h => absurd h ((by decide)))
    refine px_P.sn 2 (f1 := (12, [(0, .int x), (1, .int 4), (2, .int 0)], [.int 4, .int 4])) (S1 := S) rfl ?_
    refine px_P.ic_ne rfl rfl (fun h => absurd ((by decide)) h) (fun _ => ?_)
    refine px_P.sn 7 (f1 := (23, [(0, .int x), (1, .int 4), (2, .int 0)], [.int ((x >>> (5 &&& 31)) ||| (x &&& 16))])) (S1 := S) rfl ?_
    refine px_P.ret rfl ?_
    exact kk
  · have kk : Q (some (.int (x &&& (-9)))) S := k
    show px_M d px_m_Model_changed [.int x, .int 5, .int 0] S Q
    refine px_M.go (by omega) (Nat.le_of_ble_eq_true rfl) ?_
    refine px_P.sn 2 (f1 := (2, [(0, .int x), (1, .int 5), (2, .int 0)], [.int 3, .int 5])) (S1 := S) rfl ?_
    refine px_P.ic_ne rfl rfl (fun _ => ?_) (fun h => absurd h ((by decide)))
    refine px_P.sn 2 (f1 := (12, [(0, .int x), (1, .int 5), (2, .int 0)], [.int 4, .int 5])) (S1 := S) rfl ?_
    refine px_P.ic_ne rfl rfl (fun _ => ?_) (fun h => absurd h ((by decide)))
    refine px_P.sn 2 (f1 := (26, [(0, .int x), (1, .int 5), (2, .int 0)], [.int 5, .int 5])) (S1 := S) rfl ?_
    refine px_P.ic_ne rfl rfl (fun h => absurd ((by decide)) h) (fun _ => ?_)
    refine px_P.sn 3 (f1 := (33, [(0, .int x), (1, .int 5), (2, .int 0)], [.int (x &&& (-9))])) (S1 := S) rfl ?_
    refine px_P.ret rfl ?_
    exact kk
  · have kk : Q (some (.int (fm_na x (nI l)))) S := k
    have hl5 := hl rfl
    rw [← mo_na x hl5] at kk
    show px_M d px_m_Model_changed [.int x, .int 6, .int (nI l)] S Q
    refine px_M.go (by omega) (Nat.le_of_ble_eq_true rfl) ?_
    have yes : ((¬ x &&& 16 = 0) ∨ bt x l = true) → px_P (d - 1) px_m_Model_changed (50, [(0, .int x), (1, .int 6), (2, .int (nI l))], []) S Q := by
      intro z
      rw [if_pos z] at kk
      refine px_P.sn 4 (f1 := (57, [(0, .int x), (1, .int 6), (2, .int (nI l))], [.int (1 <<< ((nI l) &&& 31))])) (S1 := S) rfl ?_
      refine px_P.ret rfl ?_
      exact kk
    refine px_P.sn 2 (f1 := (2, [(0, .int x), (1, .int 6), (2, .int (nI l))], [.int 3, .int 6])) (S1 := S) rfl ?_
    refine px_P.ic_ne rfl rfl (fun _ => ?_) (fun h => absurd h ((by decide)))
    refine px_P.sn 2 (f1 := (12, [(0, .int x), (1, .int 6), (2, .int (nI l))], [.int 4, .int 6])) (S1 := S) rfl ?_
    refine px_P.ic_ne rfl rfl (fun _ => ?_) (fun h => absurd h ((by decide)))
    refine px_P.sn 2 (f1 := (26, [(0, .int x), (1, .int 6), (2, .int (nI l))], [.int 5, .int 6])) (S1 := S) rfl ?_
    refine px_P.ic_ne rfl rfl (fun _ => ?_) (fun h => absurd h ((by decide)))
    refine px_P.sn 3 (f1 := (38, [(0, .int x), (1, .int 6), (2, .int (nI l))], [.int (x &&& 16)])) (S1 := S) rfl ?_
    refine px_P.if_ne rfl rfl (fun z => ?_) (fun z => ?_)
    · exact yes (Or.inl z)
    · refine px_P.sn 6 (f1 := (47, [(0, .int x), (1, .int 6), (2, .int (nI l))], [.int 1, .int ((x >>> ((nI l) &&& 31)) &&& 1)])) (S1 := S) rfl ?_
      refine px_P.ic_ne rfl rfl (fun w => ?_) (fun w => ?_)
      · rw [if_neg (fun q => q.elim (fun q => q z) (fun q => w ((pick_1 x (by omega)).mpr q)))] at kk
        refine px_P.sn 1 (f1 := (57, [(0, .int x), (1, .int 6), (2, .int (nI l))], [.int 0])) (S1 := S) rfl ?_
        refine px_P.ret rfl ?_
        exact kk
      · exact yes (Or.inr ((pick_1 x (by omega)).mp w))
theorem pm_moSumOf {d f g : Nat} {S : px_S} {Q : Option Value → px_S → Prop} (hd : 1 ≤ d) (hf : f < 20) (hg : g < 20) (k : Q (some (.int (soV f g))) S) : px_M d px_m_Model_sumOf [.int (nI f), .int (nI g)] S Q := by
  unfold soV at k
  have any : (f = 4 ∨ g = 4) → px_P (d - 1) px_m_Model_sumOf (10, [(0, .int (nI f)), (1, .int (nI g))], []) S Q := by
    intro z
    rw [if_pos z] at k
    refine px_P.sn 1 (f1 := (12, [(0, .int (nI f)), (1, .int (nI g))], [.int 16])) (S1 := S) rfl ?_
    refine px_P.ret rfl ?_
    exact k
  have last : ¬ (f = 4 ∨ g = 4) → ¬ (f < 2 ∧ g < 2) → ¬ (f = 2 ∧ g = 2) → px_P (d - 1) px_m_Model_sumOf (47, [(0, .int (nI f)), (1, .int (nI g))], []) S Q := by
    intro z1 z2 z3
    rw [if_neg z1, if_neg z2, if_neg z3] at k
    have no : ¬ (4 < f ∧ f / 5 = g / 5) → px_P (d - 1) px_m_Model_sumOf (71, [(0, .int (nI f)), (1, .int (nI g))], []) S Q := by
      intro z
      rw [if_neg z] at k
      refine px_P.sn 1 (f1 := (72, [(0, .int (nI f)), (1, .int (nI g))], [.int (-1)])) (S1 := S) rfl ?_
      refine px_P.ret rfl ?_
      exact k
    refine px_P.sn 2 (f1 := (49, [(0, .int (nI f)), (1, .int (nI g))], [.int 4, .int (nI f)])) (S1 := S) rfl ?_
    by_cases h4 : 4 < f
    · refine px_P.ic_le rfl rfl (fun h => absurd h (nI_ge (a := 4) h4 (by omega))) (fun _ => ?_)
      refine px_P.sn 2 (f1 := (54, [(0, .int (nI f)), (1, .int (nI g))], [.int 5, .int (nI f)])) (S1 := S) rfl ?_
      refine px_P.idiv rfl (by decide) ?_
      refine px_P.sn 2 (f1 := (57, [(0, .int (nI f)), (1, .int (nI g))], [.int 5, .int (nI g), .int ((nI f) / 5)])) (S1 := S) rfl ?_
      refine px_P.idiv rfl (by decide) ?_
      rw [show nI f / 5 = nI (f / 5) from pk_div (d := 5) (by omega) (by decide) (by decide), show nI g / 5 = nI (g / 5) from pk_div (d := 5) (by omega) (by decide) (by decide)]
      refine px_P.ic_ne rfl rfl (fun z => ?_) (fun z => ?_)
      · exact no (fun q => z (by rw [q.2]))
      · rw [if_pos ⟨h4, (nI_eq (by omega) (by omega)).mp z⟩] at k
        refine px_P.sn 8 (f1 := (72, [(0, .int (nI f)), (1, .int (nI g))], [.int ((1 <<< ((nI f) &&& 31)) ||| (1 <<< ((nI g) &&& 31)))])) (S1 := S) rfl ?_
        refine px_P.ret rfl ?_
        exact k
    · refine px_P.ic_le rfl rfl (fun _ => ?_) (fun h => absurd (nI_le (b := 4) (by omega) (by decide)) h)
      exact no (fun q => h4 q.1)
  have two : ¬ (f = 4 ∨ g = 4) → ¬ (f < 2 ∧ g < 2) → px_P (d - 1) px_m_Model_sumOf (35, [(0, .int (nI f)), (1, .int (nI g))], []) S Q := by
    intro z1 z2
    refine px_P.sn 2 (f1 := (37, [(0, .int (nI f)), (1, .int (nI g))], [.int 2, .int (nI f)])) (S1 := S) rfl ?_
    refine px_P.ic_ne rfl rfl (fun w1 => ?_) (fun w1 => ?_)
    · exact last z1 z2 (fun q => w1 (by rw [q.1]; rfl))
    · refine px_P.sn 2 (f1 := (42, [(0, .int (nI f)), (1, .int (nI g))], [.int 2, .int (nI g)])) (S1 := S) rfl ?_
      refine px_P.ic_ne rfl rfl (fun w2 => ?_) (fun w2 => ?_)
      · exact last z1 z2 (fun q => w2 (by rw [q.2]; rfl))
      · rw [if_neg z1, if_neg z2, if_pos ⟨(nI_eq (b := 2) (by omega) (by decide)).mp w1, (nI_eq (b := 2) (by omega) (by decide)).mp w2⟩] at k
        refine px_P.sn 1 (f1 := (46, [(0, .int (nI f)), (1, .int (nI g))], [.int 4])) (S1 := S) rfl ?_
        refine px_P.ret rfl ?_
        exact k
  refine px_M.go (by omega) (Nat.le_of_ble_eq_true rfl) ?_
  refine px_P.sn 2 (f1 := (2, [(0, .int (nI f)), (1, .int (nI g))], [.int 4, .int (nI f)])) (S1 := S) rfl ?_
  refine px_P.ic_eq rfl rfl (fun w1 => ?_) (fun w1 => ?_)
  · exact any (Or.inl ((nI_eq (b := 4) (by omega) (by decide)).mp w1))
  · refine px_P.sn 2 (f1 := (7, [(0, .int (nI f)), (1, .int (nI g))], [.int 4, .int (nI g)])) (S1 := S) rfl ?_
    refine px_P.ic_ne rfl rfl (fun w2 => ?_) (fun w2 => ?_)
    · have z1 : ¬ (f = 4 ∨ g = 4) := fun q => q.elim (fun q => w1 (by rw [q]; rfl)) (fun q => w2 (by rw [q]; rfl))
      refine px_P.sn 2 (f1 := (15, [(0, .int (nI f)), (1, .int (nI g))], [.int 2, .int (nI f)])) (S1 := S) rfl ?_
      by_cases h1 : f < 2
      · refine px_P.ic_ge rfl rfl (fun h => absurd h (nI_ge (b := 2) h1 (by decide))) (fun _ => ?_)
        refine px_P.sn 2 (f1 := (20, [(0, .int (nI f)), (1, .int (nI g))], [.int 2, .int (nI g)])) (S1 := S) rfl ?_
        by_cases h2 : g < 2
        · refine px_P.ic_ge rfl rfl (fun h => absurd h (nI_ge (b := 2) h2 (by decide))) (fun _ => ?_)
          rw [if_neg z1, if_pos ⟨h1, h2⟩] at k
          refine px_P.sn 3 (f1 := (26, [(0, .int (nI f)), (1, .int (nI g))], [.int ((nI f) + (nI g))])) (S1 := S) rfl ?_
          rw [nI_add]
          refine px_P.if_ne rfl rfl (fun w3 => ?_) (fun w3 => ?_)
          · rw [if_neg (fun q => w3 (by rw [q]; rfl))] at k
            refine px_P.sn 1 (f1 := (34, [(0, .int (nI f)), (1, .int (nI g))], [.int 2])) (S1 := S) rfl ?_
            refine px_P.ret rfl ?_
            exact k
          · rw [if_pos ((nI_eq (b := 0) (by omega) (by decide)).mp w3)] at k
            refine px_P.sn 2 (f1 := (34, [(0, .int (nI f)), (1, .int (nI g))], [.int 1])) (S1 := S) rfl ?_
            refine px_P.ret rfl ?_
            exact k
        · refine px_P.ic_ge rfl rfl (fun _ => ?_) (fun h => absurd (nI_le (a := 2) (by omega) (by omega)) h)
          exact two z1 (fun q => h2 q.2)
      · refine px_P.ic_ge rfl rfl (fun _ => ?_) (fun h => absurd (nI_le (a := 2) (by omega) (by omega)) h)
        exact two z1 (fun q => h1 q.1)
    · exact any (Or.inr ((nI_eq (b := 4) (by omega) (by decide)).mp w2))
