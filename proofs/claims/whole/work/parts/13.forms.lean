/-! ===== Forms: what is reckoned with sets of forms ===== -/
def fm_letter (c : Int32) : Int32 := if c = 105 then 0 else if c = 102 then 1 else if c = 115 then 2 else if c = 110 then 3 else if c = 63 then 4 else -1
set_option maxHeartbeats 1000000 in
theorem pm_letterOf {d : Nat} {x : Int32} {S : px_S} {Q : Option Value → px_S → Prop} (hd : 1 ≤ d) (k : Q (some (.int (fm_letter x))) S) : px_M d px_m_Forms_letterOf [.int x] S Q := by
  refine px_M.go hd (Nat.le_of_ble_eq_true rfl) ?_
  refine px_P.sn 1 (f1 := (1, [(0, .int x)], [.int x])) (S1 := S) rfl ?_
  by_cases h1 : x = 105
  · subst h1
    refine px_P.sn 1 (f1 := (52, [(0, .int 105)], [])) (S1 := S) rfl ?_
    refine px_P.sn 1 (f1 := (53, [(0, .int 105)], [.int 0])) (S1 := S) rfl ?_
    refine px_P.ret rfl ?_
    exact k
  by_cases h2 : x = 102
  · subst h2
    refine px_P.sn 1 (f1 := (54, [(0, .int 102)], [])) (S1 := S) rfl ?_
    refine px_P.sn 1 (f1 := (55, [(0, .int 102)], [.int 1])) (S1 := S) rfl ?_
    refine px_P.ret rfl ?_
    exact k
  by_cases h3 : x = 115
  · subst h3
    refine px_P.sn 1 (f1 := (56, [(0, .int 115)], [])) (S1 := S) rfl ?_
    refine px_P.sn 1 (f1 := (57, [(0, .int 115)], [.int 2])) (S1 := S) rfl ?_
    refine px_P.ret rfl ?_
    exact k
  by_cases h4 : x = 110
  · subst h4
    refine px_P.sn 1 (f1 := (58, [(0, .int 110)], [])) (S1 := S) rfl ?_
    refine px_P.sn 1 (f1 := (59, [(0, .int 110)], [.int 3])) (S1 := S) rfl ?_
    refine px_P.ret rfl ?_
    exact k
  by_cases h5 : x = 63
  · subst h5
    refine px_P.sn 1 (f1 := (60, [(0, .int 63)], [])) (S1 := S) rfl ?_
    refine px_P.sn 1 (f1 := (61, [(0, .int 63)], [.int 4])) (S1 := S) rfl ?_
    refine px_P.ret rfl ?_
    exact k
  · refine px_P.lsw rfl rfl ((lv_osw h5 rfl).trans ((lv_osw h2 rfl).trans ((lv_osw h1 rfl).trans ((lv_osw h4 rfl).trans (lv_osw h3 rfl))))) (t := 62) rfl ?_
    refine px_P.sn 1 (f1 := (63, [(0, .int x)], [.int (-1)])) (S1 := S) rfl ?_
    refine px_P.ret rfl ?_
    rw [show fm_letter x = -1 from by simp only [fm_letter, h1, h2, h3, h4, h5, if_false]] at k
    exact k
def fm_lv (t : Int32) : Int32 := 31 <<< ((5 * t) &&& 31)
theorem pm_inLists {d : Nat} {x : Int32} {S : px_S} {Q : Option Value → px_S → Prop} (hd : 1 ≤ d) (k : Q (some (.int (fm_lv x))) S) : px_M d px_m_Forms_inLists [.int x] S Q := by
  refine px_M.go hd (Nat.le_of_ble_eq_true rfl) ?_
  refine px_P.sn 5 (f1 := (6, [(0, .int x)], [.int (31 <<< ((5 * x) &&& 31))])) (S1 := S) rfl ?_
  refine px_P.ret rfl ?_
  exact k
def fm_listed (x : Int32) : Int32 := if x &&& fm_lv 3 = 0 then (x &&& ((x &&& fm_lv 3) ^^^ (-1))) <<< ((5 : Int32) &&& 31) else ((x &&& ((x &&& fm_lv 3) ^^^ (-1))) <<< ((5 : Int32) &&& 31)) ||| 524288
theorem pm_listed {d : Nat} {x : Int32} {S : px_S} {Q : Option Value → px_S → Prop} (hd : 2 ≤ d) (k : Q (some (.int (fm_listed x))) S) : px_M d px_m_Forms_listed [.int x] S Q := by
  refine px_M.go (by omega) (Nat.le_of_ble_eq_true rfl) ?_
  refine px_P.sn 2 (f1 := (2, [(0, .int x)], [.int 3, .int x])) (S1 := S) rfl ?_
  refine px_P.call rfl ?_
  show px_M _ px_m_Forms_inLists [.int 3] S _
  refine pm_inLists (by omega) ?_
  show px_P _ _ (5, [(0, .int x)], [.int (fm_lv 3), .int x]) S _
  refine px_P.sn 11 (f1 := (16, [(0, .int x), (1, .int (x &&& (fm_lv 3))), (2, .int ((x &&& ((x &&& (fm_lv 3)) ^^^ (-1))) <<< (5 &&& 31)))], [.int (x &&& (fm_lv 3))])) (S1 := S) rfl ?_
  refine px_P.if_ne rfl rfl (fun h => ?_) (fun h => ?_)
  · refine px_P.sn 3 (f1 := (27, [(0, .int x), (1, .int (x &&& (fm_lv 3))), (2, .int ((x &&& ((x &&& (fm_lv 3)) ^^^ (-1))) <<< (5 &&& 31)))], [.int (((x &&& ((x &&& (fm_lv 3)) ^^^ (-1))) <<< (5 &&& 31)) ||| 524288)])) (S1 := S) rfl ?_
    refine px_P.ret rfl ?_
    rw [show fm_listed x = _ from if_neg h] at k
    exact k
  · refine px_P.sn 2 (f1 := (27, [(0, .int x), (1, .int (x &&& (fm_lv 3))), (2, .int ((x &&& ((x &&& (fm_lv 3)) ^^^ (-1))) <<< (5 &&& 31)))], [.int ((x &&& ((x &&& (fm_lv 3)) ^^^ (-1))) <<< (5 &&& 31))])) (S1 := S) rfl ?_
    refine px_P.ret rfl ?_
    rw [show fm_listed x = _ from if_pos h] at k
    exact k
def fm_un (x : Int32) : Int32 := (x.toUInt32 >>> ((5 : Int32).toUInt32 &&& Int32.toUInt32 31)).toInt32 ||| (x &&& 16)
theorem pm_unlisted {d : Nat} {x : Int32} {S : px_S} {Q : Option Value → px_S → Prop} (hd : 1 ≤ d) (k : Q (some (.int (fm_un x))) S) : px_M d px_m_Forms_unlisted [.int x] S Q := by
  refine px_M.go hd (Nat.le_of_ble_eq_true rfl) ?_
  refine px_P.sn 7 (f1 := (8, [(0, .int x)], [.int (((x.toUInt32 >>> ((5 : Int32).toUInt32 &&& Int32.toUInt32 31)).toInt32) ||| (x &&& 16))])) (S1 := S) rfl ?_
  refine px_P.ret rfl ?_
  exact k
def fm_unL (x : Int32) : Bool := decide (¬ (x &&& 31) &&& (-17) = 0)
theorem pm_unlistingLoses {d : Nat} {x : Int32} {S : px_S} {Q : Option Value → px_S → Prop} (hd : 1 ≤ d) (k : Q (some (.int (bif fm_unL x then 1 else 0))) S) : px_M d px_m_Forms_unlistingLoses [.int x] S Q := by
  refine px_M.go hd (Nat.le_of_ble_eq_true rfl) ?_
  refine px_P.sn 5 (f1 := (7, [(0, .int x)], [.int ((x &&& 31) &&& (-17))])) (S1 := S) rfl ?_
  refine px_P.if_eq rfl rfl (fun h => ?_) (fun h => ?_)
  · refine px_P.sn 1 (f1 := (15, [(0, .int x)], [.int 0])) (S1 := S) rfl ?_
    refine px_P.ret rfl ?_
    rw [show fm_unL x = false from decide_eq_false (fun z => z h)] at k
    exact k
  · refine px_P.sn 2 (f1 := (15, [(0, .int x)], [.int 1])) (S1 := S) rfl ?_
    refine px_P.ret rfl ?_
    rw [show fm_unL x = true from decide_eq_true h] at k
    exact k
theorem pm_withoutNil {d : Nat} {x : Int32} {S : px_S} {Q : Option Value → px_S → Prop} (hd : 1 ≤ d) (k : Q (some (.int (x &&& (-9)))) S) : px_M d px_m_Forms_withoutNil [.int x] S Q := by
  refine px_M.go hd (Nat.le_of_ble_eq_true rfl) ?_
  refine px_P.sn 3 (f1 := (4, [(0, .int x)], [.int (x &&& (-9))])) (S1 := S) rfl ?_
  refine px_P.ret rfl ?_
  exact k
def fm_na (x y : Int32) : Int32 := if x &&& ((1 <<< (y &&& 31)) ||| 16) = 0 then 0 else 1 <<< (y &&& 31)
theorem pm_narrowed {d : Nat} {x y : Int32} {S : px_S} {Q : Option Value → px_S → Prop} (hd : 1 ≤ d) (k : Q (some (.int (fm_na x y))) S) : px_M d px_m_Forms_narrowed [.int x, .int y] S Q := by
  refine px_M.go hd (Nat.le_of_ble_eq_true rfl) ?_
  refine px_P.sn 9 (f1 := (10, [(0, .int x), (1, .int y), (2, .int (1 <<< (y &&& 31)))], [.int (x &&& ((1 <<< (y &&& 31)) ||| 16))])) (S1 := S) rfl ?_
  refine px_P.if_eq rfl rfl (fun h => ?_) (fun h => ?_)
  · refine px_P.sn 1 (f1 := (18, [(0, .int x), (1, .int y), (2, .int (1 <<< (y &&& 31)))], [.int 0])) (S1 := S) rfl ?_
    refine px_P.ret rfl ?_
    rw [show fm_na x y = _ from if_pos h] at k
    exact k
  · refine px_P.sn 2 (f1 := (18, [(0, .int x), (1, .int y), (2, .int (1 <<< (y &&& 31)))], [.int (1 <<< (y &&& 31))])) (S1 := S) rfl ?_
    refine px_P.ret rfl ?_
    rw [show fm_na x y = _ from if_neg h] at k
    exact k
def fm_fl (x y : Int32) : Bool := decide (¬ x &&& 2 = 0) && decide (¬ y &&& 3 = 0)
theorem pm_makesFloat {d : Nat} {x y : Int32} {S : px_S} {Q : Option Value → px_S → Prop} (hd : 1 ≤ d) (k : Q (some (.int (bif fm_fl x y then 1 else 0))) S) : px_M d px_m_Forms_makesFloat [.int x, .int y] S Q := by
  refine px_M.go hd (Nat.le_of_ble_eq_true rfl) ?_
  refine px_P.sn 3 (f1 := (3, [(0, .int x), (1, .int y)], [.int (x &&& 2)])) (S1 := S) rfl ?_
  refine px_P.if_eq rfl rfl (fun h => ?_) (fun h => ?_)
  · refine px_P.sn 1 (f1 := (17, [(0, .int x), (1, .int y)], [.int 0])) (S1 := S) rfl ?_
    refine px_P.ret rfl ?_
    rw [show fm_fl x y = false from by simp [fm_fl, h]] at k
    exact k
  · refine px_P.sn 3 (f1 := (9, [(0, .int x), (1, .int y)], [.int (y &&& 3)])) (S1 := S) rfl ?_
    refine px_P.if_eq rfl rfl (fun h2 => ?_) (fun h2 => ?_)
    · refine px_P.sn 1 (f1 := (17, [(0, .int x), (1, .int y)], [.int 0])) (S1 := S) rfl ?_
      refine px_P.ret rfl ?_
      rw [show fm_fl x y = false from by simp [fm_fl, h2]] at k
      exact k
    · refine px_P.sn 2 (f1 := (17, [(0, .int x), (1, .int y)], [.int 1])) (S1 := S) rfl ?_
      refine px_P.ret rfl ?_
      rw [show fm_fl x y = true from by simp [fm_fl, h, h2]] at k
      exact k
/-- one turn of the sum's loop -/
def fm_s1 (l r : Int32) (t : Int32) (z : Int32) : Int32 := if l &&& fm_lv t = 0 then z else if r &&& fm_lv t = 0 then z else z ||| ((l ||| r) &&& fm_lv t)
def fm_s0 (l r : Int32) : Int32 := bif fm_fl l r || fm_fl r l then (((l ||| r) &&& 16) ||| ((l &&& r) &&& 5)) ||| 2 else (((l ||| r) &&& 16) ||| ((l &&& r) &&& 5))
def fm_sum (l r : Int32) : Int32 := if l = 0 then 0 else if r = 0 then 0 else fm_s1 l r 3 (fm_s1 l r 2 (fm_s1 l r 1 (fm_s0 l r)))
set_option maxHeartbeats 2000000 in
theorem pm_sum {d : Nat} {x y : Int32} {S : px_S} {Q : Option Value → px_S → Prop} (hd : 2 ≤ d) (k : Q (some (.int (fm_sum x y))) S) : px_M d px_m_Forms_sum [.int x, .int y] S Q := by
  have turn : ∀ (z t : Int32), t ≤ 3 → px_P (d - 1) px_m_Forms_sum (48, [(0, .int x), (1, .int y), (2, .int (x ||| y)), (3, .int (fm_s1 x y t z)), (4, .int (t + 1)), (5, .int (fm_lv t))], []) S Q →
      ∀ o : List (Nat × Value), (o = [] ∨ ∃ q, o = [(5, .int q)]) → px_P (d - 1) px_m_Forms_sum (48, [(0, .int x), (1, .int y), (2, .int (x ||| y)), (3, .int z), (4, .int t)] ++ o, []) S Q := by
    intro z t ht hk o ho
    have go : px_P (d - 1) px_m_Forms_sum (54, [(0, .int x), (1, .int y), (2, .int (x ||| y)), (3, .int z), (4, .int t)] ++ o, []) S Q := by
      have go2 : px_P (d - 1) px_m_Forms_sum (61, [(0, .int x), (1, .int y), (2, .int (x ||| y)), (3, .int z), (4, .int t), (5, .int (fm_lv t))], []) S Q := by
        refine px_P.sn 3 (f1 := (65, [(0, .int x), (1, .int y), (2, .int (x ||| y)), (3, .int z), (4, .int t), (5, .int (fm_lv t))], [.int (x &&& (fm_lv t))])) (S1 := S) rfl ?_
        refine px_P.if_eq rfl rfl (fun h1 => ?_) (fun h1 => ?_)
        · refine px_P.sn 2 (f1 := (48, [(0, .int x), (1, .int y), (2, .int (x ||| y)), (3, .int z), (4, .int (t + 1)), (5, .int (fm_lv t))], [])) (S1 := S) rfl ?_
          rw [show fm_s1 x y t z = z from if_pos h1] at hk
          exact hk
        · refine px_P.sn 3 (f1 := (72, [(0, .int x), (1, .int y), (2, .int (x ||| y)), (3, .int z), (4, .int t), (5, .int (fm_lv t))], [.int (y &&& (fm_lv t))])) (S1 := S) rfl ?_
          refine px_P.if_eq rfl rfl (fun h2 => ?_) (fun h2 => ?_)
          · refine px_P.sn 2 (f1 := (48, [(0, .int x), (1, .int y), (2, .int (x ||| y)), (3, .int z), (4, .int (t + 1)), (5, .int (fm_lv t))], [])) (S1 := S) rfl ?_
            rw [show fm_s1 x y t z = z from by simp only [fm_s1, h1, h2, if_false, if_true]] at hk
            exact hk
          · refine px_P.sn 8 (f1 := (48, [(0, .int x), (1, .int y), (2, .int (x ||| y)), (3, .int (z ||| ((x ||| y) &&& (fm_lv t)))), (4, .int (t + 1)), (5, .int (fm_lv t))], [])) (S1 := S) rfl ?_
            rw [show fm_s1 x y t z = z ||| ((x ||| y) &&& fm_lv t) from by simp only [fm_s1, h1, h2, if_false]] at hk
            exact hk
      rcases ho with rfl | ⟨q, rfl⟩
      · refine px_P.sn 1 (f1 := (56, [(0, .int x), (1, .int y), (2, .int (x ||| y)), (3, .int z), (4, .int t)], [.int t])) (S1 := S) rfl ?_
        refine px_P.call rfl ?_
        show px_M _ px_m_Forms_inLists [.int t] S _
        refine pm_inLists (by omega) ?_
        show px_P _ _ (59, [(0, .int x), (1, .int y), (2, .int (x ||| y)), (3, .int z), (4, .int t)], [.int (fm_lv t)]) S _
        refine px_P.sn 1 (f1 := (61, [(0, .int x), (1, .int y), (2, .int (x ||| y)), (3, .int z), (4, .int t), (5, .int (fm_lv t))], [])) (S1 := S) rfl ?_
        exact go2
      · refine px_P.sn 1 (f1 := (56, [(0, .int x), (1, .int y), (2, .int (x ||| y)), (3, .int z), (4, .int t), (5, .int q)], [.int t])) (S1 := S) rfl ?_
        refine px_P.call rfl ?_
        show px_M _ px_m_Forms_inLists [.int t] S _
        refine pm_inLists (by omega) ?_
        show px_P _ _ (59, [(0, .int x), (1, .int y), (2, .int (x ||| y)), (3, .int z), (4, .int t), (5, .int q)], [.int (fm_lv t)]) S _
        refine px_P.sn 1 (f1 := (61, [(0, .int x), (1, .int y), (2, .int (x ||| y)), (3, .int z), (4, .int t), (5, .int (fm_lv t))], [])) (S1 := S) rfl ?_
        exact go2
    rcases ho with rfl | ⟨q, rfl⟩
    · refine px_P.sn 2 (f1 := (51, [(0, .int x), (1, .int y), (2, .int (x ||| y)), (3, .int z), (4, .int t)], [.int 3, .int t])) (S1 := S) rfl ?_
      refine px_P.ic_gt rfl rfl (fun h => absurd h (Int32.not_lt.mpr ht)) (fun _ => ?_)
      exact go
    · refine px_P.sn 2 (f1 := (51, [(0, .int x), (1, .int y), (2, .int (x ||| y)), (3, .int z), (4, .int t), (5, .int q)], [.int 3, .int t])) (S1 := S) rfl ?_
      refine px_P.ic_gt rfl rfl (fun h => absurd h (Int32.not_lt.mpr ht)) (fun _ => ?_)
      exact go
  refine px_M.go (by omega) (Nat.le_of_ble_eq_true rfl) ?_
  refine px_P.sn 1 (f1 := (1, [(0, .int x), (1, .int y)], [.int x])) (S1 := S) rfl ?_
  refine px_P.if_eq rfl rfl (fun h1 => ?_) (fun h1 => ?_)
  · refine px_P.sn 1 (f1 := (9, [(0, .int x), (1, .int y)], [.int 0])) (S1 := S) rfl ?_
    refine px_P.ret rfl ?_
    rw [show fm_sum x y = 0 from by simp only [fm_sum, h1, if_true]] at k
    exact k
  · refine px_P.sn 1 (f1 := (5, [(0, .int x), (1, .int y)], [.int y])) (S1 := S) rfl ?_
    have rest : ¬ y = 0 → px_P (d - 1) px_m_Forms_sum (10, [(0, .int x), (1, .int y)], []) S Q := by
      intro h2
      rw [show fm_sum x y = fm_s1 x y 3 (fm_s1 x y 2 (fm_s1 x y 1 (fm_s0 x y))) from by simp only [fm_sum, h1, h2, if_false]] at k
      have tl : px_P (d - 1) px_m_Forms_sum (45, [(0, .int x), (1, .int y), (2, .int (x ||| y)), (3, .int (fm_s0 x y))], []) S Q := by
        refine px_P.sn 2 (f1 := (48, [(0, .int x), (1, .int y), (2, .int (x ||| y)), (3, .int (fm_s0 x y)), (4, .int 1)], [])) (S1 := S) rfl ?_
        refine turn (fm_s0 x y) 1 (by decide) ?_ [] (Or.inl rfl)
        refine turn _ 2 (by decide) ?_ _ (Or.inr ⟨_, rfl⟩)
        refine turn _ 3 (by decide) ?_ _ (Or.inr ⟨_, rfl⟩)
        refine px_P.sn 2 (f1 := (51, [(0, .int x), (1, .int y), (2, .int (x ||| y)), (3, .int (fm_s1 x y 3 (fm_s1 x y 2 (fm_s1 x y 1 (fm_s0 x y))))), (4, .int 4), (5, .int (fm_lv 3))], [.int 3, .int 4])) (S1 := S) rfl ?_
        refine px_P.ic_gt rfl rfl (fun _ => ?_) (fun h => absurd ((by decide)) h)
        refine px_P.sn 1 (f1 := (89, [(0, .int x), (1, .int y), (2, .int (x ||| y)), (3, .int (fm_s1 x y 3 (fm_s1 x y 2 (fm_s1 x y 1 (fm_s0 x y))))), (4, .int 4), (5, .int (fm_lv 3))], [.int (fm_s1 x y 3 (fm_s1 x y 2 (fm_s1 x y 1 (fm_s0 x y))))])) (S1 := S) rfl ?_
        refine px_P.ret rfl ?_
        exact k
      refine px_P.sn 16 (f1 := (27, [(0, .int x), (1, .int y), (2, .int (x ||| y)), (3, .int (((x ||| y) &&& 16) ||| ((x &&& y) &&& 5)))], [.int y, .int x])) (S1 := S) rfl ?_
      refine px_P.call rfl ?_
      show px_M _ px_m_Forms_makesFloat [.int x, .int y] S _
      refine pm_makesFloat (by omega) ?_
      cases hf : fm_fl x y with
      | true =>
        show px_P _ _ (30, [(0, .int x), (1, .int y), (2, .int (x ||| y)), (3, .int (((x ||| y) &&& 16) ||| ((x &&& y) &&& 5)))], [.int 1]) S _
        refine px_P.if_ne rfl rfl (fun _ => ?_) (fun h => absurd h ((by decide)))
        refine px_P.sn 4 (f1 := (45, [(0, .int x), (1, .int y), (2, .int (x ||| y)), (3, .int ((((x ||| y) &&& 16) ||| ((x &&& y) &&& 5)) ||| 2))], [])) (S1 := S) rfl ?_
        rw [show fm_s0 x y = _ from by simp only [fm_s0, hf, Bool.true_or, cond_true]; rfl] at tl
        exact tl
      | false =>
        show px_P _ _ (30, [(0, .int x), (1, .int y), (2, .int (x ||| y)), (3, .int (((x ||| y) &&& 16) ||| ((x &&& y) &&& 5)))], [.int 0]) S _
        refine px_P.if_ne rfl rfl (fun h => absurd (rfl) h) (fun _ => ?_)
        refine px_P.sn 2 (f1 := (35, [(0, .int x), (1, .int y), (2, .int (x ||| y)), (3, .int (((x ||| y) &&& 16) ||| ((x &&& y) &&& 5)))], [.int x, .int y])) (S1 := S) rfl ?_
        refine px_P.call rfl ?_
        show px_M _ px_m_Forms_makesFloat [.int y, .int x] S _
        refine pm_makesFloat (by omega) ?_
        cases hg : fm_fl y x with
        | true =>
          show px_P _ _ (38, [(0, .int x), (1, .int y), (2, .int (x ||| y)), (3, .int (((x ||| y) &&& 16) ||| ((x &&& y) &&& 5)))], [.int 1]) S _
          refine px_P.if_eq rfl rfl (fun h => absurd h ((by decide))) (fun _ => ?_)
          refine px_P.sn 4 (f1 := (45, [(0, .int x), (1, .int y), (2, .int (x ||| y)), (3, .int ((((x ||| y) &&& 16) ||| ((x &&& y) &&& 5)) ||| 2))], [])) (S1 := S) rfl ?_
          rw [show fm_s0 x y = _ from by simp only [fm_s0, hf, hg, Bool.or_true, cond_true]; rfl] at tl
          exact tl
        | false =>
          show px_P _ _ (38, [(0, .int x), (1, .int y), (2, .int (x ||| y)), (3, .int (((x ||| y) &&& 16) ||| ((x &&& y) &&& 5)))], [.int 0]) S _
          refine px_P.if_eq rfl rfl (fun _ => ?_) (fun h => absurd (rfl) h)
          rw [show fm_s0 x y = _ from by simp only [fm_s0, hf, hg, Bool.or_false, cond_false]; rfl] at tl
          exact tl
    refine px_P.if_ne rfl rfl (fun h2 => ?_) (fun h2 => ?_)
    · exact rest h2
    · refine px_P.sn 1 (f1 := (9, [(0, .int x), (1, .int y)], [.int 0])) (S1 := S) rfl ?_
      refine px_P.ret rfl ?_
      rw [show fm_sum x y = 0 from by simp only [fm_sum, h1, h2, if_false, if_true]] at k
      exact k
