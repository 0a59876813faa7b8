/-! ===== rows for a part of a run; the roads to what the class throws ===== -/
theorem px_T.gf {d mi pc : Nat} {ls : px_L} {S : px_S} {Q : px_F → px_S → Prop} {ix a ci k : Nat} {r fs : List Value} {v : Value} (hat : px_at mi pc = some (.getfield ix)) (hf : px_fl (px_cn mi) ix = some (ci, k)) (hw : S.1 a = some (.inr (ci, fs))) (hv : fs[k]? = some v) (kk : px_T d mi (pc + 3, ls, v :: r) S Q) : px_T d mi (pc, ls, .ref a :: r) S Q := by
  refine px_T.step ?_ kk
  simp only [px_step, hat, px_do, px_get, hf, hw, hv, Nat.beq_refl, cond_true]
theorem px_T.if_eq {d mi pc : Nat} {ls : px_L} {S : px_S} {Q : px_F → px_S → Prop} {off : Int} {t : Nat} {x : Int32} {r : List Value} (hat : px_at mi pc = some (.ifCond .eq off)) (hj : px_jmp pc off = some t) (kt : x = 0 → px_T d mi (t, ls, r) S Q) (kf : ¬ x = 0 → px_T d mi (pc + 3, ls, r) S Q) : px_T d mi (pc, ls, .int x :: r) S Q := by
  by_cases h : x = 0
  · refine px_T.step ?_ (kt h)
    simp only [px_step, hat, px_do, px_if0, hj, px_c0, h, decide_true, cond_true]
  · refine px_T.step ?_ (kf h)
    simp only [px_step, hat, px_do, px_if0, hj, px_c0, h, decide_false, cond_false]
theorem px_T.if_ne {d mi pc : Nat} {ls : px_L} {S : px_S} {Q : px_F → px_S → Prop} {off : Int} {t : Nat} {x : Int32} {r : List Value} (hat : px_at mi pc = some (.ifCond .ne off)) (hj : px_jmp pc off = some t) (kt : ¬ x = 0 → px_T d mi (t, ls, r) S Q) (kf : x = 0 → px_T d mi (pc + 3, ls, r) S Q) : px_T d mi (pc, ls, .int x :: r) S Q := by
  by_cases h : ¬ x = 0
  · refine px_T.step ?_ (kt h)
    simp only [px_step, hat, px_do, px_if0, hj, px_c0, h, not_false_eq_true, decide_true, cond_true]
  · refine px_T.step ?_ (kf (Classical.not_not.mp h))
    simp only [px_step, hat, px_do, px_if0, hj, px_c0, h, decide_false, cond_false]
theorem px_T.if_lt {d mi pc : Nat} {ls : px_L} {S : px_S} {Q : px_F → px_S → Prop} {off : Int} {t : Nat} {x : Int32} {r : List Value} (hat : px_at mi pc = some (.ifCond .lt off)) (hj : px_jmp pc off = some t) (kt : x < 0 → px_T d mi (t, ls, r) S Q) (kf : ¬ x < 0 → px_T d mi (pc + 3, ls, r) S Q) : px_T d mi (pc, ls, .int x :: r) S Q := by
  by_cases h : x < 0
  · refine px_T.step ?_ (kt h)
    simp only [px_step, hat, px_do, px_if0, hj, px_c0, h, decide_true, cond_true]
  · refine px_T.step ?_ (kf h)
    simp only [px_step, hat, px_do, px_if0, hj, px_c0, h, decide_false, cond_false]
theorem px_T.if_ge {d mi pc : Nat} {ls : px_L} {S : px_S} {Q : px_F → px_S → Prop} {off : Int} {t : Nat} {x : Int32} {r : List Value} (hat : px_at mi pc = some (.ifCond .ge off)) (hj : px_jmp pc off = some t) (kt : 0 ≤ x → px_T d mi (t, ls, r) S Q) (kf : ¬ 0 ≤ x → px_T d mi (pc + 3, ls, r) S Q) : px_T d mi (pc, ls, .int x :: r) S Q := by
  by_cases h : 0 ≤ x
  · refine px_T.step ?_ (kt h)
    simp only [px_step, hat, px_do, px_if0, hj, px_c0, h, decide_true, cond_true]
  · refine px_T.step ?_ (kf h)
    simp only [px_step, hat, px_do, px_if0, hj, px_c0, h, decide_false, cond_false]
theorem px_T.ic_le {d mi pc : Nat} {ls : px_L} {S : px_S} {Q : px_F → px_S → Prop} {off : Int} {t : Nat} {x y : Int32} {r : List Value} (hat : px_at mi pc = some (.if_icmp .le off)) (hj : px_jmp pc off = some t) (kt : x ≤ y → px_T d mi (t, ls, r) S Q) (kf : ¬ x ≤ y → px_T d mi (pc + 3, ls, r) S Q) : px_T d mi (pc, ls, .int y :: .int x :: r) S Q := by
  by_cases h : x ≤ y
  · refine px_T.step ?_ (kt h)
    simp only [px_step, hat, px_do, px_if2, hj, px_c2, h, decide_true, cond_true]
  · refine px_T.step ?_ (kf h)
    simp only [px_step, hat, px_do, px_if2, hj, px_c2, h, decide_false, cond_false]
theorem px_T.ic_lt {d mi pc : Nat} {ls : px_L} {S : px_S} {Q : px_F → px_S → Prop} {off : Int} {t : Nat} {x y : Int32} {r : List Value} (hat : px_at mi pc = some (.if_icmp .lt off)) (hj : px_jmp pc off = some t) (kt : x < y → px_T d mi (t, ls, r) S Q) (kf : ¬ x < y → px_T d mi (pc + 3, ls, r) S Q) : px_T d mi (pc, ls, .int y :: .int x :: r) S Q := by
  by_cases h : x < y
  · refine px_T.step ?_ (kt h)
    simp only [px_step, hat, px_do, px_if2, hj, px_c2, h, decide_true, cond_true]
  · refine px_T.step ?_ (kf h)
    simp only [px_step, hat, px_do, px_if2, hj, px_c2, h, decide_false, cond_false]
theorem px_T.ic_ge {d mi pc : Nat} {ls : px_L} {S : px_S} {Q : px_F → px_S → Prop} {off : Int} {t : Nat} {x y : Int32} {r : List Value} (hat : px_at mi pc = some (.if_icmp .ge off)) (hj : px_jmp pc off = some t) (kt : y ≤ x → px_T d mi (t, ls, r) S Q) (kf : ¬ y ≤ x → px_T d mi (pc + 3, ls, r) S Q) : px_T d mi (pc, ls, .int y :: .int x :: r) S Q := by
  by_cases h : y ≤ x
  · refine px_T.step ?_ (kt h)
    simp only [px_step, hat, px_do, px_if2, hj, px_c2, h, decide_true, cond_true]
  · refine px_T.step ?_ (kf h)
    simp only [px_step, hat, px_do, px_if2, hj, px_c2, h, decide_false, cond_false]
theorem px_T.ic_ne {d mi pc : Nat} {ls : px_L} {S : px_S} {Q : px_F → px_S → Prop} {off : Int} {t : Nat} {x y : Int32} {r : List Value} (hat : px_at mi pc = some (.if_icmp .ne off)) (hj : px_jmp pc off = some t) (kt : ¬ x = y → px_T d mi (t, ls, r) S Q) (kf : x = y → px_T d mi (pc + 3, ls, r) S Q) : px_T d mi (pc, ls, .int y :: .int x :: r) S Q := by
  by_cases h : ¬ x = y
  · refine px_T.step ?_ (kt h)
    simp only [px_step, hat, px_do, px_if2, hj, px_c2, h, not_false_eq_true, decide_true, cond_true]
  · refine px_T.step ?_ (kf (Classical.not_not.mp h))
    simp only [px_step, hat, px_do, px_if2, hj, px_c2, h, decide_false, cond_false]
theorem px_T.cv {d mi pc : Nat} {ls : px_L} {S : px_S} {Q : px_F → px_S → Prop} {ix mj n b ci : Nat} {st r fs : List Value} (hat : px_at mi pc = some (.invokevirtual ix)) (hca : px_ca (px_cn mi) ix = some (1, mj, n)) (hdr : st.drop n = .ref b :: r) (hw : S.1 b = some (.inr (ci, fs)))
    (hc : (Nat.beq ci (px_yc mj) && (Nat.ble n st.length && Nat.ble ((r.map fun v => v.category).sum) 8)) = true) (kk : px_M d mj (.ref b :: (st.take n).reverse) S (fun v S1 => px_T d mi (pc + 3, ls, v.toList ++ r) S1 Q)) : px_T d mi (pc, ls, st) S Q := by
  refine px_T.call (mj := mj) (As := .ref b :: (st.take n).reverse) (r := r) ?_ kk
  simp only [px_call, hat, px_cv, hca, hdr, hw, hc, cond_true]
theorem px_T.sn {d mi : Nat} {Q : px_F → px_S → Prop} : ∀ (n : Nat) {f f1 : px_F} {S S1 : px_S}, px_sn mi n f S = some (f1, S1) → px_T d mi f1 S1 Q → px_T d mi f S Q
  | 0, f, f1, S, S1, h, k => by cases h; exact k
  | n + 1, f, f1, S, S1, h, k => by
    unfold px_sn at h
    split at h
    · rename_i q hq
      exact px_T.step hq (px_T.sn n h k)
    · cases h
def plB (v w : Int32) : Bool := (decide (0 ≤ v) && decide (v ≤ 7)) && (decide (0 ≤ w) && decide (w ≤ 11))
theorem i32_le {v : Int32} {n : Nat} (hn : n < 1000) : nI (n + 1) ≤ v ↔ ¬ v ≤ nI n := by
  have h1 : (nI (n + 1)).toInt = ((n + 1 : Nat) : Int) := nI_toInt (by omega)
  have h2 : (nI n).toInt = (n : Int) := nI_toInt (by omega)
  rw [Int32.le_iff_toInt_le, Int32.le_iff_toInt_le, h1, h2]
  omega
theorem pm_dmPlaceB {d : Nat} {v w : Int32} {S : px_S} {Q : Option Value → px_S → Prop} (hd : 1 ≤ d) (k : Q (some (.int (bif plB v w then 1 else 0))) S) : px_M d px_m_Daemon_isPlace [.int v, .int w] S Q := by
  have no : plB v w = false → px_P (d - 1) px_m_Daemon_isPlace (24, [(0, .int v), (1, .int w)], []) S Q := by
    intro e
    rw [e] at k
    refine px_P.sn 1 (f1 := (25, [(0, .int v), (1, .int w)], [.int 0])) (S1 := S) rfl ?_
    refine px_P.ret rfl ?_
    exact k
  unfold plB at no k
  refine px_M.go (by omega) (Nat.le_of_ble_eq_true rfl) ?_
  refine px_P.sn 1 (f1 := (1, [(0, .int v), (1, .int w)], [.int v])) (S1 := S) rfl ?_
  refine px_P.if_lt rfl rfl (fun h1 => ?_) (fun h1 => ?_)
  · exact no (by rw [decide_eq_false (Int32.not_le.mpr h1)]; rfl)
  · refine px_P.sn 2 (f1 := (7, [(0, .int v), (1, .int w)], [.int 8, .int v])) (S1 := S) rfl ?_
    refine px_P.ic_ge rfl rfl (fun h2 => ?_) (fun h2 => ?_)
    · exact no (by rw [show decide (v ≤ 7) = false from decide_eq_false ((i32_le (n := 7) (by omega)).mp h2), Bool.and_false]; rfl)
    · refine px_P.sn 1 (f1 := (11, [(0, .int v), (1, .int w)], [.int w])) (S1 := S) rfl ?_
      refine px_P.if_lt rfl rfl (fun h3 => ?_) (fun h3 => ?_)
      · exact no (by rw [decide_eq_false (Int32.not_le.mpr h3), Bool.false_and, Bool.and_false])
      · refine px_P.sn 2 (f1 := (17, [(0, .int v), (1, .int w)], [.int 12, .int w])) (S1 := S) rfl ?_
        refine px_P.ic_ge rfl rfl (fun h4 => ?_) (fun h4 => ?_)
        · exact no (by rw [show decide (w ≤ 11) = false from decide_eq_false ((i32_le (n := 11) (by omega)).mp h4), Bool.and_false, Bool.and_false])
        · rw [decide_eq_true (Int32.not_lt.mp h1), decide_eq_true (Int32.not_lt.mp h3), show decide (v ≤ 7) = true from decide_eq_true (Classical.not_not.mp (fun z => h2 ((i32_le (n := 7) (by omega)).mpr z))), show decide (w ≤ 11) = true from decide_eq_true (Classical.not_not.mp (fun z => h4 ((i32_le (n := 11) (by omega)).mpr z)))] at k
          refine px_P.sn 2 (f1 := (25, [(0, .int v), (1, .int w)], [.int 1])) (S1 := S) rfl ?_
          refine px_P.ret rfl ?_
          exact k
/-- the world is as it was, and an exception is to be made at pc -/
def toX (pc : Nat) (S : px_S) : px_F → px_S → Prop := fun f S' => S' = S ∧ f.1 = pc ∧ f.2.2 = []
theorem pt_put {d x : Nat} {v w : Int32} {S : px_S} (hd : 1 ≤ d) (hb : plB v w = false) : px_T d px_m_Daemon_put (0, [(0, .ref x), (1, .int v), (2, .int w)], []) S (toX 8 S) := by
  refine px_T.sn 2 (f1 := (2, [(0, .ref x), (1, .int v), (2, .int w)], [.int w, .int v])) (S1 := S) rfl ?_
  refine px_T.call rfl ?_
  show px_M _ px_m_Daemon_isPlace [.int v, .int w] S _
  refine pm_dmPlaceB hd ?_
  rw [hb]
  show px_T _ _ (5, [(0, .ref x), (1, .int v), (2, .int w)], [.int 0]) S _
  show px_T _ _ (5, [(0, .ref x), (1, .int v), (2, .int w)], [.int 0]) S _
  refine px_T.if_ne rfl rfl (fun h => absurd ((by decide)) h) (fun _ => ?_)
  exact px_T.fin ⟨rfl, rfl, rfl⟩
theorem pt_drop {d x : Nat} {v : Int32} {S : px_S} (hb : (decide (0 ≤ v) && decide (v ≤ 7)) = false) : px_T d px_m_Daemon_drop (0, [(0, .ref x), (1, .int v)], []) S (toX 10 S) := by
  refine px_T.sn 1 (f1 := (1, [(0, .ref x), (1, .int v)], [.int v])) (S1 := S) rfl ?_
  refine px_T.if_lt rfl rfl (fun h1 => ?_) (fun h1 => ?_)
  · exact px_T.fin ⟨rfl, rfl, rfl⟩
  · refine px_T.sn 2 (f1 := (7, [(0, .ref x), (1, .int v)], [.int 8, .int v])) (S1 := S) rfl ?_
    refine px_T.ic_lt rfl rfl (fun h2 => ?_) (fun h2 => ?_)
    · rw [decide_eq_true (Int32.not_lt.mp h1), Bool.true_and] at hb
      exact absurd (Int32.not_le.mpr h2) (fun z => z ((i32_le (n := 7) (by omega)).mpr (of_decide_eq_false hb)))
    · exact px_T.fin ⟨rfl, rfl, rfl⟩
theorem pt_symbol {d x : Nat} {a b c : Int32} {S : px_S} (hb : ((decide (0 ≤ a) && decide (a ≤ 7)) && ((decide (0 ≤ b) && decide (b ≤ 25)) && (decide (0 ≤ c) && decide (c ≤ 3)))) = false) : px_T d px_m_Daemon_symbol (0, [(0, .ref x), (1, .int a), (2, .int b), (3, .int c)], []) S (toX 29 S) := by
  refine px_T.sn 1 (f1 := (1, [(0, .ref x), (1, .int a), (2, .int b), (3, .int c)], [.int a])) (S1 := S) rfl ?_
  refine px_T.if_lt rfl rfl (fun h1 => ?_) (fun h1 => ?_)
  · exact px_T.fin ⟨rfl, rfl, rfl⟩
  · refine px_T.sn 2 (f1 := (7, [(0, .ref x), (1, .int a), (2, .int b), (3, .int c)], [.int 8, .int a])) (S1 := S) rfl ?_
    refine px_T.ic_ge rfl rfl (fun h2 => ?_) (fun h2 => ?_)
    · exact px_T.fin ⟨rfl, rfl, rfl⟩
    · refine px_T.sn 1 (f1 := (11, [(0, .ref x), (1, .int a), (2, .int b), (3, .int c)], [.int b])) (S1 := S) rfl ?_
      refine px_T.if_lt rfl rfl (fun h3 => ?_) (fun h3 => ?_)
      · exact px_T.fin ⟨rfl, rfl, rfl⟩
      · refine px_T.sn 2 (f1 := (17, [(0, .ref x), (1, .int a), (2, .int b), (3, .int c)], [.int 26, .int b])) (S1 := S) rfl ?_
        refine px_T.ic_ge rfl rfl (fun h4 => ?_) (fun h4 => ?_)
        · exact px_T.fin ⟨rfl, rfl, rfl⟩
        · refine px_T.sn 1 (f1 := (21, [(0, .ref x), (1, .int a), (2, .int b), (3, .int c)], [.int c])) (S1 := S) rfl ?_
          refine px_T.if_lt rfl rfl (fun h5 => ?_) (fun h5 => ?_)
          · exact px_T.fin ⟨rfl, rfl, rfl⟩
          · refine px_T.sn 2 (f1 := (26, [(0, .ref x), (1, .int a), (2, .int b), (3, .int c)], [.int 3, .int c])) (S1 := S) rfl ?_
            refine px_T.ic_le rfl rfl (fun h6 => ?_) (fun h6 => ?_)
            · exfalso
              rw [decide_eq_true (Int32.not_lt.mp h1), decide_eq_true (Int32.not_lt.mp h3), decide_eq_true (Int32.not_lt.mp h5), show decide (a ≤ 7) = true from decide_eq_true (Classical.not_not.mp (fun z => h2 ((i32_le (n := 7) (by omega)).mpr z))), show decide (b ≤ 25) = true from decide_eq_true (Classical.not_not.mp (fun z => h4 ((i32_le (n := 25) (by omega)).mpr z))), decide_eq_true h6] at hb
              cases hb
            · exact px_T.fin ⟨rfl, rfl, rfl⟩
theorem pt_line {d x : Nat} {a b c : Int32} {S : px_S} (hd : 1 ≤ d) (hb : ((decide (0 ≤ a) && decide (a ≤ 7)) && ((decide (0 ≤ b) && decide (b ≤ 11)) && (decide (0 ≤ c) && decide (c ≤ 4)))) = false) : px_T d px_m_Daemon_line (0, [(0, .ref x), (1, .int a), (2, .int b), (3, .int c)], []) S (toX 17 S) := by
  refine px_T.sn 2 (f1 := (2, [(0, .ref x), (1, .int a), (2, .int b), (3, .int c)], [.int b, .int a])) (S1 := S) rfl ?_
  refine px_T.call rfl ?_
  show px_M _ px_m_Daemon_isPlace [.int a, .int b] S _
  refine pm_dmPlaceB hd ?_
  rw [← Bool.and_assoc] at hb
  change (plB a b && _) = false at hb
  cases hp : plB a b with
  | false =>
    show px_T _ _ (5, [(0, .ref x), (1, .int a), (2, .int b), (3, .int c)], [.int 0]) S _
    show px_T _ _ (5, [(0, .ref x), (1, .int a), (2, .int b), (3, .int c)], [.int 0]) S _
    refine px_T.if_eq rfl rfl (fun _ => ?_) (fun h => absurd ((by decide)) h)
    exact px_T.fin ⟨rfl, rfl, rfl⟩
  | true =>
    rw [hp, Bool.true_and] at hb
    show px_T _ _ (5, [(0, .ref x), (1, .int a), (2, .int b), (3, .int c)], [.int 1]) S _
    show px_T _ _ (5, [(0, .ref x), (1, .int a), (2, .int b), (3, .int c)], [.int 1]) S _
    refine px_T.if_eq rfl rfl (fun h => absurd h ((by decide))) (fun _ => ?_)
    refine px_T.sn 1 (f1 := (9, [(0, .ref x), (1, .int a), (2, .int b), (3, .int c)], [.int c])) (S1 := S) rfl ?_
    refine px_T.if_lt rfl rfl (fun h1 => ?_) (fun h1 => ?_)
    · exact px_T.fin ⟨rfl, rfl, rfl⟩
    · refine px_T.sn 2 (f1 := (14, [(0, .ref x), (1, .int a), (2, .int b), (3, .int c)], [.int 4, .int c])) (S1 := S) rfl ?_
      refine px_T.ic_le rfl rfl (fun h2 => ?_) (fun h2 => ?_)
      · rw [decide_eq_true (Int32.not_lt.mp h1), decide_eq_true h2] at hb
        cases hb
      · exact px_T.fin ⟨rfl, rfl, rfl⟩
theorem pt_diag {d x : Nat} {a c : Int32} {S : px_S} (hb : (decide (0 ≤ c) && decide (c ≤ 3)) = false) : px_T d px_m_Daemon_diagnostic (0, [(0, .ref x), (1, .int a), (2, .int c)], []) S (toX 9 S) := by
  refine px_T.sn 1 (f1 := (1, [(0, .ref x), (1, .int a), (2, .int c)], [.int c])) (S1 := S) rfl ?_
  refine px_T.if_lt rfl rfl (fun h1 => ?_) (fun h1 => ?_)
  · exact px_T.fin ⟨rfl, rfl, rfl⟩
  · refine px_T.sn 2 (f1 := (6, [(0, .ref x), (1, .int a), (2, .int c)], [.int 3, .int c])) (S1 := S) rfl ?_
    refine px_T.ic_le rfl rfl (fun h2 => ?_) (fun h2 => ?_)
    · rw [decide_eq_true (Int32.not_lt.mp h1), decide_eq_true h2] at hb
      cases hb
    · exact px_T.fin ⟨rfl, rfl, rfl⟩
theorem pt_count {d x : Nat} {c : Int32} {S : px_S} (hb : (decide (0 ≤ c) && decide (c ≤ 5)) = false) : px_T d px_m_Daemon_count (0, [(0, .ref x), (1, .int c)], []) S (toX 9 S) := by
  refine px_T.sn 1 (f1 := (1, [(0, .ref x), (1, .int c)], [.int c])) (S1 := S) rfl ?_
  refine px_T.if_lt rfl rfl (fun h1 => ?_) (fun h1 => ?_)
  · exact px_T.fin ⟨rfl, rfl, rfl⟩
  · refine px_T.sn 2 (f1 := (6, [(0, .ref x), (1, .int c)], [.int 5, .int c])) (S1 := S) rfl ?_
    refine px_T.ic_le rfl rfl (fun h2 => ?_) (fun h2 => ?_)
    · rw [decide_eq_true (Int32.not_lt.mp h1), decide_eq_true h2] at hb
      cases hb
    · exact px_T.fin ⟨rfl, rfl, rfl⟩
