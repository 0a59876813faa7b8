/-! ===== what a sum loses; Expression ===== -/
def fm_z1 (b t : Int32) (z : Bool) : Bool := z || decide (b &&& (fm_lv t ^^^ (-1)) = 0)
def fm_sumL (l r : Int32) : Bool := if l &&& (-17) = 0 then false else if r &&& (-17) = 0 then false else
  !(fm_z1 ((l &&& (-17)) ||| (r &&& (-17))) 3 (fm_z1 ((l &&& (-17)) ||| (r &&& (-17))) 2 (fm_z1 ((l &&& (-17)) ||| (r &&& (-17))) 1 (decide (((l &&& (-17)) ||| (r &&& (-17))) &&& (-4) = 0) || decide (((l &&& (-17)) ||| (r &&& (-17))) = 4)))))
set_option maxHeartbeats 2000000 in
theorem pm_summingLoses {d : Nat} {x y : Int32} {S : px_S} {Q : Option Value → px_S → Prop} (hd : 2 ≤ d) (k : Q (some (.int (bif fm_sumL x y then 1 else 0))) S) : px_M d px_m_Forms_summingLoses [.int x, .int y] S Q := by
  obtain ⟨u, hu⟩ : ∃ u, u = x &&& (-17) := ⟨_, rfl⟩
  obtain ⟨v, hv⟩ : ∃ v, v = y &&& (-17) := ⟨_, rfl⟩
  obtain ⟨b, hb⟩ : ∃ b, b = u ||| v := ⟨_, rfl⟩
  have turn : ∀ (z : Bool) (t : Int32), t ≤ 3 → px_P (d - 1) px_m_Forms_summingLoses (49, [(0, .int x), (1, .int y), (2, .int u), (3, .int v), (4, .int b), (5, .int (bif fm_z1 b t z then 1 else 0)), (6, .int (t + 1))], []) S Q →
      px_P (d - 1) px_m_Forms_summingLoses (49, [(0, .int x), (1, .int y), (2, .int u), (3, .int v), (4, .int b), (5, .int (bif z then 1 else 0)), (6, .int t)], []) S Q := by
    intro z t ht hk
    cases z with
    | true =>
      show px_P _ _ (49, [(0, .int x), (1, .int y), (2, .int u), (3, .int v), (4, .int b), (5, .int 1), (6, .int t)], []) S _
      refine px_P.sn 2 (f1 := (52, [(0, .int x), (1, .int y), (2, .int u), (3, .int v), (4, .int b), (5, .int 1), (6, .int t)], [.int 3, .int t])) (S1 := S) rfl ?_
      refine px_P.ic_gt rfl rfl (fun h => absurd h (Int32.not_lt.mpr ht)) (fun _ => ?_)
      refine px_P.sn 1 (f1 := (57, [(0, .int x), (1, .int y), (2, .int u), (3, .int v), (4, .int b), (5, .int 1), (6, .int t)], [.int 1])) (S1 := S) rfl ?_
      refine px_P.if_ne rfl rfl (fun _ => ?_) (fun h => absurd h ((by decide)))
      refine px_P.sn 5 (f1 := (49, [(0, .int x), (1, .int y), (2, .int u), (3, .int v), (4, .int b), (5, .int 1), (6, .int (t + 1))], [])) (S1 := S) rfl ?_
      exact hk
    | false =>
      show px_P _ _ (49, [(0, .int x), (1, .int y), (2, .int u), (3, .int v), (4, .int b), (5, .int 0), (6, .int t)], []) S _
      refine px_P.sn 2 (f1 := (52, [(0, .int x), (1, .int y), (2, .int u), (3, .int v), (4, .int b), (5, .int 0), (6, .int t)], [.int 3, .int t])) (S1 := S) rfl ?_
      refine px_P.ic_gt rfl rfl (fun h => absurd h (Int32.not_lt.mpr ht)) (fun _ => ?_)
      refine px_P.sn 1 (f1 := (57, [(0, .int x), (1, .int y), (2, .int u), (3, .int v), (4, .int b), (5, .int 0), (6, .int t)], [.int 0])) (S1 := S) rfl ?_
      refine px_P.if_ne rfl rfl (fun h => absurd (rfl) h) (fun _ => ?_)
      refine px_P.sn 2 (f1 := (64, [(0, .int x), (1, .int y), (2, .int u), (3, .int v), (4, .int b), (5, .int 0), (6, .int t)], [.int t, .int b])) (S1 := S) rfl ?_
      refine px_P.call rfl ?_
      show px_M _ px_m_Forms_inLists [.int t] S _
      refine pm_inLists (by omega) ?_
      show px_P _ _ (67, [(0, .int x), (1, .int y), (2, .int u), (3, .int v), (4, .int b), (5, .int 0), (6, .int t)], [.int (fm_lv t), .int b]) S _
      refine px_P.sn 3 (f1 := (70, [(0, .int x), (1, .int y), (2, .int u), (3, .int v), (4, .int b), (5, .int 0), (6, .int t)], [.int (b &&& ((fm_lv t) ^^^ (-1)))])) (S1 := S) rfl ?_
      refine px_P.if_ne rfl rfl (fun h => ?_) (fun h => ?_)
      · refine px_P.sn 4 (f1 := (49, [(0, .int x), (1, .int y), (2, .int u), (3, .int v), (4, .int b), (5, .int 0), (6, .int (t + 1))], [])) (S1 := S) rfl ?_
        rw [show fm_z1 b t false = false from by simp only [fm_z1, Bool.false_or]; exact decide_eq_false h] at hk
        exact hk
      · refine px_P.sn 5 (f1 := (49, [(0, .int x), (1, .int y), (2, .int u), (3, .int v), (4, .int b), (5, .int 1), (6, .int (t + 1))], [])) (S1 := S) rfl ?_
        rw [show fm_z1 b t false = true from by simp only [fm_z1, Bool.false_or]; exact decide_eq_true h] at hk
        exact hk
  refine px_M.go (by omega) (Nat.le_of_ble_eq_true rfl) ?_
  refine px_P.sn 9 (f1 := (11, [(0, .int x), (1, .int y), (2, .int (x &&& (-17))), (3, .int (y &&& (-17)))], [.int (x &&& (-17))])) (S1 := S) rfl ?_
  rw [← hu, ← hv]
  show px_P _ _ (11, [(0, .int x), (1, .int y), (2, .int u), (3, .int v)], [.int u]) S _
  have rest : ¬ u = 0 → ¬ v = 0 → px_P (d - 1) px_m_Forms_summingLoses (20, [(0, .int x), (1, .int y), (2, .int u), (3, .int v)], []) S Q := by
    intro h1 h2
    rw [show fm_sumL x y = !(fm_z1 b 3 (fm_z1 b 2 (fm_z1 b 1 (decide (b &&& (-4) = 0) || decide (b = 4))))) from by
      unfold fm_sumL
      rw [← hu, ← hv, ← hb]
      simp only [h1, h2, if_false]] at k
    have tl : px_P (d - 1) px_m_Forms_summingLoses (46, [(0, .int x), (1, .int y), (2, .int u), (3, .int v), (4, .int b), (5, .int (bif (decide (b &&& (-4) = 0) || decide (b = 4)) then 1 else 0))], []) S Q := by
      refine px_P.sn 2 (f1 := (49, [(0, .int x), (1, .int y), (2, .int u), (3, .int v), (4, .int b), (5, .int (bif (decide (b &&& (-4) = 0) || decide (b = 4)) then 1 else 0)), (6, .int 1)], [])) (S1 := S) rfl ?_
      refine turn _ 1 (by decide) ?_
      refine turn _ 2 (by decide) ?_
      refine turn _ 3 (by decide) ?_
      generalize fm_z1 b 3 (fm_z1 b 2 (fm_z1 b 1 (decide (b &&& (-4) = 0) || decide (b = 4)))) = w at k ⊢
      cases w with
      | true =>
        show px_P _ _ (49, [(0, .int x), (1, .int y), (2, .int u), (3, .int v), (4, .int b), (5, .int 1), (6, .int 4)], []) S _
        refine px_P.sn 2 (f1 := (52, [(0, .int x), (1, .int y), (2, .int u), (3, .int v), (4, .int b), (5, .int 1), (6, .int 4)], [.int 3, .int 4])) (S1 := S) rfl ?_
        refine px_P.ic_gt rfl rfl (fun _ => ?_) (fun h => absurd ((by decide)) h)
        refine px_P.sn 1 (f1 := (88, [(0, .int x), (1, .int y), (2, .int u), (3, .int v), (4, .int b), (5, .int 1), (6, .int 4)], [.int 1])) (S1 := S) rfl ?_
        refine px_P.if_ne rfl rfl (fun _ => ?_) (fun h => absurd h ((by decide)))
        refine px_P.sn 1 (f1 := (96, [(0, .int x), (1, .int y), (2, .int u), (3, .int v), (4, .int b), (5, .int 1), (6, .int 4)], [.int 0])) (S1 := S) rfl ?_
        refine px_P.ret rfl ?_
        exact k
      | false =>
        show px_P _ _ (49, [(0, .int x), (1, .int y), (2, .int u), (3, .int v), (4, .int b), (5, .int 0), (6, .int 4)], []) S _
        refine px_P.sn 2 (f1 := (52, [(0, .int x), (1, .int y), (2, .int u), (3, .int v), (4, .int b), (5, .int 0), (6, .int 4)], [.int 3, .int 4])) (S1 := S) rfl ?_
        refine px_P.ic_gt rfl rfl (fun _ => ?_) (fun h => absurd ((by decide)) h)
        refine px_P.sn 1 (f1 := (88, [(0, .int x), (1, .int y), (2, .int u), (3, .int v), (4, .int b), (5, .int 0), (6, .int 4)], [.int 0])) (S1 := S) rfl ?_
        refine px_P.if_ne rfl rfl (fun h => absurd (rfl) h) (fun _ => ?_)
        refine px_P.sn 2 (f1 := (96, [(0, .int x), (1, .int y), (2, .int u), (3, .int v), (4, .int b), (5, .int 0), (6, .int 4)], [.int 1])) (S1 := S) rfl ?_
        refine px_P.ret rfl ?_
        exact k
    refine px_P.sn 4 (f1 := (25, [(0, .int x), (1, .int y), (2, .int u), (3, .int v), (4, .int (u ||| v))], [])) (S1 := S) rfl ?_
    rw [← hb]
    show px_P _ _ (25, [(0, .int x), (1, .int y), (2, .int u), (3, .int v), (4, .int b)], []) S _
    refine px_P.sn 3 (f1 := (30, [(0, .int x), (1, .int y), (2, .int u), (3, .int v), (4, .int b)], [.int (b &&& (-4))])) (S1 := S) rfl ?_
    refine px_P.if_eq rfl rfl (fun h3 => ?_) (fun h3 => ?_)
    · refine px_P.sn 3 (f1 := (46, [(0, .int x), (1, .int y), (2, .int u), (3, .int v), (4, .int b), (5, .int 1)], [])) (S1 := S) rfl ?_
      rw [h3] at tl
      exact tl
    · refine px_P.sn 2 (f1 := (36, [(0, .int x), (1, .int y), (2, .int u), (3, .int v), (4, .int b)], [.int 4, .int b])) (S1 := S) rfl ?_
      refine px_P.ic_ne rfl rfl (fun h4 => ?_) (fun h4 => ?_)
      · refine px_P.sn 2 (f1 := (46, [(0, .int x), (1, .int y), (2, .int u), (3, .int v), (4, .int b), (5, .int 0)], [])) (S1 := S) rfl ?_
        rw [show (decide (b &&& (-4) = 0) || decide (b = 4)) = false from by simp [h3, h4]] at tl
        exact tl
      · refine px_P.sn 3 (f1 := (46, [(0, .int x), (1, .int y), (2, .int u), (3, .int v), (4, .int b), (5, .int 1)], [])) (S1 := S) rfl ?_
        rw [show (decide (b &&& (-4) = 0) || decide (b = 4)) = true from by simp [h4]] at tl
        exact tl
  refine px_P.if_eq rfl rfl (fun h1 => ?_) (fun h1 => ?_)
  · refine px_P.sn 1 (f1 := (19, [(0, .int x), (1, .int y), (2, .int u), (3, .int v)], [.int 0])) (S1 := S) rfl ?_
    refine px_P.ret rfl ?_
    rw [show fm_sumL x y = false from by unfold fm_sumL; rw [← hu]; simp only [h1, if_true]] at k
    exact k
  · refine px_P.sn 1 (f1 := (15, [(0, .int x), (1, .int y), (2, .int u), (3, .int v)], [.int v])) (S1 := S) rfl ?_
    refine px_P.if_ne rfl rfl (fun h2 => ?_) (fun h2 => ?_)
    · exact rest h1 h2
    · refine px_P.sn 1 (f1 := (19, [(0, .int x), (1, .int y), (2, .int u), (3, .int v)], [.int 0])) (S1 := S) rfl ?_
      refine px_P.ret rfl ?_
      rw [show fm_sumL x y = false from by unfold fm_sumL; rw [← hu, ← hv]; simp only [h1, h2, if_false, if_true]] at k
      exact k
/-- an expression's cells: itself, what it reads, kinds, firsts, seconds, places, values -/
def xe_at (S : px_S) (e M n : Nat) (W : Nat → Int64) (K F C P V : Nat → Int32) : Prop :=
  S.1 e = some (.inr (1, [.ref (e + 3), .ref (e + 4), .ref (e + 5), .ref (e + 6), .ref (e + 7), .int (nI n), .ref (e + 1)])) ∧ S.1 (e + 1) = some (.inr (6, [.ref (e + 2)])) ∧ S.1 (e + 2) = some (.inl (1, 4, .inr (.inl W))) ∧
  S.1 (e + 3) = some (.inl (0, M, .inl K)) ∧ S.1 (e + 4) = some (.inl (0, M, .inl F)) ∧ S.1 (e + 5) = some (.inl (0, M, .inl C)) ∧ S.1 (e + 6) = some (.inl (0, M, .inl P)) ∧ S.1 (e + 7) = some (.inl (0, M, .inl V))
theorem pm_ssInit {d a : Nat} {S : px_S} {Q : Option Value → px_S → Prop} (hd : 1 ≤ d) (ha : S.1 a = some (.inr (6, [.null]))) (haS : a < S.2.1)
    (k : ∀ S', S'.1 a = some (.inr (6, [.ref S.2.1])) → S'.1 S.2.1 = some (.inl (1, 4, .inr (.inl (fun _ => 0)))) → (∀ b, b ≠ a → b ≠ S.2.1 → S'.1 b = S.1 b) → S'.2 = (S.2.1 + 1, S.2.2 + 4) → Q none S') :
    px_M d px_m_SymbolSet_init [.ref a] S Q := by
  refine px_M.go hd (Nat.le_of_ble_eq_true rfl) ?_
  refine px_P.sn 4 (f1 := (6, [(0, .ref a)], [.int 4, .ref a])) (S1 := S) rfl ?_
  refine px_P.newL rfl (by decide) (fun S1 u1 => ?_)
  have ha1 := u1.n ha (by omega)
  refine px_P.pf rfl rfl (by assumption) rfl (fun S2 u2 => ?_)
  refine px_P.ret rfl ?_
  have hne : S.2.1 ≠ a := by omega
  refine k S2 ?_ ?_ ?_ ?_
  · exact u2.s
  · rw [u2.o hne]; exact u1.s
  · intro b hb hb2; rw [u2.o hb, u1.o hb2]
  · rw [u2.t]; exact u1.t
set_option maxHeartbeats 2000000 in
theorem pm_exprInit {d e M : Nat} {S : px_S} {Q : Option Value → px_S → Prop} (hd : 2 ≤ d) (hM : M ≤ 1000) (he : S.1 e = some (.inr (1, [.null, .null, .null, .null, .null, .int 0, .null]))) (heS : S.2.1 = e + 1)
    (k : ∀ S', xe_at S' e M 0 (fun _ => 0) (fun _ => 0) (fun _ => 0) (fun _ => 0) (fun _ => 0) (fun _ => 0) → (∀ b, b < e → S'.1 b = S.1 b) → S'.2 = (e + 8, S.2.2 + (5 + 5 * M)) → Q none S') :
    px_M d px_m_Expression_init [.ref e, .int (nI M)] S Q := by
  have hdec : decide (nI M < 0 ∨ 67108864 < (nI M).toNatClampNeg) = false := decide_eq_false (fun h => h.elim (nI_pos (by omega)) (by rw [nI_clamp (by omega)]; omega))
  refine px_M.go (by omega) (Nat.le_of_ble_eq_true rfl) ?_
  refine px_P.sn 4 (f1 := (6, [(0, .ref e), (1, .int (nI M))], [.int 0, .ref e])) (S1 := S) rfl ?_
  refine px_P.pf rfl rfl (by assumption) rfl (fun S1 u1 => ?_)
  have he1 := u1.s
  have t1 : S1.2 = S.2 := u1.t
  refine px_P.sn 1 (f1 := (10, [(0, .ref e), (1, .int (nI M))], [.ref e])) (S1 := S1) rfl ?_
  refine px_P.nw rfl rfl (fun S2 u2 => ?_)
  have t2 : S2.2 = (e + 2, S.2.2 + 1) := by rw [u2.t, t1, heS]; rfl
  have he2 := u2.n he1 (by rw [t1]; omega)
  have hr2 : S2.1 (e + 1) = some (.inr (6, [.null])) := by have h := u2.s; rw [t1, heS] at h; exact h
  rw [show S1.2.1 = e + 1 from by rw [t1, heS]]
  show px_P _ _ (13, [(0, .ref e), (1, .int (nI M))], [.ref (e + 1), .ref e]) S2 _
  refine px_P.sn 1 (f1 := (14, [(0, .ref e), (1, .int (nI M))], [.ref (e + 1), .ref (e + 1), .ref e])) (S1 := S2) rfl ?_
  refine px_P.call rfl ?_
  show px_M _ px_m_SymbolSet_init [.ref (e + 1)] S2 _
  refine pm_ssInit (by omega) hr2 (by rw [t2]; exact Nat.lt_succ_self _) (fun S3 r1 r2 r3 r4 => ?_)
  have t3 : S3.2 = (e + 3, S.2.2 + 5) := by rw [r4, t2]
  rw [show S2.2.1 = e + 2 from by rw [t2]] at r1 r2 r3
  have he3 : S3.1 e = _ := (r3 e (by omega) (by omega)).trans he2
  show px_P _ _ (17, [(0, .ref e), (1, .int (nI M))], [.ref (e + 1), .ref e]) S3 _
  refine px_P.pf rfl rfl (by assumption) rfl (fun S4 u4 => ?_)
  have he4 := u4.s
  have t4 : S4.2 = S3.2 := u4.t
  refine px_P.sn 1 (f1 := (21, [(0, .ref e), (1, .int (nI M))], [.int (nI M)])) (S1 := S4) rfl ?_
  refine px_P.if_ge rfl rfl (fun _ => ?_) (fun h => absurd (nI_pos' (by omega)) h)
  refine px_P.sn 4 (f1 := (32, [(0, .ref e), (1, .int (nI M)), (2, .int (nI M))], [.int (nI M), .ref e])) (S1 := S4) rfl ?_
  refine px_P.newI rfl hdec (fun S5 u5 => ?_)
  rw [nI_clamp (by omega)] at u5
  have t5 : S5.2 = (e + 4, S.2.2 + 5 + M) := by rw [u5.t, t4, t3]
  have q5 : S5.1 (e + 3) = some (.inl (0, M, .inl (fun _ => 0))) := by have h := u5.s; rw [t4, t3] at h; exact h
  rw [show S4.2.1 = e + 3 from by rw [t4, t3]]
  show px_P _ _ (34, [(0, .ref e), (1, .int (nI M)), (2, .int (nI M))], [.ref (e + 3), .ref e]) S5 _
  have he5 := u5.n he4 (by rw [t4, t3]; show e ≠ e + 3; omega)
  refine px_P.pf rfl rfl (by assumption) rfl (fun S6 u6 => ?_)
  have he6 := u6.s
  have t6 : S6.2 = S5.2 := u6.t
  refine px_P.sn 2 (f1 := (39, [(0, .ref e), (1, .int (nI M)), (2, .int (nI M))], [.int (nI M), .ref e])) (S1 := S6) rfl ?_
  refine px_P.newI rfl hdec (fun S7 u7 => ?_)
  rw [nI_clamp (by omega)] at u7
  have t7 : S7.2 = (e + 5, S.2.2 + 5 + M + M) := by rw [u7.t, t6, t5]
  have q7 : S7.1 (e + 4) = some (.inl (0, M, .inl (fun _ => 0))) := by have h := u7.s; rw [t6, t5] at h; exact h
  rw [show S6.2.1 = e + 4 from by rw [t6, t5]]
  show px_P _ _ (41, [(0, .ref e), (1, .int (nI M)), (2, .int (nI M))], [.ref (e + 4), .ref e]) S7 _
  have he7 := u7.n he6 (by rw [t6, t5]; show e ≠ e + 4; omega)
  refine px_P.pf rfl rfl (by assumption) rfl (fun S8 u8 => ?_)
  have he8 := u8.s
  have t8 : S8.2 = S7.2 := u8.t
  refine px_P.sn 2 (f1 := (46, [(0, .ref e), (1, .int (nI M)), (2, .int (nI M))], [.int (nI M), .ref e])) (S1 := S8) rfl ?_
  refine px_P.newI rfl hdec (fun S9 u9 => ?_)
  rw [nI_clamp (by omega)] at u9
  have t9 : S9.2 = (e + 6, S.2.2 + 5 + M + M + M) := by rw [u9.t, t8, t7]
  have q9 : S9.1 (e + 5) = some (.inl (0, M, .inl (fun _ => 0))) := by have h := u9.s; rw [t8, t7] at h; exact h
  rw [show S8.2.1 = e + 5 from by rw [t8, t7]]
  show px_P _ _ (48, [(0, .ref e), (1, .int (nI M)), (2, .int (nI M))], [.ref (e + 5), .ref e]) S9 _
  have he9 := u9.n he8 (by rw [t8, t7]; show e ≠ e + 5; omega)
  refine px_P.pf rfl rfl (by assumption) rfl (fun Sa ua => ?_)
  have hea := ua.s
  have ta : Sa.2 = S9.2 := ua.t
  refine px_P.sn 2 (f1 := (53, [(0, .ref e), (1, .int (nI M)), (2, .int (nI M))], [.int (nI M), .ref e])) (S1 := Sa) rfl ?_
  refine px_P.newI rfl hdec (fun Sb ub => ?_)
  rw [nI_clamp (by omega)] at ub
  have tb : Sb.2 = (e + 7, S.2.2 + 5 + M + M + M + M) := by rw [ub.t, ta, t9]
  have qb : Sb.1 (e + 6) = some (.inl (0, M, .inl (fun _ => 0))) := by have h := ub.s; rw [ta, t9] at h; exact h
  rw [show Sa.2.1 = e + 6 from by rw [ta, t9]]
  show px_P _ _ (55, [(0, .ref e), (1, .int (nI M)), (2, .int (nI M))], [.ref (e + 6), .ref e]) Sb _
  have heb := ub.n hea (by rw [ta, t9]; show e ≠ e + 6; omega)
  refine px_P.pf rfl rfl (by assumption) rfl (fun Sc uc => ?_)
  have hec := uc.s
  have tc : Sc.2 = Sb.2 := uc.t
  refine px_P.sn 2 (f1 := (60, [(0, .ref e), (1, .int (nI M)), (2, .int (nI M))], [.int (nI M), .ref e])) (S1 := Sc) rfl ?_
  refine px_P.newI rfl hdec (fun Sd ud => ?_)
  rw [nI_clamp (by omega)] at ud
  have td : Sd.2 = (e + 8, S.2.2 + 5 + M + M + M + M + M) := by rw [ud.t, tc, tb]
  have qd : Sd.1 (e + 7) = some (.inl (0, M, .inl (fun _ => 0))) := by have h := ud.s; rw [tc, tb] at h; exact h
  rw [show Sc.2.1 = e + 7 from by rw [tc, tb]]
  show px_P _ _ (62, [(0, .ref e), (1, .int (nI M)), (2, .int (nI M))], [.ref (e + 7), .ref e]) Sd _
  have hed := ud.n hec (by rw [tc, tb]; show e ≠ e + 7; omega)
  refine px_P.pf rfl rfl (by assumption) rfl (fun Se ue => ?_)
  refine px_P.ret rfl ?_
  have z5 : S4.2.1 = e + 3 := by rw [t4, t3]
  have z7 : S6.2.1 = e + 4 := by rw [t6, t5]
  have z9 : S8.2.1 = e + 5 := by rw [t8, t7]
  have zb : Sa.2.1 = e + 6 := by rw [ta, t9]
  have zd : Sc.2.1 = e + 7 := by rw [tc, tb]
  refine k Se ⟨ue.s, ?_, ?_, ?_, ?_, ?_, ?_, ?_⟩ ?_ ?_
  · rw [ue.o (by omega), ud.o (by omega), uc.o (by omega), ub.o (by omega), ua.o (by omega), u9.o (by omega), u8.o (by omega), u7.o (by omega), u6.o (by omega), u5.o (by omega), u4.o (by omega)]; exact r1
  · rw [ue.o (by omega), ud.o (by omega), uc.o (by omega), ub.o (by omega), ua.o (by omega), u9.o (by omega), u8.o (by omega), u7.o (by omega), u6.o (by omega), u5.o (by omega), u4.o (by omega)]; exact r2
  · rw [ue.o (by omega), ud.o (by omega), uc.o (by omega), ub.o (by omega), ua.o (by omega), u9.o (by omega), u8.o (by omega), u7.o (by omega), u6.o (by omega)]; exact q5
  · rw [ue.o (by omega), ud.o (by omega), uc.o (by omega), ub.o (by omega), ua.o (by omega), u9.o (by omega), u8.o (by omega)]; exact q7
  · rw [ue.o (by omega), ud.o (by omega), uc.o (by omega), ub.o (by omega), ua.o (by omega)]; exact q9
  · rw [ue.o (by omega), ud.o (by omega), uc.o (by omega)]; exact qb
  · rw [ue.o (by omega)]; exact qd
  · intro b hb
    have h2 : b ≠ S1.2.1 := by rw [t1, heS]; omega
    rw [ue.o (by omega), ud.o (by omega), uc.o (by omega), ub.o (by omega), ua.o (by omega), u9.o (by omega), u8.o (by omega), u7.o (by omega), u6.o (by omega), u5.o (by omega), u4.o (by omega), r3 b (by omega) (by omega), u2.o h2, u1.o (by omega)]
  · rw [ue.t, td]
    exact Prod.ext rfl (by show S.2.2 + 5 + M + M + M + M + M = S.2.2 + (5 + 5 * M); omega)
