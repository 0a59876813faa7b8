/-! ===== the model's calls: type, erase, put, undo ===== -/
/-- what it says to have thrown -/
def mf (S : px_S) (m : Nat) (v : Int32) : Prop := ∃ q, S.1 m = some (.inr (10, mo_ob m q)) ∧ q 0 = v
/-- only q changes, where mI does not look -/
theorem mI.q {S' : px_S} {m : Nat} {ty : List Nat} {tt : Nat → List Nat} {hh : List (Nat × List Nat)} {q q' : Nat → Int32} {A A' : Nat → Nat → Int32} (h : (q 1 = nI ty.length ∧ tyo ty ∧ tya (A 1) ty) ∧ ttO tt ∧ mtx A tt ∧ ml A (sL tt) ∧ mgr q A (sL tt) ∧ (q 3 = nI hh.length ∧ mhh A hh) ∧ (q 4 = 0 ∨ (q 4 = 1 ∧ knw A (sL tt)))) (ha : mo_at S' m q' A') (e1 : q' 1 = q 1) (e2 : q' 2 = q 2) (e3 : q' 3 = q 3) (e4 : q' 4 = q 4) (eA : ∀ i, i ≠ 1 → A' i = A i) (e1A : tya (A' 1) ty) : mI S' m ty tt hh := by
  obtain ⟨⟨a1, a2, a3⟩, b, c, d, e, ⟨f1, f2⟩, g⟩ := h
  refine ⟨q', A', ha, ⟨by rw [e1]; exact a1, a2, e1A⟩, b, ?_, d.cg (fun i i1 i2 => eA i (by omega)), e.q e2 (fun i i1 i2 => eA i (by omega)), ⟨by rw [e3]; exact f1, ?_⟩, ?_⟩
  · unfold mtx
    rw [eA 2 (by decide), eA 3 (by decide)]
    exact c
  · unfold mhh
    rw [eA 18 (by decide), eA 19 (by decide), eA 20 (by decide)]
    exact f2
  · rw [e4]
    unfold knw
    rw [eA 21 (by decide)]
    exact g
theorem pm_moType {d m : Nat} {ty : List Nat} {tt : Nat → List Nat} {hh : List (Nat × List Nat)} {a b c e f : Int32} {S : px_S} {Q : Option Value → px_S → Prop} (hd : 2 ≤ d) (h : mI S m ty tt hh)
    (k0 : (ty ++ typ a b c e f).length ≤ 60 → ∀ S', mI S' m (ty ++ typ a b c e f) tt hh → mf S' m 0 → mF S S' m → Q (some (.int (nI (ty ++ typ a b c e f).length))) S')
    (k1 : ¬ (ty ++ typ a b c e f).length ≤ 60 → ∀ S', mI S' m ty tt hh → mf S' m 1 → mF S S' m → Q (some (.int 0)) S') : px_M d px_m_Model_type [.ref m, .int a, .int b, .int c, .int e, .int f] S Q := by
  obtain ⟨q, A, h0, hr⟩ := h
  obtain ⟨⟨q1, t1, t2⟩, r2⟩ := hr
  have hl := t1.1
  have la := ch4_len a
  have lb := ch4_len b
  have lc := ch4_len c
  have le := ch4_len e
  have lf := ch4_len f
  have c0 : S.1 m = some (.inr (10, mo_ob m (upd q 1 (nI ty.length)))) := by rw [upd_self q1]; exact h0.1
  refine px_M.go (by omega) (Nat.le_of_ble_eq_true rfl) ?_
  refine px_P.sn 3 (f1 := (3, [(0, .ref m), (1, .int a), (2, .int b), (3, .int c), (4, .int e), (5, .int f)], [.ref m, .int a, .ref m])) (S1 := S) rfl ?_
  refine px_P.gf rfl rfl (by assumption) (v := .int (nI ty.length)) rfl ?_
  refine px_P.cv rfl rfl rfl (by assumption) rfl ?_
  show px_M _ px_m_Model_feed [.ref m, .int a, .int (nI ty.length)] S _
  refine pm_moFeed (l := ty) (by omega) h0 rfl (by omega) (fun j hj _ => t2 j hj) (fun S1 A1 g1 e1 f1 m1 => ?_)
  have n1 := List.length_append (as := ty) (bs := ch4 a)
  generalize e1l : ty ++ ch4 a = l1 at f1 n1 ⊢
  have c1 := g1.1
  show px_P _ _ (9, [(0, .ref m), (1, .int a), (2, .int b), (3, .int c), (4, .int e), (5, .int f)], [.int (nI l1.length)]) S1 _
  refine px_P.sn 4 (f1 := (15, [(0, .ref m), (1, .int a), (2, .int b), (3, .int c), (4, .int e), (5, .int f), (6, .int (nI l1.length))], [.int (nI l1.length), .int b, .ref m])) (S1 := S1) rfl ?_
  refine px_P.cv rfl rfl rfl (by assumption) rfl ?_
  show px_M _ px_m_Model_feed [.ref m, .int b, .int (nI l1.length)] S1 _
  refine pm_moFeed (l := l1) (by omega) g1 rfl (by omega) f1 (fun S2 A2 g2 e2 f2 m2 => ?_)
  have n2 := List.length_append (as := l1) (bs := ch4 b)
  generalize e2l : l1 ++ ch4 b = l2 at f2 n2 ⊢
  have c2 := g2.1
  show px_P _ _ (18, [(0, .ref m), (1, .int a), (2, .int b), (3, .int c), (4, .int e), (5, .int f), (6, .int (nI l1.length))], [.int (nI l2.length)]) S2 _
  refine px_P.sn 4 (f1 := (24, [(0, .ref m), (1, .int a), (2, .int b), (3, .int c), (4, .int e), (5, .int f), (6, .int (nI l2.length))], [.int (nI l2.length), .int c, .ref m])) (S1 := S2) rfl ?_
  refine px_P.cv rfl rfl rfl (by assumption) rfl ?_
  show px_M _ px_m_Model_feed [.ref m, .int c, .int (nI l2.length)] S2 _
  refine pm_moFeed (l := l2) (by omega) g2 rfl (by omega) f2 (fun S3 A3 g3 e3 f3 m3 => ?_)
  have n3 := List.length_append (as := l2) (bs := ch4 c)
  generalize e3l : l2 ++ ch4 c = l3 at f3 n3 ⊢
  have c3 := g3.1
  show px_P _ _ (27, [(0, .ref m), (1, .int a), (2, .int b), (3, .int c), (4, .int e), (5, .int f), (6, .int (nI l2.length))], [.int (nI l3.length)]) S3 _
  refine px_P.sn 4 (f1 := (34, [(0, .ref m), (1, .int a), (2, .int b), (3, .int c), (4, .int e), (5, .int f), (6, .int (nI l3.length))], [.int (nI l3.length), .int e, .ref m])) (S1 := S3) rfl ?_
  refine px_P.cv rfl rfl rfl (by assumption) rfl ?_
  show px_M _ px_m_Model_feed [.ref m, .int e, .int (nI l3.length)] S3 _
  refine pm_moFeed (l := l3) (by omega) g3 rfl (by omega) f3 (fun S4 A4 g4 e4 f4 m4 => ?_)
  have n4 := List.length_append (as := l3) (bs := ch4 e)
  generalize e4l : l3 ++ ch4 e = l4 at f4 n4 ⊢
  have c4 := g4.1
  show px_P _ _ (37, [(0, .ref m), (1, .int a), (2, .int b), (3, .int c), (4, .int e), (5, .int f), (6, .int (nI l3.length))], [.int (nI l4.length)]) S4 _
  refine px_P.sn 4 (f1 := (44, [(0, .ref m), (1, .int a), (2, .int b), (3, .int c), (4, .int e), (5, .int f), (6, .int (nI l4.length))], [.int (nI l4.length), .int f, .ref m])) (S1 := S4) rfl ?_
  refine px_P.cv rfl rfl rfl (by assumption) rfl ?_
  show px_M _ px_m_Model_feed [.ref m, .int f, .int (nI l4.length)] S4 _
  refine pm_moFeed (l := l4) (by omega) g4 rfl (by omega) f4 (fun S5 A5 g5 e5 f5 m5 => ?_)
  have n5 := List.length_append (as := l4) (bs := ch4 f)
  have hall : ty ++ typ a b c e f = l4 ++ ch4 f := by
    rw [← e4l, ← e3l, ← e2l, ← e1l]
    unfold typ
    simp only [List.append_assoc]
  rw [hall] at k0 k1
  have pre : ∀ j, j < ty.length → tf (l4 ++ ch4 f) j = tf ty j := fun j hj => by rw [← hall]; exact tf_app hj
  have hok : ∀ x, x ∈ l4 ++ ch4 f → 1 ≤ x ∧ x ≤ 255 := by
    rw [← hall]
    unfold typ
    intro x hx
    simp only [List.mem_append] at hx
    rcases hx with z | z | z | z | z | z
    · exact t1.2 x z
    · exact ch4_ok _ x z
    · exact ch4_ok _ x z
    · exact ch4_ok _ x z
    · exact ch4_ok _ x z
    · exact ch4_ok _ x z
  generalize l4 ++ ch4 f = l5 at f5 n5 k0 k1 pre hok ⊢
  have eA : ∀ i, i ≠ 1 → A5 i = A i := fun i hi => by rw [e5 i hi, e4 i hi, e3 i hi, e2 i hi, e1 i hi]
  have mm := ((m1.tr m2).tr (m3.tr m4)).tr m5
  have c5 := g5.1
  show px_P _ _ (47, [(0, .ref m), (1, .int a), (2, .int b), (3, .int c), (4, .int e), (5, .int f), (6, .int (nI l4.length))], [.int (nI l5.length)]) S5 _
  refine px_P.sn 4 (f1 := (54, [(0, .ref m), (1, .int a), (2, .int b), (3, .int c), (4, .int e), (5, .int f), (6, .int (nI l5.length))], [.int 60, .int (nI l5.length), .ref m])) (S1 := S5) rfl ?_
  by_cases h60 : l5.length ≤ 60
  · refine px_P.ic_le rfl rfl (fun _ => ?_) (fun h => absurd (nI_le (b := 60) h60 (by decide)) h)
    refine px_P.sn 1 (f1 := (62, [(0, .ref m), (1, .int a), (2, .int b), (3, .int c), (4, .int e), (5, .int f), (6, .int (nI l5.length))], [.int 0, .ref m])) (S1 := S5) rfl ?_
    refine px_P.cv rfl rfl rfl (by assumption) rfl ?_
    show px_M _ px_m_Model_refused [.ref m, .int 0] S5 _
    refine pm_moRefused (b := false) (by omega) g5 (fun S6 g6 m6 => ?_)
    have c6 := g6.1
    show px_P _ _ (65, [(0, .ref m), (1, .int a), (2, .int b), (3, .int c), (4, .int e), (5, .int f), (6, .int (nI l5.length))], [.int 0]) S6 _
    show px_P _ _ (65, [(0, .ref m), (1, .int a), (2, .int b), (3, .int c), (4, .int e), (5, .int f), (6, .int (nI l5.length))], [.int 0]) S6 _
    refine px_P.if_eq rfl rfl (fun _ => ?_) (fun h => absurd ((by decide)) h)
    refine px_P.sn 2 (f1 := (73, [(0, .ref m), (1, .int a), (2, .int b), (3, .int c), (4, .int e), (5, .int f), (6, .int (nI l5.length))], [.int (nI l5.length), .ref m])) (S1 := S6) rfl ?_
    refine px_P.pf rfl rfl (by assumption) rfl (fun S7 u7 => ?_)
    have g7 : mo_at S7 m (upd (upd q 0 0) 1 (nI l5.length)) A5 := g6.ob u7
    refine px_P.sn 1 (f1 := (78, [(0, .ref m), (1, .int a), (2, .int b), (3, .int c), (4, .int e), (5, .int f), (6, .int (nI l5.length))], [.int (nI l5.length)])) (S1 := S7) rfl ?_
    refine px_P.ret rfl ?_
    refine k0 h60 S7 ?_ ⟨_, g7.1, rfl⟩ ((mm.tr m6).tr (mF.u (Nat.le_refl _) (by omega) u7))
    obtain ⟨b2, b3, b4, b5, ⟨b6, b7⟩, b8⟩ := r2
    refine ⟨_, A5, g7, ⟨rfl, ⟨h60, hok⟩, fun j hj => f5 j hj (by omega)⟩, b2, ?_, b4.cg (fun i i1 i2 => eA i (by omega)), b5.q rfl (fun i i1 i2 => eA i (by omega)), ⟨b6, ?_⟩, ?_⟩
    · unfold mtx
      rw [eA 2 (by decide), eA 3 (by decide)]
      exact b3
    · unfold mhh
      rw [eA 18 (by decide), eA 19 (by decide), eA 20 (by decide)]
      exact b7
    · unfold knw
      rw [eA 21 (by decide)]
      exact b8
  · refine px_P.ic_le rfl rfl (fun h => absurd h (nI_ge (a := 60) (by omega) (by omega))) (fun _ => ?_)
    refine px_P.sn 2 (f1 := (62, [(0, .ref m), (1, .int a), (2, .int b), (3, .int c), (4, .int e), (5, .int f), (6, .int (nI l5.length))], [.int 1, .ref m])) (S1 := S5) rfl ?_
    refine px_P.cv rfl rfl rfl (by assumption) rfl ?_
    show px_M _ px_m_Model_refused [.ref m, .int 1] S5 _
    refine pm_moRefused (b := true) (by omega) g5 (fun S6 g6 m6 => ?_)
    show px_P _ _ (65, [(0, .ref m), (1, .int a), (2, .int b), (3, .int c), (4, .int e), (5, .int f), (6, .int (nI l5.length))], [.int 1]) S6 _
    show px_P _ _ (65, [(0, .ref m), (1, .int a), (2, .int b), (3, .int c), (4, .int e), (5, .int f), (6, .int (nI l5.length))], [.int 1]) S6 _
    refine px_P.if_eq rfl rfl (fun h => absurd h ((by decide))) (fun _ => ?_)
    refine px_P.sn 1 (f1 := (69, [(0, .ref m), (1, .int a), (2, .int b), (3, .int c), (4, .int e), (5, .int f), (6, .int (nI l5.length))], [.int 0])) (S1 := S6) rfl ?_
    refine px_P.ret rfl ?_
    refine k1 h60 S6 (mI.q (q := q) (A := A) ⟨⟨q1, t1, t2⟩, r2⟩ g6 rfl rfl rfl rfl eA (fun j hj => ?_)) ⟨_, g6.1, rfl⟩ (mm.tr m6)
    rw [f5 j (by omega) (by omega), pre j hj]
theorem pm_mmErase {d m : Nat} {ty : List Nat} {tt : Nat → List Nat} {hh : List (Nat × List Nat)} {S : px_S} {Q : Option Value → px_S → Prop} (hd : 1 ≤ d) (h : mI S m ty tt hh) (k : ∀ S', mI S' m [] tt hh → mF S S' m → Q (some (.int (nI ty.length))) S') : px_M d px_m_Model_erase [.ref m] S Q := by
  obtain ⟨q, A, h0, ⟨q1, t1, t2⟩, b2, b3, b4, b5, b6, b8⟩ := h
  rw [← q1] at k
  refine pm_moErase hd h0 (fun S' g f => k S' ⟨_, A, g, ⟨rfl, ⟨Nat.zero_le _, fun c hc => (by cases hc)⟩, fun j hj => absurd hj (Nat.not_lt_zero _)⟩, b2, b3, b4, b5.q rfl (fun _ _ _ => rfl), b6, b8⟩ f)
