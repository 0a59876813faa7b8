/-! ===== the model: endings ===== -/
set_option maxRecDepth 20000 in
theorem pm_moBehind {d m p N : Nat} {tx : Nat → Nat} {q0 : Nat → Int32} {A0 A : Nat → Nat → Int32} {y : ps} {s : Nat} {O : List Nat} {S0 S : px_S} {Q : Option Value → px_S → Prop} (hd : 3 ≤ d) (ht : mt A0 p tx N) (h : stm S0 S m p q0 A0 A (ps_a y) (ps_n y) (ps_s y) O) (hn : ps_n y + O.length ≤ ps_a y) (ha : ps_a y ≤ N)
    (kT : ∀ r z, pz_endL tx N 60 s y = (some r, z) → nx tx N (ps_a z) = ps_a z → ps_n z + O.length ≤ ps_a z → ps_a z ≤ N → ∀ S' A', stm S0 S' m p q0 A0 A' (ps_a z) (ps_n z) (ps_s z) O → Q (some (.int 1)) S')
    (kF : ∀ z, pz_endL tx N 60 s y = (none, z) → ∀ S' A' n' st', stm S0 S' m p q0 A0 A' (ps_a z) n' st' O → Q (some (.int 0)) S') : px_M d px_m_Model_readBehind [.ref m] S Q := by
  have hN : N ≤ 60 := ht.2.2.2.1
  have hp : p < 96 := ht.2.2.2.2
  have lp : ∀ (k : Nat) (s : Nat) (y : ps) (S : px_S) (A : Nat → Nat → Int32), N ≤ k + ps_a y → ps_a y ≤ N → ps_n y + O.length ≤ ps_a y → stm S0 S m p q0 A0 A (nx tx N (ps_a y)) (ps_n y) (ps_s y) O →
      (∀ r z, pz_endL tx N k s y = (some r, z) → nx tx N (ps_a z) = ps_a z → ps_n z + O.length ≤ ps_a z → ps_a z ≤ N → ∀ S' A', stm S0 S' m p q0 A0 A' (ps_a z) (ps_n z) (ps_s z) O → Q (some (.int 1)) S') →
      (∀ z, pz_endL tx N k s y = (none, z) → ∀ S' A' n' st', stm S0 S' m p q0 A0 A' (ps_a z) n' st' O → Q (some (.int 0)) S') →
      px_P (d - 1) px_m_Model_readBehind (5, [(0, .ref m), (1, .int (nI (cn tx N (nx tx N (ps_a y)))))], []) S Q := by
    intro k
    induction k with
    | zero =>
      intro s y S A h1 h2 h3 h4 kT kF
      have e1 : nx tx N (ps_a y) = ps_a y := nx_z (by omega)
      have e2 : cn tx N (ps_a y) = 0 := if_neg (by omega)
      rw [e1] at h4 ⊢
      rw [e2]
      refine px_P.sn 2 (f1 := (8, [(0, .ref m), (1, .int (nI 0))], [.int 33, .int (nI 0)])) (S1 := S) rfl ?_
      refine px_P.ic_eq rfl rfl (fun h => absurd h ((by decide))) (fun _ => ?_)
      refine px_P.sn 2 (f1 := (14, [(0, .ref m), (1, .int (nI 0))], [.int 91, .int (nI 0)])) (S1 := S) rfl ?_
      refine px_P.ic_eq rfl rfl (fun h => absurd h ((by decide))) (fun _ => ?_)
      refine px_P.sn 2 (f1 := (20, [(0, .ref m), (1, .int (nI 0))], [.int 38, .int (nI 0)])) (S1 := S) rfl ?_
      refine px_P.ic_ne rfl rfl (fun _ => ?_) (fun h => absurd h ((by decide)))
      refine px_P.sn 1 (f1 := (137, [(0, .ref m), (1, .int (nI 0))], [.int 1])) (S1 := S) rfl ?_
      refine px_P.ret rfl ?_
      exact kT s y rfl e1 h3 h2 S A h4
    | succ k ih =>
      intro s y S A h1 h2 h3 h4 kT kF
      have n1 := nx_le (tx := tx) h2
      have n2 := nx_nx (tx := tx) h2
      have un : pz_endL tx N (k + 1) s y = (if isE (cn tx N (nx tx N (ps_a y))) = true then (match pz_end tx N s (ps_at y (nx tx N (ps_a y))) with
        | (none, z) => (none, z)
        | (some r, z) => pz_endL tx N k r z) else (some s, ps_at y (nx tx N (ps_a y)))) := rfl
      generalize ea : nx tx N (ps_a y) = a at *
      have hc255 : cn tx N a ≤ 255 := ht.cn a
      generalize ec : cn tx N a = c at *
      have c0 := h4.1.1
      have tail : ∀ (s2 : Nat) (y2 : ps) (S2 : px_S) (A2 : Nat → Nat → Int32), pz_end tx N s (ps_at y a) = (some s2, y2) → isE c = true → N ≤ k + ps_a y2 → ps_a y2 ≤ N → ps_n y2 + O.length ≤ ps_a y2 → stm S0 S2 m p q0 A0 A2 (ps_a y2) (ps_n y2) (ps_s y2) O → px_P (d - 1) px_m_Model_readBehind (128, [(0, .ref m), (1, .int (nI c))], []) S2 Q := by
        intro s2 y2 S2 A2 g1 g2 g3 g4 g5 g6
        rw [if_pos g2, g1] at un
        have c2 := g6.1.1
        refine px_P.sn 1 (f1 := (129, [(0, .ref m), (1, .int (nI c))], [.ref m])) (S1 := S2) rfl ?_
        refine px_P.cv rfl rfl rfl (by assumption) rfl ?_
        show px_M _ px_m_Model_look [.ref m] S2 _
        refine pm_stLook (by omega) ht g6 g4 (fun S3 h5 => ?_)
        have fin := ih s2 y2 S3 A2 g3 g4 g5 h5 (fun r z hz => kT r z (un.trans hz)) (fun z hz => kF z (un.trans hz))
        generalize cn tx N (nx tx N (ps_a y2)) = w at fin ⊢
        show px_P _ _ (132, [(0, .ref m), (1, .int (nI c))], [.int (nI w)]) S3 _
        refine px_P.sn 2 (f1 := (5, [(0, .ref m), (1, .int (nI w))], [])) (S1 := S3) rfl ?_
        exact fin
      have no : ¬ isE c = true → px_P (d - 1) px_m_Model_readBehind (136, [(0, .ref m), (1, .int (nI c))], []) S Q := by
        intro z
        rw [if_neg z] at un
        refine px_P.sn 1 (f1 := (137, [(0, .ref m), (1, .int (nI c))], [.int 1])) (S1 := S) rfl ?_
        refine px_P.ret rfl ?_
        exact kT s (ps_at y a) un n2 (by show ps_n y + O.length ≤ a; omega) n1.2 S A h4
      have yes : isE c = true → px_P (d - 1) px_m_Model_readBehind (23, [(0, .ref m), (1, .int (nI c))], []) S Q := by
        intro z
        have z' : c = 33 ∨ c = 91 ∨ c = 38 := of_decide_eq_true z
        have haN : a < N := cn_lt (tx := tx) (by rw [ec]; omega)
        have ue : pz_end tx N s (ps_at y a) = (if c = 33 then (some (ps_n y), ps_add y (a + 1) (4, s, 0, a))
          else if c = 91 then (if cn tx N (nx tx N (a + 1)) = 93 then (some (ps_n y), ps_add y (nx tx N (a + 1) + 1) (3, s, 0, a)) else (none, ps_at y (nx tx N (a + 1))))
          else match lt (cn tx N (nx tx N (a + 1))) with
            | none => (none, ps_at y (nx tx N (a + 1)))
            | some l => if l = 4 then (none, ps_at y (nx tx N (a + 1))) else (some (ps_n y), ps_add y (nx tx N (a + 1) + 1) (5, s, l, a))) := by
          rw [← ec]
          rfl
        have b1 := nx_le (tx := tx) (show a + 1 ≤ N by omega)
        generalize eb : nx tx N (a + 1) = b at ue b1
        have hb255 : cn tx N b ≤ 255 := ht.cn b
        refine px_P.sn 1 (f1 := (24, [(0, .ref m), (1, .int (nI c))], [.ref m])) (S1 := S) rfl ?_
        refine px_P.gf rfl rfl (by assumption) (v := .int (nI a)) rfl ?_
        refine px_P.sn 3 (f1 := (30, [(0, .ref m), (1, .int (nI c)), (2, .int (nI a))], [.ref m, .ref m])) (S1 := S) rfl ?_
        refine px_P.gf rfl rfl (by assumption) (v := .int (nI a)) rfl ?_
        refine px_P.sn 2 (f1 := (35, [(0, .ref m), (1, .int (nI c)), (2, .int (nI a))], [.int ((nI a) + 1), .ref m])) (S1 := S) rfl ?_
        rw [nI_1]
        refine px_P.pf rfl rfl (by assumption) rfl (fun S1 u1 => ?_)
        have h5 := h4.pl (a' := a + 1) u1
        have c1 := h5.1.1
        refine px_P.sn 2 (f1 := (41, [(0, .ref m), (1, .int (nI c)), (2, .int (nI a))], [.int 33, .int (nI c)])) (S1 := S1) rfl ?_
        refine px_P.ic_ne rfl rfl (fun q1 => ?_) (fun q1 => ?_)
        · have q1' : ¬ c = 33 := fun z => q1 (by rw [z]; rfl)
          rw [if_neg q1'] at ue
          refine px_P.sn 2 (f1 := (57, [(0, .ref m), (1, .int (nI c)), (2, .int (nI a))], [.int 91, .int (nI c)])) (S1 := S1) rfl ?_
          refine px_P.ic_ne rfl rfl (fun q2 => ?_) (fun q2 => ?_)
          · have q2' : ¬ c = 91 := fun z => q2 (by rw [z]; rfl)
            rw [if_neg q2'] at ue
            refine px_P.sn 1 (f1 := (92, [(0, .ref m), (1, .int (nI c)), (2, .int (nI a))], [.ref m])) (S1 := S1) rfl ?_
            refine px_P.cv rfl rfl rfl (by assumption) rfl ?_
            show px_M _ px_m_Model_look [.ref m] S1 _
            refine pm_stLook (by omega) ht h5 (by omega) (fun S2 h6 => ?_)
            rw [eb] at h6 ⊢
            have c2 := h6.1.1
            show px_P _ _ (95, [(0, .ref m), (1, .int (nI c)), (2, .int (nI a))], [.int (nI (cn tx N b))]) S2 _
            refine px_P.call rfl ?_
            show px_M _ px_m_Model_letterOf [.int (nI (cn tx N b))] S2 _
            refine pm_moLetter (by omega) hb255 ?_
            cases hl : lt (cn tx N b) with
            | none =>
              rw [hl] at ue
              simp only [ue, if_pos z] at un
              show px_P _ _ (98, [(0, .ref m), (1, .int (nI c)), (2, .int (nI a))], [.int (-1)]) S2 _
              refine px_P.sn 2 (f1 := (100, [(0, .ref m), (1, .int (nI c)), (2, .int (nI a)), (3, .int (-1))], [.int (-1)])) (S1 := S2) rfl ?_
              refine px_P.if_lt rfl rfl (fun _ => ?_) (fun h => absurd ((by decide)) h)
              refine px_P.sn 1 (f1 := (109, [(0, .ref m), (1, .int (nI c)), (2, .int (nI a)), (3, .int (-1))], [.int 0])) (S1 := S2) rfl ?_
              refine px_P.ret rfl ?_
              exact kF (ps_at y b) un S2 A _ _ h6
            | some l =>
              have hl5 := lt_5 hl
              have hbN : b < N := cn_lt (tx := tx) (lt_nz hl)
              rw [hl] at ue
              rw [rv_s]
              show px_P _ _ (98, [(0, .ref m), (1, .int (nI c)), (2, .int (nI a))], [.int (nI l)]) S2 _
              refine px_P.sn 2 (f1 := (100, [(0, .ref m), (1, .int (nI c)), (2, .int (nI a)), (3, .int (nI l))], [.int (nI l)])) (S1 := S2) rfl ?_
              refine px_P.if_lt rfl rfl (fun h => absurd h (nI_pos (by omega))) (fun _ => ?_)
              refine px_P.sn 2 (f1 := (105, [(0, .ref m), (1, .int (nI c)), (2, .int (nI a)), (3, .int (nI l))], [.int 4, .int (nI l)])) (S1 := S2) rfl ?_
              by_cases h4l : l = 4
              · simp only [if_pos h4l] at ue
                simp only [ue, if_pos z] at un
                refine px_P.ic_ne rfl rfl (fun h => absurd ((show nI l = 4 by rw [h4l]; rfl)) h) (fun _ => ?_)
                refine px_P.sn 1 (f1 := (109, [(0, .ref m), (1, .int (nI c)), (2, .int (nI a)), (3, .int (nI l))], [.int 0])) (S1 := S2) rfl ?_
                refine px_P.ret rfl ?_
                exact kF (ps_at y b) un S2 A _ _ h6
              · simp only [if_neg h4l] at ue
                refine px_P.ic_ne rfl rfl (fun _ => ?_) (fun h => absurd h ((fun z => h4l ((nI_eq (b := 4) (by omega) (by decide)).mp z))))
                refine px_P.sn 2 (f1 := (112, [(0, .ref m), (1, .int (nI c)), (2, .int (nI a)), (3, .int (nI l))], [.ref m, .ref m])) (S1 := S2) rfl ?_
                refine px_P.gf rfl rfl (by assumption) (v := .int (nI b)) rfl ?_
                refine px_P.sn 2 (f1 := (117, [(0, .ref m), (1, .int (nI c)), (2, .int (nI a)), (3, .int (nI l))], [.int ((nI b) + 1), .ref m])) (S1 := S2) rfl ?_
                rw [nI_1]
                refine px_P.pf rfl rfl (by assumption) rfl (fun S3 u3 => ?_)
                have h7 := h6.pl (a' := b + 1) u3
                have c3 := h7.1.1
                refine px_P.sn 4 (f1 := (125, [(0, .ref m), (1, .int (nI c)), (2, .int (nI a)), (3, .int (nI l))], [.int (nI a), .int (nI l), .int 6, .ref m])) (S1 := S3) rfl ?_
                refine px_P.cv rfl rfl rfl (by assumption) rfl ?_
                show px_M _ px_m_Model_step [.ref m, .int 6, .int (nI l), .int (nI a)] S3 _
                refine pm_moStep (q4 := (5, s, l, a)) (kd := 6) (by omega) hp (by omega) h7 rfl rfl (fun _ => rfl) (fun S4 A4 h8 => ?_)
                show px_P _ _ (128, [(0, .ref m), (1, .int (nI c)), (2, .int (nI a)), (3, .int (nI l))], []) S4 _
                show px_P _ _ (128, [(0, .ref m), (1, .int (nI c)), (2, .int (nI a)), (3, .int (nI l))], []) S4 _
                refine px_P.wk (ls := [(0, .ref m), (1, .int (nI c))]) rfl (.cons_cons _ (.cons_cons _ (.cons _ (.cons _ .slnil)))) ?_
                exact tail _ _ S4 A4 ue z (by show N ≤ k + (b + 1); omega) (by show b + 1 ≤ N; omega) (by show ps_n y + 1 + O.length ≤ b + 1; omega) h8
          · have q2' : c = 91 := (nI_eq (b := 91) (by omega) (by decide)).mp q2
            rw [if_pos q2'] at ue
            refine px_P.sn 1 (f1 := (61, [(0, .ref m), (1, .int (nI c)), (2, .int (nI a))], [.ref m])) (S1 := S1) rfl ?_
            refine px_P.cv rfl rfl rfl (by assumption) rfl ?_
            show px_M _ px_m_Model_look [.ref m] S1 _
            refine pm_stLook (by omega) ht h5 (by omega) (fun S2 h6 => ?_)
            rw [eb] at h6 ⊢
            have c2 := h6.1.1
            show px_P _ _ (64, [(0, .ref m), (1, .int (nI c)), (2, .int (nI a))], [.int (nI (cn tx N b))]) S2 _
            refine px_P.sn 1 (f1 := (66, [(0, .ref m), (1, .int (nI c)), (2, .int (nI a))], [.int 93, .int (nI (cn tx N b))])) (S1 := S2) rfl ?_
            refine px_P.ic_eq rfl rfl (fun q3 => ?_) (fun q3 => ?_)
            · have q3' : cn tx N b = 93 := (nI_eq (b := 93) (by omega) (by decide)).mp q3
              have hbN : b < N := cn_lt (tx := tx) (by omega)
              rw [if_pos q3'] at ue
              refine px_P.sn 2 (f1 := (73, [(0, .ref m), (1, .int (nI c)), (2, .int (nI a))], [.ref m, .ref m])) (S1 := S2) rfl ?_
              refine px_P.gf rfl rfl (by assumption) (v := .int (nI b)) rfl ?_
              refine px_P.sn 2 (f1 := (78, [(0, .ref m), (1, .int (nI c)), (2, .int (nI a))], [.int ((nI b) + 1), .ref m])) (S1 := S2) rfl ?_
              rw [nI_1]
              refine px_P.pf rfl rfl (by assumption) rfl (fun S3 u3 => ?_)
              have h7 := h6.pl (a' := b + 1) u3
              have c3 := h7.1.1
              refine px_P.sn 4 (f1 := (85, [(0, .ref m), (1, .int (nI c)), (2, .int (nI a))], [.int (nI a), .int 0, .int 4, .ref m])) (S1 := S3) rfl ?_
              refine px_P.cv rfl rfl rfl (by assumption) rfl ?_
              show px_M _ px_m_Model_step [.ref m, .int 4, .int 0, .int (nI a)] S3 _
              show px_M _ px_m_Model_step [.ref m, .int (nI 4), .int (nI 0), .int (nI a)] S3 _
              refine pm_moStep (q4 := (3, s, 0, a)) (by omega) hp (by omega) h7 rfl rfl (fun _ => rfl) (fun S4 A4 h8 => ?_)
              show px_P _ _ (88, [(0, .ref m), (1, .int (nI c)), (2, .int (nI a))], []) S4 _
              refine px_P.sn 1 (f1 := (128, [(0, .ref m), (1, .int (nI c)), (2, .int (nI a))], [])) (S1 := S4) rfl ?_
              show px_P _ _ (128, [(0, .ref m), (1, .int (nI c)), (2, .int (nI a))], []) S4 _
              refine px_P.wk (ls := [(0, .ref m), (1, .int (nI c))]) rfl (.cons_cons _ (.cons_cons _ (.cons _ .slnil))) ?_
              exact tail _ _ S4 A4 ue z (by show N ≤ k + (b + 1); omega) (by show b + 1 ≤ N; omega) (by show ps_n y + 1 + O.length ≤ b + 1; omega) h8
            · have q3' : ¬ cn tx N b = 93 := fun z => q3 (by rw [z]; rfl)
              rw [if_neg q3'] at ue
              simp only [ue, if_pos z] at un
              refine px_P.sn 1 (f1 := (70, [(0, .ref m), (1, .int (nI c)), (2, .int (nI a))], [.int 0])) (S1 := S2) rfl ?_
              refine px_P.ret rfl ?_
              exact kF (ps_at y b) un S2 A _ _ h6
        · have q1' : c = 33 := (nI_eq (b := 33) (by omega) (by decide)).mp q1
          rw [if_pos q1'] at ue
          refine px_P.sn 4 (f1 := (48, [(0, .ref m), (1, .int (nI c)), (2, .int (nI a))], [.int (nI a), .int 0, .int 5, .ref m])) (S1 := S1) rfl ?_
          refine px_P.cv rfl rfl rfl (by assumption) rfl ?_
          show px_M _ px_m_Model_step [.ref m, .int 5, .int 0, .int (nI a)] S1 _
          show px_M _ px_m_Model_step [.ref m, .int (nI 5), .int (nI 0), .int (nI a)] S1 _
          refine pm_moStep (q4 := (4, s, 0, a)) (by omega) hp (by omega) h5 rfl rfl (fun _ => rfl) (fun S4 A4 h8 => ?_)
          show px_P _ _ (51, [(0, .ref m), (1, .int (nI c)), (2, .int (nI a))], []) S4 _
          refine px_P.sn 1 (f1 := (128, [(0, .ref m), (1, .int (nI c)), (2, .int (nI a))], [])) (S1 := S4) rfl ?_
          show px_P _ _ (128, [(0, .ref m), (1, .int (nI c)), (2, .int (nI a))], []) S4 _
          refine px_P.wk (ls := [(0, .ref m), (1, .int (nI c))]) rfl (.cons_cons _ (.cons_cons _ (.cons _ .slnil))) ?_
          exact tail _ _ S4 A4 ue z (by show N ≤ k + (a + 1); omega) (by show a + 1 ≤ N; omega) (by show ps_n y + 1 + O.length ≤ a + 1; omega) h8
      refine px_P.sn 2 (f1 := (8, [(0, .ref m), (1, .int (nI c))], [.int 33, .int (nI c)])) (S1 := S) rfl ?_
      refine px_P.ic_eq rfl rfl (fun q1 => ?_) (fun q1 => ?_)
      · exact yes (decide_eq_true (Or.inl ((nI_eq (b := 33) (by omega) (by decide)).mp q1)))
      · refine px_P.sn 2 (f1 := (14, [(0, .ref m), (1, .int (nI c))], [.int 91, .int (nI c)])) (S1 := S) rfl ?_
        refine px_P.ic_eq rfl rfl (fun q2 => ?_) (fun q2 => ?_)
        · exact yes (decide_eq_true (Or.inr (Or.inl ((nI_eq (b := 91) (by omega) (by decide)).mp q2))))
        · refine px_P.sn 2 (f1 := (20, [(0, .ref m), (1, .int (nI c))], [.int 38, .int (nI c)])) (S1 := S) rfl ?_
          refine px_P.ic_ne rfl rfl (fun q3 => ?_) (fun q3 => ?_)
          · refine no (fun z => ?_)
            have z' : c = 33 ∨ c = 91 ∨ c = 38 := of_decide_eq_true z
            rcases z' with z' | z' | z'
            · exact q1 (by rw [z']; rfl)
            · exact q2 (by rw [z']; rfl)
            · exact q3 (by rw [z']; rfl)
          · exact yes (decide_eq_true (Or.inr (Or.inr ((nI_eq (b := 38) (by omega) (by decide)).mp q3))))
  have c0 := h.1.1
  refine px_M.go (by omega) (Nat.le_of_ble_eq_true rfl) ?_
  refine px_P.sn 1 (f1 := (1, [(0, .ref m)], [.ref m])) (S1 := S) rfl ?_
  refine px_P.cv rfl rfl rfl (by assumption) rfl ?_
  show px_M _ px_m_Model_look [.ref m] S _
  refine pm_stLook (by omega) ht h ha (fun S1 h1 => ?_)
  show px_P _ _ (4, [(0, .ref m)], [.int (nI (cn tx N (nx tx N (ps_a y))))]) S1 _
  refine px_P.sn 1 (f1 := (5, [(0, .ref m), (1, .int (nI (cn tx N (nx tx N (ps_a y)))))], [])) (S1 := S1) rfl ?_
  exact lp 60 s y S1 A (by omega) ha hn h1 kT kF
