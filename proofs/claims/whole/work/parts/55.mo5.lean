/-! ===== the model: an atom, endings ===== -/
theorem rv_s (l : Nat) : rv (some l) = nI l := rfl
theorem pm_moAtom {d m p N : Nat} {tx : Nat → Nat} {q0 : Nat → Int32} {A0 A : Nat → Nat → Int32} {y : ps} {O : List Nat} {S0 S : px_S} {Q : Option Value → px_S → Prop} (hd : 3 ≤ d) (ht : mt A0 p tx N) (h : stm S0 S m p q0 A0 A (ps_a y) (ps_n y) (ps_s y) O) (hn : ps_n y + O.length ≤ ps_a y) (ha : ps_a y ≤ N)
    (kB : (cn tx N (nx tx N (ps_a y)) = 91 ∨ cn tx N (nx tx N (ps_a y)) = 40) → brk O < 12 → ∀ S' A', stm S0 S' m p q0 A0 A' (nx tx N (ps_a y) + 1) (ps_n y) (ps_s y) (cn tx N (nx tx N (ps_a y)) :: O) → nx tx N (ps_a y) < N → Q (some (.int 0)) S')
    (kS : ∀ s z, pz_atom tx N (p / 12) none y = (some s, z) → ∀ S' A', stm S0 S' m p q0 A0 A' (ps_a z) (ps_n z) (ps_s z) O → Q (some (.int 1)) S')
    (kN : ∀ z, ¬ ((cn tx N (nx tx N (ps_a y)) = 91 ∨ cn tx N (nx tx N (ps_a y)) = 40) ∧ brk O < 12) → pz_atom tx N (p / 12) none y = (none, z) → ∀ S' A', stm S0 S' m p q0 A0 A' (ps_a z) (ps_n y) (ps_s y) O → Q (some (.int (-1))) S') : px_M d px_m_Model_readAtom [.ref m] S Q := by
  have hN : N ≤ 60 := ht.2.2.2.1
  have hp : p < 96 := ht.2.2.2.2
  have nx1 := nx_le (tx := tx) ha
  have nx2 := nx_nx (tx := tx) ha
  generalize ea : nx tx N (ps_a y) = a at *
  have hc255 : cn tx N a ≤ 255 := ht.cn a
  generalize ec : cn tx N a = c at *
  have c0 := h.1.1
  have hat : pz_atom tx N (p / 12) none y = (match lt c with
    | some l => (some (ps_n y), ps_add y (a + 1) (0, l, 0, a))
    | none => if isN c = true then pz_name tx N (p / 12) a (ps_at y a) else if 48 ≤ c ∧ c < 56 then (if cn tx N (nx tx N (a + 1)) = 46 then pz_name tx N (c - 48) a (ps_at y (nx tx N (a + 1) + 1)) else (none, ps_at y (nx tx N (a + 1)))) else if c = 91 ∨ c = 40 then (none, ps_at y a) else (none, ps_at y a)) := by
    unfold pz_atom
    simp only [ea, ec]
    cases lt c <;> rfl
  have fin : ∀ (S1 : px_S) (A1 : Nat → Nat → Int32) (a1 n1 : Nat) (s1 : xe_T) (L : px_L), stm S0 S1 m p q0 A0 A1 a1 n1 s1 O → (∀ S' A', stm S0 S' m p q0 A0 A' (a1 + 1) n1 s1 O → Q (some (.int 1)) S') → px_P (d - 1) px_m_Model_readAtom (195, [(0, .ref m), (1, .int (nI c)), (2, .int (nI a))], []) S1 Q := by
    intro S1 A1 a1 n1 s1 _ h1 k1
    have c1 := h1.1.1
    refine px_P.sn 2 (f1 := (197, [(0, .ref m), (1, .int (nI c)), (2, .int (nI a))], [.ref m, .ref m])) (S1 := S1) rfl ?_
    refine px_P.gf rfl rfl (by assumption) (v := .int (nI a1)) rfl ?_
    refine px_P.sn 2 (f1 := (202, [(0, .ref m), (1, .int (nI c)), (2, .int (nI a))], [.int ((nI a1) + 1), .ref m])) (S1 := S1) rfl ?_
    rw [nI_1]
    refine px_P.pf rfl rfl (by assumption) rfl (fun S2 u2 => ?_)
    refine px_P.sn 1 (f1 := (206, [(0, .ref m), (1, .int (nI c)), (2, .int (nI a))], [.int 1])) (S1 := S2) rfl ?_
    refine px_P.ret rfl ?_
    exact k1 S2 A1 (h1.pl u2)
  refine px_M.go (by omega) (Nat.le_of_ble_eq_true rfl) ?_
  refine px_P.sn 1 (f1 := (1, [(0, .ref m)], [.ref m])) (S1 := S) rfl ?_
  refine px_P.cv rfl rfl rfl (by assumption) rfl ?_
  show px_M _ px_m_Model_look [.ref m] S _
  refine pm_stLook (by omega) ht h ha (fun S1 h1 => ?_)
  rw [ea] at h1 ⊢
  rw [ec]
  have c1 := h1.1.1
  show px_P _ _ (4, [(0, .ref m)], [.int (nI c)]) S1 _
  refine px_P.sn 2 (f1 := (6, [(0, .ref m), (1, .int (nI c))], [.ref m])) (S1 := S1) rfl ?_
  refine px_P.gf rfl rfl (by assumption) (v := .int (nI a)) rfl ?_
  refine px_P.sn 2 (f1 := (11, [(0, .ref m), (1, .int (nI c)), (2, .int (nI a))], [.int (nI c)])) (S1 := S1) rfl ?_
  refine px_P.call rfl ?_
  show px_M _ px_m_Model_letterOf [.int (nI c)] S1 _
  refine pm_moLetter (by omega) hc255 ?_
  cases hl : lt c with
  | some l =>
    rw [hl] at hat
    have hl5 := lt_5 hl
    have haN : a < N := cn_lt (tx := tx) (by rw [ec]; exact lt_nz hl)
    rw [rv_s]
    show px_P _ _ (14, [(0, .ref m), (1, .int (nI c)), (2, .int (nI a))], [.int (nI l)]) S1 _
    refine px_P.if_lt rfl rfl (fun h => absurd h (nI_pos (by omega))) (fun _ => ?_)
    refine px_P.sn 3 (f1 := (20, [(0, .ref m), (1, .int (nI c)), (2, .int (nI a))], [.int (nI c), .int 1, .ref m])) (S1 := S1) rfl ?_
    refine px_P.call rfl ?_
    show px_M _ px_m_Model_letterOf [.int (nI c)] S1 _
    refine pm_moLetter (by omega) hc255 ?_
    rw [hl, rv_s]
    show px_P _ _ (23, [(0, .ref m), (1, .int (nI c)), (2, .int (nI a))], [.int (nI l), .int 1, .ref m]) S1 _
    refine px_P.sn 1 (f1 := (24, [(0, .ref m), (1, .int (nI c)), (2, .int (nI a))], [.int (nI a), .int (nI l), .int 1, .ref m])) (S1 := S1) rfl ?_
    refine px_P.cv rfl rfl rfl (by assumption) rfl ?_
    show px_M _ px_m_Model_step [.ref m, .int 1, .int (nI l), .int (nI a)] S1 _
    refine pm_moStep (q4 := (0, l, 0, a)) (kd := 1) (by omega) hp (by omega) h1 rfl rfl (fun _ => rfl) (fun S2 A2 h2 => ?_)
    show px_P _ _ (27, [(0, .ref m), (1, .int (nI c)), (2, .int (nI a))], []) S2 _
    refine px_P.sn 1 (f1 := (195, [(0, .ref m), (1, .int (nI c)), (2, .int (nI a))], [])) (S1 := S2) rfl ?_
    exact fin S2 A2 _ _ _ [] h2 (fun S' A' h' => kS _ _ hat S' A' h')
  | none =>
    rw [hl] at hat
    show px_P _ _ (14, [(0, .ref m), (1, .int (nI c)), (2, .int (nI a))], [.int (-1)]) S1 _
    refine px_P.if_lt rfl rfl (fun _ => ?_) (fun h => absurd ((by decide)) h)
    refine px_P.sn 1 (f1 := (31, [(0, .ref m), (1, .int (nI c)), (2, .int (nI a))], [.int (nI c)])) (S1 := S1) rfl ?_
    refine px_P.call rfl ?_
    show px_M _ px_m_Model_isSymbol [.int (nI c)] S1 _
    refine pm_moIsSym (by omega) hc255 ?_
    by_cases hN1 : isN c = true
    · have h65 : 65 ≤ c ∧ c ≤ 90 := by
        unfold isN at hN1
        simpa using hN1
      have haN : a < N := cn_lt (tx := tx) (by rw [ec]; omega)
      simp only [if_pos hN1] at hat
      rw [hN1]
      show px_P _ _ (34, [(0, .ref m), (1, .int (nI c)), (2, .int (nI a))], [.int 1]) S1 _
      refine px_P.if_eq rfl rfl (fun h => absurd h ((by decide))) (fun _ => ?_)
      refine px_P.sn 4 (f1 := (42, [(0, .ref m), (1, .int (nI c)), (2, .int (nI a))], [.ref m, .int 26, .int 2, .ref m])) (S1 := S1) rfl ?_
      refine px_P.gf rfl rfl (by assumption) (v := .int (nI p)) rfl ?_
      refine px_P.sn 1 (f1 := (47, [(0, .ref m), (1, .int (nI c)), (2, .int (nI a))], [.int 12, .int (nI p), .int 26, .int 2, .ref m])) (S1 := S1) rfl ?_
      refine px_P.idiv rfl (by decide) ?_
      refine px_P.sn 6 (f1 := (55, [(0, .ref m), (1, .int (nI c)), (2, .int (nI a))], [.int (nI a), .int (((26 * ((nI p) / 12)) + (nI c)) - 65), .int 2, .ref m])) (S1 := S1) rfl ?_
      have e1 : 26 * (nI p / 12) + nI c - 65 = nI (26 * (p / 12) + (c - 65)) := by
        rw [show (12 : Int32) = nI 12 from rfl, pk_div (by omega) (by decide) (by decide), show (26 : Int32) = nI 26 from rfl, pk_mul, nI_add, show (65 : Int32) = nI 65 from rfl, pk_sub (by omega), show 26 * (p / 12) + c - 65 = 26 * (p / 12) + (c - 65) by omega]
      rw [e1]
      refine px_P.cv rfl rfl rfl (by assumption) rfl ?_
      show px_M _ px_m_Model_step [.ref m, .int 2, .int (nI (26 * (p / 12) + (c - 65))), .int (nI a)] S1 _
      refine pm_moStep (q4 := (1, 26 * (p / 12) + (c - 65), 0, a)) (kd := 2) (by omega) hp (by omega) h1 rfl rfl (fun _ => rfl) (fun S2 A2 h2 => ?_)
      show px_P _ _ (58, [(0, .ref m), (1, .int (nI c)), (2, .int (nI a))], []) S2 _
      refine px_P.sn 1 (f1 := (195, [(0, .ref m), (1, .int (nI c)), (2, .int (nI a))], [])) (S1 := S2) rfl ?_
      have hat2 : pz_atom tx N (p / 12) none y = (some (ps_n y), (a + 1, ps_n y + 1, va_up (ps_s y) (ps_n y) (1, 26 * (p / 12) + (c - 65), 0, a), ss_put (ps_w y) (26 * (p / 12) + (c - 65)))) := by
        rw [hat]
        unfold pz_name
        show (if isN (cn tx N (nx tx N a)) = true then _ else _) = _
        simp only [show ps_a (ps_at y a) = a from rfl]
        rw [nx2, ec, if_pos hN1]
        rfl
      exact fin S2 A2 _ _ _ [] h2 (fun S' A' h' => kS _ _ hat2 S' A' h')
    · simp only [if_neg hN1] at hat
      rw [Bool.eq_false_iff.mpr hN1]
      show px_P _ _ (34, [(0, .ref m), (1, .int (nI c)), (2, .int (nI a))], [.int 0]) S1 _
      refine px_P.if_eq rfl rfl (fun _ => ?_) (fun h => absurd ((by decide)) h)
      refine px_P.sn 2 (f1 := (64, [(0, .ref m), (1, .int (nI c)), (2, .int (nI a))], [.int 48, .int (nI c)])) (S1 := S1) rfl ?_
      have brp : ¬ (48 ≤ c ∧ c < 56) → px_P (d - 1) px_m_Model_readAtom (140, [(0, .ref m), (1, .int (nI c)), (2, .int (nI a))], []) S1 Q := by
        intro h48
        simp only [if_neg h48, ite_self] at hat
        have no : ¬ ((c = 91 ∨ c = 40) ∧ brk O < 12) → px_P (d - 1) px_m_Model_readAtom (193, [(0, .ref m), (1, .int (nI c)), (2, .int (nI a))], []) S1 Q := by
          intro z
          refine px_P.sn 1 (f1 := (194, [(0, .ref m), (1, .int (nI c)), (2, .int (nI a))], [.int (-1)])) (S1 := S1) rfl ?_
          refine px_P.ret rfl ?_
          exact kN _ z hat S1 A h1
        have yes : (c = 91 ∨ c = 40) → px_P (d - 1) px_m_Model_readAtom (152, [(0, .ref m), (1, .int (nI c)), (2, .int (nI a))], []) S1 Q := by
          intro z
          have haN : a < N := cn_lt (tx := tx) (by rw [ec]; omega)
          refine px_P.sn 1 (f1 := (153, [(0, .ref m), (1, .int (nI c)), (2, .int (nI a))], [.ref m])) (S1 := S1) rfl ?_
          refine px_P.cv rfl rfl rfl (by assumption) rfl ?_
          show px_M _ px_m_Model_brackets [.ref m] S1 _
          refine pm_moBrackets (by omega) (by omega) h1 ?_
          show px_P _ _ (156, [(0, .ref m), (1, .int (nI c)), (2, .int (nI a))], [.int (nI (brk O))]) S1 _
          have hbk : brk O ≤ 64 := by have := ct_le (fun j => isb (O.getD (O.length - 1 - j) 0)) O.length; unfold brk; omega
          refine px_P.sn 1 (f1 := (158, [(0, .ref m), (1, .int (nI c)), (2, .int (nI a))], [.int 12, .int (nI (brk O))])) (S1 := S1) rfl ?_
          by_cases h12 : brk O < 12
          · refine px_P.ic_ge rfl rfl (fun h => absurd h (nI_ge (b := 12) h12 (by decide))) (fun _ => ?_)
            have r24 : S1.1 (m + 24) = some (.inl (0, 64, .inl (A 24))) := h1.1.2 24 (by decide) (by decide)
            refine px_P.sn 1 (f1 := (162, [(0, .ref m), (1, .int (nI c)), (2, .int (nI a))], [.ref m])) (S1 := S1) rfl ?_
            refine px_P.gf rfl rfl (by assumption) (v := .ref (m + 24)) rfl ?_
            refine px_P.sn 1 (f1 := (166, [(0, .ref m), (1, .int (nI c)), (2, .int (nI a))], [.ref m, .ref (m + 24)])) (S1 := S1) rfl ?_
            refine px_P.gf rfl rfl (by assumption) (v := .int (nI O.length)) rfl ?_
            refine px_P.sn 1 (f1 := (170, [(0, .ref m), (1, .int (nI c)), (2, .int (nI a))], [.int (nI c), .int (nI O.length), .ref (m + 24)])) (S1 := S1) rfl ?_
            refine px_P.iastj (j := O.length) rfl (by assumption) rfl (by omega) (by decide) (fun S2 u2 => ?_)
            have g2 := h1.1.ar (i := 24) (by decide) (by decide) u2
            have c2 := g2.1
            refine px_P.sn 2 (f1 := (173, [(0, .ref m), (1, .int (nI c)), (2, .int (nI a))], [.ref m, .ref m])) (S1 := S2) rfl ?_
            refine px_P.gf rfl rfl (by assumption) (v := .int (nI O.length)) rfl ?_
            refine px_P.sn 2 (f1 := (178, [(0, .ref m), (1, .int (nI c)), (2, .int (nI a))], [.int ((nI O.length) + 1), .ref m])) (S1 := S2) rfl ?_
            rw [nI_1]
            refine px_P.pf rfl rfl (by assumption) rfl (fun S3 u3 => ?_)
            have u3' : px_Up S2 S3 m (.inr (10, mo_ob m (mq q0 (nI a) (nI p) (nI (c :: O).length)))) := u3
            have g3 : stm S0 S3 m p q0 A0 (va_up A 24 (upd (A 24) O.length (nI c))) a (ps_n y) (ps_s y) (c :: O) := by
              refine ⟨g2.ob u3', (h1.2.1.tr (mF.u (by omega) (by omega) u2)).tr (mF.u (Nat.le_refl _) (by omega) u3), ⟨fun i e8 e9 e10 e11 e24 => ?_, h1.2.2.1.2.1, ?_⟩, ⟨h1.2.2.2.1.1, h1.2.2.2.1.2⟩, h1.2.2.2.2.co (by omega) rfl⟩
              · simp only [va_up, if_neg e24]
                exact h1.2.2.1.1 i e8 e9 e10 e11 e24
              · intro i j i1 i2 hj
                simp only [va_up, if_neg (show ¬ i = 24 by omega)]
                exact h1.2.2.1.2.2 i j i1 i2 hj
            have c3 := g3.1.1
            refine px_P.sn 2 (f1 := (183, [(0, .ref m), (1, .int (nI c)), (2, .int (nI a))], [.ref m, .ref m])) (S1 := S3) rfl ?_
            refine px_P.gf rfl rfl (by assumption) (v := .int (nI a)) rfl ?_
            refine px_P.sn 2 (f1 := (188, [(0, .ref m), (1, .int (nI c)), (2, .int (nI a))], [.int ((nI a) + 1), .ref m])) (S1 := S3) rfl ?_
            rw [nI_1]
            refine px_P.pf rfl rfl (by assumption) rfl (fun S4 u4 => ?_)
            refine px_P.sn 1 (f1 := (192, [(0, .ref m), (1, .int (nI c)), (2, .int (nI a))], [.int 0])) (S1 := S4) rfl ?_
            refine px_P.ret rfl ?_
            exact kB z h12 S4 _ (g3.pl u4) haN
          · refine px_P.ic_ge rfl rfl (fun _ => ?_) (fun h => absurd (nI_le (a := 12) (by omega) (by omega)) h)
            exact no (fun z => h12 z.2)
        refine px_P.sn 2 (f1 := (143, [(0, .ref m), (1, .int (nI c)), (2, .int (nI a))], [.int 91, .int (nI c)])) (S1 := S1) rfl ?_
        refine px_P.ic_eq rfl rfl (fun h91 => ?_) (fun h91 => ?_)
        · exact yes (Or.inl ((nI_eq (b := 91) (by omega) (by decide)).mp h91))
        · refine px_P.sn 2 (f1 := (149, [(0, .ref m), (1, .int (nI c)), (2, .int (nI a))], [.int 40, .int (nI c)])) (S1 := S1) rfl ?_
          refine px_P.ic_ne rfl rfl (fun h40 => ?_) (fun h40 => ?_)
          · exact no (fun z => z.1.elim (fun z => h91 (by rw [z]; rfl)) (fun z => h40 (by rw [z]; rfl)))
          · exact yes (Or.inr ((nI_eq (b := 40) (by omega) (by decide)).mp h40))
      by_cases h48 : 48 ≤ c
      · refine px_P.ic_lt rfl rfl (fun h => absurd h (nI_nlt (b := 48) h48 (by omega))) (fun _ => ?_)
        refine px_P.sn 2 (f1 := (70, [(0, .ref m), (1, .int (nI c)), (2, .int (nI a))], [.int 55, .int (nI c)])) (S1 := S1) rfl ?_
        by_cases h56 : c < 56
        · refine px_P.ic_gt rfl rfl (fun h => absurd h (nI_nlt (a := 55) (by omega) (by decide))) (fun _ => ?_)
          have haN : a < N := cn_lt (tx := tx) (by rw [ec]; omega)
          rw [if_pos ⟨h48, h56⟩] at hat
          have nb : ¬ ((c = 91 ∨ c = 40) ∧ brk O < 12) := fun z => by omega
          have b1 := nx_le (tx := tx) (show a + 1 ≤ N by omega)
          have b2 := nx_nx (tx := tx) (show a + 1 ≤ N by omega)
          generalize eb : nx tx N (a + 1) = b at hat b1 b2
          have hb255 : cn tx N b ≤ 255 := ht.cn b
          refine px_P.sn 2 (f1 := (75, [(0, .ref m), (1, .int (nI c)), (2, .int (nI a))], [.ref m, .ref m])) (S1 := S1) rfl ?_
          refine px_P.gf rfl rfl (by assumption) (v := .int (nI a)) rfl ?_
          refine px_P.sn 2 (f1 := (80, [(0, .ref m), (1, .int (nI c)), (2, .int (nI a))], [.int ((nI a) + 1), .ref m])) (S1 := S1) rfl ?_
          rw [nI_1]
          refine px_P.pf rfl rfl (by assumption) rfl (fun S2 u2 => ?_)
          have h2 := h1.pl (a' := a + 1) u2
          have c2 := h2.1.1
          refine px_P.sn 1 (f1 := (84, [(0, .ref m), (1, .int (nI c)), (2, .int (nI a))], [.ref m])) (S1 := S2) rfl ?_
          refine px_P.cv rfl rfl rfl (by assumption) rfl ?_
          show px_M _ px_m_Model_look [.ref m] S2 _
          refine pm_stLook (by omega) ht h2 (by omega) (fun S3 h3 => ?_)
          rw [eb] at h3 ⊢
          have c3 := h3.1.1
          show px_P _ _ (87, [(0, .ref m), (1, .int (nI c)), (2, .int (nI a))], [.int (nI (cn tx N b))]) S3 _
          refine px_P.sn 1 (f1 := (89, [(0, .ref m), (1, .int (nI c)), (2, .int (nI a))], [.int 46, .int (nI (cn tx N b))])) (S1 := S3) rfl ?_
          by_cases h46 : cn tx N b = 46
          · have hbN : b < N := cn_lt (tx := tx) (by omega)
            have d1 := nx_le (tx := tx) (show b + 1 ≤ N by omega)
            have d2 := nx_nx (tx := tx) (show b + 1 ≤ N by omega)
            rw [if_pos h46] at hat
            unfold pz_name at hat
            simp only [show ps_a (ps_at y (b + 1)) = b + 1 from rfl] at hat
            generalize ee : nx tx N (b + 1) = e at hat d1 d2
            have he255 : cn tx N e ≤ 255 := ht.cn e
            refine px_P.ic_eq rfl rfl (fun _ => ?_) (fun h => absurd ((show nI (cn tx N b) = 46 by rw [h46]; rfl)) h)
            refine px_P.sn 2 (f1 := (96, [(0, .ref m), (1, .int (nI c)), (2, .int (nI a))], [.ref m, .ref m])) (S1 := S3) rfl ?_
            refine px_P.gf rfl rfl (by assumption) (v := .int (nI b)) rfl ?_
            refine px_P.sn 2 (f1 := (101, [(0, .ref m), (1, .int (nI c)), (2, .int (nI a))], [.int ((nI b) + 1), .ref m])) (S1 := S3) rfl ?_
            rw [nI_1]
            refine px_P.pf rfl rfl (by assumption) rfl (fun S4 u4 => ?_)
            have h4 := h3.pl (a' := b + 1) u4
            have c4 := h4.1.1
            refine px_P.sn 1 (f1 := (105, [(0, .ref m), (1, .int (nI c)), (2, .int (nI a))], [.ref m])) (S1 := S4) rfl ?_
            refine px_P.cv rfl rfl rfl (by assumption) rfl ?_
            show px_M _ px_m_Model_look [.ref m] S4 _
            refine pm_stLook (by omega) ht h4 (by omega) (fun S5 h5 => ?_)
            rw [ee] at h5 ⊢
            have c5 := h5.1.1
            show px_P _ _ (108, [(0, .ref m), (1, .int (nI c)), (2, .int (nI a))], [.int (nI (cn tx N e))]) S5 _
            refine px_P.call rfl ?_
            show px_M _ px_m_Model_isSymbol [.int (nI (cn tx N e))] S5 _
            refine pm_moIsSym (by omega) he255 ?_
            by_cases hN2 : isN (cn tx N e) = true
            · have h65 : 65 ≤ cn tx N e ∧ cn tx N e ≤ 90 := by
                unfold isN at hN2
                simpa using hN2
              have heN : e < N := cn_lt (tx := tx) (by omega)
              rw [if_pos hN2] at hat
              rw [hN2]
              show px_P _ _ (111, [(0, .ref m), (1, .int (nI c)), (2, .int (nI a))], [.int 1]) S5 _
              refine px_P.if_ne rfl rfl (fun _ => ?_) (fun h => absurd h ((by decide)))
              refine px_P.sn 8 (f1 := (126, [(0, .ref m), (1, .int (nI c)), (2, .int (nI a))], [.ref m, .int (26 * ((nI c) - 48)), .int 2, .ref m])) (S1 := S5) rfl ?_
              refine px_P.cv rfl rfl rfl (by assumption) rfl ?_
              show px_M _ px_m_Model_look [.ref m] S5 _
              refine pm_stLook (by omega) ht h5 (by omega) (fun S6 h6 => ?_)
              rw [d2] at h6 ⊢
              show px_P _ _ (129, [(0, .ref m), (1, .int (nI c)), (2, .int (nI a))], [.int (nI (cn tx N e)), .int (26 * ((nI c) - 48)), .int 2, .ref m]) S6 _
              refine px_P.sn 4 (f1 := (134, [(0, .ref m), (1, .int (nI c)), (2, .int (nI a))], [.int (nI a), .int (((26 * ((nI c) - 48)) + (nI (cn tx N e))) - 65), .int 2, .ref m])) (S1 := S6) rfl ?_
              have e1 : 26 * (nI c - 48) + nI (cn tx N e) - 65 = nI (26 * (c - 48) + (cn tx N e - 65)) := by
                rw [show (48 : Int32) = nI 48 from rfl, pk_sub (by omega), show (26 : Int32) = nI 26 from rfl, pk_mul, nI_add, show (65 : Int32) = nI 65 from rfl, pk_sub (by omega), show 26 * (c - 48) + cn tx N e - 65 = 26 * (c - 48) + (cn tx N e - 65) by omega]
              rw [e1]
              have c6 := h6.1.1
              refine px_P.cv rfl rfl rfl (by assumption) rfl ?_
              show px_M _ px_m_Model_step [.ref m, .int 2, .int (nI (26 * (c - 48) + (cn tx N e - 65))), .int (nI a)] S6 _
              refine pm_moStep (q4 := (1, 26 * (c - 48) + (cn tx N e - 65), 0, a)) (kd := 2) (by omega) hp (by omega) h6 rfl rfl (fun _ => rfl) (fun S7 A7 h7 => ?_)
              show px_P _ _ (137, [(0, .ref m), (1, .int (nI c)), (2, .int (nI a))], []) S7 _
              refine px_P.sn 1 (f1 := (195, [(0, .ref m), (1, .int (nI c)), (2, .int (nI a))], [])) (S1 := S7) rfl ?_
              exact fin S7 A7 _ _ _ [] h7 (fun S' A' h' => kS _ _ hat S' A' h')
            · rw [if_neg hN2] at hat
              rw [Bool.eq_false_iff.mpr hN2]
              show px_P _ _ (111, [(0, .ref m), (1, .int (nI c)), (2, .int (nI a))], [.int 0]) S5 _
              refine px_P.if_ne rfl rfl (fun h => absurd ((by decide)) h) (fun _ => ?_)
              refine px_P.sn 1 (f1 := (115, [(0, .ref m), (1, .int (nI c)), (2, .int (nI a))], [.int (-1)])) (S1 := S5) rfl ?_
              refine px_P.ret rfl ?_
              exact kN _ nb hat S5 A h5
          · rw [if_neg h46] at hat
            refine px_P.ic_eq rfl rfl (fun h => absurd h ((fun z => h46 ((nI_eq (b := 46) (by omega) (by decide)).mp z)))) (fun _ => ?_)
            refine px_P.sn 1 (f1 := (93, [(0, .ref m), (1, .int (nI c)), (2, .int (nI a))], [.int (-1)])) (S1 := S3) rfl ?_
            refine px_P.ret rfl ?_
            exact kN _ nb hat S3 A h3
        · refine px_P.ic_gt rfl rfl (fun _ => ?_) (fun h => absurd (nI_lt (a := 55) (by omega) (by omega)) h)
          exact brp (fun z => h56 z.2)
      · refine px_P.ic_lt rfl rfl (fun _ => ?_) (fun h => absurd (nI_lt (b := 48) (by omega) (by decide)) h)
        exact brp (fun z => h48 z.1)
