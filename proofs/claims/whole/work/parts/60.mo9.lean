/-! ===== the model: a type word ===== -/
theorem pm_moLookV {d m p a N : Nat} {tx : Nat → Nat} {v : Int32} {q0 : Nat → Int32} {A : Nat → Nat → Int32} {S0 S : px_S} {Q : Option Value → px_S → Prop} (hd : 2 ≤ d) (ht : mt A p tx N) (h : mo_at S m (mq q0 (nI a) (nI p) v) A) (hF : mF S0 S m) (ha : a ≤ N)
    (k : ∀ S', mo_at S' m (mq q0 (nI (nx tx N a)) (nI p) v) A → mF S0 S' m → Q (some (.int (nI (cn tx N (nx tx N a))))) S') : px_M d px_m_Model_look [.ref m] S Q := by
  refine pm_moLook hd h rfl rfl ht ha (fun S' g1 g2 => k S' ?_ (hF.tr g2))
  rw [mq_5] at g1
  exact g1
theorem pm_moWrongV {d m p a : Nat} {v : Int32} {q0 : Nat → Int32} {A : Nat → Nat → Int32} {S0 S : px_S} {Q : Option Value → px_S → Prop} (hd : 1 ≤ d) (hp : p < 96) (h : mo_at S m (mq q0 (nI a) (nI p) v) A) (hF : mF S0 S m)
    (k : ∀ S', mo_at S' m (mq q0 (nI a) (nI p) v) (va_up A 4 (upd (A 4) p (nI a))) → mF S0 S' m → Q (some (.int 0)) S') : px_M d px_m_Model_wrong [.ref m] S Q := by
  have c0 := h.1
  have r4 : S.1 (m + 4) = some (.inl (0, 96, .inl (A 4))) := h.2 4 (by decide) (by decide)
  refine px_M.go (by omega) (Nat.le_of_ble_eq_true rfl) ?_
  refine px_P.sn 1 (f1 := (1, [(0, .ref m)], [.ref m])) (S1 := S) rfl ?_
  refine px_P.gf rfl rfl (by assumption) (v := .ref (m + 4)) rfl ?_
  refine px_P.sn 1 (f1 := (5, [(0, .ref m)], [.ref m, .ref (m + 4)])) (S1 := S) rfl ?_
  refine px_P.gf rfl rfl (by assumption) (v := .int (nI p)) rfl ?_
  refine px_P.sn 1 (f1 := (9, [(0, .ref m)], [.ref m, .int (nI p), .ref (m + 4)])) (S1 := S) rfl ?_
  refine px_P.gf rfl rfl (by assumption) (v := .int (nI a)) rfl ?_
  refine px_P.iastj (j := p) rfl (by assumption) rfl (by omega) (by decide) (fun S1 u1 => ?_)
  refine px_P.sn 1 (f1 := (14, [(0, .ref m)], [.int 0])) (S1 := S1) rfl ?_
  refine px_P.ret rfl ?_
  exact k S1 (h.ar (i := 4) (by decide) (by decide) u1) (hF.tr (mF.u (by omega) (by omega) u1))
set_option maxRecDepth 20000 in
theorem pm_moWord {d m p a N : Nat} {tx : Nat → Nat} {v : Int32} {q0 : Nat → Int32} {A : Nat → Nat → Int32} {S0 S : px_S} {Q : Option Value → px_S → Prop} (hd : 3 ≤ d) (ht : mt A p tx N) (h : mo_at S m (mq q0 (nI a) (nI p) v) A) (hF : mF S0 S m) (ha : a ≤ N)
    (kW : ∀ b, (pz_wd tx N 60 0 a = (none, b) ∨ ∃ w, pz_wd tx N 60 0 a = (some w, b) ∧ nx tx N b = b ∧ ¬ cn tx N b = 61) → ∀ S', mo_at S' m (mq q0 (nI b) (nI p) v) (va_up A 4 (upd (A 4) p (nI b))) → mF S0 S' m → Q (some (.int 0)) S')
    (k : ∀ w b, pz_wd tx N 60 0 a = (some w, b) → b ≤ N → ∀ S', mo_at S' m (mq q0 (nI b) (nI p) v) (va_up A 6 (upd (A 6) p w)) → mF S0 S' m → Q (some (.int 1)) S') : px_M d px_m_Model_readWord [.ref m] S Q := by
  have hN : N ≤ 60 := ht.2.2.2.1
  have hp : p < 96 := ht.2.2.2.2
  have fin : ∀ (w : Int32) (b : Nat) (S1 : px_S), pz_wd tx N 60 0 a = (some w, b) → b ≤ N → mo_at S1 m (mq q0 (nI b) (nI p) v) A → mF S0 S1 m → px_P (d - 1) px_m_Model_readWord (4, [(0, .ref m), (1, .int w), (2, .int 0)], []) S1 Q := by
    intro w b S1 e hb g1 g2
    have c1 := g1.1
    have r6 : S1.1 (m + 6) = some (.inl (0, 96, .inl (A 6))) := g1.2 6 (by decide) (by decide)
    refine px_P.sn 1 (f1 := (5, [(0, .ref m), (1, .int w), (2, .int 0)], [.int 0])) (S1 := S1) rfl ?_
    refine px_P.if_eq rfl rfl (fun _ => ?_) (fun h => absurd ((by decide)) h)
    refine px_P.sn 1 (f1 := (149, [(0, .ref m), (1, .int w), (2, .int 0)], [.ref m])) (S1 := S1) rfl ?_
    refine px_P.gf rfl rfl (by assumption) (v := .ref (m + 6)) rfl ?_
    refine px_P.sn 1 (f1 := (153, [(0, .ref m), (1, .int w), (2, .int 0)], [.ref m, .ref (m + 6)])) (S1 := S1) rfl ?_
    refine px_P.gf rfl rfl (by assumption) (v := .int (nI p)) rfl ?_
    refine px_P.sn 1 (f1 := (157, [(0, .ref m), (1, .int w), (2, .int 0)], [.int w, .int (nI p), .ref (m + 6)])) (S1 := S1) rfl ?_
    refine px_P.iastj (j := p) rfl (by assumption) rfl (by omega) (by decide) (fun S2 u2 => ?_)
    refine px_P.sn 1 (f1 := (159, [(0, .ref m), (1, .int w), (2, .int 0)], [.int 1])) (S1 := S2) rfl ?_
    refine px_P.ret rfl ?_
    exact k w b e hb S2 (g1.ar (i := 6) (by decide) (by decide) u2) (g2.tr (mF.u (by omega) (by omega) u2))
  have lp : ∀ (j : Nat) (w : Int32) (a1 : Nat) (S1 : px_S), N ≤ j + a1 → a1 ≤ N → pz_wd tx N 60 0 a = pz_wd tx N j w a1 → mo_at S1 m (mq q0 (nI a1) (nI p) v) A → mF S0 S1 m → px_P (d - 1) px_m_Model_readWord (4, [(0, .ref m), (1, .int w), (2, .int 1)], []) S1 Q := by
    intro j
    induction j with
    | zero =>
      intro w a1 S1 h1 h2 e g1 g2
      have e1 : nx tx N a1 = a1 := nx_z (by omega)
      have e2 : cn tx N a1 = 0 := cn_N (by omega)
      have c1 := g1.1
      refine px_P.sn 1 (f1 := (5, [(0, .ref m), (1, .int w), (2, .int 1)], [.int 1])) (S1 := S1) rfl ?_
      refine px_P.if_eq rfl rfl (fun h => absurd h ((by decide))) (fun _ => ?_)
      refine px_P.sn 1 (f1 := (9, [(0, .ref m), (1, .int w), (2, .int 1)], [.ref m])) (S1 := S1) rfl ?_
      refine px_P.cv rfl rfl rfl (by assumption) rfl ?_
      show px_M _ px_m_Model_look [.ref m] S1 _
      refine pm_moLookV (by omega) ht g1 g2 h2 (fun S2 g3 g4 => ?_)
      rw [e1] at g3 ⊢
      rw [e2]
      show px_P _ _ (12, [(0, .ref m), (1, .int w), (2, .int 1)], [.int (nI 0)]) S2 _
      refine px_P.call rfl ?_
      show px_M _ px_m_Model_letterOf [.int (nI 0)] S2 _
      refine pm_moLetter (by omega) (by decide) ?_
      have c2 := g3.1
      show px_P _ _ (15, [(0, .ref m), (1, .int w), (2, .int 1)], [.int (-1)]) S2 _
      refine px_P.sn 2 (f1 := (17, [(0, .ref m), (1, .int w), (2, .int 1), (3, .int (-1))], [.int (-1)])) (S1 := S2) rfl ?_
      refine px_P.if_ge rfl rfl (fun h => absurd h ((by decide))) (fun _ => ?_)
      refine px_P.sn 1 (f1 := (21, [(0, .ref m), (1, .int w), (2, .int 1), (3, .int (-1))], [.ref m])) (S1 := S2) rfl ?_
      refine px_P.cv rfl rfl rfl (by assumption) rfl ?_
      show px_M _ px_m_Model_wrong [.ref m] S2 _
      refine pm_moWrongV (by omega) hp g3 g4 (fun S3 g5 g6 => ?_)
      show px_P _ _ (24, [(0, .ref m), (1, .int w), (2, .int 1), (3, .int (-1))], [.int 0]) S3 _
      refine px_P.ret rfl ?_
      exact kW a1 (Or.inl e) S3 g5 g6
    | succ j ih =>
      intro w a1 S1 h1 h2 e g1 g2
      have n1 := nx_le (tx := tx) h2
      have un : pz_wd tx N (j + 1) w a1 = (match lt (cn tx N (nx tx N a1)) with
        | none => (none, nx tx N a1)
        | some l => (match pz_br tx N 3 0 (nx tx N a1 + 1) with
          | (none, b) => (none, b)
          | (some t, b) => if cn tx N (nx tx N b) = 124 then pz_wd tx N j (w ||| (1 <<< (nI (l + 5 * t) &&& 31))) (nx tx N b + 1) else (some (w ||| (1 <<< (nI (l + 5 * t) &&& 31))), nx tx N b))) := rfl
      rw [un] at e
      clear un
      generalize ea : nx tx N a1 = a2 at e n1
      have h255 : cn tx N a2 ≤ 255 := ht.cn a2
      have c1 := g1.1
      refine px_P.sn 1 (f1 := (5, [(0, .ref m), (1, .int w), (2, .int 1)], [.int 1])) (S1 := S1) rfl ?_
      refine px_P.if_eq rfl rfl (fun h => absurd h ((by decide))) (fun _ => ?_)
      refine px_P.sn 1 (f1 := (9, [(0, .ref m), (1, .int w), (2, .int 1)], [.ref m])) (S1 := S1) rfl ?_
      refine px_P.cv rfl rfl rfl (by assumption) rfl ?_
      show px_M _ px_m_Model_look [.ref m] S1 _
      refine pm_moLookV (by omega) ht g1 g2 h2 (fun S2 g3 g4 => ?_)
      rw [ea] at g3 ⊢
      have c2 := g3.1
      show px_P _ _ (12, [(0, .ref m), (1, .int w), (2, .int 1)], [.int (nI (cn tx N a2))]) S2 _
      refine px_P.call rfl ?_
      show px_M _ px_m_Model_letterOf [.int (nI (cn tx N a2))] S2 _
      refine pm_moLetter (by omega) h255 ?_
      cases hl : lt (cn tx N a2) with
      | none =>
        rw [hl] at e
        show px_P _ _ (15, [(0, .ref m), (1, .int w), (2, .int 1)], [.int (-1)]) S2 _
        refine px_P.sn 2 (f1 := (17, [(0, .ref m), (1, .int w), (2, .int 1), (3, .int (-1))], [.int (-1)])) (S1 := S2) rfl ?_
        refine px_P.if_ge rfl rfl (fun h => absurd h ((by decide))) (fun _ => ?_)
        refine px_P.sn 1 (f1 := (21, [(0, .ref m), (1, .int w), (2, .int 1), (3, .int (-1))], [.ref m])) (S1 := S2) rfl ?_
        refine px_P.cv rfl rfl rfl (by assumption) rfl ?_
        show px_M _ px_m_Model_wrong [.ref m] S2 _
        refine pm_moWrongV (by omega) hp g3 g4 (fun S3 g5 g6 => ?_)
        show px_P _ _ (24, [(0, .ref m), (1, .int w), (2, .int 1), (3, .int (-1))], [.int 0]) S3 _
        refine px_P.ret rfl ?_
        exact kW a2 (Or.inl e) S3 g5 g6
      | some l =>
        rw [hl] at e
        simp only at e
        have hl5 := lt_5 hl
        have haN : a2 < N := cn_lt (tx := tx) (lt_nz hl)
        rw [rv_s]
        show px_P _ _ (15, [(0, .ref m), (1, .int w), (2, .int 1)], [.int (nI l)]) S2 _
        refine px_P.sn 2 (f1 := (17, [(0, .ref m), (1, .int w), (2, .int 1), (3, .int (nI l))], [.int (nI l)])) (S1 := S2) rfl ?_
        refine px_P.if_ge rfl rfl (fun _ => ?_) (fun h => absurd ((nI_pos' (by omega))) h)
        refine px_P.sn 2 (f1 := (27, [(0, .ref m), (1, .int w), (2, .int 1), (3, .int (nI l))], [.ref m, .ref m])) (S1 := S2) rfl ?_
        refine px_P.gf rfl rfl (by assumption) (v := .int (nI a2)) rfl ?_
        refine px_P.sn 2 (f1 := (32, [(0, .ref m), (1, .int w), (2, .int 1), (3, .int (nI l))], [.int ((nI a2) + 1), .ref m])) (S1 := S2) rfl ?_
        rw [nI_1]
        refine px_P.pf rfl rfl (by assumption) rfl (fun S3 u3 => ?_)
        have g5 : mo_at S3 m (mq q0 (nI (a2 + 1)) (nI p) v) A := g3.ob u3
        have g6 := g4.tr (mF.u (Nat.le_refl _) (by omega) u3)
        refine px_P.sn 2 (f1 := (38, [(0, .ref m), (1, .int w), (2, .int 1), (3, .int (nI l)), (4, .int 0)], [])) (S1 := S3) rfl ?_
        have beh : ∀ (t b : Nat) (S4 : px_S), t ≤ 3 → b ≤ N → a2 < b → pz_br tx N 3 0 (a2 + 1) = (some t, b) → mo_at S4 m (mq q0 (nI (nx tx N b)) (nI p) v) A → mF S0 S4 m → px_P (d - 1) px_m_Model_readWord (98, [(0, .ref m), (1, .int w), (2, .int 1), (3, .int (nI l)), (4, .int (nI t))], []) S4 Q := by
          intro t b S4 ht3 hb hab eb g7 g8
          rw [eb] at e
          simp only at e
          have n2 := nx_le (tx := tx) hb
          have n3 := nx_nx (tx := tx) hb
          generalize nx tx N b = b' at e g7 n2 n3
          have hb255 : cn tx N b' ≤ 255 := ht.cn b'
          have c4 := g7.1
          refine px_P.sn 9 (f1 := (108, [(0, .ref m), (1, .int w), (2, .int 1), (3, .int (nI l)), (4, .int (nI t))], [.int (w ||| (1 <<< (((nI l) + (5 * (nI t))) &&& 31)))])) (S1 := S4) rfl ?_
          have ew : w ||| ((1 : Int32) <<< ((nI l + 5 * nI t) &&& 31)) = w ||| (1 <<< (nI (l + 5 * t) &&& 31)) := by
            rw [show (5 : Int32) * nI t = nI (5 * t) by rw [show (5 : Int32) = nI 5 from rfl, pk_mul], nI_add]
          rw [ew]
          generalize w ||| ((1 : Int32) <<< (nI (l + 5 * t) &&& 31)) = w' at e ⊢
          refine px_P.sn 2 (f1 := (110, [(0, .ref m), (1, .int w'), (2, .int 1), (3, .int (nI l)), (4, .int (nI t))], [.ref m])) (S1 := S4) rfl ?_
          refine px_P.cv rfl rfl rfl (by assumption) rfl ?_
          show px_M _ px_m_Model_look [.ref m] S4 _
          refine pm_moLookV (by omega) ht g7 g8 n2.2 (fun S5 g9 g10 => ?_)
          rw [n3] at g9 ⊢
          have c5 := g9.1
          show px_P _ _ (113, [(0, .ref m), (1, .int w'), (2, .int 1), (3, .int (nI l)), (4, .int (nI t))], [.int (nI (cn tx N b'))]) S5 _
          refine px_P.sn 1 (f1 := (115, [(0, .ref m), (1, .int w'), (2, .int 1), (3, .int (nI l)), (4, .int (nI t))], [.int 124, .int (nI (cn tx N b'))])) (S1 := S5) rfl ?_
          refine px_P.ic_ne rfl rfl (fun q => ?_) (fun q => ?_)
          · rw [if_neg (fun z => q (by rw [z]; rfl))] at e
            refine px_P.sn 4 (f1 := (126, [(0, .ref m), (1, .int w'), (2, .int 0), (3, .int (nI l)), (4, .int (nI t))], [.int 0, .ref m])) (S1 := S5) rfl ?_
            refine px_P.if_eq rfl rfl (fun _ => ?_) (fun h => absurd ((by decide)) h)
            refine px_P.sn 1 (f1 := (139, [(0, .ref m), (1, .int w'), (2, .int 0), (3, .int (nI l)), (4, .int (nI t))], [.ref m, .ref m])) (S1 := S5) rfl ?_
            refine px_P.gf rfl rfl (by assumption) (v := .int (nI b')) rfl ?_
            refine px_P.pf rfl rfl (by assumption) rfl (fun S6 u6 => ?_)
            refine px_P.sn 1 (f1 := (4, [(0, .ref m), (1, .int w'), (2, .int 0), (3, .int (nI l)), (4, .int (nI t))], [])) (S1 := S6) rfl ?_
            show px_P _ _ (4, [(0, .ref m), (1, .int w'), (2, .int 0), (3, .int (nI l)), (4, .int (nI t))], []) S6 _
            refine px_P.wk (ls := [(0, .ref m), (1, .int w'), (2, .int 0)]) rfl (.cons_cons _ (.cons_cons _ (.cons_cons _ (.cons _ (.cons _ .slnil))))) ?_
            exact fin w' b' S6 e n2.2 (g9.ob u6) (g10.tr (mF.u (Nat.le_refl _) (by omega) u6))
          · have q' : cn tx N b' = 124 := (nI_eq (b := 124) (by omega) (by decide)).mp q
            have hbN : b' < N := cn_lt (tx := tx) (by omega)
            rw [if_pos q'] at e
            refine px_P.sn 5 (f1 := (126, [(0, .ref m), (1, .int w'), (2, .int 1), (3, .int (nI l)), (4, .int (nI t))], [.int 1, .ref m])) (S1 := S5) rfl ?_
            refine px_P.if_eq rfl rfl (fun h => absurd h ((by decide))) (fun _ => ?_)
            refine px_P.sn 1 (f1 := (130, [(0, .ref m), (1, .int w'), (2, .int 1), (3, .int (nI l)), (4, .int (nI t))], [.ref m, .ref m])) (S1 := S5) rfl ?_
            refine px_P.gf rfl rfl (by assumption) (v := .int (nI b')) rfl ?_
            refine px_P.sn 3 (f1 := (142, [(0, .ref m), (1, .int w'), (2, .int 1), (3, .int (nI l)), (4, .int (nI t))], [.int ((nI b') + 1), .ref m])) (S1 := S5) rfl ?_
            rw [nI_1]
            refine px_P.pf rfl rfl (by assumption) rfl (fun S6 u6 => ?_)
            refine px_P.sn 1 (f1 := (4, [(0, .ref m), (1, .int w'), (2, .int 1), (3, .int (nI l)), (4, .int (nI t))], [])) (S1 := S6) rfl ?_
            show px_P _ _ (4, [(0, .ref m), (1, .int w'), (2, .int 1), (3, .int (nI l)), (4, .int (nI t))], []) S6 _
            refine px_P.wk (ls := [(0, .ref m), (1, .int w'), (2, .int 1)]) rfl (.cons_cons _ (.cons_cons _ (.cons_cons _ (.cons _ (.cons _ .slnil))))) ?_
            exact ih w' (b' + 1) S6 (by omega) (by omega) e (g9.ob u6) (g10.tr (mF.u (Nat.le_refl _) (by omega) u6))
        have bl : ∀ (kk t b : Nat) (S4 : px_S), t + kk = 3 → b ≤ N → a2 < b → pz_br tx N 3 0 (a2 + 1) = pz_br tx N kk t b → mo_at S4 m (mq q0 (nI b) (nI p) v) A → mF S0 S4 m → px_P (d - 1) px_m_Model_readWord (38, [(0, .ref m), (1, .int w), (2, .int 1), (3, .int (nI l)), (4, .int (nI t))], []) S4 Q := by
          intro kk
          induction kk with
          | zero =>
            intro t b S4 ht3 hb hab eb g7 g8
            have e3 : t = 3 := by omega
            subst e3
            have eb' : pz_br tx N 3 0 (a2 + 1) = (some 3, b) := eb
            have n2 := nx_le (tx := tx) hb
            have n3 := nx_nx (tx := tx) hb
            have hb255 : cn tx N (nx tx N b) ≤ 255 := ht.cn _
            have bh := beh 3 b
            have c4 := g7.1
            refine px_P.sn 1 (f1 := (39, [(0, .ref m), (1, .int w), (2, .int 1), (3, .int (nI l)), (4, .int (nI 3))], [.ref m])) (S1 := S4) rfl ?_
            refine px_P.cv rfl rfl rfl (by assumption) rfl ?_
            show px_M _ px_m_Model_look [.ref m] S4 _
            refine pm_moLookV (by omega) ht g7 g8 hb (fun S5 g9 g10 => ?_)
            have c5 := g9.1
            generalize enb : nx tx N b = b' at *
            show px_P _ _ (42, [(0, .ref m), (1, .int w), (2, .int 1), (3, .int (nI l)), (4, .int (nI 3))], [.int (nI (cn tx N b'))]) S5 _
            refine px_P.sn 1 (f1 := (44, [(0, .ref m), (1, .int w), (2, .int 1), (3, .int (nI l)), (4, .int (nI 3))], [.int 91, .int (nI (cn tx N b'))])) (S1 := S5) rfl ?_
            refine px_P.ic_ne rfl rfl (fun q => ?_) (fun q => ?_)
            · exact bh S5 (by decide) hb hab eb' g9 g10
            · have q' : cn tx N b' = 91 := (nI_eq (b := 91) (by omega) (by decide)).mp q
              refine px_P.sn 2 (f1 := (50, [(0, .ref m), (1, .int w), (2, .int 1), (3, .int (nI l)), (4, .int (nI 3))], [.int 3, .int (nI 3)])) (S1 := S5) rfl ?_
              refine px_P.ic_ne rfl rfl (fun h => absurd ((show nI 3 = 3 from rfl)) h) (fun _ => ?_)
              refine px_P.sn 1 (f1 := (54, [(0, .ref m), (1, .int w), (2, .int 1), (3, .int (nI l)), (4, .int (nI 3))], [.ref m])) (S1 := S5) rfl ?_
              refine px_P.cv rfl rfl rfl (by assumption) rfl ?_
              show px_M _ px_m_Model_wrong [.ref m] S5 _
              refine pm_moWrongV (by omega) hp g9 g10 (fun S6 g11 g12 => ?_)
              show px_P _ _ (57, [(0, .ref m), (1, .int w), (2, .int 1), (3, .int (nI l)), (4, .int (nI 3))], [.int 0]) S6 _
              refine px_P.ret rfl ?_
              rw [eb'] at e
              simp only [enb] at e
              rw [if_neg (by omega)] at e
              exact kW b' (Or.inr ⟨_, e, n3, by omega⟩) S6 g11 g12
          | succ kk ihk =>
            intro t b S4 ht3 hb hab eb g7 g8
            have n2 := nx_le (tx := tx) hb
            have n3 := nx_nx (tx := tx) hb
            have un : pz_br tx N (kk + 1) t b = (if cn tx N (nx tx N b) = 91 then (if cn tx N (nx tx N (nx tx N b + 1)) = 93 then pz_br tx N kk (t + 1) (nx tx N (nx tx N b + 1) + 1) else (none, nx tx N (nx tx N b + 1))) else (some t, nx tx N b)) := rfl
            rw [un] at eb
            clear un
            have hb255 : cn tx N (nx tx N b) ≤ 255 := ht.cn _
            have c4 := g7.1
            refine px_P.sn 1 (f1 := (39, [(0, .ref m), (1, .int w), (2, .int 1), (3, .int (nI l)), (4, .int (nI t))], [.ref m])) (S1 := S4) rfl ?_
            refine px_P.cv rfl rfl rfl (by assumption) rfl ?_
            show px_M _ px_m_Model_look [.ref m] S4 _
            refine pm_moLookV (by omega) ht g7 g8 hb (fun S5 g9 g10 => ?_)
            have c5 := g9.1
            generalize enb : nx tx N b = b' at *
            show px_P _ _ (42, [(0, .ref m), (1, .int w), (2, .int 1), (3, .int (nI l)), (4, .int (nI t))], [.int (nI (cn tx N b'))]) S5 _
            refine px_P.sn 1 (f1 := (44, [(0, .ref m), (1, .int w), (2, .int 1), (3, .int (nI l)), (4, .int (nI t))], [.int 91, .int (nI (cn tx N b'))])) (S1 := S5) rfl ?_
            refine px_P.ic_ne rfl rfl (fun q => ?_) (fun q => ?_)
            · rw [if_neg (fun z => q (by rw [z]; rfl))] at eb
              exact beh t b' S5 (by omega) n2.2 (by omega) eb (by rw [n3]; exact g9) g10
            · have q' : cn tx N b' = 91 := (nI_eq (b := 91) (by omega) (by decide)).mp q
              have hbN : b' < N := cn_lt (tx := tx) (by omega)
              rw [if_pos q'] at eb
              have n4 := nx_le (tx := tx) (show b' + 1 ≤ N by omega)
              have hc255 : cn tx N (nx tx N (b' + 1)) ≤ 255 := ht.cn _
              refine px_P.sn 2 (f1 := (50, [(0, .ref m), (1, .int w), (2, .int 1), (3, .int (nI l)), (4, .int (nI t))], [.int 3, .int (nI t)])) (S1 := S5) rfl ?_
              refine px_P.ic_ne rfl rfl (fun _ => ?_) (fun h => absurd h ((fun z => absurd ((nI_eq (b := 3) (by omega) (by decide)).mp z) (by omega))))
              refine px_P.sn 2 (f1 := (60, [(0, .ref m), (1, .int w), (2, .int 1), (3, .int (nI l)), (4, .int (nI t))], [.ref m, .ref m])) (S1 := S5) rfl ?_
              refine px_P.gf rfl rfl (by assumption) (v := .int (nI b')) rfl ?_
              refine px_P.sn 2 (f1 := (65, [(0, .ref m), (1, .int w), (2, .int 1), (3, .int (nI l)), (4, .int (nI t))], [.int ((nI b') + 1), .ref m])) (S1 := S5) rfl ?_
              rw [nI_1]
              refine px_P.pf rfl rfl (by assumption) rfl (fun S6 u6 => ?_)
              have g11 : mo_at S6 m (mq q0 (nI (b' + 1)) (nI p) v) A := g9.ob u6
              have g12 := g10.tr (mF.u (Nat.le_refl _) (by omega) u6)
              have c6 := g11.1
              refine px_P.sn 1 (f1 := (69, [(0, .ref m), (1, .int w), (2, .int 1), (3, .int (nI l)), (4, .int (nI t))], [.ref m])) (S1 := S6) rfl ?_
              refine px_P.cv rfl rfl rfl (by assumption) rfl ?_
              show px_M _ px_m_Model_look [.ref m] S6 _
              refine pm_moLookV (by omega) ht g11 g12 (by omega) (fun S7 g13 g14 => ?_)
              have c7 := g13.1
              generalize enc : nx tx N (b' + 1) = b2 at *
              show px_P _ _ (72, [(0, .ref m), (1, .int w), (2, .int 1), (3, .int (nI l)), (4, .int (nI t))], [.int (nI (cn tx N b2))]) S7 _
              refine px_P.sn 1 (f1 := (74, [(0, .ref m), (1, .int w), (2, .int 1), (3, .int (nI l)), (4, .int (nI t))], [.int 93, .int (nI (cn tx N b2))])) (S1 := S7) rfl ?_
              refine px_P.ic_eq rfl rfl (fun q2 => ?_) (fun q2 => ?_)
              · have q2' : cn tx N b2 = 93 := (nI_eq (b := 93) (by omega) (by decide)).mp q2
                have hbN2 : b2 < N := cn_lt (tx := tx) (by omega)
                rw [if_pos q2'] at eb
                refine px_P.sn 2 (f1 := (84, [(0, .ref m), (1, .int w), (2, .int 1), (3, .int (nI l)), (4, .int (nI t))], [.ref m, .ref m])) (S1 := S7) rfl ?_
                refine px_P.gf rfl rfl (by assumption) (v := .int (nI b2)) rfl ?_
                refine px_P.sn 2 (f1 := (89, [(0, .ref m), (1, .int w), (2, .int 1), (3, .int (nI l)), (4, .int (nI t))], [.int ((nI b2) + 1), .ref m])) (S1 := S7) rfl ?_
                rw [nI_1]
                refine px_P.pf rfl rfl (by assumption) rfl (fun S8 u8 => ?_)
                refine px_P.sn 2 (f1 := (38, [(0, .ref m), (1, .int w), (2, .int 1), (3, .int (nI l)), (4, .int ((nI t) + 1))], [])) (S1 := S8) rfl ?_
                rw [nI_1]
                exact ihk (t + 1) (b2 + 1) S8 (by omega) (by omega) (by omega) eb (g13.ob u8) (g14.tr (mF.u (Nat.le_refl _) (by omega) u8))
              · rw [if_neg (fun z => q2 (by rw [z]; rfl))] at eb
                refine px_P.sn 1 (f1 := (78, [(0, .ref m), (1, .int w), (2, .int 1), (3, .int (nI l)), (4, .int (nI t))], [.ref m])) (S1 := S7) rfl ?_
                refine px_P.cv rfl rfl rfl (by assumption) rfl ?_
                show px_M _ px_m_Model_wrong [.ref m] S7 _
                refine pm_moWrongV (by omega) hp g13 g14 (fun S8 g15 g16 => ?_)
                show px_P _ _ (81, [(0, .ref m), (1, .int w), (2, .int 1), (3, .int (nI l)), (4, .int (nI t))], [.int 0]) S8 _
                refine px_P.ret rfl ?_
                rw [eb] at e
                exact kW b2 (Or.inl e) S8 g15 g16
        exact bl 3 0 (a2 + 1) S3 (by omega) (by omega) (by omega) rfl g5 g6
  refine px_M.go (by omega) (Nat.le_of_ble_eq_true rfl) ?_
  refine px_P.sn 4 (f1 := (4, [(0, .ref m), (1, .int 0), (2, .int 1)], [])) (S1 := S) rfl ?_
  exact lp 60 0 a S (by omega) ha rfl h hF
