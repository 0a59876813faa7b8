/-! ===== the model: a line is read ===== -/
/-- the line at p as it was read -/
def mr (A : Nat → Nat → Int32) (p : Nat) (L : ln_S) : Prop := A 4 p = ln_wr L ∧ A 5 p = ln_df L ∧ (ln_wr L = -1 → A 6 p = ln_dc L ∧ A 7 p = ln_eq L ∧ ste A p (ln_n L) (ln_st L))
def rdF (A A' : Nat → Nat → Int32) (p : Nat) : Prop := (∀ i, i < 4 ∨ (11 < i ∧ i ≠ 24) → A' i = A i) ∧ (∀ i j, 4 ≤ i → i ≤ 8 → j ≠ p → A' i j = A i j) ∧ ∀ i j, 9 ≤ i → i ≤ 11 → (j < 64 * p ∨ 64 * p + 64 ≤ j) → A' i j = A i j
theorem rdF.rf (A : Nat → Nat → Int32) (p : Nat) : rdF A A p := ⟨fun _ _ => rfl, fun _ _ _ _ _ => rfl, fun _ _ _ _ _ => rfl⟩
theorem rdF.tr {A B C : Nat → Nat → Int32} {p : Nat} (h : rdF A B p) (k : rdF B C p) : rdF A C p := ⟨fun i hi => (k.1 i hi).trans (h.1 i hi), fun i j h1 h2 h3 => (k.2.1 i j h1 h2 h3).trans (h.2.1 i j h1 h2 h3), fun i j h1 h2 h3 => (k.2.2 i j h1 h2 h3).trans (h.2.2 i j h1 h2 h3)⟩
theorem rdF.up {A : Nat → Nat → Int32} {p i : Nat} {x : Int32} (h1 : 4 ≤ i) (h2 : i ≤ 8) : rdF A (va_up A i (upd (A i) p x)) p := by
  refine ⟨fun j hj => ?_, fun j c q1 q2 hc => ?_, fun j c q1 q2 hc => ?_⟩
  · simp only [va_up, if_neg (show ¬ j = i by omega)]
  · by_cases e : j = i
    · subst e; simp only [va_up, if_true]; rw [pk_un hc]
    · simp only [va_up, if_neg e]
  · simp only [va_up, if_neg (show ¬ j = i by omega)]
theorem rdF.sth {A B : Nat → Nat → Int32} {p : Nat} (h : sth A B p) : rdF A B p := by
  refine ⟨fun i hi => h.1 i (by omega) (by omega) (by omega) (by omega) (by omega), fun i j h1 h2 h3 => ?_, h.2.2⟩
  by_cases e : i = 8
  · subst e; exact h.2.1 j h3
  · rw [h.1 i (by omega) (by omega) (by omega) (by omega) (by omega)]
theorem rdF.mt {A B : Nat → Nat → Int32} {p p' N : Nat} {tx : Nat → Nat} (h : rdF A B p) (ht : mt A p' tx N) : mt B p' tx N := by
  unfold _root_.Jvm.Pilot.CCheckDaemonLaw_law_r9510_a6ab17.mt
  rw [h.1 2 (by omega), h.1 3 (by omega)]
  exact ht
theorem va_us {A : Nat → Nat → Int32} {i : Nat} {g : Nat → Int32} : va_up A i g i = g := by simp only [va_up, if_true]
theorem va_un {A : Nat → Nat → Int32} {i j : Nat} {g : Nat → Int32} (h : j ≠ i) : va_up A i g j = A j := by simp only [va_up, if_neg h]
theorem pz_hd_eq (tx : Nat → Nat) (N m : Nat) (df dc : Int32) (b : Nat) (x : Option (Int32 × Int32 × Nat) × Nat) (hx : pz_hd tx N m = x) (h : x = (if cn tx N (nx tx N b) = 61 then (some (df, dc, nx tx N b), nx tx N b + 1) else (none, nx tx N b))) : pz tx N m = (if cn tx N (nx tx N b) = 61 then (match pz_sum tx N m 12 (ps_0 (nx tx N b + 1)) with
    | (none, z) => pz_bad N (ps_a z)
    | (some _, z) => if cn tx N (nx tx N (ps_a z)) = 0 then (N, df, dc, nI (nx tx N b), -1, ps_n z, ps_s z, ps_w z) else pz_bad N (nx tx N (ps_a z))) else pz_bad N (nx tx N b)) := by
  unfold pz
  rw [hx, h]
  by_cases e : cn tx N (nx tx N b) = 61
  · rw [if_pos e, if_pos e]
    rfl
  · rw [if_neg e, if_neg e]
theorem pm_moRead {d m p N : Nat} {tx : Nat → Nat} {q0 : Nat → Int32} {A : Nat → Nat → Int32} {S : px_S} {Q : Option Value → px_S → Prop} (hd : 5 ≤ d) (ht : mt A p tx N) (h : mo_at S m q0 A)
    (k : ∀ S' A' x z, mo_at S' m (mq q0 x (nI p) z) A' → mF S S' m → rdF A A' p → (N = 0 → A' 4 p = -1 ∧ A' 5 p = -1 ∧ A' 6 p = -1 ∧ A' 8 p = 0) → (0 < N → mr A' p (pz tx N (p / 12))) → Q none S') : px_M d px_m_Model_read [.ref m, .int (nI p)] S Q := by
  have hN : N ≤ 60 := ht.2.2.2.1
  have hp : p < 96 := ht.2.2.2.2
  generalize hv : q0 7 = v
  -- the road from the sign on
  have eqp : ∀ (S1 : px_S) (A1 : Nat → Nat → Int32) (b : Nat) (df dc : Int32), 0 < N → b ≤ N → mo_at S1 m (mq q0 (nI b) (nI p) v) A1 → mF S S1 m → rdF A A1 p → A1 4 p = -1 → A1 5 p = -1 → A1 6 p = dc → A1 8 p = nI 0 →
      pz tx N (p / 12) = (if cn tx N (nx tx N b) = 61 then (match pz_sum tx N (p / 12) 12 (ps_0 (nx tx N b + 1)) with
        | (none, z) => pz_bad N (ps_a z)
        | (some _, z) => if cn tx N (nx tx N (ps_a z)) = 0 then (N, df, dc, nI (nx tx N b), -1, ps_n z, ps_s z, ps_w z) else pz_bad N (nx tx N (ps_a z))) else pz_bad N (nx tx N b)) →
      px_P (d - 1) px_m_Model_read (113, [(0, .ref m), (1, .int (nI p)), (2, .int df)], []) S1 Q := by
    intro S1 A1 b df dc hN0 hb g1 g2 g3 w4 w5 w6 w8 ez
    have ht1 := g3.mt ht
    have n1 := nx_le (tx := tx) hb
    have c1 := g1.1
    refine px_P.sn 1 (f1 := (114, [(0, .ref m), (1, .int (nI p)), (2, .int df)], [.ref m])) (S1 := S1) rfl ?_
    refine px_P.cv rfl rfl rfl (by assumption) rfl ?_
    show px_M _ px_m_Model_look [.ref m] S1 _
    refine pm_moLookV (by omega) ht1 g1 g2 hb (fun S2 g4 g5 => ?_)
    generalize nx tx N b = b' at *
    have h255 : cn tx N b' ≤ 255 := ht.cn b'
    have c2 := g4.1
    show px_P _ _ (117, [(0, .ref m), (1, .int (nI p)), (2, .int df)], [.int (nI (cn tx N b'))]) S2 _
    refine px_P.sn 1 (f1 := (119, [(0, .ref m), (1, .int (nI p)), (2, .int df)], [.int 61, .int (nI (cn tx N b'))])) (S1 := S2) rfl ?_
    refine px_P.ic_eq rfl rfl (fun q => ?_) (fun q => ?_)
    · have q' : cn tx N b' = 61 := (nI_eq (b := 61) (by omega) (by decide)).mp q
      have hbN : b' < N := cn_lt (tx := tx) (by omega)
      rw [if_pos q'] at ez
      have r7 : S2.1 (m + 7) = some (.inl (0, 96, .inl (A1 7))) := g4.2 7 (by decide) (by decide)
      refine px_P.sn 1 (f1 := (129, [(0, .ref m), (1, .int (nI p)), (2, .int df)], [.ref m])) (S1 := S2) rfl ?_
      refine px_P.gf rfl rfl (by assumption) (v := .ref (m + 7)) rfl ?_
      refine px_P.sn 2 (f1 := (134, [(0, .ref m), (1, .int (nI p)), (2, .int df)], [.ref m, .int (nI p), .ref (m + 7)])) (S1 := S2) rfl ?_
      refine px_P.gf rfl rfl (by assumption) (v := .int (nI b')) rfl ?_
      refine px_P.iastj (j := p) rfl (by assumption) rfl (by omega) (by decide) (fun S3 u3 => ?_)
      have g6 := g4.ar (i := 7) (by decide) (by decide) u3
      have g7 := g5.tr (mF.u (by omega) (by omega) u3)
      have c3 := g6.1
      refine px_P.sn 2 (f1 := (140, [(0, .ref m), (1, .int (nI p)), (2, .int df)], [.ref m, .ref m])) (S1 := S3) rfl ?_
      refine px_P.gf rfl rfl (by assumption) (v := .int (nI b')) rfl ?_
      refine px_P.sn 2 (f1 := (145, [(0, .ref m), (1, .int (nI p)), (2, .int df)], [.int ((nI b') + 1), .ref m])) (S1 := S3) rfl ?_
      rw [nI_1]
      refine px_P.pf rfl rfl (by assumption) rfl (fun S4 u4 => ?_)
      have g8 : mo_at S4 m (mq q0 (nI (b' + 1)) (nI p) v) (va_up A1 7 (upd (A1 7) p (nI b'))) := g6.ob u4
      have g9 := g7.tr (mF.u (Nat.le_refl _) (by omega) u4)
      have c4 := g8.1
      have rA : rdF A (va_up A1 7 (upd (A1 7) p (nI b'))) p := g3.tr (rdF.up (by decide) (by decide))
      have bad : ∀ a' : Nat, a' ≤ N → pz tx N (p / 12) = pz_bad N a' → ∀ (S5 : px_S) (A5 : Nat → Nat → Int32) (n : Nat) (st : xe_T) (O : List Nat) (S6 : px_S), stm S S5 m p q0 (va_up A1 7 (upd (A1 7) p (nI b'))) A5 a' n st O → px_Up S5 S6 (m + 4) (.inl (0, 96, .inl (upd (A5 4) p (nI a')))) → px_P (d - 1) px_m_Model_read (152, [(0, .ref m), (1, .int (nI p)), (2, .int df)], [.int 0]) S6 Q := by
        intro a' hla eb S5 A5 n st O S6 f1 f2
        refine px_P.if_eq rfl rfl (fun _ => ?_) (fun h => absurd ((by decide)) h)
        refine px_P.ret rfl ?_
        refine k S6 _ (nI a') (nI O.length) (f1.1.ar (i := 4) (by decide) (by decide) f2) (f1.2.1.tr (mF.u (by omega) (by omega) f2)) ((rA.tr (rdF.sth f1.2.2.1)).tr (rdF.up (by decide) (by decide))) (fun z => absurd z (by omega)) (fun _ => ?_)
        rw [eb]
        refine ⟨by rw [va_us, pk_us]; rfl, ?_, fun z => absurd z ?_⟩
        · rw [va_un (by decide), f1.2.2.1.1 5 (by decide) (by decide) (by decide) (by decide) (by decide), va_un (by decide)]
          exact w5
        · show ¬ nI a' = -1
          exact nI_neg (by omega)
      refine px_P.sn 1 (f1 := (149, [(0, .ref m), (1, .int (nI p)), (2, .int df)], [.ref m])) (S1 := S4) rfl ?_
      refine px_P.cv rfl rfl rfl (by assumption) rfl ?_
      show px_M _ px_m_Model_readExpression [.ref m] S4 _
      refine pm_moExpr (S0 := S) (A0 := va_up A1 7 (upd (A1 7) p (nI b'))) (tx := tx) (by omega) (rA.mt ht) (by omega) g8 g9 ⟨fun _ _ _ _ _ _ => rfl, fun _ _ => rfl, fun _ _ _ _ _ => rfl⟩ (by rw [va_un (by decide)]; exact w8) (fun z hz => ?_) (fun r z hz e0 => ?_) (fun r z hz e0 S5 A5 f1 => ?_)
      · rw [hz] at ez
        intro S5 A5 n st O S6 f1 f2
        have qz := pg_sum (tx := tx) (N := N) (m := p / 12) (by omega) 12 (ps_0 (b' + 1)) (by show b' + 1 ≤ N; omega)
        rw [hz] at qz
        exact bad (ps_a z) qz.2.1 ez S5 A5 n st O S6 f1 f2
      · rw [hz] at ez
        simp only [if_neg e0] at ez
        intro S5 A5 n st O S6 f1 f2
        have qz := pg_sum (tx := tx) (N := N) (m := p / 12) (by omega) 12 (ps_0 (b' + 1)) (by show b' + 1 ≤ N; omega)
        rw [hz] at qz
        exact bad _ (nx_le (tx := tx) qz.2.1).2 ez S5 A5 n st O S6 f1 f2
      · rw [hz] at ez
        simp only [if_pos e0] at ez
        have c5 := f1.1.1
        show px_P _ _ (152, [(0, .ref m), (1, .int (nI p)), (2, .int df)], [.int 1]) S5 _
        refine px_P.if_eq rfl rfl (fun h => absurd h ((by decide))) (fun _ => ?_)
        have r5 : S5.1 (m + 5) = some (.inl (0, 96, .inl (A5 5))) := f1.1.2 5 (by decide) (by decide)
        refine px_P.sn 1 (f1 := (156, [(0, .ref m), (1, .int (nI p)), (2, .int df)], [.ref m])) (S1 := S5) rfl ?_
        refine px_P.gf rfl rfl (by assumption) (v := .ref (m + 5)) rfl ?_
        refine px_P.sn 2 (f1 := (161, [(0, .ref m), (1, .int (nI p)), (2, .int df)], [.int df, .int (nI p), .ref (m + 5)])) (S1 := S5) rfl ?_
        refine px_P.iastj (j := p) rfl (by assumption) rfl (by omega) (by decide) (fun S6 u6 => ?_)
        refine px_P.ret rfl ?_
        refine k S6 _ _ _ (f1.1.ar (i := 5) (by decide) (by decide) u6) (f1.2.1.tr (mF.u (by omega) (by omega) u6)) ((rA.tr (rdF.sth f1.2.2.1)).tr (rdF.up (by decide) (by decide))) (fun z => absurd z (by omega)) (fun _ => ?_)
        rw [ez]
        refine ⟨?_, by rw [va_us, pk_us], fun _ => ⟨?_, ?_, ?_⟩⟩
        · rw [va_un (by decide), f1.2.2.1.1 4 (by decide) (by decide) (by decide) (by decide) (by decide), va_un (by decide)]
          exact w4
        · rw [va_un (by decide), f1.2.2.1.1 6 (by decide) (by decide) (by decide) (by decide) (by decide), va_un (by decide)]
          exact w6
        · rw [va_un (by decide), f1.2.2.1.1 7 (by decide) (by decide) (by decide) (by decide) (by decide), va_us, pk_us]
        · exact f1.2.2.2.1
    · rw [if_neg (fun z => q (by rw [z]; rfl))] at ez
      refine px_P.sn 1 (f1 := (123, [(0, .ref m), (1, .int (nI p)), (2, .int df)], [.ref m])) (S1 := S2) rfl ?_
      refine px_P.cv rfl rfl rfl (by assumption) rfl ?_
      show px_M _ px_m_Model_wrong [.ref m] S2 _
      refine pm_moWrongV (by omega) hp g4 g5 (fun S3 g6 g7 => ?_)
      show px_P _ _ (126, [(0, .ref m), (1, .int (nI p)), (2, .int df)], [.int 0]) S3 _
      refine px_P.sn 1 (f1 := (127, [(0, .ref m), (1, .int (nI p)), (2, .int df)], [])) (S1 := S3) rfl ?_
      refine px_P.ret rfl ?_
      refine k S3 _ _ _ g6 g7 (g3.tr (rdF.up (by decide) (by decide))) (fun z => absurd z (by omega)) (fun _ => ?_)
      rw [ez]
      exact ⟨by rw [va_us, pk_us]; rfl, by rw [va_un (by decide)]; exact w5, fun z => absurd z (nI_neg (by omega))⟩
  have c0 := h.1
  refine px_M.go (by omega) (Nat.le_of_ble_eq_true rfl) ?_
  refine px_P.sn 2 (f1 := (2, [(0, .ref m), (1, .int (nI p))], [.int (nI p), .ref m])) (S1 := S) rfl ?_
  refine px_P.pf rfl rfl h.1 rfl (fun S1 u1 => ?_)
  refine px_P.sn 2 (f1 := (7, [(0, .ref m), (1, .int (nI p))], [.int 0, .ref m])) (S1 := S1) rfl ?_
  have g1 : mo_at S1 m (mq q0 (q0 5) (nI p) v) A := by
    refine h.ob ?_
    rw [← hv]
    exact u1
  have c1 := g1.1
  refine px_P.pf rfl rfl (by assumption) rfl (fun S2 u2 => ?_)
  have g2 : mo_at S2 m (mq q0 (nI 0) (nI p) v) A := g1.ob u2
  have f2 : mF S S2 m := (mF.u (Nat.le_refl _) (by omega) u1).tr (mF.u (Nat.le_refl _) (by omega) u2)
  have c2 := g2.1
  have r4 : S2.1 (m + 4) = some (.inl (0, 96, .inl (A 4))) := g2.2 4 (by decide) (by decide)
  refine px_P.sn 1 (f1 := (11, [(0, .ref m), (1, .int (nI p))], [.ref m])) (S1 := S2) rfl ?_
  refine px_P.gf rfl rfl (by assumption) (v := .ref (m + 4)) rfl ?_
  refine px_P.sn 2 (f1 := (16, [(0, .ref m), (1, .int (nI p))], [.int (-1), .int (nI p), .ref (m + 4)])) (S1 := S2) rfl ?_
  refine px_P.iastj (j := p) rfl (by assumption) rfl (by omega) (by decide) (fun S3 u3 => ?_)
  have g3 := g2.ar (i := 4) (by decide) (by decide) u3
  have f3 := f2.tr (mF.u (by omega) (by omega) u3)
  have c3 := g3.1
  have r5 : S3.1 (m + 5) = some (.inl (0, 96, .inl (A 5))) := g3.2 5 (by decide) (by decide)
  refine px_P.sn 1 (f1 := (18, [(0, .ref m), (1, .int (nI p))], [.ref m])) (S1 := S3) rfl ?_
  refine px_P.gf rfl rfl (by assumption) (v := .ref (m + 5)) rfl ?_
  refine px_P.sn 2 (f1 := (23, [(0, .ref m), (1, .int (nI p))], [.int (-1), .int (nI p), .ref (m + 5)])) (S1 := S3) rfl ?_
  refine px_P.iastj (j := p) rfl (by assumption) rfl (by omega) (by decide) (fun S4 u4 => ?_)
  have g4 := g3.ar (i := 5) (by decide) (by decide) u4
  have f4 := f3.tr (mF.u (by omega) (by omega) u4)
  have c4 := g4.1
  have r6 : S4.1 (m + 6) = some (.inl (0, 96, .inl (A 6))) := g4.2 6 (by decide) (by decide)
  refine px_P.sn 1 (f1 := (25, [(0, .ref m), (1, .int (nI p))], [.ref m])) (S1 := S4) rfl ?_
  refine px_P.gf rfl rfl (by assumption) (v := .ref (m + 6)) rfl ?_
  refine px_P.sn 2 (f1 := (30, [(0, .ref m), (1, .int (nI p))], [.int (-1), .int (nI p), .ref (m + 6)])) (S1 := S4) rfl ?_
  refine px_P.iastj (j := p) rfl (by assumption) rfl (by omega) (by decide) (fun S5 u5 => ?_)
  have g5 := g4.ar (i := 6) (by decide) (by decide) u5
  have f5 := f4.tr (mF.u (by omega) (by omega) u5)
  have c5 := g5.1
  have r8 : S5.1 (m + 8) = some (.inl (0, 96, .inl (A 8))) := g5.2 8 (by decide) (by decide)
  refine px_P.sn 1 (f1 := (32, [(0, .ref m), (1, .int (nI p))], [.ref m])) (S1 := S5) rfl ?_
  refine px_P.gf rfl rfl (by assumption) (v := .ref (m + 8)) rfl ?_
  refine px_P.sn 2 (f1 := (37, [(0, .ref m), (1, .int (nI p))], [.int 0, .int (nI p), .ref (m + 8)])) (S1 := S5) rfl ?_
  refine px_P.iastj (j := p) rfl (by assumption) rfl (by omega) (by decide) (fun S6 u6 => ?_)
  have g6 := g5.ar (i := 8) (by decide) (by decide) u6
  have f6 := f5.tr (mF.u (by omega) (by omega) u6)
  have c6 := g6.1
  have r2 : S6.1 (m + 2) = some (.inl (0, 96, .inl (A 2))) := g6.2 2 (by decide) (by decide)
  have a4 : ∃ A6, mo_at S6 m (mq q0 (nI 0) (nI p) v) A6 ∧ rdF A A6 p ∧ A6 4 p = -1 ∧ A6 5 p = -1 ∧ A6 6 p = -1 ∧ A6 8 p = 0 := by
    refine ⟨_, g6, (((rdF.up (by decide) (by decide)).tr (rdF.up (i := 5) (x := -1) (by decide) (by decide))).tr (rdF.up (i := 6) (x := -1) (by decide) (by decide))).tr (rdF.up (i := 8) (x := 0) (by decide) (by decide)), ?_, ?_, ?_, ?_⟩
    · rw [va_un (by decide), va_un (by decide), va_un (by decide), va_us, pk_us]
    · rw [va_un (by decide), va_un (by decide), va_us]; exact pk_us
    · rw [va_un (by decide), va_us]; exact pk_us
    · rw [va_us]; exact pk_us
  clear g6
  obtain ⟨A6, g6, rA, w4, w5, w6, w8⟩ := a4
  have ht6 := rA.mt ht
  refine px_P.sn 1 (f1 := (39, [(0, .ref m), (1, .int (nI p))], [.ref m])) (S1 := S6) rfl ?_
  refine px_P.gf rfl rfl (by assumption) (v := .ref (m + 2)) rfl ?_
  refine px_P.sn 1 (f1 := (43, [(0, .ref m), (1, .int (nI p))], [.int (nI p), .ref (m + 2)])) (S1 := S6) rfl ?_
  refine px_P.ialdj (j := p) rfl (by assumption) rfl (by omega) (by decide) ?_
  rw [ht.1]
  show px_P _ _ (44, [(0, .ref m), (1, .int (nI p))], [.int (nI N)]) S6 _
  by_cases hN0 : N = 0
  · refine px_P.if_ne rfl rfl (fun h => absurd ((show nI N = 0 by rw [hN0]; rfl)) h) (fun _ => ?_)
    refine px_P.ret rfl ?_
    exact k S6 A6 _ _ g6 f6 rA (fun _ => ⟨w4, w5, w6, w8⟩) (fun z => absurd z (by omega))
  · refine px_P.if_ne rfl rfl (fun _ => ?_) (fun h => absurd h ((nI_ne0 (by omega) (by omega))))
    have n1 := nx_le (tx := tx) (show 0 ≤ N by omega)
    have n2 := nx_nx (tx := tx) (show 0 ≤ N by omega)
    have hhd : pz_hd tx N (p / 12) = (if isN (cn tx N (nx tx N 0)) = true then (if cn tx N (nx tx N (nx tx N 0 + 1)) = 58 then (match pz_wd tx N 60 0 (nx tx N (nx tx N 0 + 1) + 1) with
      | (none, b) => (none, b)
      | (some w, b) => if cn tx N (nx tx N b) = 61 then (some (nI (26 * (p / 12) + (cn tx N (nx tx N 0) - 65)), w, nx tx N b), nx tx N b + 1) else (none, nx tx N b)) else if cn tx N (nx tx N (nx tx N (nx tx N 0 + 1))) = 61 then (some (nI (26 * (p / 12) + (cn tx N (nx tx N 0) - 65)), -1, nx tx N (nx tx N (nx tx N 0 + 1))), nx tx N (nx tx N (nx tx N 0 + 1)) + 1) else (none, nx tx N (nx tx N (nx tx N 0 + 1))))
      else if cn tx N (nx tx N (nx tx N 0)) = 61 then (some (-1, -1, nx tx N (nx tx N 0)), nx tx N (nx tx N 0) + 1) else (none, nx tx N (nx tx N 0))) := rfl
    generalize ea : nx tx N 0 = a at hhd n1 n2
    have h255 : cn tx N a ≤ 255 := ht.cn a
    refine px_P.sn 3 (f1 := (51, [(0, .ref m), (1, .int (nI p)), (2, .int (-1))], [.ref m])) (S1 := S6) rfl ?_
    refine px_P.cv rfl rfl rfl (by assumption) rfl ?_
    show px_M _ px_m_Model_look [.ref m] S6 _
    refine pm_moLookV (by omega) ht6 g6 f6 (by omega) (fun S7 g7 f7 => ?_)
    rw [ea] at g7 ⊢
    have c7 := g7.1
    show px_P _ _ (54, [(0, .ref m), (1, .int (nI p)), (2, .int (-1))], [.int (nI (cn tx N a))]) S7 _
    refine px_P.call rfl ?_
    show px_M _ px_m_Model_isSymbol [.int (nI (cn tx N a))] S7 _
    refine pm_moIsSym (by omega) h255 ?_
    by_cases hs : isN (cn tx N a) = true
    · rw [if_pos hs] at hhd
      have h65 : 65 ≤ cn tx N a ∧ cn tx N a ≤ 90 := by
        have hs' := hs
        unfold isN at hs'
        simpa using hs'
      have haN : a < N := cn_lt (tx := tx) (by omega)
      have n3 := nx_le (tx := tx) (show a + 1 ≤ N by omega)
      have n4 := nx_nx (tx := tx) (show a + 1 ≤ N by omega)
      rw [hs]
      show px_P _ _ (57, [(0, .ref m), (1, .int (nI p)), (2, .int (-1))], [.int 1]) S7 _
      refine px_P.if_eq rfl rfl (fun h => absurd h ((by decide))) (fun _ => ?_)
      refine px_P.sn 3 (f1 := (65, [(0, .ref m), (1, .int (nI p)), (2, .int (-1))], [.int 12, .int (nI p), .int 26])) (S1 := S7) rfl ?_
      refine px_P.idiv rfl (by decide) ?_
      refine px_P.sn 2 (f1 := (68, [(0, .ref m), (1, .int (nI p)), (2, .int (-1))], [.ref m, .int (26 * ((nI p) / 12))])) (S1 := S7) rfl ?_
      refine px_P.cv rfl rfl rfl (by assumption) rfl ?_
      show px_M _ px_m_Model_look [.ref m] S7 _
      refine pm_moLookV (by omega) ht6 g7 f7 (by omega) (fun S8 g8 f8 => ?_)
      rw [n2] at g8 ⊢
      have c8 := g8.1
      show px_P _ _ (71, [(0, .ref m), (1, .int (nI p)), (2, .int (-1))], [.int (nI (cn tx N a)), .int (26 * ((nI p) / 12))]) S8 _
      refine px_P.sn 3 (f1 := (75, [(0, .ref m), (1, .int (nI p)), (2, .int (-1))], [.int (((26 * ((nI p) / 12)) + (nI (cn tx N a))) - 65)])) (S1 := S8) rfl ?_
      have e1 : 26 * (nI p / 12) + nI (cn tx N a) - 65 = nI (26 * (p / 12) + (cn tx N a - 65)) := by
        rw [show (12 : Int32) = nI 12 from rfl, pk_div (by omega) (by decide) (by decide), show (26 : Int32) = nI 26 from rfl, pk_mul, nI_add, show (65 : Int32) = nI 65 from rfl, pk_sub (by omega), show 26 * (p / 12) + cn tx N a - 65 = 26 * (p / 12) + (cn tx N a - 65) by omega]
      rw [e1]
      generalize nI (26 * (p / 12) + (cn tx N a - 65)) = df at hhd ⊢
      refine px_P.sn 3 (f1 := (78, [(0, .ref m), (1, .int (nI p)), (2, .int df)], [.ref m, .ref m])) (S1 := S8) rfl ?_
      refine px_P.gf rfl rfl (by assumption) (v := .int (nI a)) rfl ?_
      refine px_P.sn 2 (f1 := (83, [(0, .ref m), (1, .int (nI p)), (2, .int df)], [.int ((nI a) + 1), .ref m])) (S1 := S8) rfl ?_
      rw [nI_1]
      refine px_P.pf rfl rfl (by assumption) rfl (fun S9 u9 => ?_)
      have g9 : mo_at S9 m (mq q0 (nI (a + 1)) (nI p) v) A6 := g8.ob u9
      have f9 := f8.tr (mF.u (Nat.le_refl _) (by omega) u9)
      have c9 := g9.1
      refine px_P.sn 1 (f1 := (87, [(0, .ref m), (1, .int (nI p)), (2, .int df)], [.ref m])) (S1 := S9) rfl ?_
      refine px_P.cv rfl rfl rfl (by assumption) rfl ?_
      show px_M _ px_m_Model_look [.ref m] S9 _
      refine pm_moLookV (by omega) ht6 g9 f9 (by omega) (fun Sa ga fa => ?_)
      generalize eb : nx tx N (a + 1) = b at *
      have hb255 : cn tx N b ≤ 255 := ht.cn b
      have ca := ga.1
      show px_P _ _ (90, [(0, .ref m), (1, .int (nI p)), (2, .int df)], [.int (nI (cn tx N b))]) Sa _
      refine px_P.sn 1 (f1 := (92, [(0, .ref m), (1, .int (nI p)), (2, .int df)], [.int 58, .int (nI (cn tx N b))])) (S1 := Sa) rfl ?_
      refine px_P.ic_ne rfl rfl (fun q => ?_) (fun q => ?_)
      · rw [if_neg (fun z => q (by rw [z]; rfl))] at hhd
        exact eqp Sa A6 b df (-1) (by omega) n3.2 ga fa rA w4 w5 w6 w8 (pz_hd_eq tx N (p / 12) df (-1) b _ hhd rfl)
      · have q' : cn tx N b = 58 := (nI_eq (b := 58) (by omega) (by decide)).mp q
        have hbN : b < N := cn_lt (tx := tx) (by omega)
        rw [if_pos q'] at hhd
        refine px_P.sn 2 (f1 := (97, [(0, .ref m), (1, .int (nI p)), (2, .int df)], [.ref m, .ref m])) (S1 := Sa) rfl ?_
        refine px_P.gf rfl rfl (by assumption) (v := .int (nI b)) rfl ?_
        refine px_P.sn 2 (f1 := (102, [(0, .ref m), (1, .int (nI p)), (2, .int df)], [.int ((nI b) + 1), .ref m])) (S1 := Sa) rfl ?_
        rw [nI_1]
        refine px_P.pf rfl rfl (by assumption) rfl (fun Sb ub => ?_)
        have gb : mo_at Sb m (mq q0 (nI (b + 1)) (nI p) v) A6 := ga.ob ub
        have fb := fa.tr (mF.u (Nat.le_refl _) (by omega) ub)
        have cb := gb.1
        refine px_P.sn 1 (f1 := (106, [(0, .ref m), (1, .int (nI p)), (2, .int df)], [.ref m])) (S1 := Sb) rfl ?_
        refine px_P.cv rfl rfl rfl (by assumption) rfl ?_
        show px_M _ px_m_Model_readWord [.ref m] Sb _
        refine pm_moWord (by omega) ht6 gb fb (by omega) (fun e he Sc gc fc => ?_) (fun w e he hel Sc gc fc => ?_)
        · show px_P _ _ (109, [(0, .ref m), (1, .int (nI p)), (2, .int df)], [.int 0]) Sc _
          refine px_P.if_ne rfl rfl (fun h => absurd ((by decide)) h) (fun _ => ?_)
          refine px_P.ret rfl ?_
          have ez : pz tx N (p / 12) = pz_bad N e := by
            rcases he with he | ⟨w, he, he2, he3⟩
            · rw [he] at hhd
              unfold pz
              rw [hhd]
            · rw [he] at hhd
              rw [pz_hd_eq tx N (p / 12) df w e _ hhd rfl, he2, if_neg he3]
          have eN : e ≤ N := by
            have q := pz_wd_le (tx := tx) (N := N) (k := 60) (w := 0) (a := b + 1) (by omega) (fun i hi => by simp [bt])
            rcases he with he | ⟨w, he, _⟩
            · rw [he] at q; exact q.2.1
            · rw [he] at q; exact q.2.1
          refine k Sc _ _ _ gc fc (rA.tr (rdF.up (by decide) (by decide))) (fun z => absurd z (by omega)) (fun _ => ?_)
          rw [ez]
          exact ⟨by rw [va_us, pk_us]; rfl, by rw [va_un (by decide)]; exact w5, fun z => absurd z (nI_neg (by omega))⟩
        · show px_P _ _ (109, [(0, .ref m), (1, .int (nI p)), (2, .int df)], [.int 1]) Sc _
          refine px_P.if_ne rfl rfl (fun _ => ?_) (fun h => absurd h ((by decide)))
          rw [he] at hhd
          exact eqp Sc _ e df w (by omega) hel gc fc (rA.tr (rdF.up (by decide) (by decide))) (by rw [va_un (by decide)]; exact w4) (by rw [va_un (by decide)]; exact w5) (by rw [va_us, pk_us]) (by rw [va_un (by decide)]; exact w8) (pz_hd_eq tx N (p / 12) df w e _ hhd rfl)
    · rw [if_neg hs] at hhd
      rw [Bool.eq_false_iff.mpr hs]
      show px_P _ _ (57, [(0, .ref m), (1, .int (nI p)), (2, .int (-1))], [.int 0]) S7 _
      refine px_P.if_eq rfl rfl (fun _ => ?_) (fun h => absurd ((by decide)) h)
      exact eqp S7 A6 a (-1) (-1) (by omega) (by omega) g7 f7 rA w4 w5 w6 w8 (pz_hd_eq tx N (p / 12) (-1) (-1) a _ hhd rfl)
