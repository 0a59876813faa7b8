/-! ===== the model: remember ===== -/
theorem rm_mv {d m p : Nat} {q : Nat → Int32} {A0 : Nat → Nat → Int32} {S : px_S} {Q : Option Value → px_S → Prop} (h : mo_at S m q A0) (hc : ∀ c, c < 960 → ∃ v, v ≤ 255 ∧ A0 20 c = nI v)
    (k : ∀ S' A', uS S S' m q A0 A' → (∀ j, j < 15 → A' 18 j = A0 18 (j + 1) ∧ A' 19 j = A0 19 (j + 1)) → (∀ c, c < 900 → A' 20 c = A0 20 (c + 60)) → (∀ c, c < 960 → ∃ v, v ≤ 255 ∧ A' 20 c = nI v) → px_P d px_m_Model_remember (81, [(0, .ref m), (1, .int (nI p)), (2, .int (nI 900))], []) S' Q) : px_P d px_m_Model_remember (11, [(0, .ref m), (1, .int (nI p)), (2, .int (nI 0))], []) S Q := by
  have lp2 : ∀ (S1 : px_S) (A1 : Nat → Nat → Int32), uS S S1 m q A0 A1 → A1 20 = A0 20 → (∀ j, j < 15 → A1 18 j = A0 18 (j + 1) ∧ A1 19 j = A0 19 (j + 1)) → px_P d px_m_Model_remember (53, [(0, .ref m), (1, .int (nI p)), (2, .int (nI 0))], []) S1 Q := by
    intro S1 A1 h1 e20 hj
    have lp := px_for (d := d) (mi := px_m_Model_remember) (Q := Q) (X := Nat → Nat → Int32) 900 (fun i _ => (53, [(0, .ref m), (1, .int (nI p)), (2, .int (nI i))], []))
      (fun i A S' => uS S S' m q A0 A ∧ A 18 = A1 18 ∧ A 19 = A1 19 ∧ (∀ c, c < i → A 20 c = A0 20 (c + 60)) ∧ ∀ c, i ≤ c → A 20 c = A0 20 c)
      (by
        intro i hi A S2 ⟨g1, g2, g3, g4, g5⟩ kk
        have c1 := g1.1.1
        obtain ⟨v, v1, v2⟩ := hc (i + 60) (by omega)
        show px_P _ _ (53, [(0, .ref m), (1, .int (nI p)), (2, .int (nI i))], []) S2 _
        have r20 : S2.1 (m + 20) = some (.inl (3, 960, .inl (A 20))) := g1.1.2 20 (by decide) (by decide)
        refine px_P.sn 2 (f1 := (57, [(0, .ref m), (1, .int (nI p)), (2, .int (nI i))], [.int 900, .int (nI i)])) (S1 := S2) rfl ?_
        refine px_P.ic_ge rfl rfl (fun h => absurd h (nI_ge (b := 900) hi (by decide))) (fun _ => ?_)
        refine px_P.sn 1 (f1 := (61, [(0, .ref m), (1, .int (nI p)), (2, .int (nI i))], [.ref m])) (S1 := S2) rfl ?_
        refine px_P.gf rfl rfl (by assumption) (v := .ref (m + 20)) rfl ?_
        refine px_P.sn 2 (f1 := (66, [(0, .ref m), (1, .int (nI p)), (2, .int (nI i))], [.ref m, .int (nI i), .ref (m + 20)])) (S1 := S2) rfl ?_
        refine px_P.gf rfl rfl (by assumption) (v := .ref (m + 20)) rfl ?_
        refine px_P.sn 3 (f1 := (73, [(0, .ref m), (1, .int (nI p)), (2, .int (nI i))], [.int ((nI i) + 60), .ref (m + 20), .int (nI i), .ref (m + 20)])) (S1 := S2) rfl ?_
        rw [show nI i + 60 = nI (i + 60) from nI_add i 60]
        refine px_P.caldj (j := i + 60) rfl (by assumption) rfl (by omega) (by decide) ?_
        rw [g5 (i + 60) (by omega), v2]
        refine px_P.castj (j := i) rfl (by assumption) (ch_ok (by omega)) rfl (by omega) (by decide) (fun S3 u3 => ?_)
        refine px_P.sn 2 (f1 := (53, [(0, .ref m), (1, .int (nI p)), (2, .int ((nI i) + 1))], [])) (S1 := S3) rfl ?_
        rw [nI_1]
        refine kk (va_up A 20 (upd (A 20) i (nI v))) S3 ⟨g1.up (j := 20) (by omega) u3, (va_un (by decide)).trans g2, (va_un (by decide)).trans g3, fun c hc => ?_, fun c hc => ?_⟩
        · rw [va_us]
          by_cases e : c = i
          · rw [e, pk_us]; exact v2.symm
          · rw [pk_un e]; exact g4 c (by omega)
        · rw [va_us, pk_un (by omega)]; exact g5 c (by omega))
      (by
        intro A S2 ⟨g1, g2, g3, g4, g5⟩
        show px_P _ _ (53, [(0, .ref m), (1, .int (nI p)), (2, .int (nI 900))], []) S2 _
        refine px_P.sn 2 (f1 := (57, [(0, .ref m), (1, .int (nI p)), (2, .int (nI 900))], [.int 900, .int (nI 900)])) (S1 := S2) rfl ?_
        refine px_P.ic_ge rfl rfl (fun _ => ?_) (fun h => absurd ((by decide)) h)
        refine k S2 A g1 (fun j hj' => by rw [g2, g3]; exact hj j hj') g4 (fun c hcc => ?_)
        by_cases e : c < 900
        · rw [g4 c e]; exact hc (c + 60) (by omega)
        · rw [g5 c (by omega)]; exact hc c hcc)
    exact lp 900 0 rfl A1 S1 ⟨h1, rfl, rfl, fun c hc => absurd hc (by omega), fun c _ => by rw [e20]⟩
  have lp := px_for (d := d) (mi := px_m_Model_remember) (Q := Q) (X := Nat → Nat → Int32) 15 (fun i _ => (11, [(0, .ref m), (1, .int (nI p)), (2, .int (nI i))], []))
    (fun i A S' => uS S S' m q A0 A ∧ A 20 = A0 20 ∧ (∀ j, j < i → A 18 j = A0 18 (j + 1) ∧ A 19 j = A0 19 (j + 1)) ∧ ∀ j, i ≤ j → A 18 j = A0 18 j ∧ A 19 j = A0 19 j)
    (by
      intro i hi A S1 ⟨g1, g2, g3, g4⟩ kk
      have c1 := g1.1.1
      have e18 := (g4 (i + 1) (by omega)).1
      have e19 := (g4 (i + 1) (by omega)).2
      show px_P _ _ (11, [(0, .ref m), (1, .int (nI p)), (2, .int (nI i))], []) S1 _
      have r18 : S1.1 (m + 18) = some (.inl (0, 16, .inl (A 18))) := g1.1.2 18 (by decide) (by decide)
      refine px_P.sn 2 (f1 := (14, [(0, .ref m), (1, .int (nI p)), (2, .int (nI i))], [.int 15, .int (nI i)])) (S1 := S1) rfl ?_
      refine px_P.ic_ge rfl rfl (fun h => absurd h (nI_ge (b := 15) hi (by decide))) (fun _ => ?_)
      refine px_P.sn 1 (f1 := (18, [(0, .ref m), (1, .int (nI p)), (2, .int (nI i))], [.ref m])) (S1 := S1) rfl ?_
      refine px_P.gf rfl rfl (by assumption) (v := .ref (m + 18)) rfl ?_
      refine px_P.sn 2 (f1 := (23, [(0, .ref m), (1, .int (nI p)), (2, .int (nI i))], [.ref m, .int (nI i), .ref (m + 18)])) (S1 := S1) rfl ?_
      refine px_P.gf rfl rfl (by assumption) (v := .ref (m + 18)) rfl ?_
      refine px_P.sn 3 (f1 := (29, [(0, .ref m), (1, .int (nI p)), (2, .int (nI i))], [.int ((nI i) + 1), .ref (m + 18), .int (nI i), .ref (m + 18)])) (S1 := S1) rfl ?_
      rw [nI_1]
      refine px_P.ialdj (j := i + 1) rfl (by assumption) rfl (by omega) (by decide) ?_
      rw [e18]
      refine px_P.iastj (j := i) rfl (by assumption) rfl (by omega) (by decide) (fun S2 u2 => ?_)
      have g5 := g1.up (j := 18) (by omega) u2
      have c2 := g5.1.1
      have r19 : S2.1 (m + 19) = some (.inl (0, 16, .inl (A 19))) := g5.1.2 19 (by decide) (by decide)
      refine px_P.sn 1 (f1 := (32, [(0, .ref m), (1, .int (nI p)), (2, .int (nI i))], [.ref m])) (S1 := S2) rfl ?_
      refine px_P.gf rfl rfl (by assumption) (v := .ref (m + 19)) rfl ?_
      refine px_P.sn 2 (f1 := (37, [(0, .ref m), (1, .int (nI p)), (2, .int (nI i))], [.ref m, .int (nI i), .ref (m + 19)])) (S1 := S2) rfl ?_
      refine px_P.gf rfl rfl (by assumption) (v := .ref (m + 19)) rfl ?_
      refine px_P.sn 3 (f1 := (43, [(0, .ref m), (1, .int (nI p)), (2, .int (nI i))], [.int ((nI i) + 1), .ref (m + 19), .int (nI i), .ref (m + 19)])) (S1 := S2) rfl ?_
      rw [nI_1]
      refine px_P.ialdj (j := i + 1) rfl (by assumption) rfl (by omega) (by decide) ?_
      rw [e19]
      refine px_P.iastj (j := i) rfl (by assumption) rfl (by omega) (by decide) (fun S3 u3 => ?_)
      have g6 := g5.up (j := 19) (by omega) u3
      refine px_P.sn 2 (f1 := (11, [(0, .ref m), (1, .int (nI p)), (2, .int ((nI i) + 1))], [])) (S1 := S3) rfl ?_
      rw [nI_1]
      refine kk _ S3 ⟨g6, ?_, fun j hj => ?_, fun j hj => ?_⟩
      · rw [va_un (by decide), va_un (by decide)]; exact g2
      · show upd (A 18) i (A0 18 (i + 1)) j = _ ∧ upd (A 19) i (A0 19 (i + 1)) j = _
        by_cases e : j = i
        · rw [e, pk_us, pk_us]; exact ⟨rfl, rfl⟩
        · rw [pk_un e, pk_un e]; exact g3 j (by omega)
      · show upd (A 18) i (A0 18 (i + 1)) j = _ ∧ upd (A 19) i (A0 19 (i + 1)) j = _
        rw [pk_un (by omega), pk_un (by omega)]; exact g4 j (by omega))
    (by
      intro A S1 ⟨g1, g2, g3, g4⟩
      show px_P _ _ (11, [(0, .ref m), (1, .int (nI p)), (2, .int (nI 15))], []) S1 _
      refine px_P.sn 2 (f1 := (14, [(0, .ref m), (1, .int (nI p)), (2, .int (nI 15))], [.int 15, .int (nI 15)])) (S1 := S1) rfl ?_
      refine px_P.ic_ge rfl rfl (fun _ => ?_) (fun h => absurd ((by decide)) h)
      refine px_P.sn 2 (f1 := (53, [(0, .ref m), (1, .int (nI p)), (2, .int 0)], [])) (S1 := S1) rfl ?_
      exact lp2 S1 A g1 g2 g3)
  exact lp 15 0 rfl A0 S ⟨⟨h, mF.rf S m, fun _ _ _ _ => rfl⟩, rfl, fun j hj => absurd hj (by omega), fun _ _ => ⟨rfl, rfl⟩⟩
theorem upd_self {q : Nat → Int32} {i : Nat} {x : Int32} (h : q i = x) : upd q i x = q := by
  funext j
  by_cases e : j = i
  · rw [e, pk_us, h]
  · rw [pk_un e]
theorem pm_moRemember {d m p : Nat} {hh : List (Nat × List Nat)} {t : List Nat} {q : Nat → Int32} {A0 : Nat → Nat → Int32} {S : px_S} {Q : Option Value → px_S → Prop} (hd : 1 ≤ d) (hp : p < 96) (h : mo_at S m q A0) (hq3 : q 3 = nI hh.length) (hM : mhh A0 hh) (ht : tyo t) (h2 : A0 2 p = nI t.length) (h3 : ∀ j, j < t.length → A0 3 (60 * p + j) = nI (tf t j))
    (k : ∀ S' A', uS S S' m (upd q 3 (nI (hK hh (p, t)).length)) A0 A' → mhh A' (hK hh (p, t)) → Q none S') : px_M d px_m_Model_remember [.ref m, .int (nI p)] S Q := by
  have hl := hM.1
  have hqs := upd_self hq3
  have c0 : S.1 m = some (.inr (10, mo_ob m (upd q 3 (nI hh.length)))) := by rw [hqs]; exact h.1
  refine px_M.go (by omega) (Nat.le_of_ble_eq_true rfl) ?_
  refine px_P.sn 1 (f1 := (1, [(0, .ref m), (1, .int (nI p))], [.ref m])) (S1 := S) rfl ?_
  refine px_P.gf rfl rfl (by assumption) (v := .int (nI hh.length)) rfl ?_
  refine px_P.sn 1 (f1 := (6, [(0, .ref m), (1, .int (nI p))], [.int 16, .int (nI hh.length)])) (S1 := S) rfl ?_
  by_cases h16 : hh.length = 16
  · refine px_P.ic_ne rfl rfl (fun h => absurd ((show nI hh.length = 16 by rw [h16]; rfl)) h) (fun _ => ?_)
    refine px_P.sn 2 (f1 := (11, [(0, .ref m), (1, .int (nI p)), (2, .int 0)], [])) (S1 := S) rfl ?_
    refine rm_mv h hM.2.2 (fun S1 A1 g1 g2 g3 g4 => ?_)
    have c1 : S1.1 m = some (.inr (10, mo_ob m q)) := g1.1.1
    refine px_P.sn 2 (f1 := (84, [(0, .ref m), (1, .int (nI p)), (2, .int (nI 900))], [.int 15, .ref m])) (S1 := S1) rfl ?_
    refine px_P.pf rfl rfl (by assumption) rfl (fun S2 u2 => ?_)
    show px_P _ _ (87, [(0, .ref m), (1, .int (nI p)), (2, .int (nI 900))], []) S2 _
    refine px_P.wk (ls := [(0, .ref m), (1, .int (nI p))]) rfl (.cons_cons _ (.cons_cons _ (.cons _ .slnil))) ?_
    have eK : hK hh (p, t) = hh.drop 1 ++ [(p, t)] := by unfold hK; rw [if_neg (by omega)]
    have dl : (hh.drop 1).length = 15 := by rw [List.length_drop, h16]
    rw [eK] at k
    refine rm_put (hh := hh.drop 1) (q := q) rfl hp ⟨?_, g1.2.1.tr (mF.u (Nat.le_refl _) (by omega) u2), g1.2.2⟩ (by omega) ⟨by omega, fun j hj => ?_, g4⟩ ht h2 h3 (fun S3 A3 f1 f2 => k S3 A3 ?_ f2)
    · rw [dl]
      exact g1.1.ob u2
    · rw [dl] at hj
      rw [hg_drop, (g2 j hj).1, (g2 j hj).2]
      obtain ⟨b1, b2, b3, b4, b5⟩ := hM.2.1 (j + 1) (by omega)
      refine ⟨b1, b2, b3, b4, fun c hcc => ?_⟩
      have := b3.1
      rw [g3 (60 * j + c) (by omega), show 60 * j + c + 60 = 60 * (j + 1) + c by omega]
      exact b5 c hcc
    · rw [List.length_append]
      exact f1
  · refine px_P.ic_ne rfl rfl (fun _ => ?_) (fun h => absurd h ((fun z => h16 ((nI_eq (b := 16) (by omega) (by decide)).mp z))))
    have eK : hK hh (p, t) = hh ++ [(p, t)] := by unfold hK; rw [if_pos (by omega)]
    rw [eK] at k
    refine rm_put (hh := hh) (q := q) rfl hp ⟨by rw [hqs]; exact h, mF.rf S m, fun _ _ _ _ => rfl⟩ (by omega) hM ht h2 h3 (fun S3 A3 f1 f2 => k S3 A3 ?_ f2)
    rw [List.length_append]
    exact f1
