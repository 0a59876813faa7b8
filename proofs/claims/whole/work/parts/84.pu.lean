/-! ===== the model: blank, remember ===== -/
theorem pm_moBlank {d m : Nat} {ty : List Nat} {q : Nat → Int32} {A : Nat → Nat → Int32} {S : px_S} {Q : Option Value → px_S → Prop} (hd : 1 ≤ d) (h : mo_at S m q A) (hq : q 1 = nI ty.length) (hty : tyo ty) (ha : tya (A 1) ty) (k : Q (some (.int (bif blk ty then 1 else 0))) S) : px_M d px_m_Model_isBlank [.ref m] S Q := by
  have hl := hty.1
  have c0 : S.1 m = some (.inr (10, mo_ob m (upd q 1 (nI ty.length)))) := by
    have : upd q 1 (nI ty.length) = q := by
      funext j
      by_cases e : j = 1
      · rw [e, pk_us, hq]
      · rw [pk_un e]
    rw [this]; exact h.1
  have lp := px_for (d := d - 1) (mi := px_m_Model_isBlank) (Q := Q) (X := Bool) ty.length (fun i b => (4, [(0, .ref m), (1, .int (bif b then 1 else 0)), (2, .int (nI i))], []))
    (fun i b S1 => S1 = S ∧ (b = true ↔ ∀ j, j < i → tf ty j = 32))
    (by
      intro i hi b S1 ⟨hS, hb⟩ kk
      subst hS
      have hc := hty.2 _ (tf_mem hi)
      have tail : ∀ (b' : Bool) (x : Int32), (b' = true ↔ ∀ j, j < i + 1 → tf ty j = 32) → px_P (d - 1) px_m_Model_isBlank (32, [(0, .ref m), (1, .int x), (2, .int (nI i))], [.int (bif b' then 1 else 0)]) S1 Q := by
        intro b' x e
        refine px_P.sn 3 (f1 := (4, [(0, .ref m), (1, .int (bif b' then 1 else 0)), (2, .int ((nI i) + 1))], [])) (S1 := S1) rfl ?_
        rw [nI_1]
        exact kk b' S1 ⟨rfl, e⟩
      have no : (¬ ∀ j, j < i + 1 → tf ty j = 32) → ∀ x : Int32, px_P (d - 1) px_m_Model_isBlank (31, [(0, .ref m), (1, .int x), (2, .int (nI i))], []) S1 Q := by
        intro z x
        refine px_P.sn 1 (f1 := (32, [(0, .ref m), (1, .int x), (2, .int (nI i))], [.int 0])) (S1 := S1) rfl ?_
        exact tail false x ⟨fun w => (by cases w), fun w => absurd w z⟩
      cases b with
      | false =>
        show px_P _ _ (4, [(0, .ref m), (1, .int 0), (2, .int (nI i))], []) S1 _
        refine px_P.sn 2 (f1 := (6, [(0, .ref m), (1, .int 0), (2, .int (nI i))], [.ref m, .int (nI i)])) (S1 := S1) rfl ?_
        refine px_P.gf rfl rfl (by assumption) (v := .int (nI ty.length)) rfl ?_
        refine px_P.ic_ge rfl rfl (fun h => absurd h (nI_ge hi (by omega))) (fun _ => ?_)
        refine px_P.sn 1 (f1 := (13, [(0, .ref m), (1, .int 0), (2, .int (nI i))], [.int 0])) (S1 := S1) rfl ?_
        refine px_P.if_eq rfl rfl (fun _ => ?_) (fun h => absurd ((by decide)) h)
        refine no (fun z => ?_) 0
        have := hb.mpr (fun j hj => z j (by omega))
        cases this
      | true =>
        show px_P _ _ (4, [(0, .ref m), (1, .int 1), (2, .int (nI i))], []) S1 _
        have r1 : S1.1 (m + 1) = some (.inl (3, 60, .inl (A 1))) := h.2 1 (by decide) (by decide)
        refine px_P.sn 2 (f1 := (6, [(0, .ref m), (1, .int 1), (2, .int (nI i))], [.ref m, .int (nI i)])) (S1 := S1) rfl ?_
        refine px_P.gf rfl rfl (by assumption) (v := .int (nI ty.length)) rfl ?_
        refine px_P.ic_ge rfl rfl (fun h => absurd h (nI_ge hi (by omega))) (fun _ => ?_)
        refine px_P.sn 1 (f1 := (13, [(0, .ref m), (1, .int 1), (2, .int (nI i))], [.int 1])) (S1 := S1) rfl ?_
        refine px_P.if_eq rfl rfl (fun h => absurd h ((by decide))) (fun _ => ?_)
        refine px_P.sn 1 (f1 := (17, [(0, .ref m), (1, .int 1), (2, .int (nI i))], [.ref m])) (S1 := S1) rfl ?_
        refine px_P.gf rfl rfl (by assumption) (v := .ref (m + 1)) rfl ?_
        refine px_P.sn 1 (f1 := (21, [(0, .ref m), (1, .int 1), (2, .int (nI i))], [.int (nI i), .ref (m + 1)])) (S1 := S1) rfl ?_
        refine px_P.caldj (j := i) rfl (by assumption) rfl (by omega) (by decide) ?_
        rw [ha i hi]
        refine px_P.sn 1 (f1 := (24, [(0, .ref m), (1, .int 1), (2, .int (nI i))], [.int 32, .int (nI (tf ty i))])) (S1 := S1) rfl ?_
        refine px_P.ic_ne rfl rfl (fun z => ?_) (fun z => ?_)
        · exact no (fun w => z (by rw [w i (by omega)]; rfl)) 1
        · have e32 : tf ty i = 32 := (nI_eq (b := 32) (by omega) (by decide)).mp z
          refine px_P.sn 2 (f1 := (32, [(0, .ref m), (1, .int 1), (2, .int (nI i))], [.int 1])) (S1 := S1) rfl ?_
          refine tail true 1 ⟨fun _ j hj => ?_, fun _ => rfl⟩
          by_cases e : j = i
          · rw [e]; exact e32
          · exact hb.mp rfl j (by omega))
    (by
      intro b S1 ⟨hS, hb⟩
      subst hS
      have e : b = blk ty := Bool.eq_iff_iff.mpr (hb.trans blank_tf.symm)
      rw [← e] at k
      cases b with
      | false =>
        show px_P _ _ (4, [(0, .ref m), (1, .int 0), (2, .int (nI ty.length))], []) S1 _
        refine px_P.sn 2 (f1 := (6, [(0, .ref m), (1, .int 0), (2, .int (nI ty.length))], [.ref m, .int (nI ty.length)])) (S1 := S1) rfl ?_
        refine px_P.gf rfl rfl (by assumption) (v := .int (nI ty.length)) rfl ?_
        refine px_P.ic_ge rfl rfl (fun _ => ?_) (fun h => absurd (Int32.le_refl _) h)
        refine px_P.sn 1 (f1 := (40, [(0, .ref m), (1, .int 0), (2, .int (nI ty.length))], [.int 0])) (S1 := S1) rfl ?_
        refine px_P.ret rfl ?_
        exact k
      | true =>
        show px_P _ _ (4, [(0, .ref m), (1, .int 1), (2, .int (nI ty.length))], []) S1 _
        refine px_P.sn 2 (f1 := (6, [(0, .ref m), (1, .int 1), (2, .int (nI ty.length))], [.ref m, .int (nI ty.length)])) (S1 := S1) rfl ?_
        refine px_P.gf rfl rfl (by assumption) (v := .int (nI ty.length)) rfl ?_
        refine px_P.ic_ge rfl rfl (fun _ => ?_) (fun h => absurd (Int32.le_refl _) h)
        refine px_P.sn 1 (f1 := (40, [(0, .ref m), (1, .int 1), (2, .int (nI ty.length))], [.int 1])) (S1 := S1) rfl ?_
        refine px_P.ret rfl ?_
        exact k)
  refine px_M.go (by omega) (Nat.le_of_ble_eq_true rfl) ?_
  refine px_P.sn 4 (f1 := (4, [(0, .ref m), (1, .int 1), (2, .int 0)], [])) (S1 := S) rfl ?_
  exact lp ty.length 0 (by omega) true S ⟨rfl, fun _ j hj => absurd hj (by omega), fun _ => rfl⟩
/-- only what is kept for undo has changed -/
def uS (S0 S : px_S) (m : Nat) (q : Nat → Int32) (A0 A : Nat → Nat → Int32) : Prop := mo_at S m q A ∧ mF S0 S m ∧ ∀ i, i ≠ 18 → i ≠ 19 → i ≠ 20 → A i = A0 i
theorem uS.up {S0 S S' : px_S} {m j : Nat} {q : Nat → Int32} {A0 A : Nat → Nat → Int32} {g : Nat → Int32} (h : uS S0 S m q A0 A) (hj : j = 18 ∨ j = 19 ∨ j = 20) (u : px_Up S S' (m + j) (.inl (mo_ty j, mo_ln j, .inl g))) : uS S0 S' m q A0 (va_up A j g) :=
  ⟨h.1.ar (by omega) (by omega) u, h.2.1.tr (mF.u (by omega) (by omega) u), fun i e1 e2 e3 => (va_un (by omega)).trans (h.2.2 i e1 e2 e3)⟩
theorem hg_drop (hh : List (Nat × List Nat)) (j : Nat) : hg (hh.drop 1) j = hg hh (j + 1) := by
  unfold hg
  simp [List.getD, Nat.add_comm]
theorem hg_app {hh : List (Nat × List Nat)} {e : Nat × List Nat} {j : Nat} (h : j < hh.length) : hg (hh ++ [e]) j = hg hh j := by
  unfold hg
  simp [List.getD, List.getElem?_append_left h]
theorem hg_last {hh : List (Nat × List Nat)} {e : Nat × List Nat} : hg (hh ++ [e]) hh.length = e := by
  unfold hg
  simp [List.getD]
/-- behind the moving: there is room -/
theorem rm_put {d m p : Nat} {hh : List (Nat × List Nat)} {t : List Nat} {q : Nat → Int32} {A0 A : Nat → Nat → Int32} {S0 S : px_S} {L : px_L} {Q : Option Value → px_S → Prop} (hL : L = [(0, .ref m), (1, .int (nI p))]) (hp : p < 96) (h : uS S0 S m (upd q 3 (nI hh.length)) A0 A) (hh16 : hh.length < 16) (hM : mhh A hh) (ht : tyo t) (h2 : A0 2 p = nI t.length) (h3 : ∀ j, j < t.length → A0 3 (60 * p + j) = nI (tf t j))
    (k : ∀ S' A', uS S0 S' m (upd q 3 (nI (hh.length + 1))) A0 A' → mhh A' (hh ++ [(p, t)]) → Q none S') : px_P d px_m_Model_remember (87, L, []) S Q := by
  subst hL
  have hl := ht.1
  generalize hz : hh.length = z at *
  have c0 := h.1.1
  have e2 : A 2 = A0 2 := h.2.2 2 (by decide) (by decide) (by decide)
  have r18 : S.1 (m + 18) = some (.inl (0, 16, .inl (A 18))) := h.1.2 18 (by decide) (by decide)
  refine px_P.sn 1 (f1 := (88, [(0, .ref m), (1, .int (nI p))], [.ref m])) (S1 := S) rfl ?_
  refine px_P.gf rfl rfl (by assumption) (v := .ref (m + 18)) rfl ?_
  refine px_P.sn 1 (f1 := (92, [(0, .ref m), (1, .int (nI p))], [.ref m, .ref (m + 18)])) (S1 := S) rfl ?_
  refine px_P.gf rfl rfl (by assumption) (v := .int (nI z)) rfl ?_
  refine px_P.sn 1 (f1 := (96, [(0, .ref m), (1, .int (nI p))], [.int (nI p), .int (nI z), .ref (m + 18)])) (S1 := S) rfl ?_
  refine px_P.iastj (j := z) rfl (by assumption) rfl (by omega) (by decide) (fun S1 u1 => ?_)
  have g1 := h.up (j := 18) (by omega) u1
  have c1 := g1.1.1
  have r2 : S1.1 (m + 2) = some (.inl (0, 96, .inl (A 2))) := g1.1.2 2 (by decide) (by decide)
  have r19 : S1.1 (m + 19) = some (.inl (0, 16, .inl (A 19))) := g1.1.2 19 (by decide) (by decide)
  refine px_P.sn 1 (f1 := (98, [(0, .ref m), (1, .int (nI p))], [.ref m])) (S1 := S1) rfl ?_
  refine px_P.gf rfl rfl (by assumption) (v := .ref (m + 19)) rfl ?_
  refine px_P.sn 1 (f1 := (102, [(0, .ref m), (1, .int (nI p))], [.ref m, .ref (m + 19)])) (S1 := S1) rfl ?_
  refine px_P.gf rfl rfl (by assumption) (v := .int (nI z)) rfl ?_
  refine px_P.sn 1 (f1 := (106, [(0, .ref m), (1, .int (nI p))], [.ref m, .int (nI z), .ref (m + 19)])) (S1 := S1) rfl ?_
  refine px_P.gf rfl rfl (by assumption) (v := .ref (m + 2)) rfl ?_
  refine px_P.sn 1 (f1 := (110, [(0, .ref m), (1, .int (nI p))], [.int (nI p), .ref (m + 2), .int (nI z), .ref (m + 19)])) (S1 := S1) rfl ?_
  refine px_P.ialdj (j := p) rfl (by assumption) rfl (by omega) (by decide) ?_
  rw [e2, h2]
  refine px_P.iastj (j := z) rfl (by assumption) rfl (by omega) (by decide) (fun S2 u2 => ?_)
  have g2 := g1.up (j := 19) (by omega) u2
  refine px_P.sn 2 (f1 := (114, [(0, .ref m), (1, .int (nI p)), (2, .int 0)], [])) (S1 := S2) rfl ?_
  have lp := px_for (d := d) (mi := px_m_Model_remember) (Q := Q) (X := Nat → Nat → Int32) t.length (fun i _ => (114, [(0, .ref m), (1, .int (nI p)), (2, .int (nI i))], []))
    (fun i A' S' => uS S0 S' m (upd q 3 (nI z)) A0 A' ∧ A' 18 = upd (A 18) z (nI p) ∧ A' 19 = upd (A 19) z (nI t.length) ∧ (∀ j, j < i → A' 20 (60 * z + j) = nI (tf t j)) ∧ (∀ c, (c < 60 * z ∨ 60 * z + 60 ≤ c) → A' 20 c = A 20 c) ∧ ∀ c, c < 960 → ∃ v, v ≤ 255 ∧ A' 20 c = nI v)
    (by
      intro i hi A1 S3 ⟨g3, a18, a19, a20, a20n, a20c⟩ kk
      have hc := ht.2 _ (tf_mem hi)
      have c3 := g3.1.1
      have e2' : A1 2 = A0 2 := g3.2.2 2 (by decide) (by decide) (by decide)
      have e3' : A1 3 = A0 3 := g3.2.2 3 (by decide) (by decide) (by decide)
      show px_P _ _ (114, [(0, .ref m), (1, .int (nI p)), (2, .int (nI i))], []) S3 _
      have r2 : S3.1 (m + 2) = some (.inl (0, 96, .inl (A1 2))) := g3.1.2 2 (by decide) (by decide)
      have r3 : S3.1 (m + 3) = some (.inl (3, 5760, .inl (A1 3))) := g3.1.2 3 (by decide) (by decide)
      have r20 : S3.1 (m + 20) = some (.inl (3, 960, .inl (A1 20))) := g3.1.2 20 (by decide) (by decide)
      refine px_P.sn 2 (f1 := (116, [(0, .ref m), (1, .int (nI p)), (2, .int (nI i))], [.ref m, .int (nI i)])) (S1 := S3) rfl ?_
      refine px_P.gf rfl rfl (by assumption) (v := .ref (m + 2)) rfl ?_
      refine px_P.sn 1 (f1 := (120, [(0, .ref m), (1, .int (nI p)), (2, .int (nI i))], [.int (nI p), .ref (m + 2), .int (nI i)])) (S1 := S3) rfl ?_
      refine px_P.ialdj (j := p) rfl (by assumption) rfl (by omega) (by decide) ?_
      rw [e2', h2]
      refine px_P.ic_ge rfl rfl (fun h => absurd h (nI_ge hi (by omega))) (fun _ => ?_)
      refine px_P.sn 1 (f1 := (125, [(0, .ref m), (1, .int (nI p)), (2, .int (nI i))], [.ref m])) (S1 := S3) rfl ?_
      refine px_P.gf rfl rfl (by assumption) (v := .ref (m + 20)) rfl ?_
      refine px_P.sn 2 (f1 := (131, [(0, .ref m), (1, .int (nI p)), (2, .int (nI i))], [.ref m, .int 60, .ref (m + 20)])) (S1 := S3) rfl ?_
      refine px_P.gf rfl rfl (by assumption) (v := .int (nI z)) rfl ?_
      refine px_P.sn 4 (f1 := (138, [(0, .ref m), (1, .int (nI p)), (2, .int (nI i))], [.ref m, .int ((60 * (nI z)) + (nI i)), .ref (m + 20)])) (S1 := S3) rfl ?_
      refine px_P.gf rfl rfl (by assumption) (v := .ref (m + 3)) rfl ?_
      refine px_P.sn 5 (f1 := (147, [(0, .ref m), (1, .int (nI p)), (2, .int (nI i))], [.int ((60 * (nI p)) + (nI i)), .ref (m + 3), .int ((60 * (nI z)) + (nI i)), .ref (m + 20)])) (S1 := S3) rfl ?_
      rw [show (60 : Int32) * nI z + nI i = nI (60 * z + i) by rw [show (60 : Int32) = nI 60 from rfl, pk_mul, nI_add], show (60 : Int32) * nI p + nI i = nI (60 * p + i) by rw [show (60 : Int32) = nI 60 from rfl, pk_mul, nI_add]]
      show px_P _ _ (147, [(0, .ref m), (1, .int (nI p)), (2, .int (nI i))], [.int (nI (60 * p + i)), .ref (m + 3), .int (nI (60 * z + i)), .ref (m + 20)]) S3 _
      refine px_P.caldj (j := 60 * p + i) rfl (by assumption) rfl (by omega) (by decide) ?_
      rw [e3', h3 i hi]
      refine px_P.castj (j := 60 * z + i) rfl (by assumption) (ch_ok (by omega)) rfl (by omega) (by decide) (fun S4 u4 => ?_)
      refine px_P.sn 2 (f1 := (114, [(0, .ref m), (1, .int (nI p)), (2, .int ((nI i) + 1))], [])) (S1 := S4) rfl ?_
      rw [nI_1]
      refine kk (va_up A1 20 (upd (A1 20) (60 * z + i) (nI (tf t i)))) S4 ⟨g3.up (j := 20) (by omega) u4, (va_un (by decide)).trans a18, (va_un (by decide)).trans a19, fun j hj => ?_, fun c hc => ?_, fun c hc => ?_⟩
      · rw [va_us]
        by_cases e : j = i
        · rw [e, pk_us]
        · rw [pk_un (by omega)]; exact a20 j (by omega)
      · rw [va_us, pk_un (by omega)]; exact a20n c hc
      · rw [va_us]
        by_cases e : c = 60 * z + i
        · rw [e, pk_us]; exact ⟨_, (by omega : tf t i ≤ 255), rfl⟩
        · rw [pk_un e]; exact a20c c hc)
    (by
      intro A1 S3 ⟨g3, a18, a19, a20, a20n, a20c⟩
      have c3 := g3.1.1
      have e2' : A1 2 = A0 2 := g3.2.2 2 (by decide) (by decide) (by decide)
      show px_P _ _ (114, [(0, .ref m), (1, .int (nI p)), (2, .int (nI t.length))], []) S3 _
      have r2 : S3.1 (m + 2) = some (.inl (0, 96, .inl (A1 2))) := g3.1.2 2 (by decide) (by decide)
      refine px_P.sn 2 (f1 := (116, [(0, .ref m), (1, .int (nI p)), (2, .int (nI t.length))], [.ref m, .int (nI t.length)])) (S1 := S3) rfl ?_
      refine px_P.gf rfl rfl (by assumption) (v := .ref (m + 2)) rfl ?_
      refine px_P.sn 1 (f1 := (120, [(0, .ref m), (1, .int (nI p)), (2, .int (nI t.length))], [.int (nI p), .ref (m + 2), .int (nI t.length)])) (S1 := S3) rfl ?_
      refine px_P.ialdj (j := p) rfl (by assumption) rfl (by omega) (by decide) ?_
      rw [e2', h2]
      refine px_P.ic_ge rfl rfl (fun _ => ?_) (fun h => absurd (Int32.le_refl _) h)
      refine px_P.sn 2 (f1 := (157, [(0, .ref m), (1, .int (nI p)), (2, .int (nI t.length))], [.ref m, .ref m])) (S1 := S3) rfl ?_
      refine px_P.gf rfl rfl (by assumption) (v := .int (nI z)) rfl ?_
      refine px_P.sn 2 (f1 := (162, [(0, .ref m), (1, .int (nI p)), (2, .int (nI t.length))], [.int ((nI z) + 1), .ref m])) (S1 := S3) rfl ?_
      rw [nI_1]
      refine px_P.pf rfl rfl (by assumption) rfl (fun S4 u4 => ?_)
      refine px_P.ret rfl ?_
      refine k S4 A1 ⟨g3.1.ob u4, g3.2.1.tr (mF.u (Nat.le_refl _) (by omega) u4), g3.2.2⟩ ⟨by rw [List.length_append, hz]; exact hh16, fun j hj => ?_, a20c⟩
      rw [List.length_append, hz] at hj
      have hj' : j < z + 1 := hj
      by_cases e : j = z
      · have el : hg (hh ++ [(p, t)]) j = (p, t) := by rw [e, ← hz]; exact hg_last
        rw [el, e, a18, a19, pk_us, pk_us]
        exact ⟨rfl, hp, ht, rfl, a20⟩
      · rw [hg_app (by omega), a18, a19, pk_un e, pk_un e]
        obtain ⟨b1, b2, b3, b4, b5⟩ := hM.2.1 j (by omega)
        refine ⟨b1, b2, b3, b4, fun c hc => ?_⟩
        have := b3.1
        rw [a20n _ (by omega)]
        exact b5 c hc)
  refine lp t.length 0 (by omega) _ S2 ⟨g2, ?_, ?_, fun j hj => absurd hj (by omega), fun c _ => ?_, fun c hc => ?_⟩
  · rw [va_un (by decide), va_us]
  · rw [va_us]
  · rw [va_un (by decide), va_un (by decide)]
  · rw [va_un (by decide), va_un (by decide)]; exact hM.2.2 c hc
