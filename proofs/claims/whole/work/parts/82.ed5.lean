/-! ===== the model: an edit ===== -/
theorem mlA_cg {A A' : Nat → Nat → Int32} {L L' : Nat → Option ln_S} {p : Nat} (h : mlA A L p) (hL : L' p = L p) (hn : ∀ s, L p = some s → ln_n s ≤ 60) (e2 : A' 2 p = A 2 p) (e4 : ∀ i, 4 ≤ i → i ≤ 8 → A' i p = A i p) (e9 : ∀ i j, 9 ≤ i → i ≤ 11 → 64 * p ≤ j → j < 64 * p + 64 → A' i j = A i j) : mlA A' L' p := by
  obtain ⟨h1, h2⟩ := h
  refine ⟨fun z => ?_, fun s z => ?_⟩
  · rw [hL] at z
    rw [e2, e4 4 (by decide) (by decide), e4 5 (by decide) (by decide), e4 6 (by decide) (by decide), e4 8 (by decide) (by decide)]
    exact h1 z
  · rw [hL] at z
    obtain ⟨g1, g2, g3, g4, g5⟩ := h2 s z
    have := hn s z
    refine ⟨by rw [e2]; exact g1, g2, by rw [e4 4 (by decide) (by decide)]; exact g3, by rw [e4 5 (by decide) (by decide)]; exact g4, fun w => ?_⟩
    obtain ⟨f1, f2, f3, f4⟩ := g5 w
    refine ⟨by rw [e4 6 (by decide) (by decide)]; exact f1, by rw [e4 7 (by decide) (by decide)]; exact f2, by rw [e4 8 (by decide) (by decide)]; exact f3, fun k hk => ?_⟩
    obtain ⟨b1, b2, b3⟩ := f4 k hk
    exact ⟨by rw [e9 9 _ (by decide) (by decide) (by omega) (by omega)]; exact b1, by rw [e9 10 _ (by decide) (by decide) (by omega) (by omega)]; exact b2, fun y => by rw [e9 11 _ (by decide) (by decide) (by omega) (by omega)]; exact b3 y⟩
/-- the text at p is another, and it was read -/
theorem ml_read {A A3 A' : Nat → Nat → Int32} {tt : Nat → List Nat} {nt : List Nat} {p : Nat} (hp : p < 96) (ho : ttO tt) (hno : tyo nt) (hm : ml A (sL tt)) (h2 : ∀ j, j ≠ p → A3 2 j = A 2 j) (h2p : A3 2 p = nI nt.length) (h4 : ∀ i, 4 ≤ i → i ≤ 11 → A3 i = A i) (hr : rdF A3 A' p) (k0 : nt.length = 0 → A' 4 p = -1 ∧ A' 5 p = -1 ∧ A' 6 p = -1 ∧ A' 8 p = 0) (k1 : 0 < nt.length → mr A' p (pz (tf nt) nt.length (p / 12))) : ml A' (sL (va_up tt p nt)) := by
  intro j hj
  by_cases e : j = p
  · subst e
    have hLp : sL (va_up tt j nt) j = sx nt (j / 12) := by unfold sL; simp only [va_up, if_true]
    refine ⟨fun z => ?_, fun s z => ?_⟩
    · rw [hLp] at z
      unfold sx at z
      split at z
      · rename_i w
        have := k0 (by rw [w]; rfl)
        refine ⟨?_, this⟩
        rw [hr.1 2 (by omega), h2p, w]
        rfl
      · cases z
    · rw [hLp] at z
      unfold sx at z
      split at z
      · cases z
      · rename_i w
        cases z
        have hl : 0 < nt.length := List.length_pos_iff.mpr w
        have := pz_wf (tx := tf nt) (N := nt.length) (m := j / 12) (by omega) hno.1
        refine ⟨?_, by rw [this.2.1]; exact hl, k1 hl⟩
        rw [hr.1 2 (by omega), h2p, this.2.1]
  · refine mlA_cg (hm j hj) ?_ (fun s hs => ((sL_wf ho) j s hj hs).2.2.1) ?_ (fun i i1 i2 => ?_) (fun i c i1 i2 c1 c2 => ?_)
    · unfold sL; simp only [va_up, if_neg e]
    · rw [hr.1 2 (by omega)]; exact h2 j e
    · rw [hr.2.1 i j i1 i2 e, h4 i i1 (by omega)]
    · rw [hr.2.2 i c i1 i2 (by omega), h4 i (by omega) (by omega)]
theorem ed_stale {d m p0 : Nat} {u : Int32} {q : Nat → Int32} {A0 : Nat → Nat → Int32} {S : px_S} {Q : Option Value → px_S → Prop} (hp0 : p0 < 96) (h : mo_at S m q A0)
    (k : ∀ S' A', eS S S' m q A0 A' → (∀ t, t < 208 → (bz (A' 23) t = true ↔ A0 5 p0 = nI t)) → px_P d px_m_Model_edit (36, [(0, .ref m), (1, .int (nI p0)), (2, .int u), (3, .int (nI 208))], []) S' Q) : px_P d px_m_Model_edit (2, [(0, .ref m), (1, .int (nI p0)), (2, .int u), (3, .int (nI 0))], []) S Q := by
  have lp := px_for (d := d) (mi := px_m_Model_edit) (Q := Q) (X := Nat → Nat → Int32) 208 (fun i _ => (2, [(0, .ref m), (1, .int (nI p0)), (2, .int u), (3, .int (nI i))], []))
    (fun i A S' => eS S S' m q A0 A ∧ ∀ t, t < i → (bz (A 23) t = true ↔ A0 5 p0 = nI t))
    (by
      intro i hi A S1 ⟨g1, g2⟩ kk
      have c1 := g1.1.1
      have e5 : A 5 = A0 5 := g1.2.2 5 (by decide) (by decide)
      have tail : ∀ v : Int32, v = (if nI i = A0 5 p0 then 1 else 0) → px_P d px_m_Model_edit (29, [(0, .ref m), (1, .int (nI p0)), (2, .int u), (3, .int (nI i))], [.int v, .int (nI i), .ref (m + 23)]) S1 Q := by
        intro v hv
        have hv01 : (decide (v = 0) || decide (v = 1)) = true := by rw [hv]; split <;> rfl
        have r23 : S1.1 (m + 23) = some (.inl (2, 208, .inl (A 23))) := g1.1.2 23 (by decide) (by decide)
        refine px_P.zastj (j := i) rfl (by assumption) hv01 rfl (by omega) (by decide) (fun S2 u2 => ?_)
        refine px_P.sn 2 (f1 := (2, [(0, .ref m), (1, .int (nI p0)), (2, .int u), (3, .int ((nI i) + 1))], [])) (S1 := S2) rfl ?_
        rw [nI_1]
        refine kk (va_up A 23 (upd (A 23) i v)) S2 ⟨g1.up (j := 23) (by omega) u2, fun t ht => ?_⟩
        rw [va_us]
        by_cases e : t = i
        · rw [e]
          unfold bz
          rw [pk_us, hv, decide_eq_true_eq]
          by_cases w : nI i = A0 5 p0
          · rw [if_pos w]; exact ⟨fun _ => w.symm, fun _ => by decide⟩
          · rw [if_neg w]; exact ⟨fun z => absurd rfl z, fun z => absurd z.symm w⟩
        · rw [bz_n _ e]; exact g2 t (by omega)
      show px_P _ _ (2, [(0, .ref m), (1, .int (nI p0)), (2, .int u), (3, .int (nI i))], []) S1 _
      have r5 : S1.1 (m + 5) = some (.inl (0, 96, .inl (A 5))) := g1.1.2 5 (by decide) (by decide)
      refine px_P.sn 2 (f1 := (6, [(0, .ref m), (1, .int (nI p0)), (2, .int u), (3, .int (nI i))], [.int 208, .int (nI i)])) (S1 := S1) rfl ?_
      refine px_P.ic_ge rfl rfl (fun h => absurd h (nI_ge (b := 208) hi (by decide))) (fun _ => ?_)
      refine px_P.sn 1 (f1 := (10, [(0, .ref m), (1, .int (nI p0)), (2, .int u), (3, .int (nI i))], [.ref m])) (S1 := S1) rfl ?_
      refine px_P.gf rfl rfl (by assumption) (v := .ref (m + 23)) rfl ?_
      refine px_P.sn 3 (f1 := (16, [(0, .ref m), (1, .int (nI p0)), (2, .int u), (3, .int (nI i))], [.ref m, .int (nI i), .int (nI i), .ref (m + 23)])) (S1 := S1) rfl ?_
      refine px_P.gf rfl rfl (by assumption) (v := .ref (m + 5)) rfl ?_
      refine px_P.sn 1 (f1 := (20, [(0, .ref m), (1, .int (nI p0)), (2, .int u), (3, .int (nI i))], [.int (nI p0), .ref (m + 5), .int (nI i), .int (nI i), .ref (m + 23)])) (S1 := S1) rfl ?_
      refine px_P.ialdj (j := p0) rfl (by assumption) rfl (by omega) (by decide) ?_
      rw [e5]
      refine px_P.ic_ne rfl rfl (fun z => ?_) (fun z => ?_)
      · refine px_P.sn 1 (f1 := (29, [(0, .ref m), (1, .int (nI p0)), (2, .int u), (3, .int (nI i))], [.int 0, .int (nI i), .ref (m + 23)])) (S1 := S1) rfl ?_
        exact tail 0 (by rw [if_neg z])
      · refine px_P.sn 2 (f1 := (29, [(0, .ref m), (1, .int (nI p0)), (2, .int u), (3, .int (nI i))], [.int 1, .int (nI i), .ref (m + 23)])) (S1 := S1) rfl ?_
        exact tail 1 (by rw [if_pos z]))
    (by
      intro A S1 ⟨g1, g2⟩
      show px_P _ _ (2, [(0, .ref m), (1, .int (nI p0)), (2, .int u), (3, .int (nI 208))], []) S1 _
      refine px_P.sn 2 (f1 := (6, [(0, .ref m), (1, .int (nI p0)), (2, .int u), (3, .int (nI 208))], [.int 208, .int (nI 208)])) (S1 := S1) rfl ?_
      refine px_P.ic_ge rfl rfl (fun _ => ?_) (fun h => absurd ((by decide)) h)
      exact k S1 A g1 g2)
  exact lp 208 0 rfl A0 S ⟨⟨h, mF.rf S m, fun _ _ _ => rfl⟩, fun t ht => absurd ht (by omega)⟩
/-- where the new text lies -/
def srcT (u : Bool) (z : Nat) (q : Nat → Int32) (A : Nat → Nat → Int32) (nt : List Nat) : Prop := (u = false → q 1 = nI nt.length ∧ tya (A 1) nt) ∧ (u = true → q 3 = nI z ∧ z < 16 ∧ A 19 z = nI nt.length ∧ ∀ j, j < nt.length → A 20 (60 * z + j) = nI (tf nt j))
theorem ed_copy {d m p0 z : Nat} {u : Bool} {nt : List Nat} {q : Nat → Int32} {A0 : Nat → Nat → Int32} {S : px_S} {Q : Option Value → px_S → Prop} (hp0 : p0 < 96) (hno : tyo nt) (h : mo_at S m q A0) (hsz : A0 2 p0 = nI nt.length) (hsrc : srcT u z q A0 nt)
    (k : ∀ S' A', mo_at S' m q A' → mF S S' m → (∀ i, i ≠ 3 → A' i = A0 i) → (∀ j, j < nt.length → A' 3 (60 * p0 + j) = nI (tf nt j)) → (∀ c, (c < 60 * p0 ∨ 60 * p0 + 60 ≤ c) → A' 3 c = A0 3 c) → px_P d px_m_Model_edit (118, [(0, .ref m), (1, .int (nI p0)), (2, .int (bif u then 1 else 0)), (3, .int (nI nt.length))], []) S' Q) : px_P d px_m_Model_edit (64, [(0, .ref m), (1, .int (nI p0)), (2, .int (bif u then 1 else 0)), (3, .int (nI 0))], []) S Q := by
  have hl := hno.1
  have lp := px_for (d := d) (mi := px_m_Model_edit) (Q := Q) (X := Nat → Nat → Int32) nt.length (fun i _ => (64, [(0, .ref m), (1, .int (nI p0)), (2, .int (bif u then 1 else 0)), (3, .int (nI i))], []))
    (fun i A S' => mo_at S' m q A ∧ mF S S' m ∧ (∀ i, i ≠ 3 → A i = A0 i) ∧ (∀ j, j < i → A 3 (60 * p0 + j) = nI (tf nt j)) ∧ ∀ c, (c < 60 * p0 ∨ 60 * p0 + 60 ≤ c) → A 3 c = A0 3 c)
    (by
      intro i hi A S1 ⟨g1, g2, g3, g4, g5⟩ kk
      have hc := hno.2 _ (tf_mem hi)
      have c1 := g1.1
      have tail : px_P d px_m_Model_edit (111, [(0, .ref m), (1, .int (nI p0)), (2, .int (bif u then 1 else 0)), (3, .int (nI i))], [.int (nI (tf nt i)), .int (nI (60 * p0 + i)), .ref (m + 3)]) S1 Q := by
        have r3 : S1.1 (m + 3) = some (.inl (3, 5760, .inl (A 3))) := g1.2 3 (by decide) (by decide)
        refine px_P.castj (j := 60 * p0 + i) rfl (by assumption) (ch_ok (by omega)) rfl (by omega) (by decide) (fun S2 u2 => ?_)
        refine px_P.sn 2 (f1 := (64, [(0, .ref m), (1, .int (nI p0)), (2, .int (bif u then 1 else 0)), (3, .int ((nI i) + 1))], [])) (S1 := S2) rfl ?_
        rw [nI_1]
        refine kk (va_up A 3 (upd (A 3) (60 * p0 + i) (nI (tf nt i)))) S2 ⟨g1.ar (i := 3) (by decide) (by decide) u2, g2.tr (mF.u (by omega) (by omega) u2), fun j hj => (va_un hj).trans (g3 j hj), fun j hj => ?_, fun c hc => ?_⟩
        · rw [va_us]
          by_cases e : j = i
          · rw [e, pk_us]
          · rw [pk_un (by omega)]; exact g4 j (by omega)
        · rw [va_us, pk_un (by omega)]; exact g5 c hc
      show px_P _ _ (64, [(0, .ref m), (1, .int (nI p0)), (2, .int (bif u then 1 else 0)), (3, .int (nI i))], []) S1 _
      have r2 : S1.1 (m + 2) = some (.inl (0, 96, .inl (A 2))) := g1.2 2 (by decide) (by decide)
      refine px_P.sn 2 (f1 := (66, [(0, .ref m), (1, .int (nI p0)), (2, .int (bif u then 1 else 0)), (3, .int (nI i))], [.ref m, .int (nI i)])) (S1 := S1) rfl ?_
      refine px_P.gf rfl rfl (by assumption) (v := .ref (m + 2)) rfl ?_
      refine px_P.sn 1 (f1 := (70, [(0, .ref m), (1, .int (nI p0)), (2, .int (bif u then 1 else 0)), (3, .int (nI i))], [.int (nI p0), .ref (m + 2), .int (nI i)])) (S1 := S1) rfl ?_
      refine px_P.ialdj (j := p0) rfl (by assumption) rfl (by omega) (by decide) ?_
      rw [g3 2 (by decide), hsz]
      refine px_P.ic_ge rfl rfl (fun h => absurd h (nI_ge hi (by omega))) (fun _ => ?_)
      refine px_P.sn 1 (f1 := (75, [(0, .ref m), (1, .int (nI p0)), (2, .int (bif u then 1 else 0)), (3, .int (nI i))], [.ref m])) (S1 := S1) rfl ?_
      refine px_P.gf rfl rfl (by assumption) (v := .ref (m + 3)) rfl ?_
      refine px_P.sn 6 (f1 := (85, [(0, .ref m), (1, .int (nI p0)), (2, .int (bif u then 1 else 0)), (3, .int (nI i))], [.int (bif u then 1 else 0), .int ((60 * (nI p0)) + (nI i)), .ref (m + 3)])) (S1 := S1) rfl ?_
      rw [show (60 : Int32) * nI p0 + nI i = nI (60 * p0 + i) by rw [show (60 : Int32) = nI 60 from rfl, pk_mul, nI_add]]
      cases u with
      | false =>
        obtain ⟨s1, s2⟩ := hsrc.1 rfl
        show px_P _ _ (85, [(0, .ref m), (1, .int (nI p0)), (2, .int 0), (3, .int (nI i))], [.int 0, .int (nI (60 * p0 + i)), .ref (m + 3)]) S1 _
        have r1 : S1.1 (m + 1) = some (.inl (3, 60, .inl (A 1))) := g1.2 1 (by decide) (by decide)
        refine px_P.if_eq rfl rfl (fun _ => ?_) (fun h => absurd ((by decide)) h)
        refine px_P.sn 1 (f1 := (106, [(0, .ref m), (1, .int (nI p0)), (2, .int 0), (3, .int (nI i))], [.ref m, .int (nI (60 * p0 + i)), .ref (m + 3)])) (S1 := S1) rfl ?_
        refine px_P.gf rfl rfl (by assumption) (v := .ref (m + 1)) rfl ?_
        refine px_P.sn 1 (f1 := (110, [(0, .ref m), (1, .int (nI p0)), (2, .int 0), (3, .int (nI i))], [.int (nI i), .ref (m + 1), .int (nI (60 * p0 + i)), .ref (m + 3)])) (S1 := S1) rfl ?_
        refine px_P.caldj (j := i) rfl (by assumption) rfl (by omega) (by decide) ?_
        rw [g3 1 (by decide), s2 i hi]
        exact tail
      | true =>
        obtain ⟨s1, s2, s3, s4⟩ := hsrc.2 rfl
        have cz : S1.1 m = some (.inr (10, mo_ob m (upd q 3 (nI z)))) := by
          have : upd q 3 (nI z) = q := by
            funext j
            by_cases e : j = 3
            · rw [e, pk_us, s1]
            · rw [pk_un e]
          rw [this]; exact g1.1
        clear c1
        show px_P _ _ (85, [(0, .ref m), (1, .int (nI p0)), (2, .int 1), (3, .int (nI i))], [.int 1, .int (nI (60 * p0 + i)), .ref (m + 3)]) S1 _
        have r20 : S1.1 (m + 20) = some (.inl (3, 960, .inl (A 20))) := g1.2 20 (by decide) (by decide)
        refine px_P.if_eq rfl rfl (fun h => absurd h ((by decide))) (fun _ => ?_)
        refine px_P.sn 1 (f1 := (89, [(0, .ref m), (1, .int (nI p0)), (2, .int 1), (3, .int (nI i))], [.ref m, .int (nI (60 * p0 + i)), .ref (m + 3)])) (S1 := S1) rfl ?_
        refine px_P.gf rfl rfl (by assumption) (v := .ref (m + 20)) rfl ?_
        refine px_P.sn 2 (f1 := (95, [(0, .ref m), (1, .int (nI p0)), (2, .int 1), (3, .int (nI i))], [.ref m, .int 60, .ref (m + 20), .int (nI (60 * p0 + i)), .ref (m + 3)])) (S1 := S1) rfl ?_
        refine px_P.gf rfl rfl (by assumption) (v := .int (nI z)) rfl ?_
        refine px_P.sn 3 (f1 := (101, [(0, .ref m), (1, .int (nI p0)), (2, .int 1), (3, .int (nI i))], [.int ((60 * (nI z)) + (nI i)), .ref (m + 20), .int (nI (60 * p0 + i)), .ref (m + 3)])) (S1 := S1) rfl ?_
        rw [show (60 : Int32) * nI z + nI i = nI (60 * z + i) by rw [show (60 : Int32) = nI 60 from rfl, pk_mul, nI_add]]
        refine px_P.caldj (j := 60 * z + i) rfl (by assumption) rfl (by omega) (by decide) ?_
        rw [g3 20 (by decide), s4 i hi]
        refine px_P.sn 1 (f1 := (111, [(0, .ref m), (1, .int (nI p0)), (2, .int 1), (3, .int (nI i))], [.int (nI (tf nt i)), .int (nI (60 * p0 + i)), .ref (m + 3)])) (S1 := S1) rfl ?_
        exact tail)
    (by
      intro A S1 ⟨g1, g2, g3, g4, g5⟩
      have c1 := g1.1
      show px_P _ _ (64, [(0, .ref m), (1, .int (nI p0)), (2, .int (bif u then 1 else 0)), (3, .int (nI nt.length))], []) S1 _
      have r2 : S1.1 (m + 2) = some (.inl (0, 96, .inl (A 2))) := g1.2 2 (by decide) (by decide)
      refine px_P.sn 2 (f1 := (66, [(0, .ref m), (1, .int (nI p0)), (2, .int (bif u then 1 else 0)), (3, .int (nI nt.length))], [.ref m, .int (nI nt.length)])) (S1 := S1) rfl ?_
      refine px_P.gf rfl rfl (by assumption) (v := .ref (m + 2)) rfl ?_
      refine px_P.sn 1 (f1 := (70, [(0, .ref m), (1, .int (nI p0)), (2, .int (bif u then 1 else 0)), (3, .int (nI nt.length))], [.int (nI p0), .ref (m + 2), .int (nI nt.length)])) (S1 := S1) rfl ?_
      refine px_P.ialdj (j := p0) rfl (by assumption) rfl (by omega) (by decide) ?_
      rw [g3 2 (by decide), hsz]
      refine px_P.ic_ge rfl rfl (fun _ => ?_) (fun h => absurd (Int32.le_refl _) h)
      exact k S1 A g1 g2 g3 g4 g5)
  exact lp nt.length 0 (by omega) A0 S ⟨h, mF.rf S m, fun _ _ => rfl, fun j hj => absurd hj (by omega), fun _ _ => rfl⟩
