/-! ===== one call of the class beside one of the model ===== -/
abbrev oC (f : Nat → Int64) : Option px_E := some (.inl (1, 1, .inr (.inl f)))
/-- between two calls -/
def lI (S : px_S) (x : Nat) (ty : List Nat) (tt : Nat → List Nat) (hh : List (Nat × List Nat)) : Prop := dI S x (x + 462) ty tt hh ∧ mI S (x + 435) ty tt hh ∧ (∃ f, S.1 (x + 461) = oC f) ∧ x + 462 ≤ S.2.1
theorem mI.keep {S S' : px_S} {m : Nat} {ty : List Nat} {tt : Nat → List Nat} {hh : List (Nat × List Nat)} (h : mI S m ty tt hh) (hk : ∀ q, m ≤ q → q < m + 26 → S'.1 q = S.1 q) : mI S' m ty tt hh := by
  obtain ⟨q, A, ⟨h1, h2⟩, hr⟩ := h
  exact ⟨q, A, ⟨(hk _ (Nat.le_refl _) (by omega)).trans h1, fun i a b => (hk _ (by omega) (by omega)).trans (h2 i a b)⟩, hr⟩
theorem lI_end {x : Nat} {S1 S2 S3 : px_S} {ty : List Nat} {tt : Nat → List Nat} {hh : List (Nat × List Nat)} (hd : dI S1 x (x + 462) ty tt hh) (e2 : S1.2.1 ≤ S2.2.1) (hk : ∀ q, q ≠ x + 461 → S2.1 q = S1.1 q) (ho : ∃ f, S2.1 (x + 461) = oC f) (hF : mF S2 S3 (x + 435)) (hm : mI S3 (x + 435) ty tt hh) (hz : x + 462 ≤ S1.2.1) : lI S3 x ty tt hh := by
  have h3 : S3.2.1 = S2.2.1 := by rw [hF.2]
  refine ⟨hd.keep (fun q a b => (hF.1 q (Or.inl (by omega))).trans (hk q (by omega))) (fun q a b => (hF.1 q (Or.inr (by omega))).trans (hk q (by omega))) (by omega), hm, ?_, by omega⟩
  obtain ⟨f, hf⟩ := ho
  exact ⟨f, (hF.1 _ (Or.inr (by omega))).trans hf⟩
def cR (mj mk : Nat) (As : List Value) (x : Nat) (S : px_S) : Prop := px_M 60 mj (.ref x :: As) S (fun r S1 => ∃ v, r = some (.int v) ∧ dF S S1 x (x + 462) 20 403 ∧ ∃ ty tt hh, ∀ S2, S2.2 = S1.2 → (∀ q, q ≠ x + 461 → S2.1 q = S1.1 q) → (∃ f, S2.1 (x + 461) = oC f) →
  px_M 60 mk (.ref (x + 435) :: As) S2 (fun r' S3 => r' = some (.int v) ∧ mf S3 (x + 435) 0 ∧ lI S3 x ty tt hh ∧ S3.1 (x + 461) = S2.1 (x + 461) ∧ S3.2 = S2.2))
def cT (mj mk : Nat) (As : List Value) (x pc : Nat) (S : px_S) : Prop := px_T 7 mj (px_ent (.ref x :: As)) S (toX pc S) ∧ ∃ ty tt hh, ∀ S2, S2.1 = S.1 → S.2.1 ≤ S2.2.1 →
  px_M 60 mk (.ref (x + 435) :: As) S2 (fun r' S3 => (∃ v, r' = some (.int v)) ∧ mf S3 (x + 435) 1 ∧ lI S3 x ty tt hh ∧ S3.2 = S2.2)
section CS
variable {x : Nat} {ty : List Nat} {tt : Nat → List Nat} {hh : List (Nat × List Nat)} {S : px_S}
theorem dF_of {S S' : px_S} (h1 : ∀ q, q < x + 462 → (q < x ∨ x + 435 ≤ q) → S'.1 q = S.1 q) (h2 : S'.2 = S.2) : dF S S' x (x + 462) 20 403 := ⟨h1, by rw [h2]; exact Nat.le_refl _, by rw [h2]; omega, by rw [h2]; omega⟩
/-- the model's state, behind the class's call -/
theorem mI_via {S1 S2 : px_S} (hm : mI S (x + 435) ty tt hh) (hk : dF S S1 x (x + 462) 20 403) (h2 : ∀ q, q ≠ x + 461 → S2.1 q = S1.1 q) : mI S2 (x + 435) ty tt hh := hm.keep (fun q a b => (h2 q (by omega)).trans (hk.1 q (by omega) (Or.inr (by omega))))
theorem lI.zS {S1 : px_S} (h : lI S x ty tt hh) (hk : dF S S1 x (x + 462) 20 403) : x + 462 ≤ S1.2.1 := Nat.le_trans h.2.2.2 hk.2.1
/-- the model's state, behind a throw -/
theorem lI.thr {S2 : px_S} (h : lI S x ty tt hh) (e1 : S2.1 = S.1) : mI S2 (x + 435) ty tt hh := h.2.1.keep (fun q _ _ => by rw [e1])
theorem lI.thrE {S2 S3 : px_S} (h : lI S x ty tt hh) (e1 : S2.1 = S.1) (e2 : S.2.1 ≤ S2.2.1) (hF : mF S2 S3 (x + 435)) (hm : mI S3 (x + 435) ty tt hh) : lI S3 x ty tt hh :=
  lI_end h.1 e2 (fun q _ => by rw [e1]) (by rw [e1]; exact h.2.2.1) hF hm h.2.2.2
theorem cs_type (h : lI S x ty tt hh) (a b c e f : Int32) : cR px_m_Daemon_type px_m_Model_type [.int a, .int b, .int c, .int e, .int f] x S ∨ cT px_m_Daemon_type px_m_Model_type [.int a, .int b, .int c, .int e, .int f] x 40 S := by
  by_cases hl : (ty ++ typ a b c e f).length ≤ 60
  · left
    refine pm_dmType (by omega) h.1 (by rw [List.length_append] at hl; exact hl) fun S1 hd hk h2 => ⟨_, rfl, dF_of hk h2, ty ++ typ a b c e f, tt, hh, fun S2 e2 k2 ho => ?_⟩
    refine pm_moType (by omega) (mI_via h.2.1 (dF_of hk h2) k2) (fun _ S3 hm hf hF => ⟨rfl, hf, lI_end hd (by rw [e2]; exact Nat.le_refl _) k2 ho hF hm (h.zS (dF_of hk h2)), hF.1 _ (Or.inr (by omega)), hF.2⟩) (fun z => absurd hl z)
  · right
    refine ⟨pt_type (by omega) h.1 hl, ty, tt, hh, fun S2 e1 e2 => ?_⟩
    exact pm_moType (by omega) (h.thr e1) (fun z => absurd z hl) (fun _ S3 hm hf hF => ⟨⟨_, rfl⟩, hf, h.thrE e1 e2 hF hm, hF.2⟩)
theorem b2 {v M : Int32} {n : Nat} (hM : M.toInt = n) (h : (decide (0 ≤ v) && decide (v ≤ M)) = true) : ∃ j : Nat, j ≤ n ∧ v = nI j := by
  simp only [Bool.and_eq_true, decide_eq_true_eq] at h
  exact nI_of2 hM (Int32.not_lt.mpr h.1) h.2
theorem cs_put (h : lI S x ty tt hh) (v w : Int32) : cR px_m_Daemon_put px_m_Model_put [.int v, .int w] x S ∨ cT px_m_Daemon_put px_m_Model_put [.int v, .int w] x 8 S := by
  cases hb : plB v w with
  | true =>
    left
    have hb' := hb
    unfold plB at hb'
    rw [Bool.and_eq_true] at hb'
    obtain ⟨m, hm, rfl⟩ := b2 (n := 7) rfl hb'.1
    obtain ⟨l, hl, rfl⟩ := b2 (n := 11) rfl hb'.2
    refine pm_dmPut (by omega) h.1 (by omega) (by omega) fun S1 P R hd hlk hF1 => ⟨_, rfl, hF1, [], va_up tt (12 * m + l) (if blk ty then [] else ty), hK hh (12 * m + l, tt (12 * m + l)), fun S2 e2 k2 ho => ?_⟩
    refine pm_mmPut (by omega) (mI_via h.2.1 hF1 k2) (by omega) (by omega) fun S3 P' R' hm hf hF hlk' => ⟨by rw [lk_un hlk' hlk], hf, lI_end hd (by rw [e2]; exact Nat.le_refl _) k2 ho hF hm (h.zS hF1), hF.1 _ (Or.inr (by omega)), hF.2⟩
  | false =>
    right
    refine ⟨pt_put (by omega) hb, ty, tt, hh, fun S2 e1 e2 => ?_⟩
    exact pm_mmPutBad (by omega) (h.thr e1) hb (fun S3 hm hf hF => ⟨⟨_, rfl⟩, hf, h.thrE e1 e2 hF hm, hF.2⟩)
theorem cs_drop (h : lI S x ty tt hh) (v : Int32) : cR px_m_Daemon_drop px_m_Model_drop [.int v] x S ∨ cT px_m_Daemon_drop px_m_Model_drop [.int v] x 10 S := by
  cases hb : (decide (0 ≤ v) && decide (v ≤ 7)) with
  | true =>
    left
    obtain ⟨m, hm, rfl⟩ := b2 (n := 7) rfl hb
    refine pm_dmDrop (by omega) h.1 (by omega) fun S1 hd hk h2 => ⟨_, rfl, dF_of hk h2, ty, drp tt m 12, [], fun S2 e2 k2 ho => ?_⟩
    refine pm_mmDrop (by omega) (mI_via h.2.1 (dF_of hk h2) k2) (by omega) fun S3 hm hf hF => ⟨rfl, hf, lI_end hd (by rw [e2]; exact Nat.le_refl _) k2 ho hF hm (h.zS (dF_of hk h2)), hF.1 _ (Or.inr (by omega)), hF.2⟩
  | false =>
    right
    refine ⟨pt_drop hb, ty, tt, hh, fun S2 e1 e2 => ?_⟩
    exact pm_mmDropBad (by omega) (h.thr e1) hb (fun S3 hm hf hF => ⟨⟨_, rfl⟩, hf, h.thrE e1 e2 hF hm, hF.2⟩)
theorem cs_undo (h : lI S x ty tt hh) : cR px_m_Daemon_undo px_m_Model_undo [] x S ∨ cT px_m_Daemon_undo px_m_Model_undo [] x 10 S := by
  cases hz : hh.length with
  | succ z =>
    left
    refine pm_dmUndo (by omega) h.1 hz fun S1 P R hd hlk hk h2 => ⟨_, rfl, dF_of hk h2, ty, va_up tt (hg hh z).1 (hg hh z).2, hh.take z, fun S2 e2 k2 ho => ?_⟩
    refine pm_mmUndo (by omega) (mI_via h.2.1 (dF_of hk h2) k2) hz fun S3 P' R' hm hf hF hlk' => ⟨by rw [lk_un hlk' hlk], hf, lI_end hd (by rw [e2]; exact Nat.le_refl _) k2 ho hF hm (h.zS (dF_of hk h2)), hF.1 _ (Or.inr (by omega)), hF.2⟩
  | zero =>
    right
    cases List.length_eq_zero_iff.mp hz
    refine ⟨pt_undo (by omega) h.1, ty, tt, [], fun S2 e1 e2 => ?_⟩
    exact pm_mmUndoBad (by omega) (h.thr e1) (fun S3 hm hf hF => ⟨⟨_, rfl⟩, hf, h.thrE e1 e2 hF hm, hF.2⟩)
theorem cs_symbol (h : lI S x ty tt hh) (a b c : Int32) : cR px_m_Daemon_symbol px_m_Model_symbol [.int a, .int b, .int c] x S ∨ cT px_m_Daemon_symbol px_m_Model_symbol [.int a, .int b, .int c] x 29 S := by
  cases hb : ((decide (0 ≤ a) && decide (a ≤ 7)) && ((decide (0 ≤ b) && decide (b ≤ 25)) && (decide (0 ≤ c) && decide (c ≤ 3)))) with
  | true =>
    left
    rw [Bool.and_eq_true, Bool.and_eq_true (decide (0 ≤ b) && decide (b ≤ 25))] at hb
    obtain ⟨m, hm, rfl⟩ := b2 (n := 7) rfl hb.1
    obtain ⟨l, hl, rfl⟩ := b2 (n := 25) rfl hb.2.1
    obtain ⟨w, hw, rfl⟩ := b2 (n := 3) rfl hb.2.2
    refine pm_dmSymbol (by omega) h.1 (by omega) (by omega) (by omega) fun S1 v hd hv h2 => ⟨v, rfl, dF_of h2.1 h2.2, ty, tt, hh, fun S2 e2 k2 ho => ?_⟩
    refine pm_mmSymbol (by omega) (mI_via h.2.1 (dF_of h2.1 h2.2) k2) (by omega) (by omega) (by omega) fun S3 v' hm hf hF hu => ⟨by rw [hu v hv], hf, lI_end hd (by rw [e2]; exact Nat.le_refl _) k2 ho hF hm (h.zS (dF_of h2.1 h2.2)), hF.1 _ (Or.inr (by omega)), hF.2⟩
  | false =>
    right
    refine ⟨pt_symbol hb, ty, tt, hh, fun S2 e1 e2 => ?_⟩
    exact pm_mm3Bad (by omega) (Or.inl ⟨rfl, rfl, rfl⟩) (h.thr e1) hb (fun S3 hm hf hF => ⟨⟨_, rfl⟩, hf, h.thrE e1 e2 hF hm, hF.2⟩)
theorem cs_line (h : lI S x ty tt hh) (a b c : Int32) : cR px_m_Daemon_line px_m_Model_line [.int a, .int b, .int c] x S ∨ cT px_m_Daemon_line px_m_Model_line [.int a, .int b, .int c] x 17 S := by
  cases hb : ((decide (0 ≤ a) && decide (a ≤ 7)) && ((decide (0 ≤ b) && decide (b ≤ 11)) && (decide (0 ≤ c) && decide (c ≤ 4)))) with
  | true =>
    left
    rw [Bool.and_eq_true, Bool.and_eq_true (decide (0 ≤ b) && decide (b ≤ 11))] at hb
    obtain ⟨m, hm, rfl⟩ := b2 (n := 7) rfl hb.1
    obtain ⟨l, hl, rfl⟩ := b2 (n := 11) rfl hb.2.1
    obtain ⟨w, hw, rfl⟩ := b2 (n := 4) rfl hb.2.2
    refine pm_dmLine (by omega) h.1 (by omega) (by omega) (by omega) fun v hv => ⟨v, rfl, dF_of (fun _ _ _ => rfl) rfl, ty, tt, hh, fun S2 e2 k2 ho => ?_⟩
    refine pm_mmLine (by omega) (mI_via h.2.1 (dF_of (fun _ _ _ => rfl) rfl) k2) (by omega) (by omega) (by omega) fun S3 v' hm hf hF hu => ⟨by rw [hu v hv], hf, lI_end h.1 (by rw [e2]; exact Nat.le_refl _) k2 ho hF hm h.2.2.2, hF.1 _ (Or.inr (by omega)), hF.2⟩
  | false =>
    right
    refine ⟨pt_line (by omega) hb, ty, tt, hh, fun S2 e1 e2 => ?_⟩
    exact pm_mm3Bad (by omega) (Or.inr ⟨rfl, rfl, rfl⟩) (h.thr e1) hb (fun S3 hm hf hF => ⟨⟨_, rfl⟩, hf, h.thrE e1 e2 hF hm, hF.2⟩)
theorem cs_diag (h : lI S x ty tt hh) (a c : Int32) : cR px_m_Daemon_diagnostic px_m_Model_diagnostic [.int a, .int c] x S ∨ cT px_m_Daemon_diagnostic px_m_Model_diagnostic [.int a, .int c] x 9 S := by
  cases hb : (decide (0 ≤ c) && decide (c ≤ 3)) with
  | true =>
    left
    obtain ⟨w, hw, rfl⟩ := b2 (n := 3) rfl hb
    by_cases ha : a < 0
    · refine pm_dmDiagN (by omega) ha (by omega) ⟨-1, rfl, dF_of (fun _ _ _ => rfl) rfl, ty, tt, hh, fun S2 e2 k2 ho => ?_⟩
      refine pm_mmDiagN (by omega) (mI_via h.2.1 (dF_of (fun _ _ _ => rfl) rfl) k2) ha (by omega) fun S3 hm hf hF => ⟨rfl, hf, lI_end h.1 (by rw [e2]; exact Nat.le_refl _) k2 ho hF hm h.2.2.2, hF.1 _ (Or.inr (by omega)), hF.2⟩
    · obtain ⟨q, hq, rfl⟩ := nI_of ha
      refine pm_dmDiag (by omega) h.1 hq (by omega) fun v hv => ⟨v, rfl, dF_of (fun _ _ _ => rfl) rfl, ty, tt, hh, fun S2 e2 k2 ho => ?_⟩
      refine pm_mmDiag (by omega) (mI_via h.2.1 (dF_of (fun _ _ _ => rfl) rfl) k2) hq (by omega) fun S3 v' hm hf hF hu => ⟨by rw [hu v hv], hf, lI_end h.1 (by rw [e2]; exact Nat.le_refl _) k2 ho hF hm h.2.2.2, hF.1 _ (Or.inr (by omega)), hF.2⟩
  | false =>
    right
    refine ⟨pt_diag hb, ty, tt, hh, fun S2 e1 e2 => ?_⟩
    exact pm_mmDiagBad (by omega) (h.thr e1) hb (fun S3 hm hf hF => ⟨⟨_, rfl⟩, hf, h.thrE e1 e2 hF hm, hF.2⟩)
theorem cs_count (h : lI S x ty tt hh) (c : Int32) : cR px_m_Daemon_count px_m_Model_count [.int c] x S ∨ cT px_m_Daemon_count px_m_Model_count [.int c] x 9 S := by
  cases hb : (decide (0 ≤ c) && decide (c ≤ 5)) with
  | true =>
    left
    obtain ⟨w, hw, rfl⟩ := b2 (n := 5) rfl hb
    refine pm_dmCount (by omega) h.1 (by omega) fun S1 v hd hv h2 => ⟨v, rfl, dF_of h2.1 h2.2, ty, tt, hh, fun S2 e2 k2 ho => ?_⟩
    refine pm_mmCount (by omega) (mI_via h.2.1 (dF_of h2.1 h2.2) k2) (by omega) fun S3 v' hm hf hF hu => ⟨by rw [hu v hv], hf, lI_end hd (by rw [e2]; exact Nat.le_refl _) k2 ho hF hm (h.zS (dF_of h2.1 h2.2)), hF.1 _ (Or.inr (by omega)), hF.2⟩
  | false =>
    right
    refine ⟨pt_count hb, ty, tt, hh, fun S2 e1 e2 => ?_⟩
    exact pm_mmCountBad (by omega) (h.thr e1) hb (fun S3 hm hf hF => ⟨⟨_, rfl⟩, hf, h.thrE e1 e2 hF hm, hF.2⟩)
/-- erase: both return -/
theorem cs_erase (h : lI S x ty tt hh) : px_M 60 px_m_Daemon_erase [.ref x] S (fun r S1 => ∃ v, r = some (.int v) ∧ dF S S1 x (x + 462) 20 403 ∧ px_M 60 px_m_Model_erase [.ref (x + 435)] S1 (fun r' S3 => r' = some (.int v) ∧ (∃ ty tt hh, lI S3 x ty tt hh) ∧ S3.2 = S1.2)) := by
  refine pm_dmErase (by omega) h.1 fun S1 hd hk h2 => ⟨_, rfl, dF_of hk h2, ?_⟩
  have hm := mI_via (S2 := S1) h.2.1 (dF_of hk h2) (fun _ _ => rfl)
  refine pm_mmErase (by omega) hm fun S3 hm3 hF => ⟨rfl, ⟨[], tt, hh, lI_end hd (Nat.le_refl _) (fun _ _ => rfl) ?_ hF hm3 (h.zS (dF_of hk h2))⟩, hF.2⟩
  obtain ⟨f, hf⟩ := h.2.2.1
  exact ⟨f, (hk _ (by omega) (Or.inr (by omega))).trans hf⟩
theorem cs_thrown {v : Int32} (hf : mf S (x + 435) v) (hm : mI S (x + 435) ty tt hh) : px_M 60 px_m_Model_thrown [.ref (x + 435)] S (fun r S1 => r = some (.int v) ∧ S1 = S) := by
  obtain ⟨q, h1, h2⟩ := hf
  obtain ⟨q', A, ha, -⟩ := hm
  refine pm_moThrown (by omega) ha ⟨?_, rfl⟩
  have e1 := Option.some.inj (h1.symm.trans ha.1)
  have e2 : mo_ob (x + 435) q = mo_ob (x + 435) q' := by injection e1 with e1; injection e1
  have e3 : (mo_ob (x + 435) q)[0]? = (mo_ob (x + 435) q')[0]? := by rw [e2]
  have e4 : (Value.int (q 0)) = .int (q' 0) := Option.some.inj e3
  rw [← e4, h2]
end CS
