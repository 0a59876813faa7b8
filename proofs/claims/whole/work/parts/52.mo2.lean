/-! ===== the model: looking at characters, steps ===== -/
/-- the text of the line at p -/
def mt (A : Nat → Nat → Int32) (p : Nat) (tx : Nat → Nat) (N : Nat) : Prop := A 2 p = nI N ∧ (∀ j, j < N → A 3 (60 * p + j) = nI (tx j)) ∧ (∀ j, j < N → 1 ≤ tx j ∧ tx j ≤ 255) ∧ N ≤ 60 ∧ p < 96
theorem mt.cn {A : Nat → Nat → Int32} {p N : Nat} {tx : Nat → Nat} (h : mt A p tx N) (a : Nat) : cn tx N a ≤ 255 := by
  unfold _root_.Jvm.Pilot.CCheckDaemonLaw_law_r9510_a6ab17.cn
  split
  · rename_i ha; exact (h.2.2.1 a ha).2
  · omega
theorem pm_moCharAt {d m p a N : Nat} {tx : Nat → Nat} {q : Nat → Int32} {A : Nat → Nat → Int32} {S : px_S} {Q : Option Value → px_S → Prop} (hd : 1 ≤ d) (h : mo_at S m q A) (hp : q 6 = nI p) (ht : mt A p tx N) (ha : a ≤ N) (k : Q (some (.int (nI (cn tx N a)))) S) : px_M d px_m_Model_charAt [.ref m, .int (nI a)] S Q := by
  obtain ⟨t1, t2, t3, t4, t5⟩ := ht
  have h0 := h.1
  have h0' : S.1 m = some (.inr (10, mo_ob m q)) := h0
  have e0 : mo_ob m q = [.int (q 0), .ref (m + 1), .int (q 1), .ref (m + 2), .ref (m + 3), .ref (m + 4), .ref (m + 5), .ref (m + 6), .ref (m + 7), .ref (m + 8), .ref (m + 9), .ref (m + 10), .ref (m + 11), .ref (m + 12), .ref (m + 13), .ref (m + 14), .int (q 2), .ref (m + 15), .ref (m + 16), .ref (m + 17), .int (q 3), .ref (m + 18), .ref (m + 19), .ref (m + 20), .int (q 4), .ref (m + 21), .ref (m + 22), .ref (m + 23), .int (q 5), .int (nI p), .int (q 7), .ref (m + 24), .ref (m + 25), .int (q 8)] := by rw [← hp]; rfl
  rw [e0] at h0'
  clear h0
  have r2 : S.1 (m + 2) = some (.inl (0, 96, .inl (A 2))) := h.2 2 (by decide) (by decide)
  have r3 : S.1 (m + 3) = some (.inl (3, 5760, .inl (A 3))) := h.2 3 (by decide) (by decide)
  refine px_M.go (by omega) (Nat.le_of_ble_eq_true rfl) ?_
  refine px_P.sn 2 (f1 := (2, [(0, .ref m), (1, .int (nI a))], [.ref m, .int (nI a)])) (S1 := S) rfl ?_
  refine px_P.gf rfl rfl (by assumption) (v := .ref (m + 2)) rfl ?_
  refine px_P.sn 1 (f1 := (6, [(0, .ref m), (1, .int (nI a))], [.ref m, .ref (m + 2), .int (nI a)])) (S1 := S) rfl ?_
  refine px_P.gf rfl rfl (by assumption) (v := .int (nI p)) rfl ?_
  refine px_P.ialdj (j := p) rfl (by assumption) rfl (by omega) (by decide) ?_
  rw [t1]
  show px_P _ _ (10, [(0, .ref m), (1, .int (nI a))], [.int (nI N), .int (nI a)]) S _
  by_cases hlt : a < N
  · refine px_P.ic_ge rfl rfl (fun h => absurd h (nI_ge hlt (by omega))) (fun _ => ?_)
    refine px_P.sn 1 (f1 := (14, [(0, .ref m), (1, .int (nI a))], [.ref m])) (S1 := S) rfl ?_
    refine px_P.gf rfl rfl (by assumption) (v := .ref (m + 3)) rfl ?_
    refine px_P.sn 2 (f1 := (20, [(0, .ref m), (1, .int (nI a))], [.ref m, .int 60, .ref (m + 3)])) (S1 := S) rfl ?_
    refine px_P.gf rfl rfl (by assumption) (v := .int (nI p)) rfl ?_
    refine px_P.sn 3 (f1 := (26, [(0, .ref m), (1, .int (nI a))], [.int ((60 * (nI p)) + (nI a)), .ref (m + 3)])) (S1 := S) rfl ?_
    have ei : 60 * nI p + nI a = nI (60 * p + a) := by rw [show (60 : Int32) = nI 60 from rfl, nI_mul (by omega) (by omega) (by omega), nI_add]
    refine px_P.caldj (j := 60 * p + a) rfl (by assumption) ei (by omega) (by decide) ?_
    rw [t2 a hlt]
    refine px_P.sn 1 (f1 := (31, [(0, .ref m), (1, .int (nI a))], [.int (nI (tx a))])) (S1 := S) rfl ?_
    have e2 : cn tx N a = tx a := if_pos hlt
    rw [e2] at k
    have := t3 a hlt
    refine px_P.ret ?_ k
    show (bif (decide (0 ≤ nI (tx a)) && decide (nI (tx a) ≤ 65535)) then some (some (Value.int (nI (tx a)))) else none) = _
    rw [ch_ok (by omega)]
    rfl
  · refine px_P.ic_ge rfl rfl (fun _ => ?_) (fun h => absurd (nI_le (by omega) (by omega)) h)
    refine px_P.sn 1 (f1 := (31, [(0, .ref m), (1, .int (nI a))], [.int 0])) (S1 := S) rfl ?_
    have e2 : cn tx N a = 0 := if_neg hlt
    rw [e2] at k
    refine px_P.ret rfl ?_
    exact k
theorem pm_moLook {d m p a N : Nat} {tx : Nat → Nat} {q : Nat → Int32} {A : Nat → Nat → Int32} {S : px_S} {Q : Option Value → px_S → Prop} (hd : 2 ≤ d) (h : mo_at S m q A) (hp : q 6 = nI p) (hq5 : q 5 = nI a) (ht : mt A p tx N) (ha : a ≤ N)
    (k : ∀ S', mo_at S' m (upd q 5 (nI (nx tx N a))) A → mF S S' m → Q (some (.int (nI (cn tx N (nx tx N a))))) S') : px_M d px_m_Model_look [.ref m] S Q := by
  obtain ⟨t1, t2, t3, t4, t5⟩ := ht
  have ob : ∀ (S1 : px_S) (b : Nat), mo_at S1 m (upd q 5 (nI b)) A → S1.1 m = some (.inr (10, [.int (q 0), .ref (m + 1), .int (q 1), .ref (m + 2), .ref (m + 3), .ref (m + 4), .ref (m + 5), .ref (m + 6), .ref (m + 7), .ref (m + 8), .ref (m + 9), .ref (m + 10), .ref (m + 11), .ref (m + 12), .ref (m + 13), .ref (m + 14), .int (q 2), .ref (m + 15), .ref (m + 16), .ref (m + 17), .int (q 3), .ref (m + 18), .ref (m + 19), .ref (m + 20), .int (q 4), .ref (m + 21), .ref (m + 22), .ref (m + 23), .int (nI b), .int (nI p), .int (q 7), .ref (m + 24), .ref (m + 25), .int (q 8)])) := by
    intro S1 b h1
    rw [← hp]
    exact h1.1
  have stop : ∀ (S1 : px_S) (b : Nat), b ≤ N → mo_at S1 m (upd q 5 (nI b)) A → mF S S1 m → nx tx N a = b → px_P (d - 1) px_m_Model_look (42, [(0, .ref m)], []) S1 Q := by
    intro S1 b hb h1 h2 h3
    have c0 := ob S1 b h1
    rw [h3] at k
    have hk := k S1 h1 h2
    refine px_P.sn 2 (f1 := (44, [(0, .ref m)], [.ref m, .ref m])) (S1 := S1) rfl ?_
    refine px_P.gf rfl rfl (by assumption) (v := .int (nI b)) rfl ?_
    refine px_P.cv rfl rfl rfl (by assumption) rfl ?_
    show px_M _ px_m_Model_charAt [.ref m, .int (nI b)] S1 _
    refine pm_moCharAt (by omega) h1 hp ⟨t1, t2, t3, t4, t5⟩ hb ?_
    show px_P _ _ (50, [(0, .ref m)], [.int (nI (cn tx N b))]) S1 _
    refine px_P.ret ?_ hk
    show (bif (decide (0 ≤ nI (cn tx N b)) && decide (nI (cn tx N b) ≤ 65535)) then some (some (Value.int (nI (cn tx N b)))) else none) = _
    have : cn tx N b ≤ 255 := mt.cn (A := A) (p := p) ⟨t1, t2, t3, t4, t5⟩ b
    rw [ch_ok (by omega)]
    rfl
  have lp : ∀ (j b : Nat), b + j = N → ∀ S1 : px_S, mo_at S1 m (upd q 5 (nI b)) A → mF S S1 m → nx tx N a = nx tx N b → px_P (d - 1) px_m_Model_look (0, [(0, .ref m)], []) S1 Q := by
    intro j
    induction j with
    | zero =>
      intro b hb S1 h1 h2 h3
      have c0 := ob S1 b h1
      have en : nx tx N b = b := nx_z (by omega)
      have r2 : S1.1 (m + 2) = some (.inl (0, 96, .inl (A 2))) := h1.2 2 (by decide) (by decide)
      refine px_P.sn 1 (f1 := (1, [(0, .ref m)], [.ref m])) (S1 := S1) rfl ?_
      refine px_P.gf rfl rfl (by assumption) (v := .int (nI b)) rfl ?_
      refine px_P.sn 1 (f1 := (5, [(0, .ref m)], [.ref m, .int (nI b)])) (S1 := S1) rfl ?_
      refine px_P.gf rfl rfl (by assumption) (v := .ref (m + 2)) rfl ?_
      refine px_P.sn 1 (f1 := (9, [(0, .ref m)], [.ref m, .ref (m + 2), .int (nI b)])) (S1 := S1) rfl ?_
      refine px_P.gf rfl rfl (by assumption) (v := .int (nI p)) rfl ?_
      refine px_P.ialdj (j := p) rfl (by assumption) rfl (by omega) (by decide) ?_
      rw [t1]
      show px_P _ _ (13, [(0, .ref m)], [.int (nI N), .int (nI b)]) S1 _
      refine px_P.ic_ge rfl rfl (fun _ => ?_) (fun h => absurd (nI_le (by omega) (by omega)) h)
      exact stop S1 b (by omega) h1 h2 (h3.trans en)
    | succ j ih =>
      intro b hb S1 h1 h2 h3
      have c0 := ob S1 b h1
      have h255 := t3 b (by omega)
      have r2 : S1.1 (m + 2) = some (.inl (0, 96, .inl (A 2))) := h1.2 2 (by decide) (by decide)
      refine px_P.sn 1 (f1 := (1, [(0, .ref m)], [.ref m])) (S1 := S1) rfl ?_
      refine px_P.gf rfl rfl (by assumption) (v := .int (nI b)) rfl ?_
      refine px_P.sn 1 (f1 := (5, [(0, .ref m)], [.ref m, .int (nI b)])) (S1 := S1) rfl ?_
      refine px_P.gf rfl rfl (by assumption) (v := .ref (m + 2)) rfl ?_
      refine px_P.sn 1 (f1 := (9, [(0, .ref m)], [.ref m, .ref (m + 2), .int (nI b)])) (S1 := S1) rfl ?_
      refine px_P.gf rfl rfl (by assumption) (v := .int (nI p)) rfl ?_
      refine px_P.ialdj (j := p) rfl (by assumption) rfl (by omega) (by decide) ?_
      rw [t1]
      show px_P _ _ (13, [(0, .ref m)], [.int (nI N), .int (nI b)]) S1 _
      refine px_P.ic_ge rfl rfl (fun h => absurd h (nI_ge (show b < N by omega) (by omega))) (fun _ => ?_)
      refine px_P.sn 2 (f1 := (18, [(0, .ref m)], [.ref m, .ref m])) (S1 := S1) rfl ?_
      refine px_P.gf rfl rfl (by assumption) (v := .int (nI b)) rfl ?_
      refine px_P.cv rfl rfl rfl (by assumption) rfl ?_
      show px_M _ px_m_Model_charAt [.ref m, .int (nI b)] S1 _
      refine pm_moCharAt (by omega) h1 hp ⟨t1, t2, t3, t4, t5⟩ (by omega) ?_
      have ec : cn tx N b = tx b := if_pos (by omega)
      rw [ec]
      show px_P _ _ (24, [(0, .ref m)], [.int (nI (tx b))]) S1 _
      refine px_P.sn 1 (f1 := (26, [(0, .ref m)], [.int 32, .int (nI (tx b))])) (S1 := S1) rfl ?_
      refine px_P.ic_ne rfl rfl (fun hq => ?_) (fun hq => ?_)
      · have en : nx tx N b = b := nx_z (fun z => hq (by rw [z.2]; rfl))
        exact stop S1 b (by omega) h1 h2 (h3.trans en)
      · have e32 : tx b = 32 := (nI_eq (b := 32) (by omega) (by decide)).mp hq
        refine px_P.sn 2 (f1 := (31, [(0, .ref m)], [.ref m, .ref m])) (S1 := S1) rfl ?_
        refine px_P.gf rfl rfl (by assumption) (v := .int (nI b)) rfl ?_
        refine px_P.sn 2 (f1 := (36, [(0, .ref m)], [.int ((nI b) + 1), .ref m])) (S1 := S1) rfl ?_
        refine px_P.pf rfl rfl (by assumption) rfl (fun S2 u2 => ?_)
        refine px_P.sn 1 (f1 := (0, [(0, .ref m)], [])) (S1 := S2) rfl ?_
        have u2' : px_Up S1 S2 m (.inr (10, mo_ob m (upd q 5 (nI (b + 1))))) := by
          have e : mo_ob m (upd q 5 (nI (b + 1))) = [Value.int (q 0), .ref (m + 1), .int (q 1), .ref (m + 2), .ref (m + 3), .ref (m + 4), .ref (m + 5), .ref (m + 6), .ref (m + 7), .ref (m + 8), .ref (m + 9), .ref (m + 10), .ref (m + 11), .ref (m + 12), .ref (m + 13), .ref (m + 14), .int (q 2), .ref (m + 15), .ref (m + 16), .ref (m + 17), .int (q 3), .ref (m + 18), .ref (m + 19), .ref (m + 20), .int (q 4), .ref (m + 21), .ref (m + 22), .ref (m + 23), .int (nI b + 1), .int (nI p), .int (q 7), .ref (m + 24), .ref (m + 25), .int (q 8)] := by rw [← hp, nI_1]; rfl
          rw [e]
          exact u2
        exact ih (b + 1) (by omega) S2 (h1.ob u2') (h2.tr (mF.u (Nat.le_refl _) (by omega) u2)) (h3.trans (nx_s (by omega) e32))
  have hu : upd q 5 (nI a) = q := by
    funext i
    by_cases e : i = 5
    · rw [e, pk_us, hq5]
    · rw [pk_un e]
  refine px_M.go (by omega) (Nat.le_of_ble_eq_true rfl) ?_
  exact lp (N - a) a (by omega) S (by rw [hu]; exact h) (mF.rf S m) rfl
