/-! ===== the model: its cells; typing ===== -/
def mo_ty (i : Nat) : Nat := if i = 1 ∨ i = 3 ∨ i = 20 then 3 else if i = 14 ∨ i = 21 ∨ i = 22 ∨ i = 23 then 2 else 0
def mo_ln (i : Nat) : Nat := if i = 1 then 60 else if i = 3 then 5760 else if i = 9 ∨ i = 10 ∨ i = 11 then 6144 else if i = 13 ∨ i = 14 ∨ i = 23 then 208 else if i = 15 ∨ i = 16 ∨ i = 17 then 6000 else if i = 18 ∨ i = 19 then 16 else if i = 20 then 960 else if i = 21 then 43264 else if i = 24 ∨ i = 25 then 64 else 96
def mo_ob (m : Nat) (q : Nat → Int32) : List Value := [.int (q 0), .ref (m + 1), .int (q 1), .ref (m + 2), .ref (m + 3), .ref (m + 4), .ref (m + 5), .ref (m + 6), .ref (m + 7), .ref (m + 8), .ref (m + 9), .ref (m + 10), .ref (m + 11), .ref (m + 12), .ref (m + 13), .ref (m + 14), .int (q 2), .ref (m + 15), .ref (m + 16), .ref (m + 17), .int (q 3), .ref (m + 18), .ref (m + 19), .ref (m + 20), .int (q 4), .ref (m + 21), .ref (m + 22), .ref (m + 23), .int (q 5), .int (q 6), .int (q 7), .ref (m + 24), .ref (m + 25), .int (q 8)]
/-- scalars q: fault, typedSize, found, undos, isKnown, at, line, depth, top; arrays A by their places -/
def mo_at (S : px_S) (m : Nat) (q : Nat → Int32) (A : Nat → Nat → Int32) : Prop := S.1 m = some (.inr (10, mo_ob m q)) ∧ ∀ i, 1 ≤ i → i < 26 → S.1 (m + i) = some (.inl (mo_ty i, mo_ln i, .inl (A i)))
theorem mo_at.keep {S S' : px_S} {m : Nat} {q : Nat → Int32} {A : Nat → Nat → Int32} (h : mo_at S m q A) (hk : ∀ p, m ≤ p → p < m + 26 → S'.1 p = S.1 p) : mo_at S' m q A := ⟨(hk _ (by omega) (by omega)).trans h.1, fun i h1 h2 => (hk _ (by omega) (by omega)).trans (h.2 i h1 h2)⟩
theorem mo_at.ob {S S' : px_S} {m : Nat} {q q' : Nat → Int32} {A : Nat → Nat → Int32} (h : mo_at S m q A) (u : px_Up S S' m (.inr (10, mo_ob m q'))) : mo_at S' m q' A := ⟨u.s, fun i h1 h2 => u.n (h.2 i h1 h2) (by omega)⟩
theorem mo_at.ar {S S' : px_S} {m i : Nat} {q : Nat → Int32} {A : Nat → Nat → Int32} {g : Nat → Int32} (h : mo_at S m q A) (h1 : 1 ≤ i) (h2 : i < 26) (u : px_Up S S' (m + i) (.inl (mo_ty i, mo_ln i, .inl g))) : mo_at S' m q (va_up A i g) := by
  refine ⟨u.n h.1 (by omega), fun j j1 j2 => ?_⟩
  by_cases e : j = i
  · subst e; simp only [va_up, if_true]; exact u.s
  · simp only [va_up, if_neg e]; exact u.n (h.2 j j1 j2) (by omega)
/-- the rest of the world -/
def mF (S S' : px_S) (m : Nat) : Prop := (∀ p, (p < m ∨ m + 26 ≤ p) → S'.1 p = S.1 p) ∧ S'.2 = S.2
theorem mF.rf (S : px_S) (m : Nat) : mF S S m := ⟨fun _ _ => rfl, rfl⟩
theorem mF.tr {S S' S'' : px_S} {m : Nat} (h : mF S S' m) (k : mF S' S'' m) : mF S S'' m := ⟨fun p hp => (k.1 p hp).trans (h.1 p hp), k.2.trans h.2⟩
theorem mF.u {S S' : px_S} {m a : Nat} {x : px_E} (h1 : m ≤ a) (h2 : a < m + 26) (u : px_Up S S' a x) : mF S S' m := ⟨fun p hp => u.o (by omega), u.t⟩
theorem pm_moThrown {d m : Nat} {q : Nat → Int32} {A : Nat → Nat → Int32} {S : px_S} {Q : Option Value → px_S → Prop} (hd : 1 ≤ d) (h : mo_at S m q A) (k : Q (some (.int (q 0))) S) : px_M d px_m_Model_thrown [.ref m] S Q := by
  have h0 := h.1
  refine px_M.go (by omega) (Nat.le_of_ble_eq_true rfl) ?_
  refine px_P.sn 1 (f1 := (1, [(0, .ref m)], [.ref m])) (S1 := S) rfl ?_
  refine px_P.gf rfl rfl (by assumption) (v := .int (q 0)) rfl ?_
  refine px_P.ret rfl ?_
  exact k
theorem pm_moIsIn {d : Nat} {v lo hi : Int32} {S : px_S} {Q : Option Value → px_S → Prop} (hd : 1 ≤ d) (k : Q (some (.int (bif decide (lo ≤ v) && decide (v ≤ hi) then 1 else 0))) S) : px_M d px_m_Model_isIn [.int v, .int lo, .int hi] S Q := by
  refine px_M.go (by omega) (Nat.le_of_ble_eq_true rfl) ?_
  refine px_P.sn 2 (f1 := (2, [(0, .int v), (1, .int lo), (2, .int hi)], [.int lo, .int v])) (S1 := S) rfl ?_
  refine px_P.ic_lt rfl rfl (fun h1 => ?_) (fun h1 => ?_)
  · refine px_P.sn 1 (f1 := (15, [(0, .int v), (1, .int lo), (2, .int hi)], [.int 0])) (S1 := S) rfl ?_
    refine px_P.ret rfl ?_
    rw [show (decide (lo ≤ v) && decide (v ≤ hi)) = false from by rw [decide_eq_false (Int32.not_le.mpr h1)]; rfl] at k
    exact k
  · refine px_P.sn 2 (f1 := (7, [(0, .int v), (1, .int lo), (2, .int hi)], [.int hi, .int v])) (S1 := S) rfl ?_
    refine px_P.ic_gt rfl rfl (fun h2 => ?_) (fun h2 => ?_)
    · refine px_P.sn 1 (f1 := (15, [(0, .int v), (1, .int lo), (2, .int hi)], [.int 0])) (S1 := S) rfl ?_
      refine px_P.ret rfl ?_
      rw [show (decide (lo ≤ v) && decide (v ≤ hi)) = false from by rw [decide_eq_false (Int32.not_le.mpr h2), Bool.and_false]] at k
      exact k
    · refine px_P.sn 2 (f1 := (15, [(0, .int v), (1, .int lo), (2, .int hi)], [.int 1])) (S1 := S) rfl ?_
      refine px_P.ret rfl ?_
      rw [show (decide (lo ≤ v) && decide (v ≤ hi)) = true from by rw [decide_eq_true (Int32.not_lt.mp h1), decide_eq_true (Int32.not_lt.mp h2)]; rfl] at k
      exact k
theorem pm_moRefused {d m : Nat} {q : Nat → Int32} {A : Nat → Nat → Int32} {b : Bool} {S : px_S} {Q : Option Value → px_S → Prop} (hd : 1 ≤ d) (h : mo_at S m q A) (k : ∀ S', mo_at S' m (upd q 0 (bif b then 1 else 0)) A → mF S S' m → Q (some (.int (bif b then 1 else 0))) S') : px_M d px_m_Model_refused [.ref m, .int (bif b then 1 else 0)] S Q := by
  have h0 := h.1
  cases b with
  | true =>
    refine px_M.go (by omega) (Nat.le_of_ble_eq_true rfl) ?_
    show px_P _ _ (0, [(0, .ref m), (1, .int 1)], []) S _
    refine px_P.sn 2 (f1 := (2, [(0, .ref m), (1, .int 1)], [.int 1, .ref m])) (S1 := S) rfl ?_
    refine px_P.pf rfl rfl (by assumption) rfl (fun S1 u1 => ?_)
    refine px_P.sn 1 (f1 := (6, [(0, .ref m), (1, .int 1)], [.int 1])) (S1 := S1) rfl ?_
    refine px_P.if_le rfl rfl (fun h => absurd h ((by decide))) (fun _ => ?_)
    refine px_P.sn 2 (f1 := (14, [(0, .ref m), (1, .int 1)], [.int 1])) (S1 := S1) rfl ?_
    refine px_P.ret rfl ?_
    exact k S1 (h.ob u1) (mF.u (Nat.le_refl _) (by omega) u1)
  | false =>
    refine px_M.go (by omega) (Nat.le_of_ble_eq_true rfl) ?_
    show px_P _ _ (0, [(0, .ref m), (1, .int 0)], []) S _
    refine px_P.sn 2 (f1 := (2, [(0, .ref m), (1, .int 0)], [.int 0, .ref m])) (S1 := S) rfl ?_
    refine px_P.pf rfl rfl (by assumption) rfl (fun S1 u1 => ?_)
    refine px_P.sn 1 (f1 := (6, [(0, .ref m), (1, .int 0)], [.int 0])) (S1 := S1) rfl ?_
    refine px_P.if_le rfl rfl (fun _ => ?_) (fun h => absurd ((by decide)) h)
    refine px_P.sn 1 (f1 := (14, [(0, .ref m), (1, .int 0)], [.int 0])) (S1 := S1) rfl ?_
    refine px_P.ret rfl ?_
    exact k S1 (h.ob u1) (mF.u (Nat.le_refl _) (by omega) u1)
theorem pm_moErase {d m : Nat} {q : Nat → Int32} {A : Nat → Nat → Int32} {S : px_S} {Q : Option Value → px_S → Prop} (hd : 1 ≤ d) (h : mo_at S m q A) (k : ∀ S', mo_at S' m (upd (upd q 0 0) 1 0) A → mF S S' m → Q (some (.int (q 1))) S') : px_M d px_m_Model_erase [.ref m] S Q := by
  have h0 := h.1
  refine px_M.go (by omega) (Nat.le_of_ble_eq_true rfl) ?_
  refine px_P.sn 2 (f1 := (2, [(0, .ref m)], [.int 0, .ref m])) (S1 := S) rfl ?_
  refine px_P.pf rfl rfl (by assumption) rfl (fun S1 u1 => ?_)
  have h1 : mo_at S1 m (upd q 0 0) A := h.ob u1
  have h10 := h1.1
  refine px_P.sn 1 (f1 := (6, [(0, .ref m)], [.ref m])) (S1 := S1) rfl ?_
  refine px_P.gf rfl rfl (by assumption) (v := .int (q 1)) rfl ?_
  refine px_P.sn 3 (f1 := (12, [(0, .ref m), (1, .int (q 1))], [.int 0, .ref m])) (S1 := S1) rfl ?_
  refine px_P.pf rfl rfl (by assumption) rfl (fun S2 u2 => ?_)
  refine px_P.sn 1 (f1 := (16, [(0, .ref m), (1, .int (q 1))], [.int (q 1)])) (S1 := S2) rfl ?_
  refine px_P.ret rfl ?_
  exact k S2 (h1.ob u2) ((mF.u (Nat.le_refl _) (by omega) u1).tr (mF.u (Nat.le_refl _) (by omega) u2))
theorem byt_s (x s : Int32) (k : Nat) (hk : k ≤ 24) (hs : ((s &&& 31).toBitVec.smod 32).toNat = k) : (x >>> (s &&& 31)) &&& 255 = nI (byt x k) := by
  apply bt_ext
  intro i hi
  have e255 : bt 255 i = decide (i < 8) := (by decide +kernel : ∀ i, i < 32 → bt 255 i = decide (i < 8)) i hi
  have esh : bt (x >>> (s &&& 31)) i = (if i < 32 - k then bt x (k + i) else bt x 31) := by
    show (x.toBitVec.sshiftRight' ((s &&& 31).toBitVec.smod 32)).getLsbD i = _
    rw [BitVec.sshiftRight_eq', hs, BitVec.getLsbD_sshiftRight]
    by_cases z : i < 32 - k
    · rw [if_pos z]
      simp [show ¬ 32 ≤ i by omega, show k + i < 32 by omega]
      rfl
    · rw [if_neg z]
      simp [show ¬ 32 ≤ i by omega, show ¬ k + i < 32 by omega]
      rfl
  rw [bt_and, e255, esh]
  have eb : bt (nI (byt x k)) i = (decide (i < 8) && bt x (k + i)) := by
    unfold bt
    rw [← BitVec.testBit_toNat, pk_tn (by unfold byt; omega)]
    unfold byt
    rw [show 256 = 2 ^ 8 from rfl, Nat.testBit_mod_two_pow, Nat.testBit_div_two_pow, ← BitVec.testBit_toNat, Nat.add_comm]
  rw [eb]
  by_cases z : i < 8
  · rw [if_pos (by omega), decide_eq_true z, Bool.and_true, Bool.true_and]
  · rw [decide_eq_false z, Bool.and_false, Bool.false_and]
theorem ch_ok {k : Nat} (h : k ≤ 65535) : (decide (0 ≤ nI k) && decide (nI k ≤ 65535)) = true := by
  have h1 : nI k ≤ 65535 := nI_le (b := 65535) h (by decide)
  rw [decide_eq_true (nI_pos' (by omega)), decide_eq_true h1]
  rfl
theorem pm_moFeed {d m n : Nat} {l : List Nat} {v : Int32} {q : Nat → Int32} {A : Nat → Nat → Int32} {S : px_S} {Q : Option Value → px_S → Prop} (hd : 1 ≤ d) (h : mo_at S m q A) (hn : l.length = n) (hn2 : n ≤ 1000)
    (ha : ∀ j, j < l.length → j < 60 → A 1 j = nI (tf l j))
    (k : ∀ S' A', mo_at S' m q A' → (∀ i, i ≠ 1 → A' i = A i) → (∀ j, j < (l ++ ch4 v).length → j < 60 → A' 1 j = nI (tf (l ++ ch4 v) j)) → mF S S' m → Q (some (.int (nI (l ++ ch4 v).length))) S') : px_M d px_m_Model_feed [.ref m, .int v, .int (nI n)] S Q := by
  have turn : ∀ (s : Int32) (kk : Nat) (rest : List Nat), 0 ≤ s → kk ≤ 24 → ((s &&& 31).toBitVec.smod 32).toNat = kk → ∀ (l1 : List Nat), l1 ++ (b1 (byt v kk) ++ rest) = l ++ ch4 v →
      (∀ (S1 : px_S) (A1 : Nat → Nat → Int32) (l2 : List Nat), l2 ++ rest = l ++ ch4 v → mo_at S1 m q A1 → (∀ i, i ≠ 1 → A1 i = A i) → (∀ j, j < l2.length → j < 60 → A1 1 j = nI (tf l2 j)) → mF S S1 m → px_P (d - 1) px_m_Model_feed (6, [(0, .ref m), (1, .int v), (2, .int (nI n)), (3, .int (nI l2.length)), (4, .int (s + (-8)))], []) S1 Q) →
      ∀ (S1 : px_S) (A1 : Nat → Nat → Int32), mo_at S1 m q A1 → (∀ i, i ≠ 1 → A1 i = A i) → (∀ j, j < l1.length → j < 60 → A1 1 j = nI (tf l1 j)) → mF S S1 m → px_P (d - 1) px_m_Model_feed (6, [(0, .ref m), (1, .int v), (2, .int (nI n)), (3, .int (nI l1.length)), (4, .int s)], []) S1 Q := by
    intro s kk rest hs hk24 hk l1 hl1 hgo S1 A1 h1 h2 h3 h4
    have h10 := h1.1
    have hb : byt v kk < 256 := Nat.mod_lt _ (by decide)
    have hlen := congrArg List.length hl1
    simp only [List.length_append] at hlen
    have h4v := ch4_len v
    refine px_P.sn 1 (f1 := (8, [(0, .ref m), (1, .int v), (2, .int (nI n)), (3, .int (nI l1.length)), (4, .int s)], [.int s])) (S1 := S1) rfl ?_
    refine px_P.if_lt rfl rfl (fun h => absurd h (Int32.not_lt.mpr hs)) (fun _ => ?_)
    refine px_P.sn 5 (f1 := (19, [(0, .ref m), (1, .int v), (2, .int (nI n)), (3, .int (nI l1.length)), (4, .int s)], [.int ((v >>> (s &&& 31)) &&& 255)])) (S1 := S1) rfl ?_
    rw [byt_s v s kk hk24 hk]
    refine px_P.sn 2 (f1 := (23, [(0, .ref m), (1, .int v), (2, .int (nI n)), (3, .int (nI l1.length)), (4, .int s), (5, .int (nI (byt v kk)))], [.int (nI (byt v kk))])) (S1 := S1) rfl ?_
    refine px_P.if_eq rfl rfl (fun h0 => ?_) (fun h0 => ?_)
    · have e : byt v kk = 0 := (nI_eq (b := 0) (by omega) (by decide)).mp h0
      rw [show b1 (byt v kk) = [] by rw [e]; rfl, List.nil_append] at hl1
      refine px_P.sn 2 (f1 := (6, [(0, .ref m), (1, .int v), (2, .int (nI n)), (3, .int (nI l1.length)), (4, .int (s + (-8))), (5, .int (nI (byt v kk)))], [])) (S1 := S1) rfl ?_
      show px_P _ _ (6, [(0, .ref m), (1, .int v), (2, .int (nI n)), (3, .int (nI l1.length)), (4, .int (s + (-8))), (5, .int (nI (byt v kk)))], []) S1 _
      refine px_P.wk (ls := [(0, .ref m), (1, .int v), (2, .int (nI n)), (3, .int (nI l1.length)), (4, .int (s + (-8)))]) rfl (.cons_cons _ (.cons_cons _ (.cons_cons _ (.cons_cons _ (.cons_cons _ (.cons _ .slnil)))))) ?_
      exact hgo S1 A1 l1 hl1 h1 h2 h3 h4
    · have e : ¬ byt v kk = 0 := fun z => h0 (by rw [z]; rfl)
      have eb : b1 (byt v kk) = [byt v kk] := by unfold b1; rw [if_neg e]
      rw [eb] at hl1
      refine px_P.sn 2 (f1 := (29, [(0, .ref m), (1, .int v), (2, .int (nI n)), (3, .int (nI l1.length)), (4, .int s), (5, .int (nI (byt v kk)))], [.int 60, .int (nI l1.length)])) (S1 := S1) rfl ?_
      have el : (l1 ++ [byt v kk]).length = l1.length + 1 := by rw [List.length_append]; rfl
      have fin : ∀ (S2 : px_S) (A2 : Nat → Nat → Int32), mo_at S2 m q A2 → (∀ i, i ≠ 1 → A2 i = A i) → (∀ j, j < l1.length + 1 → j < 60 → A2 1 j = nI (tf (l1 ++ [byt v kk]) j)) → mF S S2 m → px_P (d - 1) px_m_Model_feed (41, [(0, .ref m), (1, .int v), (2, .int (nI n)), (3, .int (nI l1.length)), (4, .int s), (5, .int (nI (byt v kk)))], []) S2 Q := by
        intro S2 A2 g1 g2 g3 g4
        refine px_P.sn 3 (f1 := (6, [(0, .ref m), (1, .int v), (2, .int (nI n)), (3, .int ((nI l1.length) + 1)), (4, .int (s + (-8))), (5, .int (nI (byt v kk)))], [])) (S1 := S2) rfl ?_
        show px_P _ _ (6, [(0, .ref m), (1, .int v), (2, .int (nI n)), (3, .int ((nI l1.length) + 1)), (4, .int (s + (-8))), (5, .int (nI (byt v kk)))], []) S2 _
        refine px_P.wk (ls := [(0, .ref m), (1, .int v), (2, .int (nI n)), (3, .int ((nI l1.length) + 1)), (4, .int (s + (-8)))]) rfl (.cons_cons _ (.cons_cons _ (.cons_cons _ (.cons_cons _ (.cons_cons _ (.cons _ .slnil)))))) ?_
        rw [nI_1, ← el]
        exact hgo S2 A2 (l1 ++ [byt v kk]) (by rw [List.append_assoc]; exact hl1) g1 g2 (by rw [el]; exact g3) g4
      by_cases h60 : l1.length < 60
      · refine px_P.ic_ge rfl rfl (fun h => absurd h (nI_ge (b := 60) h60 (by decide))) (fun _ => ?_)
        have r1 : S1.1 (m + 1) = some (.inl (3, 60, .inl (A1 1))) := h1.2 1 (by decide) (by decide)
        refine px_P.sn 1 (f1 := (33, [(0, .ref m), (1, .int v), (2, .int (nI n)), (3, .int (nI l1.length)), (4, .int s), (5, .int (nI (byt v kk)))], [.ref m])) (S1 := S1) rfl ?_
        refine px_P.gf rfl rfl (by assumption) (v := .ref (m + 1)) rfl ?_
        refine px_P.sn 3 (f1 := (40, [(0, .ref m), (1, .int v), (2, .int (nI n)), (3, .int (nI l1.length)), (4, .int s), (5, .int (nI (byt v kk)))], [.int ((nI (byt v kk)).toUInt32 % 65536).toInt32, .int (nI l1.length), .ref (m + 1)])) (S1 := S1) rfl ?_
        have ec : ((nI (byt v kk)).toUInt32 % 65536).toInt32 = nI (byt v kk) := by
          rw [pk_char, pk_tn (by omega), Nat.mod_eq_of_lt (by omega)]
        rw [ec]
        refine px_P.castj (j := l1.length) rfl (by assumption) (ch_ok (by omega)) rfl (by omega) (by decide) (fun S2 u2 => ?_)
        refine fin S2 _ (h1.ar (i := 1) (by decide) (by decide) u2) (fun i hi => by simp only [va_up, if_neg hi]; exact h2 i hi) (fun j j1 j2 => ?_) (h4.tr (mF.u (by omega) (by omega) u2))
        simp only [va_up, if_true]
        by_cases ej : j = l1.length
        · subst ej; rw [pk_us, tf_last]
        · rw [pk_un ej, tf_app (by omega)]; exact h3 j (by omega) j2
      · refine px_P.ic_ge rfl rfl (fun _ => ?_) (fun h => absurd (nI_le (a := 60) (by omega) (by omega)) h)
        exact fin S1 A1 h1 h2 (fun j j1 j2 => by rw [tf_app (by omega)]; exact h3 j (by omega) j2) h4
  subst hn
  refine px_M.go (by omega) (Nat.le_of_ble_eq_true rfl) ?_
  refine px_P.sn 4 (f1 := (6, [(0, .ref m), (1, .int v), (2, .int (nI l.length)), (3, .int (nI l.length)), (4, .int 24)], [])) (S1 := S) rfl ?_
  rw [ch4_b] at k
  have tt := turn
  rw [ch4_b] at tt
  refine tt 24 24 _ (by decide) (by decide) (by decide) l rfl ?_ S A h (fun _ _ => rfl) ha (mF.rf S m)
  intro S1 f1 l1 q1 q2 q3 q4 q5
  refine tt 16 16 _ (by decide) (by decide) (by decide) l1 q1 ?_ S1 f1 q2 q3 q4 q5
  intro S2 f2 l2 r1 r2 r3 r4 r5
  refine tt 8 8 _ (by decide) (by decide) (by decide) l2 r1 ?_ S2 f2 r2 r3 r4 r5
  intro S3 f3 l3 s1 s2 s3 s4 s5
  refine tt 0 0 _ (by decide) (by decide) (by decide) l3 s1 ?_ S3 f3 s2 s3 s4 s5
  intro S4 f4 l4 t1 t2 t3 t4 t5
  rw [List.append_nil] at t1
  rw [t1] at t4 ⊢
  show px_P _ _ (6, [(0, .ref m), (1, .int v), (2, .int (nI l.length)), (3, .int (nI (l ++ (b1 (byt v 24) ++ (b1 (byt v 16) ++ (b1 (byt v 8) ++ (b1 (byt v 0) ++ []))))).length)), (4, .int (-8))], []) S4 _
  refine px_P.sn 1 (f1 := (8, [(0, .ref m), (1, .int v), (2, .int (nI l.length)), (3, .int (nI (l ++ (b1 (byt v 24) ++ (b1 (byt v 16) ++ (b1 (byt v 8) ++ (b1 (byt v 0) ++ []))))).length)), (4, .int (-8))], [.int (-8)])) (S1 := S4) rfl ?_
  refine px_P.if_lt rfl rfl (fun _ => ?_) (fun h => absurd ((by decide)) h)
  refine px_P.sn 1 (f1 := (51, [(0, .ref m), (1, .int v), (2, .int (nI l.length)), (3, .int (nI (l ++ (b1 (byt v 24) ++ (b1 (byt v 16) ++ (b1 (byt v 8) ++ (b1 (byt v 0) ++ []))))).length)), (4, .int (-8))], [.int (nI (l ++ (b1 (byt v 24) ++ (b1 (byt v 16) ++ (b1 (byt v 8) ++ (b1 (byt v 0) ++ []))))).length)])) (S1 := S4) rfl ?_
  refine px_P.ret rfl ?_
  exact k S4 f4 t2 t3 t4 t5
