/-! ===== Workspace: its cells; lineAt, startLooking, touch, leave, enter ===== -/
def ws_at (S : px_S) (w : Nat) (la : Nat → Option Nat) (T D lk wt : Nat → Int32) (tW : Nat → Int64) (to : Nat → Int32) (tz : Nat) (old : Int32) : Prop :=
  S.1 w = some (.inr (8, [.ref (w + 1), .ref (w + 2), .ref (w + 5), .ref (w + 6), .ref (w + 7), .ref (w + 9), .int (nI tz), .ref (w + 10), .int old])) ∧
  S.1 (w + 1) = some (.inl (4, 96, .inr (.inr (.inr (.inr la))))) ∧ S.1 (w + 2) = some (.inr (7, [.ref (w + 3), .ref (w + 4)])) ∧ S.1 (w + 3) = some (.inl (0, 208, .inl T)) ∧ S.1 (w + 4) = some (.inl (0, 208, .inl D)) ∧
  S.1 (w + 5) = some (.inl (2, 96, .inl lk)) ∧ S.1 (w + 6) = some (.inl (2, 96, .inl wt)) ∧ S.1 (w + 7) = some (.inr (6, [.ref (w + 8)])) ∧ S.1 (w + 8) = some (.inl (1, 4, .inr (.inl tW))) ∧ S.1 (w + 9) = some (.inl (0, 208, .inl to))
theorem ws_at.keep {S S' : px_S} {w tz : Nat} {la : Nat → Option Nat} {T D lk wt to : Nat → Int32} {tW : Nat → Int64} {old : Int32} (h : ws_at S w la T D lk wt tW to tz old) (hk : ∀ q, w ≤ q → q < w + 10 → S'.1 q = S.1 q) : ws_at S' w la T D lk wt tW to tz old := by
  obtain ⟨h0, h1, h2, h3, h4, h5, h6, h7, h8, h9⟩ := h
  exact ⟨(hk _ (by omega) (by omega)).trans h0, (hk _ (by omega) (by omega)).trans h1, (hk _ (by omega) (by omega)).trans h2, (hk _ (by omega) (by omega)).trans h3, (hk _ (by omega) (by omega)).trans h4, (hk _ (by omega) (by omega)).trans h5, (hk _ (by omega) (by omega)).trans h6, (hk _ (by omega) (by omega)).trans h7, (hk _ (by omega) (by omega)).trans h8, (hk _ (by omega) (by omega)).trans h9⟩
theorem ws_at.uL {S S' : px_S} {w tz : Nat} {la : Nat → Option Nat} {T D lk wt to : Nat → Int32} {tW : Nat → Int64} {old : Int32} (h : ws_at S w la T D lk wt tW to tz old) {la2 : Nat → Option Nat} (u : px_Up S S' (w + 1) (.inl (4, 96, .inr (.inr (.inr (.inr la2)))))) : ws_at S' w la2 T D lk wt tW to tz old := by
  obtain ⟨h0, h1, h2, h3, h4, h5, h6, h7, h8, h9⟩ := h
  exact ⟨u.n h0 (by omega), u.s, u.n h2 (by omega), u.n h3 (by omega), u.n h4 (by omega), u.n h5 (by omega), u.n h6 (by omega), u.n h7 (by omega), u.n h8 (by omega), u.n h9 (by omega)⟩
theorem ws_at.uT {S S' : px_S} {w tz : Nat} {la : Nat → Option Nat} {T D lk wt to : Nat → Int32} {tW : Nat → Int64} {old : Int32} (h : ws_at S w la T D lk wt tW to tz old) {T2 : Nat → Int32} (u : px_Up S S' (w + 3) (.inl (0, 208, .inl T2))) : ws_at S' w la T2 D lk wt tW to tz old := by
  obtain ⟨h0, h1, h2, h3, h4, h5, h6, h7, h8, h9⟩ := h
  exact ⟨u.n h0 (by omega), u.n h1 (by omega), u.n h2 (by omega), u.s, u.n h4 (by omega), u.n h5 (by omega), u.n h6 (by omega), u.n h7 (by omega), u.n h8 (by omega), u.n h9 (by omega)⟩
theorem ws_at.uD {S S' : px_S} {w tz : Nat} {la : Nat → Option Nat} {T D lk wt to : Nat → Int32} {tW : Nat → Int64} {old : Int32} (h : ws_at S w la T D lk wt tW to tz old) {D2 : Nat → Int32} (u : px_Up S S' (w + 4) (.inl (0, 208, .inl D2))) : ws_at S' w la T D2 lk wt tW to tz old := by
  obtain ⟨h0, h1, h2, h3, h4, h5, h6, h7, h8, h9⟩ := h
  exact ⟨u.n h0 (by omega), u.n h1 (by omega), u.n h2 (by omega), u.n h3 (by omega), u.s, u.n h5 (by omega), u.n h6 (by omega), u.n h7 (by omega), u.n h8 (by omega), u.n h9 (by omega)⟩
theorem ws_at.uk {S S' : px_S} {w tz : Nat} {la : Nat → Option Nat} {T D lk wt to : Nat → Int32} {tW : Nat → Int64} {old : Int32} (h : ws_at S w la T D lk wt tW to tz old) {k2 : Nat → Int32} (u : px_Up S S' (w + 5) (.inl (2, 96, .inl k2))) : ws_at S' w la T D k2 wt tW to tz old := by
  obtain ⟨h0, h1, h2, h3, h4, h5, h6, h7, h8, h9⟩ := h
  exact ⟨u.n h0 (by omega), u.n h1 (by omega), u.n h2 (by omega), u.n h3 (by omega), u.n h4 (by omega), u.s, u.n h6 (by omega), u.n h7 (by omega), u.n h8 (by omega), u.n h9 (by omega)⟩
theorem ws_at.uw {S S' : px_S} {w tz : Nat} {la : Nat → Option Nat} {T D lk wt to : Nat → Int32} {tW : Nat → Int64} {old : Int32} (h : ws_at S w la T D lk wt tW to tz old) {w2 : Nat → Int32} (u : px_Up S S' (w + 6) (.inl (2, 96, .inl w2))) : ws_at S' w la T D lk w2 tW to tz old := by
  obtain ⟨h0, h1, h2, h3, h4, h5, h6, h7, h8, h9⟩ := h
  exact ⟨u.n h0 (by omega), u.n h1 (by omega), u.n h2 (by omega), u.n h3 (by omega), u.n h4 (by omega), u.n h5 (by omega), u.s, u.n h7 (by omega), u.n h8 (by omega), u.n h9 (by omega)⟩
theorem ws_at.ub {S S' : px_S} {w tz : Nat} {la : Nat → Option Nat} {T D lk wt to : Nat → Int32} {tW : Nat → Int64} {old : Int32} (h : ws_at S w la T D lk wt tW to tz old) {b2 : Nat → Int64} (u : px_Up S S' (w + 8) (.inl (1, 4, .inr (.inl b2)))) : ws_at S' w la T D lk wt b2 to tz old := by
  obtain ⟨h0, h1, h2, h3, h4, h5, h6, h7, h8, h9⟩ := h
  exact ⟨u.n h0 (by omega), u.n h1 (by omega), u.n h2 (by omega), u.n h3 (by omega), u.n h4 (by omega), u.n h5 (by omega), u.n h6 (by omega), u.n h7 (by omega), u.s, u.n h9 (by omega)⟩
theorem ws_at.uo {S S' : px_S} {w tz : Nat} {la : Nat → Option Nat} {T D lk wt to : Nat → Int32} {tW : Nat → Int64} {old : Int32} (h : ws_at S w la T D lk wt tW to tz old) {o2 : Nat → Int32} (u : px_Up S S' (w + 9) (.inl (0, 208, .inl o2))) : ws_at S' w la T D lk wt tW o2 tz old := by
  obtain ⟨h0, h1, h2, h3, h4, h5, h6, h7, h8, h9⟩ := h
  exact ⟨u.n h0 (by omega), u.n h1 (by omega), u.n h2 (by omega), u.n h3 (by omega), u.n h4 (by omega), u.n h5 (by omega), u.n h6 (by omega), u.n h7 (by omega), u.n h8 (by omega), u.s⟩
theorem ws_at.u0 {S S' : px_S} {w tz : Nat} {la : Nat → Option Nat} {T D lk wt to : Nat → Int32} {tW : Nat → Int64} {old : Int32} (h : ws_at S w la T D lk wt tW to tz old) {z2 : Nat} {x2 : Int32} (u : px_Up S S' w (.inr (8, [.ref (w + 1), .ref (w + 2), .ref (w + 5), .ref (w + 6), .ref (w + 7), .ref (w + 9), .int (nI z2), .ref (w + 10), .int x2]))) : ws_at S' w la T D lk wt tW to z2 x2 := by
  obtain ⟨h0, h1, h2, h3, h4, h5, h6, h7, h8, h9⟩ := h
  exact ⟨u.s, u.n h1 (by omega), u.n h2 (by omega), u.n h3 (by omega), u.n h4 (by omega), u.n h5 (by omega), u.n h6 (by omega), u.n h7 (by omega), u.n h8 (by omega), u.n h9 (by omega)⟩
theorem pm_wsLineAt {d w tz p : Nat} {la : Nat → Option Nat} {T D lk wt to : Nat → Int32} {tW : Nat → Int64} {old : Int32} {S : px_S} {Q : Option Value → px_S → Prop} (hd : 1 ≤ d) (h : ws_at S w la T D lk wt tW to tz old) (hp : p < 96) (k : Q (some (va_rf (la p))) S) : px_M d px_m_Workspace_lineAt [.ref w, .int (nI p)] S Q := by
  obtain ⟨h0, h1, h2, h3, h4, h5, h6, h7, h8, h9⟩ := h
  refine px_M.go (by omega) (Nat.le_of_ble_eq_true rfl) ?_
  refine px_P.sn 1 (f1 := (1, [(0, .ref w), (1, .int (nI p))], [.int (nI p)])) (S1 := S) rfl ?_
  refine px_P.if_lt rfl rfl (fun h => absurd h (nI_pos (by omega))) (fun _ => ?_)
  refine px_P.sn 2 (f1 := (7, [(0, .ref w), (1, .int (nI p))], [.int 96, .int (nI p)])) (S1 := S) rfl ?_
  refine px_P.ic_ge rfl rfl (fun h => absurd h (nI_ge (b := 96) hp (by decide))) (fun _ => ?_)
  refine px_P.sn 1 (f1 := (11, [(0, .ref w), (1, .int (nI p))], [.ref w])) (S1 := S) rfl ?_
  refine px_P.gf rfl rfl (by assumption) (v := .ref (w + 1)) rfl ?_
  refine px_P.sn 1 (f1 := (15, [(0, .ref w), (1, .int (nI p))], [.int (nI p), .ref (w + 1)])) (S1 := S) rfl ?_
  refine px_P.aaldj (j := p) rfl (by assumption) rfl rfl (by omega) (by decide) ?_
  refine px_P.sn 1 (f1 := (20, [(0, .ref w), (1, .int (nI p))], [va_rf (la p)])) (S1 := S) rfl ?_
  cases hv : la p with
  | none =>
    show px_P _ _ (20, [(0, .ref w), (1, .int (nI p))], [.null]) S _
    rw [hv] at k
    refine px_P.ret rfl ?_
    exact k
  | some v =>
    show px_P _ _ (20, [(0, .ref w), (1, .int (nI p))], [.ref v]) S _
    rw [hv] at k
    refine px_P.ret rfl ?_
    exact k
theorem pm_wsStart {d w tz : Nat} {la : Nat → Option Nat} {T D lk wt to : Nat → Int32} {tW : Nat → Int64} {old : Int32} {S : px_S} {Q : Option Value → px_S → Prop} (hd : 2 ≤ d) (h : ws_at S w la T D lk wt tW to tz old)
    (k : ∀ S' lk' tW', ws_at S' w la T D lk' wt tW' to 0 old → (∀ p, p < 96 → lk' p = 0) → (∀ t, t < 208 → ss_in tW' t = false) → (∀ q, (q < w ∨ w + 10 ≤ q) → S'.1 q = S.1 q) → S'.2 = S.2 → Q none S') :
    px_M d px_m_Workspace_startLooking [.ref w] S Q := by
  have lp := px_for (d := d - 1) (mi := px_m_Workspace_startLooking) (Q := Q) (X := Nat → Int32) 96 (fun i _ => (2, [(0, .ref w), (1, .int (nI i))], []))
    (fun i l1 S1 => ws_at S1 w la T D l1 wt tW to tz old ∧ (∀ p, p < i → l1 p = 0) ∧ (∀ q, (q < w ∨ w + 10 ≤ q) → S1.1 q = S.1 q) ∧ S1.2 = S.2)
    (by
      intro i hi l1 S1 ⟨g1, g2, g3, g4⟩ ih
      have g1' := g1
      obtain ⟨h0, h1, h2, h3, h4, h5, h6, h7, h8, h9⟩ := g1
      refine px_P.sn 2 (f1 := (5, [(0, .ref w), (1, .int (nI i))], [.int 96, .int (nI i)])) (S1 := S1) rfl ?_
      refine px_P.ic_ge rfl rfl (fun h => absurd h (nI_ge (b := 96) hi (by decide))) (fun _ => ?_)
      refine px_P.sn 1 (f1 := (9, [(0, .ref w), (1, .int (nI i))], [.ref w])) (S1 := S1) rfl ?_
      refine px_P.gf rfl rfl (by assumption) (v := .ref (w + 5)) rfl ?_
      refine px_P.sn 2 (f1 := (14, [(0, .ref w), (1, .int (nI i))], [.int 0, .int (nI i), .ref (w + 5)])) (S1 := S1) rfl ?_
      refine px_P.zastj (j := i) rfl (by assumption) rfl rfl (by omega) (by decide) (fun S2 u2 => ?_)
      refine px_P.sn 2 (f1 := (2, [(0, .ref w), (1, .int ((nI i) + 1))], [])) (S1 := S2) rfl ?_
      rw [nI_1]
      refine ih _ S2 ⟨g1'.uk u2, fun p hp => ?_, fun q hq => by rw [u2.o (by omega)]; exact g3 q hq, by rw [u2.t, g4]⟩
      by_cases e : p = i
      · subst e; exact pk_us
      · rw [pk_un e]; exact g2 p (by omega))
    (by
      intro l1 S1 ⟨g1, g2, g3, g4⟩
      have g1' := g1
      obtain ⟨h0, h1, h2, h3, h4, h5, h6, h7, h8, h9⟩ := g1
      refine px_P.sn 2 (f1 := (5, [(0, .ref w), (1, .int (nI 96))], [.int 96, .int (nI 96)])) (S1 := S1) rfl ?_
      refine px_P.ic_ge rfl rfl (fun _ => ?_) (fun h => absurd (nI_le (a := 96) (by omega) (by omega)) h)
      refine px_P.sn 1 (f1 := (22, [(0, .ref w), (1, .int (nI 96))], [.ref w])) (S1 := S1) rfl ?_
      refine px_P.gf rfl rfl (by assumption) (v := .ref (w + 7)) rfl ?_
      refine px_P.cv rfl rfl rfl (by assumption) rfl ?_
      show px_M _ px_m_SymbolSet_clear [.ref (w + 7)] S1 _
      refine pm_ss_clear (by omega) (by omega) h7 h8 (fun S2 f u2 hz => ?_)
      have g2' := g1'.ub u2
      have e0 := g2'.1
      show px_P _ _ (28, [(0, .ref w), (1, .int (nI 96))], []) S2 _
      refine px_P.sn 2 (f1 := (30, [(0, .ref w), (1, .int (nI 96))], [.int 0, .ref w])) (S1 := S2) rfl ?_
      refine px_P.pf rfl rfl (by assumption) rfl (fun S3 u3 => ?_)
      refine px_P.ret rfl ?_
      exact k S3 l1 f (g2'.u0 u3) g2 (fun t ht => ss_none hz ht) (fun q hq => by rw [u3.o (by omega), u2.o (by omega)]; exact g3 q hq) (by rw [u3.t, u2.t, g4]))
  refine px_M.go (by omega) (Nat.le_of_ble_eq_true rfl) ?_
  refine px_P.sn 2 (f1 := (2, [(0, .ref w), (1, .int 0)], [])) (S1 := S) rfl ?_
  exact lp 96 0 rfl lk S ⟨h, fun p hp => absurd hp (by omega), fun _ _ => rfl, rfl⟩
/-- the touched ones and their order -/
def tou (tW : Nat → Int64) (to : Nat → Int32) (tz : Nat) : Prop := tz = ct (ss_in tW) 208 ∧ (∀ i, i < tz → ∃ t, t < 208 ∧ to i = nI t ∧ ss_in tW t = true) ∧ ∀ t, t < 208 → ss_in tW t = true → ∃ i, i < tz ∧ to i = nI t
theorem ct_put {q q' : Nat → Bool} {t : Nat} (h0 : q t = false) (h1 : q' t = true) (hq : ∀ i, i ≠ t → q' i = q i) : ∀ n, ct q' n = ct q n + (if t < n then 1 else 0)
  | 0 => by simp [ct]
  | n + 1 => by
    have ih := ct_put h0 h1 hq n
    by_cases e : n = t
    · subst e
      rw [ct_s h1, ct_z h0, ih]
      simp
    · have : ct q' (n + 1) = ct q' n + (bif q n then 1 else 0) := by rw [← hq n e]; rfl
      rw [this, ih]
      show _ = ct q n + (bif q n then 1 else 0) + _
      have : (t < n + 1) ↔ t < n := by omega
      simp only [this]
      omega
theorem ct_room {q : Nat → Bool} {t n : Nat} (ht : t < n) (h0 : q t = false) : ct q n < n := by
  have h := ct_put (q := q) (q' := fun i => q i || decide (i = t)) h0 (by simp) (fun i hi => by simp [hi]) n
  rw [if_pos ht] at h
  have := ct_le (fun i => q i || decide (i = t)) n
  omega
theorem pm_wsTouchN {d w : Nat} {S : px_S} {Q : Option Value → px_S → Prop} (hd : 1 ≤ d) (k : Q none S) : px_M d px_m_Workspace_touch [.ref w, .int (-1)] S Q := by
  refine px_M.go (by omega) (Nat.le_of_ble_eq_true rfl) ?_
  refine px_P.sn 2 (f1 := (2, [(0, .ref w), (1, .int (-1))], [.int (-1), .int (-1)])) (S1 := S) rfl ?_
  refine px_P.ic_eq rfl rfl (fun _ => ?_) (fun h => absurd (rfl) h)
  refine px_P.ret rfl ?_
  exact k
theorem pm_wsTouch {d w tz t : Nat} {la : Nat → Option Nat} {T D lk wt to : Nat → Int32} {tW : Nat → Int64} {old : Int32} {S : px_S} {Q : Option Value → px_S → Prop} (hd : 2 ≤ d) (h : ws_at S w la T D lk wt tW to tz old) (ht : t < 208) (hto : tou tW to tz)
    (k : ∀ S' tW' to' tz', ws_at S' w la T D lk wt tW' to' tz' old → tou tW' to' tz' → tz ≤ tz' → (∀ i, i < tz → to' i = to i) → (∀ s, s < 208 → (ss_in tW' s = true ↔ ss_in tW s = true ∨ s = t)) → (∀ q, (q < w ∨ w + 10 ≤ q) → S'.1 q = S.1 q) → S'.2 = S.2 → Q none S') :
    px_M d px_m_Workspace_touch [.ref w, .int (nI t)] S Q := by
  have h' := h
  obtain ⟨h0, h1, h2, h3, h4, h5, h6, h7, h8, h9⟩ := h
  refine px_M.go (by omega) (Nat.le_of_ble_eq_true rfl) ?_
  refine px_P.sn 2 (f1 := (2, [(0, .ref w), (1, .int (nI t))], [.int (-1), .int (nI t)])) (S1 := S) rfl ?_
  refine px_P.ic_eq rfl rfl (fun h => absurd h (nI_neg (by omega))) (fun _ => ?_)
  refine px_P.sn 1 (f1 := (6, [(0, .ref w), (1, .int (nI t))], [.ref w])) (S1 := S) rfl ?_
  refine px_P.gf rfl rfl (by assumption) (v := .ref (w + 7)) rfl ?_
  refine px_P.sn 1 (f1 := (10, [(0, .ref w), (1, .int (nI t))], [.int (nI t), .ref (w + 7)])) (S1 := S) rfl ?_
  refine px_P.cv rfl rfl rfl (by assumption) rfl ?_
  show px_M _ px_m_SymbolSet_has [.ref (w + 7), .int (nI t)] S _
  refine pm_ss_has (by omega) h7 h8 ?_
  rw [ss_hs_in ht]
  cases hb : ss_in tW t with
  | true =>
    show px_P _ _ (13, [(0, .ref w), (1, .int (nI t))], [.int 1]) S _
    refine px_P.if_ne rfl rfl (fun _ => ?_) (fun h => absurd h ((by decide)))
    refine px_P.ret rfl ?_
    refine k S tW to tz h' hto (Nat.le_refl _) (fun _ _ => rfl) (fun s hs => ⟨Or.inl, fun e => e.elim id (fun z => by rw [z]; exact hb)⟩) (fun _ _ => rfl) rfl
  | false =>
    have hr : tz < 208 := by rw [hto.1]; exact ct_room ht hb
    show px_P _ _ (13, [(0, .ref w), (1, .int (nI t))], [.int 0]) S _
    refine px_P.if_ne rfl rfl (fun h => absurd (rfl) h) (fun _ => ?_)
    refine px_P.sn 1 (f1 := (17, [(0, .ref w), (1, .int (nI t))], [.ref w])) (S1 := S) rfl ?_
    refine px_P.gf rfl rfl (by assumption) (v := .int (nI tz)) rfl ?_
    refine px_P.sn 1 (f1 := (23, [(0, .ref w), (1, .int (nI t))], [.int 208, .int (nI tz)])) (S1 := S) rfl ?_
    refine px_P.ic_ge rfl rfl (fun h => absurd h (nI_ge (b := 208) hr (by decide))) (fun _ => ?_)
    refine px_P.sn 1 (f1 := (27, [(0, .ref w), (1, .int (nI t))], [.ref w])) (S1 := S) rfl ?_
    refine px_P.gf rfl rfl (by assumption) (v := .ref (w + 7)) rfl ?_
    refine px_P.sn 1 (f1 := (31, [(0, .ref w), (1, .int (nI t))], [.int (nI t), .ref (w + 7)])) (S1 := S) rfl ?_
    refine px_P.cv rfl rfl rfl (by assumption) rfl ?_
    show px_M _ px_m_SymbolSet_add [.ref (w + 7), .int (nI t)] S _
    refine pm_ss_add (by omega) h7 h8 ht (fun S1 u1 => ?_)
    have g1 := h'.ub u1
    have e0 := g1.1
    have e9 := g1.2.2.2.2.2.2.2.2.2
    show px_P _ _ (34, [(0, .ref w), (1, .int (nI t))], []) S1 _
    refine px_P.sn 1 (f1 := (35, [(0, .ref w), (1, .int (nI t))], [.ref w])) (S1 := S1) rfl ?_
    refine px_P.gf rfl rfl (by assumption) (v := .ref (w + 9)) rfl ?_
    refine px_P.sn 1 (f1 := (39, [(0, .ref w), (1, .int (nI t))], [.ref w, .ref (w + 9)])) (S1 := S1) rfl ?_
    refine px_P.gf rfl rfl (by assumption) (v := .int (nI tz)) rfl ?_
    refine px_P.sn 1 (f1 := (43, [(0, .ref w), (1, .int (nI t))], [.int (nI t), .int (nI tz), .ref (w + 9)])) (S1 := S1) rfl ?_
    refine px_P.iastj (j := tz) rfl (by assumption) rfl (by omega) (by decide) (fun S2 u2 => ?_)
    have g2 := g1.uo u2
    have f0 := g2.1
    refine px_P.sn 2 (f1 := (46, [(0, .ref w), (1, .int (nI t))], [.ref w, .ref w])) (S1 := S2) rfl ?_
    refine px_P.gf rfl rfl (by assumption) (v := .int (nI tz)) rfl ?_
    refine px_P.sn 2 (f1 := (51, [(0, .ref w), (1, .int (nI t))], [.int ((nI tz) + 1), .ref w])) (S1 := S2) rfl ?_
    refine px_P.pf rfl rfl (by assumption) rfl (fun S3 u3 => ?_)
    refine px_P.ret rfl ?_
    have u3' := u3
    have g3 := g2.u0 (z2 := tz + 1) (x2 := old) (S' := S3) (by rw [← nI_1]; exact u3)
    refine k S3 _ _ _ g3 ⟨?_, ?_, ?_⟩ (by omega) (fun i hi => pk_un (by omega)) (fun s hs => ?_) (fun q hq => by rw [u3.o (by omega), u2.o (by omega), u1.o (by omega)]) (by rw [u3.t, u2.t, u1.t])
    · rw [ct_put (q := ss_in tW) (t := t) hb (by rw [ss_put_in ht]; simp) (fun i hi => by rw [ss_put_in ht]; simp [hi]), if_pos ht, hto.1]
    · intro i hi
      by_cases e : i = tz
      · subst e; exact ⟨t, ht, pk_us, by rw [ss_put_in ht]; simp⟩
      · obtain ⟨s, hs, q1, q2⟩ := hto.2.1 i (by omega)
        exact ⟨s, hs, by rw [pk_un e]; exact q1, by rw [ss_put_in ht, q2]; rfl⟩
    · intro s hs hs2
      rw [ss_put_in ht, Bool.or_eq_true] at hs2
      rcases hs2 with q | q
      · obtain ⟨i, hi, q1⟩ := hto.2.2 s hs q
        exact ⟨i, by omega, by rw [pk_un (by omega)]; exact q1⟩
      · exact ⟨tz, by omega, by rw [pk_us, of_decide_eq_true q]⟩
    · rw [ss_put_in ht, Bool.or_eq_true, decide_eq_true_iff]
/-- a line goes, or comes: what it defines is touched, and has one less, or one more -/
theorem pm_wsLeave {d w tz b lo : Nat} {s : ln_S} {E : ln_D} {la : Nat → Option Nat} {T D lk wt to : Nat → Int32} {tW : Nat → Int64} {old : Int32} {G : ln_G} {S : px_S} {Q : Option Value → px_S → Prop} (hd : 3 ≤ d) (h : ws_at S w la T D lk wt tW to tz old) (hto : tou tW to tz) (hlo : lo_at S lo G) (hwl : w + 10 ≤ lo) (hg : G b = some (s, E))
    (k : ∀ S' D' tW' to' tz', ws_at S' w la T D' lk wt tW' to' tz' old → tou tW' to' tz' → (∀ t, t < 208 → D' t = if ln_df s = nI t then D t + (-1) else D t) → (∀ t, t < 208 → (ss_in tW' t = true ↔ ss_in tW t = true ∨ ln_df s = nI t)) → (∀ q, (q < w ∨ w + 10 ≤ q) → S'.1 q = S.1 q) → S'.2 = S.2 → Q none S') :
    px_M d px_m_Workspace_leave [.ref w, .ref b] S Q := by
  have h' := h
  obtain ⟨h0, h1, h2, h3, h4, h5, h6, h7, h8, h9⟩ := h
  obtain ⟨l1, l2, l3⟩ := hlo.1 b s E hg
  obtain ⟨fs, hb⟩ := hlo.cell hg
  refine px_M.go (by omega) (Nat.le_of_ble_eq_true rfl) ?_
  refine px_P.sn 3 (f1 := (5, [(0, .ref w), (1, .ref b)], [.ref w])) (S1 := S) rfl ?_
  refine px_P.gf rfl rfl (by assumption) (v := .ref (w + 2)) rfl ?_
  refine px_P.sn 1 (f1 := (9, [(0, .ref w), (1, .ref b)], [.ref b, .ref (w + 2)])) (S1 := S) rfl ?_
  refine px_P.cv rfl rfl rfl (by assumption) rfl ?_
  show px_M _ px_m_Line_defined [.ref b] S _
  refine pm_lnDefined (by omega) l1 ?_
  rcases l2.2.1 with e | ⟨t, ht, e⟩
  · rw [e]
    show px_P _ _ (12, [(0, .ref w), (1, .ref b)], [.int (-1), .ref (w + 2)]) S _
    refine px_P.sn 1 (f1 := (13, [(0, .ref w), (1, .ref b)], [.int (-1), .int (-1), .ref (w + 2)])) (S1 := S) rfl ?_
    refine px_P.cv rfl rfl rfl (by assumption) rfl ?_
    show px_M _ px_m_Symbols_addDefiners [.ref (w + 2), .int (-1), .int (-1)] S _
    refine pm_addDefinersN (by omega) ?_
    show px_P _ _ (16, [(0, .ref w), (1, .ref b)], []) S _
    refine px_P.sn 2 (f1 := (18, [(0, .ref w), (1, .ref b)], [.ref b, .ref w])) (S1 := S) rfl ?_
    refine px_P.cv rfl rfl rfl (by assumption) rfl ?_
    show px_M _ px_m_Line_defined [.ref b] S _
    refine pm_lnDefined (by omega) l1 ?_
    rw [e]
    show px_P _ _ (21, [(0, .ref w), (1, .ref b)], [.int (-1), .ref w]) S _
    refine px_P.cv rfl rfl rfl (by assumption) rfl ?_
    show px_M _ px_m_Workspace_touch [.ref w, .int (-1)] S _
    refine pm_wsTouchN (by omega) ?_
    show px_P _ _ (24, [(0, .ref w), (1, .ref b)], []) S _
    refine px_P.ret rfl ?_
    refine k S D tW to tz h' hto (fun t ht => ?_) (fun t ht => ?_) (fun _ _ => rfl) rfl
    · rw [e, if_neg (fun z => nI_neg (by omega) z.symm)]
    · rw [e]; exact ⟨Or.inl, fun z => z.elim id (fun z => absurd z.symm (nI_neg (by omega)))⟩
  · rw [e]
    show px_P _ _ (12, [(0, .ref w), (1, .ref b)], [.int (nI t), .ref (w + 2)]) S _
    refine px_P.sn 1 (f1 := (13, [(0, .ref w), (1, .ref b)], [.int (-1), .int (nI t), .ref (w + 2)])) (S1 := S) rfl ?_
    refine px_P.cv rfl rfl rfl (by assumption) rfl ?_
    show px_M _ px_m_Symbols_addDefiners [.ref (w + 2), .int (nI t), .int (-1)] S _
    refine pm_addDefiners (by omega) h2 h4 ht (fun S1 u1 => ?_)
    have g1 := h'.uD u1
    have l1' := l1.keep (S' := S1) (fun q hq => u1.o (by have := (l3 q hq).1; omega))
    obtain ⟨fs1, hb1⟩ : ∃ fs, S1.1 b = some (.inr (4, fs)) := ⟨fs, u1.n hb (by intro z; rw [z] at hb; rw [h4] at hb; cases hb)⟩
    have e0 := g1.1
    show px_P _ _ (16, [(0, .ref w), (1, .ref b)], []) S1 _
    refine px_P.sn 2 (f1 := (18, [(0, .ref w), (1, .ref b)], [.ref b, .ref w])) (S1 := S1) rfl ?_
    refine px_P.cv rfl rfl rfl (by assumption) rfl ?_
    show px_M _ px_m_Line_defined [.ref b] S1 _
    refine pm_lnDefined (by omega) l1' ?_
    rw [e]
    show px_P _ _ (21, [(0, .ref w), (1, .ref b)], [.int (nI t), .ref w]) S1 _
    refine px_P.cv rfl rfl rfl (by assumption) rfl ?_
    show px_M _ px_m_Workspace_touch [.ref w, .int (nI t)] S1 _
    refine pm_wsTouch (by omega) g1 ht hto (fun S2 tW2 to2 tz2 q1 q2 q3 q4 q5 q6 q7 => ?_)
    show px_P _ _ (24, [(0, .ref w), (1, .ref b)], []) S2 _
    refine px_P.ret rfl ?_
    refine k S2 _ tW2 to2 tz2 q1 q2 (fun t1 ht1 => ?_) (fun t1 ht1 => ?_) (fun q hq => by rw [q6 q hq, u1.o (by omega)]) (by rw [q7, u1.t])
    · by_cases z : t1 = t
      · subst z; rw [if_pos e, pk_us]
      · rw [if_neg (fun y => z ((nI_eq (by omega) (by omega)).mp (e.symm.trans y)).symm), pk_un z]
    · rw [q5 t1 ht1, e]
      constructor
      · rintro (z | z)
        · exact Or.inl z
        · rw [z]; exact Or.inr rfl
      · rintro (z | z)
        · exact Or.inl z
        · exact Or.inr ((nI_eq (by omega) (by omega)).mp z).symm
theorem pm_wsLeaveN {d w : Nat} {S : px_S} {Q : Option Value → px_S → Prop} (hd : 1 ≤ d) (k : Q none S) : px_M d px_m_Workspace_leave [.ref w, .null] S Q := by
  refine px_M.go (by omega) (Nat.le_of_ble_eq_true rfl) ?_
  refine px_P.sn 2 (f1 := (24, [(0, .ref w), (1, .null)], [])) (S1 := S) rfl ?_
  refine px_P.ret rfl ?_
  exact k
/-- a line goes, or comes: what it defines is touched, and has one less, or one more -/
theorem pm_wsEnter {d w tz b lo : Nat} {s : ln_S} {E : ln_D} {la : Nat → Option Nat} {T D lk wt to : Nat → Int32} {tW : Nat → Int64} {old : Int32} {G : ln_G} {S : px_S} {Q : Option Value → px_S → Prop} (hd : 3 ≤ d) (h : ws_at S w la T D lk wt tW to tz old) (hto : tou tW to tz) (hlo : lo_at S lo G) (hwl : w + 10 ≤ lo) (hg : G b = some (s, E))
    (k : ∀ S' D' tW' to' tz', ws_at S' w la T D' lk wt tW' to' tz' old → tou tW' to' tz' → (∀ t, t < 208 → D' t = if ln_df s = nI t then D t + 1 else D t) → (∀ t, t < 208 → (ss_in tW' t = true ↔ ss_in tW t = true ∨ ln_df s = nI t)) → (∀ q, (q < w ∨ w + 10 ≤ q) → S'.1 q = S.1 q) → S'.2 = S.2 → Q none S') :
    px_M d px_m_Workspace_enter [.ref w, .ref b] S Q := by
  have h' := h
  obtain ⟨h0, h1, h2, h3, h4, h5, h6, h7, h8, h9⟩ := h
  obtain ⟨l1, l2, l3⟩ := hlo.1 b s E hg
  obtain ⟨fs, hb⟩ := hlo.cell hg
  refine px_M.go (by omega) (Nat.le_of_ble_eq_true rfl) ?_
  refine px_P.sn 3 (f1 := (5, [(0, .ref w), (1, .ref b)], [.ref w])) (S1 := S) rfl ?_
  refine px_P.gf rfl rfl (by assumption) (v := .ref (w + 2)) rfl ?_
  refine px_P.sn 1 (f1 := (9, [(0, .ref w), (1, .ref b)], [.ref b, .ref (w + 2)])) (S1 := S) rfl ?_
  refine px_P.cv rfl rfl rfl (by assumption) rfl ?_
  show px_M _ px_m_Line_defined [.ref b] S _
  refine pm_lnDefined (by omega) l1 ?_
  rcases l2.2.1 with e | ⟨t, ht, e⟩
  · rw [e]
    show px_P _ _ (12, [(0, .ref w), (1, .ref b)], [.int (-1), .ref (w + 2)]) S _
    refine px_P.sn 1 (f1 := (13, [(0, .ref w), (1, .ref b)], [.int 1, .int (-1), .ref (w + 2)])) (S1 := S) rfl ?_
    refine px_P.cv rfl rfl rfl (by assumption) rfl ?_
    show px_M _ px_m_Symbols_addDefiners [.ref (w + 2), .int (-1), .int 1] S _
    refine pm_addDefinersN (by omega) ?_
    show px_P _ _ (16, [(0, .ref w), (1, .ref b)], []) S _
    refine px_P.sn 2 (f1 := (18, [(0, .ref w), (1, .ref b)], [.ref b, .ref w])) (S1 := S) rfl ?_
    refine px_P.cv rfl rfl rfl (by assumption) rfl ?_
    show px_M _ px_m_Line_defined [.ref b] S _
    refine pm_lnDefined (by omega) l1 ?_
    rw [e]
    show px_P _ _ (21, [(0, .ref w), (1, .ref b)], [.int (-1), .ref w]) S _
    refine px_P.cv rfl rfl rfl (by assumption) rfl ?_
    show px_M _ px_m_Workspace_touch [.ref w, .int (-1)] S _
    refine pm_wsTouchN (by omega) ?_
    show px_P _ _ (24, [(0, .ref w), (1, .ref b)], []) S _
    refine px_P.ret rfl ?_
    refine k S D tW to tz h' hto (fun t ht => ?_) (fun t ht => ?_) (fun _ _ => rfl) rfl
    · rw [e, if_neg (fun z => nI_neg (by omega) z.symm)]
    · rw [e]; exact ⟨Or.inl, fun z => z.elim id (fun z => absurd z.symm (nI_neg (by omega)))⟩
  · rw [e]
    show px_P _ _ (12, [(0, .ref w), (1, .ref b)], [.int (nI t), .ref (w + 2)]) S _
    refine px_P.sn 1 (f1 := (13, [(0, .ref w), (1, .ref b)], [.int 1, .int (nI t), .ref (w + 2)])) (S1 := S) rfl ?_
    refine px_P.cv rfl rfl rfl (by assumption) rfl ?_
    show px_M _ px_m_Symbols_addDefiners [.ref (w + 2), .int (nI t), .int 1] S _
    refine pm_addDefiners (by omega) h2 h4 ht (fun S1 u1 => ?_)
    have g1 := h'.uD u1
    have l1' := l1.keep (S' := S1) (fun q hq => u1.o (by have := (l3 q hq).1; omega))
    obtain ⟨fs1, hb1⟩ : ∃ fs, S1.1 b = some (.inr (4, fs)) := ⟨fs, u1.n hb (by intro z; rw [z] at hb; rw [h4] at hb; cases hb)⟩
    have e0 := g1.1
    show px_P _ _ (16, [(0, .ref w), (1, .ref b)], []) S1 _
    refine px_P.sn 2 (f1 := (18, [(0, .ref w), (1, .ref b)], [.ref b, .ref w])) (S1 := S1) rfl ?_
    refine px_P.cv rfl rfl rfl (by assumption) rfl ?_
    show px_M _ px_m_Line_defined [.ref b] S1 _
    refine pm_lnDefined (by omega) l1' ?_
    rw [e]
    show px_P _ _ (21, [(0, .ref w), (1, .ref b)], [.int (nI t), .ref w]) S1 _
    refine px_P.cv rfl rfl rfl (by assumption) rfl ?_
    show px_M _ px_m_Workspace_touch [.ref w, .int (nI t)] S1 _
    refine pm_wsTouch (by omega) g1 ht hto (fun S2 tW2 to2 tz2 q1 q2 q3 q4 q5 q6 q7 => ?_)
    show px_P _ _ (24, [(0, .ref w), (1, .ref b)], []) S2 _
    refine px_P.ret rfl ?_
    refine k S2 _ tW2 to2 tz2 q1 q2 (fun t1 ht1 => ?_) (fun t1 ht1 => ?_) (fun q hq => by rw [q6 q hq, u1.o (by omega)]) (by rw [q7, u1.t])
    · by_cases z : t1 = t
      · subst z; rw [if_pos e, pk_us]
      · rw [if_neg (fun y => z ((nI_eq (by omega) (by omega)).mp (e.symm.trans y)).symm), pk_un z]
    · rw [q5 t1 ht1, e]
      constructor
      · rintro (z | z)
        · exact Or.inl z
        · rw [z]; exact Or.inr rfl
      · rintro (z | z)
        · exact Or.inl z
        · exact Or.inr ((nI_eq (by omega) (by omega)).mp z).symm
theorem pm_wsEnterN {d w : Nat} {S : px_S} {Q : Option Value → px_S → Prop} (hd : 1 ≤ d) (k : Q none S) : px_M d px_m_Workspace_enter [.ref w, .null] S Q := by
  refine px_M.go (by omega) (Nat.le_of_ble_eq_true rfl) ?_
  refine px_P.sn 2 (f1 := (24, [(0, .ref w), (1, .null)], [])) (S1 := S) rfl ?_
  refine px_P.ret rfl ?_
  exact k
