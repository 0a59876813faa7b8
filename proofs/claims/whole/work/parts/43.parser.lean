/-! ===== Parser ===== -/
def c32 (k : Nat) : Int32 := if k = 0 then -1 else nI k
theorem c32_eq {k j : Nat} (hk : k ≤ 255) (h1 : 1 ≤ j) (h2 : j ≤ 255) : c32 k = nI j ↔ k = j := by
  unfold c32
  split
  · rename_i h
    constructor
    · intro e; exact absurd e.symm (nI_neg (by omega))
    · intro e; omega
  · exact nI_eq (by omega) (by omega)
theorem c32_m {k : Nat} (hk : k ≤ 255) : c32 k = -1 ↔ k = 0 := by
  unfold c32
  split
  · rename_i h; exact ⟨fun _ => h, fun _ => rfl⟩
  · rename_i h; exact ⟨fun e => absurd e (nI_neg (by omega)), fun e => absurd e h⟩
def rv : Option Nat → Int32
  | some s => nI s
  | none => -1
theorem lt_c32 : ∀ k, k < 256 → fm_letter (c32 k) = rv (lt k) := by decide +kernel
theorem isN_c32 : ∀ k, k < 256 → (isN k = true ↔ 65 ≤ c32 k ∧ c32 k ≤ 90) := by decide +kernel
theorem isE_c32 : ∀ k, k < 256 → (isE k = true ↔ c32 k = 33 ∨ c32 k = 91 ∨ c32 k = 38) := by decide +kernel
theorem dg_c32 : ∀ k, k < 256 → (48 ≤ k ∧ k < 56 ↔ 48 ≤ c32 k ∧ c32 k < 56) := by decide +kernel
/-- the text: as the parser's array has it -/
def tok (f : Nat → Int32) (tx : Nat → Nat) (N : Nat) : Prop := (∀ j, j < N → f j = nI (tx j)) ∧ (∀ j, j < N → 1 ≤ tx j ∧ tx j ≤ 255) ∧ N ≤ 60
theorem tok.cn {f : Nat → Int32} {tx : Nat → Nat} {N : Nat} (h : tok f tx N) (a : Nat) : cn tx N a ≤ 255 := by
  unfold _root_.Jvm.Pilot.CCheckDaemonLaw_law_r9510_a6ab17.cn
  split
  · rename_i ha; exact (h.2.1 a ha).2
  · omega
def pa (S : px_S) (p t N m : Nat) (f : Nat → Int32) (df dc eq : Int32) (V : Nat → Int32) (y : ps) : Prop := S.1 p = some (.inr (5, [.ref t, .int (nI N), .int (nI m), .ref (p + 1), .int (nI (ps_a y)), .int df, .int dc, .int eq])) ∧ S.1 t = some (.inl (0, 60, .inl f)) ∧ t < p ∧ ∃ K F C P, xe_at S (p + 1) N (ps_n y) (ps_w y) K F C P V ∧ xe_st (ps_s y) (ps_n y) K F C P
theorem pa.cell {S S' : px_S} {p t N m a : Nat} {f V : Nat → Int32} {df dc eq df' dc' eq' : Int32} {y : ps} (h : pa S p t N m f df dc eq V y) (u : px_Up S S' p (.inr (5, [.ref t, .int (nI N), .int (nI m), .ref (p + 1), .int (nI a), .int df', .int dc', .int eq']))) : pa S' p t N m f df' dc' eq' V (ps_at y a) := by
  obtain ⟨h1, h2, h3, K, F, C, P, ⟨q0, q1, q2, q3, q4, q5, q6, q7⟩, h5⟩ := h
  exact ⟨u.s, u.n h2 (by omega), h3, K, F, C, P, ⟨u.n q0 (by omega), u.n q1 (by omega), u.n q2 (by omega), u.n q3 (by omega), u.n q4 (by omega), u.n q5 (by omega), u.n q6 (by omega), u.n q7 (by omega)⟩, h5⟩
theorem pm_paNext {d p t N m : Nat} {f V : Nat → Int32} {tx : Nat → Nat} {df dc eq : Int32} {y : ps} {S : px_S} {Q : Option Value → px_S → Prop} (hd : 1 ≤ d) (ht : tok f tx N) (hN : ps_a y ≤ N) (h : pa S p t N m f df dc eq V y)
    (k : ∀ S', pa S' p t N m f df dc eq V (ps_at y (nx tx N (ps_a y))) → (∀ q, (q < p ∨ p + 9 ≤ q) → S'.1 q = S.1 q) → S'.2 = S.2 → Q (some (.int (c32 (cn tx N (nx tx N (ps_a y)))))) S') : px_M d px_m_Parser_next [.ref p] S Q := by
  obtain ⟨t1, t2, t3⟩ := ht
  have stop : ∀ (S1 : px_S) (a : Nat), a ≤ N → pa S1 p t N m f df dc eq V (ps_at y a) → nx tx N a = a → nx tx N (ps_a y) = a → (∀ q, (q < p ∨ p + 9 ≤ q) → S1.1 q = S.1 q) → S1.2 = S.2 → px_P (d - 1) px_m_Parser_next (38, [(0, .ref p)], []) S1 Q := by
    intro S1 a ha h1 hnx e fr tt
    have kk := k S1 (by rw [e]; exact h1) fr tt
    rw [e] at kk
    obtain ⟨c0, c1, _⟩ := h1
    have c0' : S1.1 p = some (.inr (5, [.ref t, .int (nI N), .int (nI m), .ref (p + 1), .int (nI a), .int df, .int dc, .int eq])) := c0
    refine px_P.sn 1 (f1 := (39, [(0, .ref p)], [.ref p])) (S1 := S1) rfl ?_
    refine px_P.gf rfl rfl (by assumption) (v := .int (nI a)) rfl ?_
    refine px_P.sn 1 (f1 := (43, [(0, .ref p)], [.ref p, .int (nI a)])) (S1 := S1) rfl ?_
    refine px_P.gf rfl rfl (by assumption) (v := .int (nI N)) rfl ?_
    by_cases hlt : a < N
    · refine px_P.ic_ge rfl rfl (fun h => absurd h (nI_ge hlt (by omega))) (fun _ => ?_)
      refine px_P.sn 1 (f1 := (50, [(0, .ref p)], [.ref p])) (S1 := S1) rfl ?_
      refine px_P.gf rfl rfl (by assumption) (v := .ref t) rfl ?_
      refine px_P.sn 1 (f1 := (54, [(0, .ref p)], [.ref p, .ref t])) (S1 := S1) rfl ?_
      refine px_P.gf rfl rfl (by assumption) (v := .int (nI a)) rfl ?_
      refine px_P.ialdj (j := a) rfl (by assumption) rfl (by omega) (by decide) ?_
      rw [t1 a hlt]
      refine px_P.sn 1 (f1 := (62, [(0, .ref p)], [.int (nI (tx a))])) (S1 := S1) rfl ?_
      refine px_P.ret rfl ?_
      have e2 : cn tx N a = tx a := if_pos hlt
      rw [e2] at kk
      have := t2 a hlt
      rw [show c32 (tx a) = nI (tx a) from if_neg (by omega)] at kk
      exact kk
    · refine px_P.ic_ge rfl rfl (fun _ => ?_) (fun h => absurd (nI_le (by omega) (by omega)) h)
      refine px_P.sn 1 (f1 := (62, [(0, .ref p)], [.int (-1)])) (S1 := S1) rfl ?_
      refine px_P.ret rfl ?_
      have e2 : cn tx N a = 0 := if_neg hlt
      rw [e2] at kk
      exact kk
  have lp : ∀ (j a : Nat), a + j = N → ∀ S1 : px_S, pa S1 p t N m f df dc eq V (ps_at y a) → nx tx N (ps_a y) = nx tx N a → (∀ q, (q < p ∨ p + 9 ≤ q) → S1.1 q = S.1 q) → S1.2 = S.2 → px_P (d - 1) px_m_Parser_next (0, [(0, .ref p)], []) S1 Q := by
    intro j
    induction j with
    | zero =>
      intro a ha S1 h1 e fr tt
      have c0 := h1.1
      have c0' : S1.1 p = some (.inr (5, [.ref t, .int (nI N), .int (nI m), .ref (p + 1), .int (nI a), .int df, .int dc, .int eq])) := c0
      have en : nx tx N a = a := nx_z (by omega)
      refine px_P.sn 1 (f1 := (1, [(0, .ref p)], [.ref p])) (S1 := S1) rfl ?_
      refine px_P.gf rfl rfl (by assumption) (v := .int (nI a)) rfl ?_
      refine px_P.sn 1 (f1 := (5, [(0, .ref p)], [.ref p, .int (nI a)])) (S1 := S1) rfl ?_
      refine px_P.gf rfl rfl (by assumption) (v := .int (nI N)) rfl ?_
      refine px_P.ic_ge rfl rfl (fun _ => ?_) (fun h => absurd (nI_le (by omega) (by omega)) h)
      exact stop S1 a (by omega) h1 en (e.trans en) fr tt
    | succ j ih =>
      intro a ha S1 h1 e fr tt
      have h1' := h1
      obtain ⟨c0, c1, _⟩ := h1
      have c0' : S1.1 p = some (.inr (5, [.ref t, .int (nI N), .int (nI m), .ref (p + 1), .int (nI a), .int df, .int dc, .int eq])) := c0
      have h255 := t2 a (by omega)
      refine px_P.sn 1 (f1 := (1, [(0, .ref p)], [.ref p])) (S1 := S1) rfl ?_
      refine px_P.gf rfl rfl (by assumption) (v := .int (nI a)) rfl ?_
      refine px_P.sn 1 (f1 := (5, [(0, .ref p)], [.ref p, .int (nI a)])) (S1 := S1) rfl ?_
      refine px_P.gf rfl rfl (by assumption) (v := .int (nI N)) rfl ?_
      refine px_P.ic_ge rfl rfl (fun h => absurd h (nI_ge (show a < N by omega) (by omega))) (fun _ => ?_)
      refine px_P.sn 1 (f1 := (12, [(0, .ref p)], [.ref p])) (S1 := S1) rfl ?_
      refine px_P.gf rfl rfl (by assumption) (v := .ref t) rfl ?_
      refine px_P.sn 1 (f1 := (16, [(0, .ref p)], [.ref p, .ref t])) (S1 := S1) rfl ?_
      refine px_P.gf rfl rfl (by assumption) (v := .int (nI a)) rfl ?_
      refine px_P.ialdj (j := a) rfl (by assumption) rfl (by omega) (by decide) ?_
      rw [t1 a (by omega)]
      show px_P _ _ (20, [(0, .ref p)], [.int (nI (tx a))]) S1 _
      refine px_P.sn 1 (f1 := (22, [(0, .ref p)], [.int 32, .int (nI (tx a))])) (S1 := S1) rfl ?_
      refine px_P.ic_ne rfl rfl (fun hsp => ?_) (fun hsp => ?_)
      · have en : nx tx N a = a := nx_z (fun z => hsp (by rw [z.2]; rfl))
        exact stop S1 a (by omega) h1' en (e.trans en) fr tt
      · have e32 : tx a = 32 := (nI_eq (b := 32) (by omega) (by decide)).mp hsp
        refine px_P.sn 2 (f1 := (27, [(0, .ref p)], [.ref p, .ref p])) (S1 := S1) rfl ?_
        refine px_P.gf rfl rfl (by assumption) (v := .int (nI a)) rfl ?_
        refine px_P.sn 2 (f1 := (32, [(0, .ref p)], [.int ((nI a) + 1), .ref p])) (S1 := S1) rfl ?_
        refine px_P.pf rfl rfl (by assumption) rfl (fun S2 u2 => ?_)
        have u2' : px_Up S1 S2 p (.inr (5, [.ref t, .int (nI N), .int (nI m), .ref (p + 1), .int (nI (a + 1)), .int df, .int dc, .int eq])) := by rw [← nI_1]; exact u2
        refine px_P.sn 1 (f1 := (0, [(0, .ref p)], [])) (S1 := S2) rfl ?_
        exact ih (a + 1) (by omega) S2 (h1'.cell u2') (e.trans (nx_s (by omega) e32)) (fun q hq => by rw [u2.o (by omega)]; exact fr q hq) (by rw [u2.t, tt])
  refine px_M.go (by omega) (Nat.le_of_ble_eq_true rfl) ?_
  exact lp (N - ps_a y) (ps_a y) (by omega) S h rfl (fun _ _ => rfl) rfl
theorem pm_paTake {d p t N m c : Nat} {f V : Nat → Int32} {tx : Nat → Nat} {df dc eq : Int32} {y : ps} {S : px_S} {Q : Option Value → px_S → Prop} (hd : 2 ≤ d) (ht : tok f tx N) (hN : ps_a y ≤ N) (hc : 1 ≤ c ∧ c ≤ 255) (h : pa S p t N m f df dc eq V y)
    (k1 : cn tx N (nx tx N (ps_a y)) = c → ∀ S', pa S' p t N m f df dc eq V (ps_at y (nx tx N (ps_a y) + 1)) → (∀ q, (q < p ∨ p + 9 ≤ q) → S'.1 q = S.1 q) → S'.2 = S.2 → Q (some (.int 1)) S')
    (k0 : ¬ cn tx N (nx tx N (ps_a y)) = c → ∀ S', pa S' p t N m f df dc eq V (ps_at y (nx tx N (ps_a y))) → (∀ q, (q < p ∨ p + 9 ≤ q) → S'.1 q = S.1 q) → S'.2 = S.2 → Q (some (.int 0)) S') : px_M d px_m_Parser_take [.ref p, .int (nI c)] S Q := by
  have c0 := h.1
  refine px_M.go (by omega) (Nat.le_of_ble_eq_true rfl) ?_
  refine px_P.sn 1 (f1 := (1, [(0, .ref p), (1, .int (nI c))], [.ref p])) (S1 := S) rfl ?_
  refine px_P.cv rfl rfl rfl (by assumption) rfl ?_
  show px_M _ px_m_Parser_next [.ref p] S _
  refine pm_paNext (by omega) ht hN h (fun S1 e1 e2 e3 => ?_)
  show px_P _ _ (4, [(0, .ref p), (1, .int (nI c))], [.int (c32 (cn tx N (nx tx N (ps_a y))))]) S1 _
  have c1 := e1.1
  have c1' : S1.1 p = some (.inr (5, [.ref t, .int (nI N), .int (nI m), .ref (p + 1), .int (nI (nx tx N (ps_a y))), .int df, .int dc, .int eq])) := c1
  refine px_P.sn 1 (f1 := (5, [(0, .ref p), (1, .int (nI c))], [.int (nI c), .int (c32 (cn tx N (nx tx N (ps_a y))))])) (S1 := S1) rfl ?_
  refine px_P.ic_eq rfl rfl (fun hq => ?_) (fun hq => ?_)
  · refine px_P.sn 2 (f1 := (12, [(0, .ref p), (1, .int (nI c))], [.ref p, .ref p])) (S1 := S1) rfl ?_
    refine px_P.gf rfl rfl (by assumption) (v := .int (nI (nx tx N (ps_a y)))) rfl ?_
    refine px_P.sn 2 (f1 := (17, [(0, .ref p), (1, .int (nI c))], [.int ((nI (nx tx N (ps_a y))) + 1), .ref p])) (S1 := S1) rfl ?_
    refine px_P.pf rfl rfl (by assumption) rfl (fun S2 u2 => ?_)
    have u2' : px_Up S1 S2 p (.inr (5, [.ref t, .int (nI N), .int (nI m), .ref (p + 1), .int (nI (nx tx N (ps_a y) + 1)), .int df, .int dc, .int eq])) := by rw [← nI_1]; exact u2
    refine px_P.sn 1 (f1 := (21, [(0, .ref p), (1, .int (nI c))], [.int 1])) (S1 := S2) rfl ?_
    refine px_P.ret rfl ?_
    exact k1 ((c32_eq (ht.cn _) hc.1 hc.2).mp hq) S2 (e1.cell u2') (fun q hq => by rw [u2.o (by omega)]; exact e2 q hq) (by rw [u2.t, e3])
  · refine px_P.sn 1 (f1 := (9, [(0, .ref p), (1, .int (nI c))], [.int 0])) (S1 := S1) rfl ?_
    refine px_P.ret rfl ?_
    exact k0 (fun z => hq ((c32_eq (ht.cn _) hc.1 hc.2).mpr z)) S1 e1 e2 e3
theorem pm_paIsName {d k : Nat} {S : px_S} {Q : Option Value → px_S → Prop} (hd : 1 ≤ d) (hk : k ≤ 255) (kk : Q (some (.int (bif isN k then 1 else 0))) S) : px_M d px_m_Parser_isName [.int (c32 k)] S Q := by
  have e := isN_c32 k (by omega)
  refine px_M.go (by omega) (Nat.le_of_ble_eq_true rfl) ?_
  refine px_P.sn 2 (f1 := (3, [(0, .int (c32 k))], [.int 65, .int (c32 k)])) (S1 := S) rfl ?_
  refine px_P.ic_lt rfl rfl (fun h1 => ?_) (fun h1 => ?_)
  · refine px_P.sn 1 (f1 := (17, [(0, .int (c32 k))], [.int 0])) (S1 := S) rfl ?_
    refine px_P.ret rfl ?_
    rw [show isN k = false from by
      cases hb : isN k with
      | false => rfl
      | true => exact absurd (e.mp hb).1 (Int32.not_le.mpr h1)] at kk
    exact kk
  · refine px_P.sn 2 (f1 := (9, [(0, .int (c32 k))], [.int 90, .int (c32 k)])) (S1 := S) rfl ?_
    refine px_P.ic_gt rfl rfl (fun h2 => ?_) (fun h2 => ?_)
    · refine px_P.sn 1 (f1 := (17, [(0, .int (c32 k))], [.int 0])) (S1 := S) rfl ?_
      refine px_P.ret rfl ?_
      rw [show isN k = false from by
        cases hb : isN k with
        | false => rfl
        | true => exact absurd (e.mp hb).2 (Int32.not_le.mpr h2)] at kk
      exact kk
    · refine px_P.sn 2 (f1 := (17, [(0, .int (c32 k))], [.int 1])) (S1 := S) rfl ?_
      refine px_P.ret rfl ?_
      rw [e.mpr ⟨Int32.not_lt.mp h1, Int32.not_lt.mp h2⟩] at kk
      exact kk
theorem pm_paIsEnding {d k : Nat} {S : px_S} {Q : Option Value → px_S → Prop} (hd : 1 ≤ d) (hk : k ≤ 255) (kk : Q (some (.int (bif isE k then 1 else 0))) S) : px_M d px_m_Parser_isEnding [.int (c32 k)] S Q := by
  have e := isE_c32 k (by omega)
  have yes : (c32 k = 33 ∨ c32 k = 91 ∨ c32 k = 38) → px_P (d - 1) px_m_Parser_isEnding (18, [(0, .int (c32 k))], []) S Q := by
    intro h
    refine px_P.sn 2 (f1 := (23, [(0, .int (c32 k))], [.int 1])) (S1 := S) rfl ?_
    refine px_P.ret rfl ?_
    rw [e.mpr h] at kk
    exact kk
  refine px_M.go (by omega) (Nat.le_of_ble_eq_true rfl) ?_
  refine px_P.sn 2 (f1 := (3, [(0, .int (c32 k))], [.int 33, .int (c32 k)])) (S1 := S) rfl ?_
  refine px_P.ic_eq rfl rfl (fun h1 => ?_) (fun h1 => ?_)
  · exact yes (Or.inl h1)
  · refine px_P.sn 2 (f1 := (9, [(0, .int (c32 k))], [.int 91, .int (c32 k)])) (S1 := S) rfl ?_
    refine px_P.ic_eq rfl rfl (fun h2 => ?_) (fun h2 => ?_)
    · exact yes (Or.inr (Or.inl h2))
    · refine px_P.sn 2 (f1 := (15, [(0, .int (c32 k))], [.int 38, .int (c32 k)])) (S1 := S) rfl ?_
      refine px_P.ic_ne rfl rfl (fun h3 => ?_) (fun h3 => ?_)
      · refine px_P.sn 1 (f1 := (23, [(0, .int (c32 k))], [.int 0])) (S1 := S) rfl ?_
        refine px_P.ret rfl ?_
        rw [show isE k = false from by
          cases hb : isE k with
          | false => rfl
          | true =>
            rcases e.mp hb with z | z | z
            · exact absurd z h1
            · exact absurd z h2
            · exact absurd z h3] at kk
        exact kk
      · exact yes (Or.inr (Or.inr h3))
/-- one more step, the parser having gone on -/
theorem pa.add {S S' : px_S} {p t N m : Nat} {f V K F C P : Nat → Int32} {df dc eq : Int32} {y : ps} {q : Nat × Nat × Nat × Nat} {W : Nat → Int64} {a : Nat} (h1 : S.1 p = some (.inr (5, [.ref t, .int (nI N), .int (nI m), .ref (p + 1), .int (nI a), .int df, .int dc, .int eq]))) (h2 : S.1 t = some (.inl (0, 60, .inl f))) (h3 : t < p) (h5 : xe_st (ps_s y) (ps_n y) K F C P) (hok : xe_ok1 q (ps_n y))
    (e1 : xe_at S' (p + 1) N (ps_n y + 1) W (upd K (ps_n y) (nI q.1)) (upd F (ps_n y) (nI q.2.1)) (upd C (ps_n y) (nI q.2.2.1)) (upd P (ps_n y) (nI q.2.2.2)) V) (e2 : ∀ b, (b < p + 1 ∨ p + 1 + 8 ≤ b) → S'.1 b = S.1 b) : pa S' p t N m f df dc eq V (a, ps_n y + 1, va_up (ps_s y) (ps_n y) q, W) := by
  refine ⟨(e2 p (by omega)).trans h1, (e2 t (by omega)).trans h2, h3, _, _, _, _, e1, fun j hj => ?_⟩
  have hj' : j < ps_n y + 1 := hj
  show upd K (ps_n y) (nI q.1) j = nI (va_up (ps_s y) (ps_n y) q j).1 ∧ upd F (ps_n y) (nI q.2.1) j = nI (va_up (ps_s y) (ps_n y) q j).2.1 ∧ upd C (ps_n y) (nI q.2.2.1) j = nI (va_up (ps_s y) (ps_n y) q j).2.2.1 ∧ upd P (ps_n y) (nI q.2.2.2) j = nI (va_up (ps_s y) (ps_n y) q j).2.2.2 ∧ xe_ok1 (va_up (ps_s y) (ps_n y) q j) j
  by_cases e : j = ps_n y
  · subst e
    simp only [va_up, if_true, pk_us]
    exact ⟨trivial, trivial, trivial, trivial, hok⟩
  · simp only [va_up, if_neg e, pk_un e]
    exact h5 j (by omega)
/-- a method that reads a piece -/
def pc (d p t N m : Nat) (f V : Nat → Int32) (df dc eq : Int32) (mi dep : Nat) (P : ps → pr) : Prop := ∀ S Q y, pa S p t N m f df dc eq V y → ps_a y ≤ N → ps_n y ≤ ps_a y → (∀ S', pa S' p t N m f df dc eq V (P y).2 → (∀ q, (q < p ∨ p + 9 ≤ q) → S'.1 q = S.1 q) → S'.2 = S.2 → Q (some (.int (rv (P y).1))) S') → px_M d mi [.ref p, .int (nI dep)] S Q
theorem pc_readSum {d p t N m dep : Nat} {f V : Nat → Int32} {tx : Nat → Nat} {df dc eq : Int32} {A : ps → pr} (hd : 2 ≤ d) (ht : tok f tx N) (hA : pg N A) (h : pc d p t N m f V df dc eq px_m_Parser_readOr dep (pz_or tx N A)) : pc (d + 1) p t N m f V df dc eq px_m_Parser_readSum dep (pz_sumA tx N A) := by
  intro S Q y hpa hyN hyn k
  have hpg : pg N (pz_or tx N A) := pg_or hA
  have lp : ∀ (j i : Nat), i + j = 60 → ∀ (s : Nat) (z : ps) (S1 : px_S), pa S1 p t N m f df dc eq V z → pq N y (some s, z) → pz_sumA tx N A y = pz_binL tx N 43 7 (pz_or tx N A) j s z → (∀ q, (q < p ∨ p + 9 ≤ q) → S1.1 q = S.1 q) → S1.2 = S.2 → px_P (d + 1 - 1) px_m_Parser_readSum (8, [(0, .ref p), (1, .int (nI dep)), (2, .int (nI s)), (3, .int (nI i))], []) S1 Q := by
    intro j
    induction j with
    | zero =>
      intro i hi s z S1 h1 h2 h3 h4 h5
      rw [h3] at k
      refine px_P.sn 2 (f1 := (11, [(0, .ref p), (1, .int (nI dep)), (2, .int (nI s)), (3, .int (nI i))], [.int 60, .int (nI i)])) (S1 := S1) rfl ?_
      refine px_P.ic_ge rfl rfl (fun _ => ?_) (fun h => absurd (nI_le (a := 60) (by omega) (by omega)) h)
      refine px_P.sn 1 (f1 := (83, [(0, .ref p), (1, .int (nI dep)), (2, .int (nI s)), (3, .int (nI i))], [.int (nI s)])) (S1 := S1) rfl ?_
      refine px_P.ret rfl ?_
      exact k S1 h1 h4 h5
    | succ j ih =>
      intro i hi s z S1 h1 h2 h3 h4 h5
      have zN : ps_a z ≤ N := h2.2.1
      have zs : s + 1 = ps_n z := (h2.2.2.2.2.2.2.2.2 s rfl).1
      have zn : ps_n z + ps_a y ≤ ps_a z + ps_n y := h2.2.2.2.1
      have c0 := h1.1
      refine px_P.sn 2 (f1 := (11, [(0, .ref p), (1, .int (nI dep)), (2, .int (nI s)), (3, .int (nI i))], [.int 60, .int (nI i)])) (S1 := S1) rfl ?_
      refine px_P.ic_ge rfl rfl (fun h => absurd h (nI_ge (b := 60) (by omega) (by decide))) (fun _ => ?_)
      refine px_P.sn 2 (f1 := (16, [(0, .ref p), (1, .int (nI dep)), (2, .int (nI s)), (3, .int (nI i))], [.int (-1), .int (nI s)])) (S1 := S1) rfl ?_
      refine px_P.ic_eq rfl rfl (fun h => absurd h (nI_neg (by have := ht.2.2; omega))) (fun _ => ?_)
      refine px_P.sn 1 (f1 := (20, [(0, .ref p), (1, .int (nI dep)), (2, .int (nI s)), (3, .int (nI i))], [.ref p])) (S1 := S1) rfl ?_
      refine px_P.cv rfl rfl rfl (by assumption) rfl ?_
      show px_M _ px_m_Parser_next [.ref p] S1 _
      refine pm_paNext (by omega) ht zN h1 (fun S2 e1 e2 e3 => ?_)
      show px_P _ _ (23, [(0, .ref p), (1, .int (nI dep)), (2, .int (nI s)), (3, .int (nI i))], [.int (c32 (cn tx N (nx tx N (ps_a z))))]) S2 _
      refine px_P.sn 1 (f1 := (25, [(0, .ref p), (1, .int (nI dep)), (2, .int (nI s)), (3, .int (nI i))], [.int 43, .int (c32 (cn tx N (nx tx N (ps_a z))))])) (S1 := S2) rfl ?_
      have hn := nx_le (tx := tx) (a := ps_a z) zN
      refine px_P.ic_ne rfl rfl (fun hq => ?_) (fun hq => ?_)
      · have hne : ¬ cn tx N (nx tx N (ps_a z)) = 43 := fun w => hq ((c32_eq (ht.cn _) (by decide) (by decide)).mpr w)
        have e9 : pz_sumA tx N A y = (some s, ps_at z (nx tx N (ps_a z))) := by rw [h3]; unfold pz_binL; rw [if_neg hne]
        rw [e9] at k
        refine px_P.sn 1 (f1 := (83, [(0, .ref p), (1, .int (nI dep)), (2, .int (nI s)), (3, .int (nI i))], [.int (nI s)])) (S1 := S2) rfl ?_
        refine px_P.ret rfl ?_
        exact k S2 e1 (fun q hq => by rw [e2 q hq]; exact h4 q hq) (by rw [e3, h5])
      · have he : cn tx N (nx tx N (ps_a z)) = 43 := (c32_eq (ht.cn _) (by decide) (by decide)).mp hq
        have hlt := cn_lt (tx := tx) (N := N) (a := nx tx N (ps_a z)) (by rw [he]; decide)
        have c2 : S2.1 p = some (.inr (5, [.ref t, .int (nI N), .int (nI m), .ref (p + 1), .int (nI (nx tx N (ps_a z))), .int df, .int dc, .int eq])) := e1.1
        refine px_P.sn 1 (f1 := (29, [(0, .ref p), (1, .int (nI dep)), (2, .int (nI s)), (3, .int (nI i))], [.ref p])) (S1 := S2) rfl ?_
        refine px_P.gf rfl rfl (by assumption) (v := .int (nI (nx tx N (ps_a z)))) rfl ?_
        refine px_P.sn 3 (f1 := (36, [(0, .ref p), (1, .int (nI dep)), (2, .int (nI s)), (3, .int (nI i)), (4, .int (nI (nx tx N (ps_a z))))], [.ref p, .ref p])) (S1 := S2) rfl ?_
        refine px_P.gf rfl rfl (by assumption) (v := .int (nI (nx tx N (ps_a z)))) rfl ?_
        refine px_P.sn 2 (f1 := (41, [(0, .ref p), (1, .int (nI dep)), (2, .int (nI s)), (3, .int (nI i)), (4, .int (nI (nx tx N (ps_a z))))], [.int ((nI (nx tx N (ps_a z))) + 1), .ref p])) (S1 := S2) rfl ?_
        refine px_P.pf rfl rfl (by assumption) rfl (fun S3 u3 => ?_)
        have u3' : px_Up S2 S3 p (.inr (5, [.ref t, .int (nI N), .int (nI m), .ref (p + 1), .int (nI (nx tx N (ps_a z) + 1)), .int df, .int dc, .int eq])) := by rw [← nI_1]; exact u3
        have m3 : pa S3 p t N m f df dc eq V (ps_at z (nx tx N (ps_a z) + 1)) := e1.cell u3'
        have c3 := m3.1
        have fr3 : ∀ q, (q < p ∨ p + 9 ≤ q) → S3.1 q = S.1 q := fun q hq => by rw [u3.o (by omega), e2 q hq]; exact h4 q hq
        have t3 : S3.2 = S.2 := by rw [u3.t, e3, h5]
        refine px_P.sn 2 (f1 := (46, [(0, .ref p), (1, .int (nI dep)), (2, .int (nI s)), (3, .int (nI i)), (4, .int (nI (nx tx N (ps_a z))))], [.int (nI dep), .ref p])) (S1 := S3) rfl ?_
        refine px_P.cv rfl rfl rfl (by assumption) rfl ?_
        show px_M _ px_m_Parser_readOr [.ref p, .int (nI dep)] S3 _
        have hpq := hpg (ps_at z (nx tx N (ps_a z) + 1)) (by show nx tx N (ps_a z) + 1 ≤ N; omega)
        refine h S3 _ (ps_at z (nx tx N (ps_a z) + 1)) m3 (by show nx tx N (ps_a z) + 1 ≤ N; omega) (by show ps_n z ≤ nx tx N (ps_a z) + 1; omega) (fun S4 m4 f4 t4 => ?_)
        have h3' : pz_sumA tx N A y = (match (pz_or tx N A) (ps_at z (nx tx N (ps_a z) + 1)) with
          | (none, w) => (none, w)
          | (some r, w) => pz_binL tx N 43 7 (pz_or tx N A) j (ps_n w) (ps_add w (ps_a w) (7, s, r, nx tx N (ps_a z)))) := h3.trans (if_pos he)
        have hpq2 := pq_binL (tx := tx) hpg (c := 43) (kd := 7) (by decide) (by decide) (k := 1) h2
        have step1 : pz_binL tx N 43 7 (pz_or tx N A) 1 s z = (match (pz_or tx N A) (ps_at z (nx tx N (ps_a z) + 1)) with
          | (none, w) => (none, w)
          | (some r, w) => (some (ps_n w), ps_add w (ps_a w) (7, s, r, nx tx N (ps_a z)))) := by unfold pz_binL; rw [if_pos he]; rfl
        rw [step1] at hpq2
        generalize (pz_or tx N A) (ps_at z (nx tx N (ps_a z) + 1)) = x at hpq m4 h3' hpq2 ⊢
        obtain ⟨r, w⟩ := x
        cases r with
        | none =>
          dsimp only at h3' m4
          show px_P _ _ (49, [(0, .ref p), (1, .int (nI dep)), (2, .int (nI s)), (3, .int (nI i)), (4, .int (nI (nx tx N (ps_a z))))], [.int (-1)]) S4 _
          refine px_P.sn 3 (f1 := (54, [(0, .ref p), (1, .int (nI dep)), (2, .int (nI s)), (3, .int (nI i)), (4, .int (nI (nx tx N (ps_a z)))), (5, .int (-1))], [.int (-1), .int (-1)])) (S1 := S4) rfl ?_
          refine px_P.ic_ne rfl rfl (fun h => absurd ((by rfl)) h) (fun _ => ?_)
          refine px_P.sn 5 (f1 := (8, [(0, .ref p), (1, .int (nI dep)), (2, .int (-1)), (3, .int ((nI i) + 1)), (4, .int (nI (nx tx N (ps_a z)))), (5, .int (-1))], [])) (S1 := S4) rfl ?_
          rw [h3'] at k
          rw [nI_1]
          refine px_P.sn 2 (f1 := (11, [(0, .ref p), (1, .int (nI dep)), (2, .int (-1)), (3, .int (nI (i + 1))), (4, .int (nI (nx tx N (ps_a z)))), (5, .int (-1))], [.int 60, .int (nI (i + 1))])) (S1 := S4) rfl ?_
          refine px_P.ic_ge rfl rfl (fun hk => ?_) (fun hk => ?_)
          · refine px_P.sn 1 (f1 := (83, [(0, .ref p), (1, .int (nI dep)), (2, .int (-1)), (3, .int (nI (i + 1))), (4, .int (nI (nx tx N (ps_a z)))), (5, .int (-1))], [.int (-1)])) (S1 := S4) rfl ?_
            refine px_P.ret rfl ?_
            exact k S4 m4 (fun q hq => by rw [f4 q hq]; exact fr3 q hq) (by rw [t4, t3])
          · refine px_P.sn 2 (f1 := (16, [(0, .ref p), (1, .int (nI dep)), (2, .int (-1)), (3, .int (nI (i + 1))), (4, .int (nI (nx tx N (ps_a z)))), (5, .int (-1))], [.int (-1), .int (-1)])) (S1 := S4) rfl ?_
            refine px_P.ic_eq rfl rfl (fun _ => ?_) (fun h => absurd ((by rfl)) h)
            refine px_P.sn 1 (f1 := (83, [(0, .ref p), (1, .int (nI dep)), (2, .int (-1)), (3, .int (nI (i + 1))), (4, .int (nI (nx tx N (ps_a z)))), (5, .int (-1))], [.int (-1)])) (S1 := S4) rfl ?_
            refine px_P.ret rfl ?_
            exact k S4 m4 (fun q hq => by rw [f4 q hq]; exact fr3 q hq) (by rw [t4, t3])
        | some r =>
          dsimp only at h3' m4 hpq2
          have w1 : r + 1 = ps_n w := (hpq.2.2.2.2.2.2.2.2 r rfl).1
          have w2 : ps_a w ≤ N := hpq.2.1
          have w3 : ps_n z ≤ ps_n w := hpq.2.2.1
          have w4 : ps_n w + (nx tx N (ps_a z) + 1) ≤ ps_a w + ps_n z := hpq.2.2.2.1
          have nok : xe_ok1 (7, s, r, nx tx N (ps_a z)) (ps_n w) := ⟨by show 7 < 8; omega, fun q => absurd q (by simp), fun q => absurd q (by simp), fun _ => by show s < ps_n w; omega, fun q => absurd q (by simp), fun _ => by show r < ps_n w; omega⟩
          obtain ⟨b0, b1, b2, K, F, C, P, b3, b4⟩ := m4
          have b0e := b3.1
          have tN := ht.2.2
          show px_P _ _ (49, [(0, .ref p), (1, .int (nI dep)), (2, .int (nI s)), (3, .int (nI i)), (4, .int (nI (nx tx N (ps_a z))))], [.int (nI r)]) S4 _
          refine px_P.sn 3 (f1 := (54, [(0, .ref p), (1, .int (nI dep)), (2, .int (nI s)), (3, .int (nI i)), (4, .int (nI (nx tx N (ps_a z)))), (5, .int (nI r))], [.int (-1), .int (nI r)])) (S1 := S4) rfl ?_
          refine px_P.ic_ne rfl rfl (fun _ => ?_) (fun h => absurd h (nI_neg (by omega)))
          refine px_P.sn 1 (f1 := (62, [(0, .ref p), (1, .int (nI dep)), (2, .int (nI s)), (3, .int (nI i)), (4, .int (nI (nx tx N (ps_a z)))), (5, .int (nI r))], [.ref p])) (S1 := S4) rfl ?_
          refine px_P.gf rfl rfl (by assumption) (v := .ref (p + 1)) rfl ?_
          refine px_P.sn 4 (f1 := (72, [(0, .ref p), (1, .int (nI dep)), (2, .int (nI s)), (3, .int (nI i)), (4, .int (nI (nx tx N (ps_a z)))), (5, .int (nI r))], [.int (nI (nx tx N (ps_a z))), .int (nI r), .int (nI s), .int 7, .ref (p + 1)])) (S1 := S4) rfl ?_
          refine px_P.cv rfl rfl rfl (by assumption) rfl ?_
          show px_M _ px_m_Expression_add [.ref (p + 1), .int 7, .int (nI s), .int (nI r), .int (nI (nx tx N (ps_a z)))] S4 _
          refine pm_exprAdd (by omega) (by omega) (by omega) b3 (fun S5 g1 g2 g3 => ?_)
          show px_P _ _ (75, [(0, .ref p), (1, .int (nI dep)), (2, .int (nI s)), (3, .int (nI i)), (4, .int (nI (nx tx N (ps_a z)))), (5, .int (nI r))], [.int (nI (ps_n w))]) S5 _
          refine px_P.sn 3 (f1 := (8, [(0, .ref p), (1, .int (nI dep)), (2, .int (nI (ps_n w))), (3, .int ((nI i) + 1)), (4, .int (nI (nx tx N (ps_a z)))), (5, .int (nI r))], [])) (S1 := S5) rfl ?_
          rw [nI_1]
          show px_P _ _ (8, [(0, .ref p), (1, .int (nI dep)), (2, .int (nI (ps_n w))), (3, .int (nI (i + 1))), (4, .int (nI (nx tx N (ps_a z)))), (5, .int (nI r))], []) S5 _
          refine px_P.wk (ls := [(0, .ref p), (1, .int (nI dep)), (2, .int (nI (ps_n w))), (3, .int (nI (i + 1)))]) rfl (.cons_cons _ (.cons_cons _ (.cons_cons _ (.cons_cons _ (.cons _ (.cons _ .slnil)))))) ?_
          exact ih (i + 1) (by omega) (ps_n w) (ps_add w (ps_a w) (7, s, r, nx tx N (ps_a z))) S5 (pa.add b0 b1 b2 b4 nok g1 g2) hpq2 h3' (fun q hq => by rw [g2 q (by omega), f4 q hq]; exact fr3 q hq) (by rw [g3, t4, t3])
  have c0 := hpa.1
  have hpq := hpg y hyN
  refine px_M.go (by omega) (Nat.le_of_ble_eq_true rfl) ?_
  refine px_P.sn 2 (f1 := (2, [(0, .ref p), (1, .int (nI dep))], [.int (nI dep), .ref p])) (S1 := S) rfl ?_
  refine px_P.cv rfl rfl rfl (by assumption) rfl ?_
  show px_M _ px_m_Parser_readOr [.ref p, .int (nI dep)] S _
  refine h S _ y hpa hyN hyn (fun S1 m1 f1 t1 => ?_)
  have hx : pz_sumA tx N A y = (match (pz_or tx N A) y with
    | (none, w) => (none, w)
    | (some r, w) => pz_binL tx N 43 7 (pz_or tx N A) 60 r w) := rfl
  generalize (pz_or tx N A) y = x at hpq m1 hx ⊢
  obtain ⟨r, w⟩ := x
  cases r with
  | none =>
    dsimp only at hx m1
    rw [hx] at k
    show px_P _ _ (5, [(0, .ref p), (1, .int (nI dep))], [.int (-1)]) S1 _
    refine px_P.sn 5 (f1 := (11, [(0, .ref p), (1, .int (nI dep)), (2, .int (-1)), (3, .int 0)], [.int 60, .int 0])) (S1 := S1) rfl ?_
    refine px_P.ic_ge rfl rfl (fun h => absurd h ((by decide))) (fun _ => ?_)
    refine px_P.sn 2 (f1 := (16, [(0, .ref p), (1, .int (nI dep)), (2, .int (-1)), (3, .int 0)], [.int (-1), .int (-1)])) (S1 := S1) rfl ?_
    refine px_P.ic_eq rfl rfl (fun _ => ?_) (fun h => absurd ((by rfl)) h)
    refine px_P.sn 1 (f1 := (83, [(0, .ref p), (1, .int (nI dep)), (2, .int (-1)), (3, .int 0)], [.int (-1)])) (S1 := S1) rfl ?_
    refine px_P.ret rfl ?_
    exact k S1 m1 f1 t1
  | some r =>
    dsimp only at hx m1
    show px_P _ _ (5, [(0, .ref p), (1, .int (nI dep))], [.int (nI r)]) S1 _
    refine px_P.sn 3 (f1 := (8, [(0, .ref p), (1, .int (nI dep)), (2, .int (nI r)), (3, .int 0)], [])) (S1 := S1) rfl ?_
    exact lp 60 0 rfl r w S1 m1 hpq hx f1 t1
theorem pc_readOr {d p t N m dep : Nat} {f V : Nat → Int32} {tx : Nat → Nat} {df dc eq : Int32} {A : ps → pr} (hd : 2 ≤ d) (ht : tok f tx N) (hA : pg N A) (h : pc d p t N m f V df dc eq px_m_Parser_readPart dep (pz_part tx N A)) : pc (d + 1) p t N m f V df dc eq px_m_Parser_readOr dep (pz_or tx N A) := by
  intro S Q y hpa hyN hyn k
  have hpg : pg N (pz_part tx N A) := pg_part hA
  have lp : ∀ (j i : Nat), i + j = 60 → ∀ (s : Nat) (z : ps) (S1 : px_S), pa S1 p t N m f df dc eq V z → pq N y (some s, z) → pz_or tx N A y = pz_binL tx N 124 6 (pz_part tx N A) j s z → (∀ q, (q < p ∨ p + 9 ≤ q) → S1.1 q = S.1 q) → S1.2 = S.2 → px_P (d + 1 - 1) px_m_Parser_readOr (8, [(0, .ref p), (1, .int (nI dep)), (2, .int (nI s)), (3, .int (nI i))], []) S1 Q := by
    intro j
    induction j with
    | zero =>
      intro i hi s z S1 h1 h2 h3 h4 h5
      rw [h3] at k
      refine px_P.sn 2 (f1 := (11, [(0, .ref p), (1, .int (nI dep)), (2, .int (nI s)), (3, .int (nI i))], [.int 60, .int (nI i)])) (S1 := S1) rfl ?_
      refine px_P.ic_ge rfl rfl (fun _ => ?_) (fun h => absurd (nI_le (a := 60) (by omega) (by omega)) h)
      refine px_P.sn 1 (f1 := (83, [(0, .ref p), (1, .int (nI dep)), (2, .int (nI s)), (3, .int (nI i))], [.int (nI s)])) (S1 := S1) rfl ?_
      refine px_P.ret rfl ?_
      exact k S1 h1 h4 h5
    | succ j ih =>
      intro i hi s z S1 h1 h2 h3 h4 h5
      have zN : ps_a z ≤ N := h2.2.1
      have zs : s + 1 = ps_n z := (h2.2.2.2.2.2.2.2.2 s rfl).1
      have zn : ps_n z + ps_a y ≤ ps_a z + ps_n y := h2.2.2.2.1
      have c0 := h1.1
      refine px_P.sn 2 (f1 := (11, [(0, .ref p), (1, .int (nI dep)), (2, .int (nI s)), (3, .int (nI i))], [.int 60, .int (nI i)])) (S1 := S1) rfl ?_
      refine px_P.ic_ge rfl rfl (fun h => absurd h (nI_ge (b := 60) (by omega) (by decide))) (fun _ => ?_)
      refine px_P.sn 2 (f1 := (16, [(0, .ref p), (1, .int (nI dep)), (2, .int (nI s)), (3, .int (nI i))], [.int (-1), .int (nI s)])) (S1 := S1) rfl ?_
      refine px_P.ic_eq rfl rfl (fun h => absurd h (nI_neg (by have := ht.2.2; omega))) (fun _ => ?_)
      refine px_P.sn 1 (f1 := (20, [(0, .ref p), (1, .int (nI dep)), (2, .int (nI s)), (3, .int (nI i))], [.ref p])) (S1 := S1) rfl ?_
      refine px_P.cv rfl rfl rfl (by assumption) rfl ?_
      show px_M _ px_m_Parser_next [.ref p] S1 _
      refine pm_paNext (by omega) ht zN h1 (fun S2 e1 e2 e3 => ?_)
      show px_P _ _ (23, [(0, .ref p), (1, .int (nI dep)), (2, .int (nI s)), (3, .int (nI i))], [.int (c32 (cn tx N (nx tx N (ps_a z))))]) S2 _
      refine px_P.sn 1 (f1 := (25, [(0, .ref p), (1, .int (nI dep)), (2, .int (nI s)), (3, .int (nI i))], [.int 124, .int (c32 (cn tx N (nx tx N (ps_a z))))])) (S1 := S2) rfl ?_
      have hn := nx_le (tx := tx) (a := ps_a z) zN
      refine px_P.ic_ne rfl rfl (fun hq => ?_) (fun hq => ?_)
      · have hne : ¬ cn tx N (nx tx N (ps_a z)) = 124 := fun w => hq ((c32_eq (ht.cn _) (by decide) (by decide)).mpr w)
        have e9 : pz_or tx N A y = (some s, ps_at z (nx tx N (ps_a z))) := by rw [h3]; unfold pz_binL; rw [if_neg hne]
        rw [e9] at k
        refine px_P.sn 1 (f1 := (83, [(0, .ref p), (1, .int (nI dep)), (2, .int (nI s)), (3, .int (nI i))], [.int (nI s)])) (S1 := S2) rfl ?_
        refine px_P.ret rfl ?_
        exact k S2 e1 (fun q hq => by rw [e2 q hq]; exact h4 q hq) (by rw [e3, h5])
      · have he : cn tx N (nx tx N (ps_a z)) = 124 := (c32_eq (ht.cn _) (by decide) (by decide)).mp hq
        have hlt := cn_lt (tx := tx) (N := N) (a := nx tx N (ps_a z)) (by rw [he]; decide)
        have c2 : S2.1 p = some (.inr (5, [.ref t, .int (nI N), .int (nI m), .ref (p + 1), .int (nI (nx tx N (ps_a z))), .int df, .int dc, .int eq])) := e1.1
        refine px_P.sn 1 (f1 := (29, [(0, .ref p), (1, .int (nI dep)), (2, .int (nI s)), (3, .int (nI i))], [.ref p])) (S1 := S2) rfl ?_
        refine px_P.gf rfl rfl (by assumption) (v := .int (nI (nx tx N (ps_a z)))) rfl ?_
        refine px_P.sn 3 (f1 := (36, [(0, .ref p), (1, .int (nI dep)), (2, .int (nI s)), (3, .int (nI i)), (4, .int (nI (nx tx N (ps_a z))))], [.ref p, .ref p])) (S1 := S2) rfl ?_
        refine px_P.gf rfl rfl (by assumption) (v := .int (nI (nx tx N (ps_a z)))) rfl ?_
        refine px_P.sn 2 (f1 := (41, [(0, .ref p), (1, .int (nI dep)), (2, .int (nI s)), (3, .int (nI i)), (4, .int (nI (nx tx N (ps_a z))))], [.int ((nI (nx tx N (ps_a z))) + 1), .ref p])) (S1 := S2) rfl ?_
        refine px_P.pf rfl rfl (by assumption) rfl (fun S3 u3 => ?_)
        have u3' : px_Up S2 S3 p (.inr (5, [.ref t, .int (nI N), .int (nI m), .ref (p + 1), .int (nI (nx tx N (ps_a z) + 1)), .int df, .int dc, .int eq])) := by rw [← nI_1]; exact u3
        have m3 : pa S3 p t N m f df dc eq V (ps_at z (nx tx N (ps_a z) + 1)) := e1.cell u3'
        have c3 := m3.1
        have fr3 : ∀ q, (q < p ∨ p + 9 ≤ q) → S3.1 q = S.1 q := fun q hq => by rw [u3.o (by omega), e2 q hq]; exact h4 q hq
        have t3 : S3.2 = S.2 := by rw [u3.t, e3, h5]
        refine px_P.sn 2 (f1 := (46, [(0, .ref p), (1, .int (nI dep)), (2, .int (nI s)), (3, .int (nI i)), (4, .int (nI (nx tx N (ps_a z))))], [.int (nI dep), .ref p])) (S1 := S3) rfl ?_
        refine px_P.cv rfl rfl rfl (by assumption) rfl ?_
        show px_M _ px_m_Parser_readPart [.ref p, .int (nI dep)] S3 _
        have hpq := hpg (ps_at z (nx tx N (ps_a z) + 1)) (by show nx tx N (ps_a z) + 1 ≤ N; omega)
        refine h S3 _ (ps_at z (nx tx N (ps_a z) + 1)) m3 (by show nx tx N (ps_a z) + 1 ≤ N; omega) (by show ps_n z ≤ nx tx N (ps_a z) + 1; omega) (fun S4 m4 f4 t4 => ?_)
        have h3' : pz_or tx N A y = (match (pz_part tx N A) (ps_at z (nx tx N (ps_a z) + 1)) with
          | (none, w) => (none, w)
          | (some r, w) => pz_binL tx N 124 6 (pz_part tx N A) j (ps_n w) (ps_add w (ps_a w) (6, s, r, nx tx N (ps_a z)))) := h3.trans (if_pos he)
        have hpq2 := pq_binL (tx := tx) hpg (c := 124) (kd := 6) (by decide) (by decide) (k := 1) h2
        have step1 : pz_binL tx N 124 6 (pz_part tx N A) 1 s z = (match (pz_part tx N A) (ps_at z (nx tx N (ps_a z) + 1)) with
          | (none, w) => (none, w)
          | (some r, w) => (some (ps_n w), ps_add w (ps_a w) (6, s, r, nx tx N (ps_a z)))) := by unfold pz_binL; rw [if_pos he]; rfl
        rw [step1] at hpq2
        generalize (pz_part tx N A) (ps_at z (nx tx N (ps_a z) + 1)) = x at hpq m4 h3' hpq2 ⊢
        obtain ⟨r, w⟩ := x
        cases r with
        | none =>
          dsimp only at h3' m4
          show px_P _ _ (49, [(0, .ref p), (1, .int (nI dep)), (2, .int (nI s)), (3, .int (nI i)), (4, .int (nI (nx tx N (ps_a z))))], [.int (-1)]) S4 _
          refine px_P.sn 3 (f1 := (54, [(0, .ref p), (1, .int (nI dep)), (2, .int (nI s)), (3, .int (nI i)), (4, .int (nI (nx tx N (ps_a z)))), (5, .int (-1))], [.int (-1), .int (-1)])) (S1 := S4) rfl ?_
          refine px_P.ic_ne rfl rfl (fun h => absurd ((by rfl)) h) (fun _ => ?_)
          refine px_P.sn 5 (f1 := (8, [(0, .ref p), (1, .int (nI dep)), (2, .int (-1)), (3, .int ((nI i) + 1)), (4, .int (nI (nx tx N (ps_a z)))), (5, .int (-1))], [])) (S1 := S4) rfl ?_
          rw [h3'] at k
          rw [nI_1]
          refine px_P.sn 2 (f1 := (11, [(0, .ref p), (1, .int (nI dep)), (2, .int (-1)), (3, .int (nI (i + 1))), (4, .int (nI (nx tx N (ps_a z)))), (5, .int (-1))], [.int 60, .int (nI (i + 1))])) (S1 := S4) rfl ?_
          refine px_P.ic_ge rfl rfl (fun hk => ?_) (fun hk => ?_)
          · refine px_P.sn 1 (f1 := (83, [(0, .ref p), (1, .int (nI dep)), (2, .int (-1)), (3, .int (nI (i + 1))), (4, .int (nI (nx tx N (ps_a z)))), (5, .int (-1))], [.int (-1)])) (S1 := S4) rfl ?_
            refine px_P.ret rfl ?_
            exact k S4 m4 (fun q hq => by rw [f4 q hq]; exact fr3 q hq) (by rw [t4, t3])
          · refine px_P.sn 2 (f1 := (16, [(0, .ref p), (1, .int (nI dep)), (2, .int (-1)), (3, .int (nI (i + 1))), (4, .int (nI (nx tx N (ps_a z)))), (5, .int (-1))], [.int (-1), .int (-1)])) (S1 := S4) rfl ?_
            refine px_P.ic_eq rfl rfl (fun _ => ?_) (fun h => absurd ((by rfl)) h)
            refine px_P.sn 1 (f1 := (83, [(0, .ref p), (1, .int (nI dep)), (2, .int (-1)), (3, .int (nI (i + 1))), (4, .int (nI (nx tx N (ps_a z)))), (5, .int (-1))], [.int (-1)])) (S1 := S4) rfl ?_
            refine px_P.ret rfl ?_
            exact k S4 m4 (fun q hq => by rw [f4 q hq]; exact fr3 q hq) (by rw [t4, t3])
        | some r =>
          dsimp only at h3' m4 hpq2
          have w1 : r + 1 = ps_n w := (hpq.2.2.2.2.2.2.2.2 r rfl).1
          have w2 : ps_a w ≤ N := hpq.2.1
          have w3 : ps_n z ≤ ps_n w := hpq.2.2.1
          have w4 : ps_n w + (nx tx N (ps_a z) + 1) ≤ ps_a w + ps_n z := hpq.2.2.2.1
          have nok : xe_ok1 (6, s, r, nx tx N (ps_a z)) (ps_n w) := ⟨by show 6 < 8; omega, fun q => absurd q (by simp), fun q => absurd q (by simp), fun _ => by show s < ps_n w; omega, fun q => absurd q (by simp), fun _ => by show r < ps_n w; omega⟩
          obtain ⟨b0, b1, b2, K, F, C, P, b3, b4⟩ := m4
          have b0e := b3.1
          have tN := ht.2.2
          show px_P _ _ (49, [(0, .ref p), (1, .int (nI dep)), (2, .int (nI s)), (3, .int (nI i)), (4, .int (nI (nx tx N (ps_a z))))], [.int (nI r)]) S4 _
          refine px_P.sn 3 (f1 := (54, [(0, .ref p), (1, .int (nI dep)), (2, .int (nI s)), (3, .int (nI i)), (4, .int (nI (nx tx N (ps_a z)))), (5, .int (nI r))], [.int (-1), .int (nI r)])) (S1 := S4) rfl ?_
          refine px_P.ic_ne rfl rfl (fun _ => ?_) (fun h => absurd h (nI_neg (by omega)))
          refine px_P.sn 1 (f1 := (62, [(0, .ref p), (1, .int (nI dep)), (2, .int (nI s)), (3, .int (nI i)), (4, .int (nI (nx tx N (ps_a z)))), (5, .int (nI r))], [.ref p])) (S1 := S4) rfl ?_
          refine px_P.gf rfl rfl (by assumption) (v := .ref (p + 1)) rfl ?_
          refine px_P.sn 4 (f1 := (72, [(0, .ref p), (1, .int (nI dep)), (2, .int (nI s)), (3, .int (nI i)), (4, .int (nI (nx tx N (ps_a z)))), (5, .int (nI r))], [.int (nI (nx tx N (ps_a z))), .int (nI r), .int (nI s), .int 6, .ref (p + 1)])) (S1 := S4) rfl ?_
          refine px_P.cv rfl rfl rfl (by assumption) rfl ?_
          show px_M _ px_m_Expression_add [.ref (p + 1), .int 6, .int (nI s), .int (nI r), .int (nI (nx tx N (ps_a z)))] S4 _
          refine pm_exprAdd (by omega) (by omega) (by omega) b3 (fun S5 g1 g2 g3 => ?_)
          show px_P _ _ (75, [(0, .ref p), (1, .int (nI dep)), (2, .int (nI s)), (3, .int (nI i)), (4, .int (nI (nx tx N (ps_a z)))), (5, .int (nI r))], [.int (nI (ps_n w))]) S5 _
          refine px_P.sn 3 (f1 := (8, [(0, .ref p), (1, .int (nI dep)), (2, .int (nI (ps_n w))), (3, .int ((nI i) + 1)), (4, .int (nI (nx tx N (ps_a z)))), (5, .int (nI r))], [])) (S1 := S5) rfl ?_
          rw [nI_1]
          show px_P _ _ (8, [(0, .ref p), (1, .int (nI dep)), (2, .int (nI (ps_n w))), (3, .int (nI (i + 1))), (4, .int (nI (nx tx N (ps_a z)))), (5, .int (nI r))], []) S5 _
          refine px_P.wk (ls := [(0, .ref p), (1, .int (nI dep)), (2, .int (nI (ps_n w))), (3, .int (nI (i + 1)))]) rfl (.cons_cons _ (.cons_cons _ (.cons_cons _ (.cons_cons _ (.cons _ (.cons _ .slnil)))))) ?_
          exact ih (i + 1) (by omega) (ps_n w) (ps_add w (ps_a w) (6, s, r, nx tx N (ps_a z))) S5 (pa.add b0 b1 b2 b4 nok g1 g2) hpq2 h3' (fun q hq => by rw [g2 q (by omega), f4 q hq]; exact fr3 q hq) (by rw [g3, t4, t3])
  have c0 := hpa.1
  have hpq := hpg y hyN
  refine px_M.go (by omega) (Nat.le_of_ble_eq_true rfl) ?_
  refine px_P.sn 2 (f1 := (2, [(0, .ref p), (1, .int (nI dep))], [.int (nI dep), .ref p])) (S1 := S) rfl ?_
  refine px_P.cv rfl rfl rfl (by assumption) rfl ?_
  show px_M _ px_m_Parser_readPart [.ref p, .int (nI dep)] S _
  refine h S _ y hpa hyN hyn (fun S1 m1 f1 t1 => ?_)
  have hx : pz_or tx N A y = (match (pz_part tx N A) y with
    | (none, w) => (none, w)
    | (some r, w) => pz_binL tx N 124 6 (pz_part tx N A) 60 r w) := rfl
  generalize (pz_part tx N A) y = x at hpq m1 hx ⊢
  obtain ⟨r, w⟩ := x
  cases r with
  | none =>
    dsimp only at hx m1
    rw [hx] at k
    show px_P _ _ (5, [(0, .ref p), (1, .int (nI dep))], [.int (-1)]) S1 _
    refine px_P.sn 5 (f1 := (11, [(0, .ref p), (1, .int (nI dep)), (2, .int (-1)), (3, .int 0)], [.int 60, .int 0])) (S1 := S1) rfl ?_
    refine px_P.ic_ge rfl rfl (fun h => absurd h ((by decide))) (fun _ => ?_)
    refine px_P.sn 2 (f1 := (16, [(0, .ref p), (1, .int (nI dep)), (2, .int (-1)), (3, .int 0)], [.int (-1), .int (-1)])) (S1 := S1) rfl ?_
    refine px_P.ic_eq rfl rfl (fun _ => ?_) (fun h => absurd ((by rfl)) h)
    refine px_P.sn 1 (f1 := (83, [(0, .ref p), (1, .int (nI dep)), (2, .int (-1)), (3, .int 0)], [.int (-1)])) (S1 := S1) rfl ?_
    refine px_P.ret rfl ?_
    exact k S1 m1 f1 t1
  | some r =>
    dsimp only at hx m1
    show px_P _ _ (5, [(0, .ref p), (1, .int (nI dep))], [.int (nI r)]) S1 _
    refine px_P.sn 3 (f1 := (8, [(0, .ref p), (1, .int (nI dep)), (2, .int (nI r)), (3, .int 0)], [])) (S1 := S1) rfl ?_
    exact lp 60 0 rfl r w S1 m1 hpq hx f1 t1
/-- an ending: the parser stands at its character -/
theorem pm_paEnding {d p t N m s : Nat} {f V : Nat → Int32} {tx : Nat → Nat} {df dc eq : Int32} {y : ps} {S : px_S} {Q : Option Value → px_S → Prop} (hd : 3 ≤ d) (ht : tok f tx N) (hN : ps_a y < N) (hn : ps_n y ≤ ps_a y) (hs : s < ps_n y) (hnx : nx tx N (ps_a y) = ps_a y) (he : isE (cn tx N (ps_a y)) = true) (h : pa S p t N m f df dc eq V y)
    (k : ∀ S', pa S' p t N m f df dc eq V (pz_end tx N s y).2 → (∀ q, (q < p ∨ p + 9 ≤ q) → S'.1 q = S.1 q) → S'.2 = S.2 → Q (some (.int (rv (pz_end tx N s y).1))) S') : px_M d px_m_Parser_readEnding [.ref p, .int (nI s)] S Q := by
  have tN := ht.2.2
  have c0 : S.1 p = some (.inr (5, [.ref t, .int (nI N), .int (nI m), .ref (p + 1), .int (nI (ps_a y)), .int df, .int dc, .int eq])) := h.1
  obtain ⟨a, ha⟩ : ∃ a, a = ps_a y := ⟨_, rfl⟩
  have hb := nx_le (tx := tx) (a := a + 1) (N := N) (by omega)
  refine px_M.go (by omega) (Nat.le_of_ble_eq_true rfl) ?_
  refine px_P.sn 1 (f1 := (1, [(0, .ref p), (1, .int (nI s))], [.ref p])) (S1 := S) rfl ?_
  refine px_P.gf rfl rfl (by assumption) (v := .int (nI (ps_a y))) rfl ?_
  refine px_P.sn 2 (f1 := (6, [(0, .ref p), (1, .int (nI s)), (2, .int (nI (ps_a y)))], [.ref p])) (S1 := S) rfl ?_
  refine px_P.cv rfl rfl rfl (by assumption) rfl ?_
  show px_M _ px_m_Parser_next [.ref p] S _
  refine pm_paNext (by omega) ht (by omega) h (fun S1 e1 e2 e3 => ?_)
  rw [hnx] at e1 ⊢
  show px_P _ _ (9, [(0, .ref p), (1, .int (nI s)), (2, .int (nI (ps_a y)))], [.int (c32 (cn tx N (ps_a y)))]) S1 _
  have c1 : S1.1 p = some (.inr (5, [.ref t, .int (nI N), .int (nI m), .ref (p + 1), .int (nI (ps_a y)), .int df, .int dc, .int eq])) := e1.1
  refine px_P.sn 3 (f1 := (12, [(0, .ref p), (1, .int (nI s)), (2, .int (nI (ps_a y))), (3, .int (c32 (cn tx N (ps_a y))))], [.ref p, .ref p])) (S1 := S1) rfl ?_
  refine px_P.gf rfl rfl (by assumption) (v := .int (nI (ps_a y))) rfl ?_
  refine px_P.sn 2 (f1 := (17, [(0, .ref p), (1, .int (nI s)), (2, .int (nI (ps_a y))), (3, .int (c32 (cn tx N (ps_a y))))], [.int ((nI (ps_a y)) + 1), .ref p])) (S1 := S1) rfl ?_
  refine px_P.pf rfl rfl (by assumption) rfl (fun S2 u2 => ?_)
  have u2' : px_Up S1 S2 p (.inr (5, [.ref t, .int (nI N), .int (nI m), .ref (p + 1), .int (nI (a + 1)), .int df, .int dc, .int eq])) := by rw [← nI_1, ha]; exact u2
  have m2 : pa S2 p t N m f df dc eq V (ps_at y (a + 1)) := e1.cell u2'
  have fr2 : ∀ q, (q < p ∨ p + 9 ≤ q) → S2.1 q = S.1 q := fun q hq => by rw [u2.o (by omega)]; exact e2 q hq
  have t2 : S2.2 = S.2 := by rw [u2.t, e3]
  have m2' := m2
  obtain ⟨b0, b1, b2, K, F, C, P, b3, b4⟩ := m2
  have b0' : S2.1 p = some (.inr (5, [.ref t, .int (nI N), .int (nI m), .ref (p + 1), .int (nI (a + 1)), .int df, .int dc, .int eq])) := b0
  have b3e := b3.1
  rw [← ha]
  refine px_P.sn 2 (f1 := (23, [(0, .ref p), (1, .int (nI s)), (2, .int (nI a)), (3, .int (c32 (cn tx N a)))], [.int 33, .int (c32 (cn tx N a))])) (S1 := S2) rfl ?_
  refine px_P.ic_ne rfl rfl (fun q1 => ?_) (fun q1 => ?_)
  · have n1 : ¬ cn tx N a = 33 := fun w => q1 ((c32_eq (ht.cn _) (by decide) (by decide)).mpr w)
    refine px_P.sn 2 (f1 := (41, [(0, .ref p), (1, .int (nI s)), (2, .int (nI a)), (3, .int (c32 (cn tx N a)))], [.int 91, .int (c32 (cn tx N a))])) (S1 := S2) rfl ?_
    refine px_P.ic_ne rfl rfl (fun q2 => ?_) (fun q2 => ?_)
    · have n2 : ¬ cn tx N a = 91 := fun w => q2 ((c32_eq (ht.cn _) (by decide) (by decide)).mpr w)
      have pe : pz_end tx N s y = (match lt (cn tx N (nx tx N (a + 1))) with
        | none => (none, ps_at y (nx tx N (a + 1)))
        | some l => if l = 4 then (none, ps_at y (nx tx N (a + 1))) else (some (ps_n y), ps_add y (nx tx N (a + 1) + 1) (5, s, l, a))) := by
        unfold pz_end
        dsimp only
        rw [← ha, if_neg n1, if_neg n2]
        rfl
      refine px_P.sn 1 (f1 := (70, [(0, .ref p), (1, .int (nI s)), (2, .int (nI a)), (3, .int (c32 (cn tx N a)))], [.ref p])) (S1 := S2) rfl ?_
      refine px_P.cv rfl rfl rfl (by assumption) rfl ?_
      show px_M _ px_m_Parser_next [.ref p] S2 _
      refine pm_paNext (by omega) ht (by show a + 1 ≤ N; omega) m2' (fun S3 f1 f2 f3 => ?_)
      have f1' : pa S3 p t N m f df dc eq V (ps_at y (nx tx N (a + 1))) := f1
      show px_P _ _ (73, [(0, .ref p), (1, .int (nI s)), (2, .int (nI a)), (3, .int (c32 (cn tx N a)))], [.int (c32 (cn tx N (nx tx N (a + 1))))]) S3 _
      refine px_P.call rfl ?_
      show px_M _ px_m_Forms_letterOf [.int (c32 (cn tx N (nx tx N (a + 1))))] S3 _
      refine pm_letterOf (by omega) ?_
      rw [lt_c32 _ (by have := ht.cn (nx tx N (a + 1)); omega)]
      have fr3 : ∀ q, (q < p ∨ p + 9 ≤ q) → S3.1 q = S.1 q := fun q hq => by rw [f2 q hq]; exact fr2 q hq
      have t3 : S3.2 = S.2 := by rw [f3, t2]
      cases hl : lt (cn tx N (nx tx N (a + 1))) with
      | none =>
        rw [hl] at pe
        rw [pe] at k
        show px_P _ _ (76, [(0, .ref p), (1, .int (nI s)), (2, .int (nI a)), (3, .int (c32 (cn tx N a)))], [.int (-1)]) S3 _
        refine px_P.sn 3 (f1 := (81, [(0, .ref p), (1, .int (nI s)), (2, .int (nI a)), (3, .int (c32 (cn tx N a))), (4, .int (-1))], [.int (-1), .int (-1)])) (S1 := S3) rfl ?_
        refine px_P.ic_eq rfl rfl (fun _ => ?_) (fun h => absurd (rfl) h)
        refine px_P.sn 1 (f1 := (94, [(0, .ref p), (1, .int (nI s)), (2, .int (nI a)), (3, .int (c32 (cn tx N a))), (4, .int (-1))], [.int (-1)])) (S1 := S3) rfl ?_
        refine px_P.ret rfl ?_
        exact k S3 f1' fr3 t3
      | some l =>
        rw [hl] at pe
        dsimp only at pe
        have l5 := lt_5 hl
        have hlt := cn_lt (lt_nz hl)
        have g0 : S3.1 p = some (.inr (5, [.ref t, .int (nI N), .int (nI m), .ref (p + 1), .int (nI (nx tx N (a + 1))), .int df, .int dc, .int eq])) := f1'.1
        show px_P _ _ (76, [(0, .ref p), (1, .int (nI s)), (2, .int (nI a)), (3, .int (c32 (cn tx N a)))], [.int (nI l)]) S3 _
        refine px_P.sn 3 (f1 := (81, [(0, .ref p), (1, .int (nI s)), (2, .int (nI a)), (3, .int (c32 (cn tx N a))), (4, .int (nI l))], [.int (-1), .int (nI l)])) (S1 := S3) rfl ?_
        refine px_P.ic_eq rfl rfl (fun h => absurd h (nI_neg (by omega))) (fun _ => ?_)
        refine px_P.sn 1 (f1 := (85, [(0, .ref p), (1, .int (nI s)), (2, .int (nI a)), (3, .int (c32 (cn tx N a))), (4, .int (nI l))], [.ref p])) (S1 := S3) rfl ?_
        refine px_P.cv rfl rfl rfl (by assumption) rfl ?_
        show px_M _ px_m_Parser_next [.ref p] S3 _
        refine pm_paNext (by omega) ht hb.2 f1' (fun S4 g1 g2 g3 => ?_)
        have enx : nx tx N (nx tx N (a + 1)) = nx tx N (a + 1) := nx_nx (by omega)
        have g1' : pa S4 p t N m f df dc eq V (ps_at y (nx tx N (a + 1))) := by rw [← enx]; exact g1
        have ecn : cn tx N (nx tx N (ps_a (ps_at y (nx tx N (a + 1))))) = cn tx N (nx tx N (a + 1)) := by rw [show ps_a (ps_at y (nx tx N (a + 1))) = nx tx N (a + 1) from rfl, enx]
        rw [ecn]
        have fr4 : ∀ q, (q < p ∨ p + 9 ≤ q) → S4.1 q = S.1 q := fun q hq => by rw [g2 q hq]; exact fr3 q hq
        have t4 : S4.2 = S.2 := by rw [g3, t3]
        show px_P _ _ (88, [(0, .ref p), (1, .int (nI s)), (2, .int (nI a)), (3, .int (c32 (cn tx N a))), (4, .int (nI l))], [.int (c32 (cn tx N (nx tx N (a + 1))))]) S4 _
        refine px_P.sn 1 (f1 := (90, [(0, .ref p), (1, .int (nI s)), (2, .int (nI a)), (3, .int (c32 (cn tx N a))), (4, .int (nI l))], [.int 63, .int (c32 (cn tx N (nx tx N (a + 1))))])) (S1 := S4) rfl ?_
        refine px_P.ic_ne rfl rfl (fun q3 => ?_) (fun q3 => ?_)
        · have n63 : ¬ cn tx N (nx tx N (a + 1)) = 63 := fun w => q3 ((c32_eq (ht.cn _) (by decide) (by decide)).mpr w)
          have nl4 : ¬ l = 4 := fun w => by
            subst w
            unfold lt at hl
            repeat' split at hl
            all_goals first | (simp at hl; done) | (rename_i h63; exact n63 h63)
          rw [if_neg nl4] at pe
          rw [pe] at k
          have j0 : S4.1 p = some (.inr (5, [.ref t, .int (nI N), .int (nI m), .ref (p + 1), .int (nI (nx tx N (a + 1))), .int df, .int dc, .int eq])) := g1'.1
          refine px_P.sn 2 (f1 := (97, [(0, .ref p), (1, .int (nI s)), (2, .int (nI a)), (3, .int (c32 (cn tx N a))), (4, .int (nI l))], [.ref p, .ref p])) (S1 := S4) rfl ?_
          refine px_P.gf rfl rfl (by assumption) (v := .int (nI (nx tx N (a + 1)))) rfl ?_
          refine px_P.sn 2 (f1 := (102, [(0, .ref p), (1, .int (nI s)), (2, .int (nI a)), (3, .int (c32 (cn tx N a))), (4, .int (nI l))], [.int ((nI (nx tx N (a + 1))) + 1), .ref p])) (S1 := S4) rfl ?_
          refine px_P.pf rfl rfl (by assumption) rfl (fun S5 u5 => ?_)
          have u5' : px_Up S4 S5 p (.inr (5, [.ref t, .int (nI N), .int (nI m), .ref (p + 1), .int (nI (nx tx N (a + 1) + 1)), .int df, .int dc, .int eq])) := by rw [← nI_1]; exact u5
          have m5 : pa S5 p t N m f df dc eq V (ps_at y (nx tx N (a + 1) + 1)) := g1'.cell u5'
          obtain ⟨d0, d1, d2, K5, F5, C5, P5, d3, d4⟩ := m5
          have d3e := d3.1
          have d0' : S5.1 p = some (.inr (5, [.ref t, .int (nI N), .int (nI m), .ref (p + 1), .int (nI (nx tx N (a + 1) + 1)), .int df, .int dc, .int eq])) := d0
          refine px_P.sn 1 (f1 := (106, [(0, .ref p), (1, .int (nI s)), (2, .int (nI a)), (3, .int (c32 (cn tx N a))), (4, .int (nI l))], [.ref p])) (S1 := S5) rfl ?_
          refine px_P.gf rfl rfl (by assumption) (v := .ref (p + 1)) rfl ?_
          refine px_P.sn 4 (f1 := (114, [(0, .ref p), (1, .int (nI s)), (2, .int (nI a)), (3, .int (c32 (cn tx N a))), (4, .int (nI l))], [.int (nI a), .int (nI l), .int (nI s), .int 5, .ref (p + 1)])) (S1 := S5) rfl ?_
          refine px_P.cv rfl rfl rfl (by assumption) rfl ?_
          show px_M _ px_m_Expression_add [.ref (p + 1), .int 5, .int (nI s), .int (nI l), .int (nI a)] S5 _
          refine pm_exprAdd (n := ps_n y) (by omega) (by omega) (by omega) d3 (fun S6 i1 i2 i3 => ?_)
          show px_P _ _ (117, [(0, .ref p), (1, .int (nI s)), (2, .int (nI a)), (3, .int (c32 (cn tx N a))), (4, .int (nI l))], [.int (nI (ps_n y))]) S6 _
          refine px_P.ret rfl ?_
          exact k S6 (pa.add (y := y) (q := (5, s, l, a)) d0' d1 d2 d4 ⟨by show 5 < 8; omega, fun q => absurd q (by simp), fun q => absurd q (by simp), fun _ => hs, fun _ => by show l < 4; omega, fun q => absurd q (by simp)⟩ i1 i2) (fun q hq => by rw [i2 q (by omega), u5.o (by omega)]; exact fr4 q hq) (by rw [i3, u5.t, t4])
        · have h63 : cn tx N (nx tx N (a + 1)) = 63 := (c32_eq (ht.cn _) (by decide) (by decide)).mp q3
          have nl4 : l = 4 := by
            rw [h63] at hl
            have : lt 63 = some 4 := by decide
            rw [this] at hl
            cases hl; rfl
          rw [if_pos nl4] at pe
          rw [pe] at k
          refine px_P.sn 1 (f1 := (94, [(0, .ref p), (1, .int (nI s)), (2, .int (nI a)), (3, .int (c32 (cn tx N a))), (4, .int (nI l))], [.int (-1)])) (S1 := S4) rfl ?_
          refine px_P.ret rfl ?_
          exact k S4 g1' fr4 t4
    · have n2 : cn tx N a = 91 := (c32_eq (ht.cn _) (by decide) (by decide)).mp q2
      have pe : pz_end tx N s y = (if cn tx N (nx tx N (a + 1)) = 93 then (some (ps_n y), ps_add y (nx tx N (a + 1) + 1) (3, s, 0, a)) else (none, ps_at y (nx tx N (a + 1)))) := by
        unfold pz_end
        dsimp only
        rw [← ha, if_neg n1, if_pos n2]
      refine px_P.sn 2 (f1 := (47, [(0, .ref p), (1, .int (nI s)), (2, .int (nI a)), (3, .int (c32 (cn tx N a)))], [.int 93, .ref p])) (S1 := S2) rfl ?_
      refine px_P.cv rfl rfl rfl (by assumption) rfl ?_
      show px_M _ px_m_Parser_take [.ref p, .int 93] S2 _
      refine pm_paTake (c := 93) (by omega) ht (by show a + 1 ≤ N; omega) (by decide) m2' (fun w S3 f1 f2 f3 => ?_) (fun w S3 f1 f2 f3 => ?_)
      · have w' : cn tx N (nx tx N (a + 1)) = 93 := w
        have hlt := cn_lt (tx := tx) (N := N) (a := nx tx N (a + 1)) (by rw [w']; decide)
        rw [if_pos w'] at pe
        rw [pe] at k
        have f1' : pa S3 p t N m f df dc eq V (ps_at y (nx tx N (a + 1) + 1)) := f1
        obtain ⟨d0, d1, d2, K5, F5, C5, P5, d3, d4⟩ := f1'
        have d3e := d3.1
        have d0' : S3.1 p = some (.inr (5, [.ref t, .int (nI N), .int (nI m), .ref (p + 1), .int (nI (nx tx N (a + 1) + 1)), .int df, .int dc, .int eq])) := d0
        show px_P _ _ (50, [(0, .ref p), (1, .int (nI s)), (2, .int (nI a)), (3, .int (c32 (cn tx N a)))], [.int 1]) S3 _
        refine px_P.if_eq rfl rfl (fun h => absurd h ((by decide))) (fun _ => ?_)
        refine px_P.sn 1 (f1 := (54, [(0, .ref p), (1, .int (nI s)), (2, .int (nI a)), (3, .int (c32 (cn tx N a)))], [.ref p])) (S1 := S3) rfl ?_
        refine px_P.gf rfl rfl (by assumption) (v := .ref (p + 1)) rfl ?_
        refine px_P.sn 4 (f1 := (61, [(0, .ref p), (1, .int (nI s)), (2, .int (nI a)), (3, .int (c32 (cn tx N a)))], [.int (nI a), .int 0, .int (nI s), .int 3, .ref (p + 1)])) (S1 := S3) rfl ?_
        refine px_P.cv rfl rfl rfl (by assumption) rfl ?_
        show px_M _ px_m_Expression_add [.ref (p + 1), .int 3, .int (nI s), .int 0, .int (nI a)] S3 _
        refine pm_exprAdd (n := ps_n y) (by omega) (by omega) (by omega) d3 (fun S6 i1 i2 i3 => ?_)
        show px_P _ _ (64, [(0, .ref p), (1, .int (nI s)), (2, .int (nI a)), (3, .int (c32 (cn tx N a)))], [.int (nI (ps_n y))]) S6 _
        refine px_P.sn 1 (f1 := (68, [(0, .ref p), (1, .int (nI s)), (2, .int (nI a)), (3, .int (c32 (cn tx N a)))], [.int (nI (ps_n y))])) (S1 := S6) rfl ?_
        refine px_P.ret rfl ?_
        exact k S6 (pa.add (y := y) (q := (3, s, 0, a)) d0' d1 d2 d4 ⟨by show 3 < 8; omega, fun q => absurd q (by simp), fun q => absurd q (by simp), fun _ => hs, fun q => absurd q (by simp), fun q => absurd q (by simp)⟩ i1 i2) (fun q hq => by rw [i2 q (by omega), f2 q hq]; exact fr2 q hq) (by rw [i3, f3, t2])
      · have w' : ¬ cn tx N (nx tx N (a + 1)) = 93 := w
        rw [if_neg w'] at pe
        rw [pe] at k
        show px_P _ _ (50, [(0, .ref p), (1, .int (nI s)), (2, .int (nI a)), (3, .int (c32 (cn tx N a)))], [.int 0]) S3 _
        refine px_P.if_eq rfl rfl (fun _ => ?_) (fun h => absurd (rfl) h)
        refine px_P.sn 1 (f1 := (68, [(0, .ref p), (1, .int (nI s)), (2, .int (nI a)), (3, .int (c32 (cn tx N a)))], [.int (-1)])) (S1 := S3) rfl ?_
        refine px_P.ret rfl ?_
        exact k S3 f1 (fun q hq => by rw [f2 q hq]; exact fr2 q hq) (by rw [f3, t2])
  · have n1 : cn tx N a = 33 := (c32_eq (ht.cn _) (by decide) (by decide)).mp q1
    have pe : pz_end tx N s y = (some (ps_n y), ps_add y (a + 1) (4, s, 0, a)) := by
      unfold pz_end
      dsimp only
      rw [← ha, if_pos n1]
    rw [pe] at k
    refine px_P.sn 1 (f1 := (27, [(0, .ref p), (1, .int (nI s)), (2, .int (nI a)), (3, .int (c32 (cn tx N a)))], [.ref p])) (S1 := S2) rfl ?_
    refine px_P.gf rfl rfl (by assumption) (v := .ref (p + 1)) rfl ?_
    refine px_P.sn 4 (f1 := (34, [(0, .ref p), (1, .int (nI s)), (2, .int (nI a)), (3, .int (c32 (cn tx N a)))], [.int (nI a), .int 0, .int (nI s), .int 4, .ref (p + 1)])) (S1 := S2) rfl ?_
    refine px_P.cv rfl rfl rfl (by assumption) rfl ?_
    show px_M _ px_m_Expression_add [.ref (p + 1), .int 4, .int (nI s), .int 0, .int (nI a)] S2 _
    refine pm_exprAdd (n := ps_n y) (by omega) (by omega) (by omega) b3 (fun S6 i1 i2 i3 => ?_)
    show px_P _ _ (37, [(0, .ref p), (1, .int (nI s)), (2, .int (nI a)), (3, .int (c32 (cn tx N a)))], [.int (nI (ps_n y))]) S6 _
    refine px_P.ret rfl ?_
    exact k S6 (pa.add (y := y) (q := (4, s, 0, a)) b0' b1 b2 b4 ⟨by show 4 < 8; omega, fun q => absurd q (by simp), fun q => absurd q (by simp), fun _ => hs, fun q => absurd q (by simp), fun q => absurd q (by simp)⟩ i1 i2) (fun q hq => by rw [i2 q (by omega)]; exact fr2 q hq) (by rw [i3, t2])
theorem pc_readPart {d p t N m dep : Nat} {f V : Nat → Int32} {tx : Nat → Nat} {df dc eq : Int32} {A : ps → pr} (hd : 3 ≤ d) (ht : tok f tx N) (hA : pg N A) (h : pc d p t N m f V df dc eq px_m_Parser_readAtom dep A) : pc (d + 1) p t N m f V df dc eq px_m_Parser_readPart dep (pz_part tx N A) := by
  intro S Q y hpa hyN hyn k
  have tN := ht.2.2
  have lp : ∀ (j i : Nat), i + j = 60 → ∀ (s : Nat) (z : ps) (S1 : px_S), pa S1 p t N m f df dc eq V z → pq N y (some s, z) → pz_part tx N A y = pz_endL tx N j s z → (∀ q, (q < p ∨ p + 9 ≤ q) → S1.1 q = S.1 q) → S1.2 = S.2 → px_P (d + 1 - 1) px_m_Parser_readPart (8, [(0, .ref p), (1, .int (nI dep)), (2, .int (nI s)), (3, .int (nI i))], []) S1 Q := by
    intro j
    induction j with
    | zero =>
      intro i hi s z S1 h1 h2 h3 h4 h5
      rw [h3] at k
      refine px_P.sn 2 (f1 := (11, [(0, .ref p), (1, .int (nI dep)), (2, .int (nI s)), (3, .int (nI i))], [.int 60, .int (nI i)])) (S1 := S1) rfl ?_
      refine px_P.ic_ge rfl rfl (fun _ => ?_) (fun h => absurd (nI_le (a := 60) (by omega) (by omega)) h)
      refine px_P.sn 1 (f1 := (42, [(0, .ref p), (1, .int (nI dep)), (2, .int (nI s)), (3, .int (nI i))], [.int (nI s)])) (S1 := S1) rfl ?_
      refine px_P.ret rfl ?_
      exact k S1 h1 h4 h5
    | succ j ih =>
      intro i hi s z S1 h1 h2 h3 h4 h5
      have zN : ps_a z ≤ N := h2.2.1
      have zs : s + 1 = ps_n z := (h2.2.2.2.2.2.2.2.2 s rfl).1
      have zn : ps_n z + ps_a y ≤ ps_a z + ps_n y := h2.2.2.2.1
      have c0 := h1.1
      refine px_P.sn 2 (f1 := (11, [(0, .ref p), (1, .int (nI dep)), (2, .int (nI s)), (3, .int (nI i))], [.int 60, .int (nI i)])) (S1 := S1) rfl ?_
      refine px_P.ic_ge rfl rfl (fun h => absurd h (nI_ge (b := 60) (by omega) (by decide))) (fun _ => ?_)
      refine px_P.sn 2 (f1 := (16, [(0, .ref p), (1, .int (nI dep)), (2, .int (nI s)), (3, .int (nI i))], [.int (-1), .int (nI s)])) (S1 := S1) rfl ?_
      refine px_P.ic_eq rfl rfl (fun h => absurd h (nI_neg (by omega))) (fun _ => ?_)
      refine px_P.sn 1 (f1 := (20, [(0, .ref p), (1, .int (nI dep)), (2, .int (nI s)), (3, .int (nI i))], [.ref p])) (S1 := S1) rfl ?_
      refine px_P.cv rfl rfl rfl (by assumption) rfl ?_
      show px_M _ px_m_Parser_next [.ref p] S1 _
      refine pm_paNext (by omega) ht zN h1 (fun S2 e1 e2 e3 => ?_)
      show px_P _ _ (23, [(0, .ref p), (1, .int (nI dep)), (2, .int (nI s)), (3, .int (nI i))], [.int (c32 (cn tx N (nx tx N (ps_a z))))]) S2 _
      have hn := nx_le (tx := tx) (a := ps_a z) zN
      have hpq2 := pq_endL (tx := tx) (k := 1) h2
      refine px_P.call rfl ?_
      show px_M _ px_m_Parser_isEnding [.int (c32 (cn tx N (nx tx N (ps_a z))))] S2 _
      refine pm_paIsEnding (by omega) (ht.cn _) ?_
      have fr2 : ∀ q, (q < p ∨ p + 9 ≤ q) → S2.1 q = S.1 q := fun q hq => by rw [e2 q hq]; exact h4 q hq
      have t2 : S2.2 = S.2 := by rw [e3, h5]
      cases he : isE (cn tx N (nx tx N (ps_a z))) with
      | false =>
        have e9 : pz_part tx N A y = (some s, ps_at z (nx tx N (ps_a z))) := h3.trans (if_neg (by rw [he]; decide))
        rw [e9] at k
        show px_P _ _ (26, [(0, .ref p), (1, .int (nI dep)), (2, .int (nI s)), (3, .int (nI i))], [.int 0]) S2 _
        refine px_P.if_eq rfl rfl (fun _ => ?_) (fun h => absurd (rfl) h)
        refine px_P.sn 1 (f1 := (42, [(0, .ref p), (1, .int (nI dep)), (2, .int (nI s)), (3, .int (nI i))], [.int (nI s)])) (S1 := S2) rfl ?_
        refine px_P.ret rfl ?_
        exact k S2 e1 fr2 t2
      | true =>
        have e9 : pz_part tx N A y = (match pz_end tx N s (ps_at z (nx tx N (ps_a z))) with
          | (none, w) => (none, w)
          | (some r, w) => pz_endL tx N j r w) := h3.trans (if_pos he)
        have st1 : pz_endL tx N 1 s z = (match pz_end tx N s (ps_at z (nx tx N (ps_a z))) with
          | (none, w) => (none, w)
          | (some r, w) => (some r, w)) := if_pos he
        rw [st1] at hpq2
        have hlt := cn_lt (tx := tx) (N := N) (a := nx tx N (ps_a z)) (fun w => by rw [w] at he; exact absurd he (by decide))
        have c2 := e1.1
        show px_P _ _ (26, [(0, .ref p), (1, .int (nI dep)), (2, .int (nI s)), (3, .int (nI i))], [.int 1]) S2 _
        refine px_P.if_eq rfl rfl (fun h => absurd h ((by decide))) (fun _ => ?_)
        refine px_P.sn 2 (f1 := (31, [(0, .ref p), (1, .int (nI dep)), (2, .int (nI s)), (3, .int (nI i))], [.int (nI s), .ref p])) (S1 := S2) rfl ?_
        refine px_P.cv rfl rfl rfl (by assumption) rfl ?_
        show px_M _ px_m_Parser_readEnding [.ref p, .int (nI s)] S2 _
        refine pm_paEnding (by omega) ht (y := ps_at z (nx tx N (ps_a z))) hlt (by show ps_n z ≤ nx tx N (ps_a z); omega) (by show s < ps_n z; omega) (nx_nx zN) he e1 (fun S3 f1 f2 f3 => ?_)
        generalize pz_end tx N s (ps_at z (nx tx N (ps_a z))) = x at e9 hpq2 f1 ⊢
        obtain ⟨r, w⟩ := x
        have fr3 : ∀ q, (q < p ∨ p + 9 ≤ q) → S3.1 q = S.1 q := fun q hq => by rw [f2 q hq]; exact fr2 q hq
        have t3 : S3.2 = S.2 := by rw [f3, t2]
        cases r with
        | none =>
          dsimp only at e9 f1
          rw [e9] at k
          show px_P _ _ (34, [(0, .ref p), (1, .int (nI dep)), (2, .int (nI s)), (3, .int (nI i))], [.int (-1)]) S3 _
          refine px_P.sn 3 (f1 := (8, [(0, .ref p), (1, .int (nI dep)), (2, .int (-1)), (3, .int ((nI i) + 1))], [])) (S1 := S3) rfl ?_
          rw [nI_1]
          refine px_P.sn 2 (f1 := (11, [(0, .ref p), (1, .int (nI dep)), (2, .int (-1)), (3, .int (nI (i + 1)))], [.int 60, .int (nI (i + 1))])) (S1 := S3) rfl ?_
          refine px_P.ic_ge rfl rfl (fun hk => ?_) (fun hk => ?_)
          · refine px_P.sn 1 (f1 := (42, [(0, .ref p), (1, .int (nI dep)), (2, .int (-1)), (3, .int (nI (i + 1)))], [.int (-1)])) (S1 := S3) rfl ?_
            refine px_P.ret rfl ?_
            exact k S3 f1 fr3 t3
          · refine px_P.sn 2 (f1 := (16, [(0, .ref p), (1, .int (nI dep)), (2, .int (-1)), (3, .int (nI (i + 1)))], [.int (-1), .int (-1)])) (S1 := S3) rfl ?_
            refine px_P.ic_eq rfl rfl (fun _ => ?_) (fun h => absurd ((by rfl)) h)
            refine px_P.sn 1 (f1 := (42, [(0, .ref p), (1, .int (nI dep)), (2, .int (-1)), (3, .int (nI (i + 1)))], [.int (-1)])) (S1 := S3) rfl ?_
            refine px_P.ret rfl ?_
            exact k S3 f1 fr3 t3
        | some r =>
          dsimp only at e9 f1 hpq2
          show px_P _ _ (34, [(0, .ref p), (1, .int (nI dep)), (2, .int (nI s)), (3, .int (nI i))], [.int (nI r)]) S3 _
          refine px_P.sn 3 (f1 := (8, [(0, .ref p), (1, .int (nI dep)), (2, .int (nI r)), (3, .int ((nI i) + 1))], [])) (S1 := S3) rfl ?_
          rw [nI_1]
          exact ih (i + 1) (by omega) r w S3 f1 hpq2 e9 fr3 t3
  have c0 := hpa.1
  have hpq := hA y hyN
  refine px_M.go (by omega) (Nat.le_of_ble_eq_true rfl) ?_
  refine px_P.sn 2 (f1 := (2, [(0, .ref p), (1, .int (nI dep))], [.int (nI dep), .ref p])) (S1 := S) rfl ?_
  refine px_P.cv rfl rfl rfl (by assumption) rfl ?_
  show px_M _ px_m_Parser_readAtom [.ref p, .int (nI dep)] S _
  refine h S _ y hpa hyN hyn (fun S1 m1 f1 t1 => ?_)
  have hx : pz_part tx N A y = (match A y with
    | (none, w) => (none, w)
    | (some r, w) => pz_endL tx N 60 r w) := rfl
  generalize A y = x at hpq m1 hx ⊢
  obtain ⟨r, w⟩ := x
  cases r with
  | none =>
    dsimp only at hx m1
    rw [hx] at k
    show px_P _ _ (5, [(0, .ref p), (1, .int (nI dep))], [.int (-1)]) S1 _
    refine px_P.sn 5 (f1 := (11, [(0, .ref p), (1, .int (nI dep)), (2, .int (-1)), (3, .int 0)], [.int 60, .int 0])) (S1 := S1) rfl ?_
    refine px_P.ic_ge rfl rfl (fun h => absurd h ((by decide))) (fun _ => ?_)
    refine px_P.sn 2 (f1 := (16, [(0, .ref p), (1, .int (nI dep)), (2, .int (-1)), (3, .int 0)], [.int (-1), .int (-1)])) (S1 := S1) rfl ?_
    refine px_P.ic_eq rfl rfl (fun _ => ?_) (fun h => absurd ((by rfl)) h)
    refine px_P.sn 1 (f1 := (42, [(0, .ref p), (1, .int (nI dep)), (2, .int (-1)), (3, .int 0)], [.int (-1)])) (S1 := S1) rfl ?_
    refine px_P.ret rfl ?_
    exact k S1 m1 f1 t1
  | some r =>
    dsimp only at hx m1
    show px_P _ _ (5, [(0, .ref p), (1, .int (nI dep))], [.int (nI r)]) S1 _
    refine px_P.sn 3 (f1 := (8, [(0, .ref p), (1, .int (nI dep)), (2, .int (nI r)), (3, .int 0)], [])) (S1 := S1) rfl ?_
    exact lp 60 0 rfl r w S1 m1 hpq hx f1 t1
