/-! ===== CheckDaemon: what it tells ===== -/
def symA (L : Nat → Option ln_S) (s x : Nat) (v : Int32) : Prop := (x = 1 → v = nI (dc L s)) ∧ (x = 2 → v = nI (ct (rdb L s) 96)) ∧ (x = 0 → dc L s = 0 → v = -1) ∧ (x = 3 → dc L s = 0 → v = -1) ∧ (x = 0 → ¬ dc L s = 0 → ∃ T, lf_is L T ∧ v = T s) ∧ (x = 3 → ¬ dc L s = 0 → ∃ H, tc_is (rd L) (hr H) ∧ v = nI (lsf (bo H s) s s))
def linA (L : Nat → Option ln_S) (p x : Nat) (v : Int32) : Prop := (L p = none → v = -1) ∧ ∀ s, L p = some s → (x = 0 → v = nI (ln_L s)) ∧ (x = 1 → v = if ln_wr s = -1 then 1 else 0) ∧ (x = 2 → ∃ T, lf_is L T ∧ v = if ln_wr s = -1 then ln_val s T else -1) ∧ (x = 3 → ∃ T D, lf_is L T ∧ (∀ t, t < 208 → D t = nI (dc L t)) ∧ v = nI (fzd s T D)) ∧ (x = 4 → v = if ln_wr s = -1 then sbc (ln_W s) 4 else -1)
def diaA (L : Nat → Option ln_S) (q x : Nat) (v : Int32) : Prop := ∃ T D, lf_is L T ∧ (∀ t, t < 208 → D t = nI (dc L t)) ∧ ((sm (fzp L T D) 96 ≤ q ∧ v = -1) ∨ ∃ p i s, p < 96 ∧ L p = some s ∧ i ≤ ln_L s ∧ ¬ fcd s T D i = 0 ∧ sm (fzp L T D) p + ct (fun j => decide (¬ fcd s T D j = 0)) i = q ∧ v = dgA p i (fcd s T D i) x)
def cntA (tt : Nat → List Nat) (hz x : Nat) (v : Int32) : Prop := (x = 0 → ∃ T D, lf_is (sL tt) T ∧ (∀ t, t < 208 → D t = nI (dc (sL tt) t)) ∧ v = nI (sm (fzp (sL tt) T D) 96)) ∧ (x = 1 → v = nI (ct (fun t => decide (¬ dc (sL tt) t = 0)) 208)) ∧ (x = 2 → ∃ H, tc_is (rd (sL tt)) (hr H) ∧ v = nI (ct (ciC H) 208)) ∧ (x = 3 → ∃ H, tc_is (rd (sL tt)) (hr H) ∧ v = nI (ct (fun s => ss_in (H s) s) 208)) ∧ (x = 4 → v = nI (ct (fun p => decide (¬ tt p = [])) 96)) ∧ (x = 5 → v = nI hz)
theorem D0_dc {D : Nat → Int32} {L : Nat → Option ln_S} {t : Nat} (h : D t = nI (dc L t)) : D t = 0 ↔ dc L t = 0 := by
  rw [h]
  have := dc_le L t
  exact nI_eq (b := 0) (by omega) (by decide)
theorem D0_pos {D : Nat → Int32} {L : Nat → Option ln_S} {t : Nat} (h : D t = nI (dc L t)) : 0 < D t ↔ ¬ dc L t = 0 := by
  rw [h]
  have := dc_le L t
  constructor
  · intro hz e
    rw [e] at hz
    exact absurd hz (by decide)
  · intro hz
    exact nI_lt (a := 0) (by omega) (by omega)
theorem sy2_i32 {m l : Nat} (hm : m < 8) (hl : l < 26) : nI m * 26 + nI l = nI (26 * m + l) := by
  rw [show (26 : Int32) = nI 26 from rfl, nI_mul (by omega) (by omega) (by omega), nI_add, Nat.mul_comm]
/-- what is left of the rest of the world by a call that only tells -/
def dF0 (S S' : px_S) (x lo : Nat) : Prop := (∀ q, q < lo → (q < x ∨ x + 435 ≤ q) → S'.1 q = S.1 q) ∧ S'.2 = S.2
theorem pm_dmSymbol {d x lo m sy w : Nat} {ty : List Nat} {tt : Nat → List Nat} {hh : List (Nat × List Nat)} {S : px_S} {Q : Option Value → px_S → Prop} (hd : 8 ≤ d) (h : dI S x lo ty tt hh) (hm : m < 8) (hs : sy < 26) (hw : w < 4)
    (k : ∀ S' v, dI S' x lo ty tt hh → symA (sL tt) (26 * m + sy) w v → dF0 S S' x lo → Q (some (.int v)) S') : px_M d px_m_Daemon_symbol [.ref x, .int (nI m), .int (nI sy), .int (nI w)] S Q := by
  have h' := h
  obtain ⟨f, T, D, lk, wt, to, ls, df, hp', la, hi, tW, H, tz, ds, cc, sc, old, G, a1, a2, a3, a4, a5, a6, a7, a8, a9, a10, a11, a12, a13, a14⟩ := h
  have c0 := a1.1
  have w0 := a4.1
  obtain ⟨s, hss⟩ : ∃ s, s = 26 * m + sy := ⟨_, rfl⟩
  rw [← hss] at k
  have hs208 : s < 208 := by omega
  have hD : D s = nI (dc (sL tt) s) := by rw [← a11]; exact a10.2.1 s hs208
  have hlf : lf_is (sL tt) T := by rw [← a11]; exact a10.2.2.1
  have hD0 := D0_dc hD
  refine px_M.go (by omega) (Nat.le_of_ble_eq_true rfl) ?_
  refine px_P.sn 1 (f1 := (1, [(0, .ref x), (1, .int (nI m)), (2, .int (nI sy)), (3, .int (nI w))], [.int (nI m)])) (S1 := S) rfl ?_
  refine px_P.if_lt rfl rfl (fun h => absurd h (nI_pos (by omega))) (fun _ => ?_)
  refine px_P.sn 2 (f1 := (7, [(0, .ref x), (1, .int (nI m)), (2, .int (nI sy)), (3, .int (nI w))], [.int 8, .int (nI m)])) (S1 := S) rfl ?_
  refine px_P.ic_ge rfl rfl (fun h => absurd h (nI_ge (b := 8) hm (by decide))) (fun _ => ?_)
  refine px_P.sn 1 (f1 := (11, [(0, .ref x), (1, .int (nI m)), (2, .int (nI sy)), (3, .int (nI w))], [.int (nI sy)])) (S1 := S) rfl ?_
  refine px_P.if_lt rfl rfl (fun h => absurd h (nI_pos (by omega))) (fun _ => ?_)
  refine px_P.sn 2 (f1 := (17, [(0, .ref x), (1, .int (nI m)), (2, .int (nI sy)), (3, .int (nI w))], [.int 26, .int (nI sy)])) (S1 := S) rfl ?_
  refine px_P.ic_ge rfl rfl (fun h => absurd h (nI_ge (b := 26) hs (by decide))) (fun _ => ?_)
  refine px_P.sn 1 (f1 := (21, [(0, .ref x), (1, .int (nI m)), (2, .int (nI sy)), (3, .int (nI w))], [.int (nI w)])) (S1 := S) rfl ?_
  refine px_P.if_lt rfl rfl (fun h => absurd h (nI_pos (by omega))) (fun _ => ?_)
  refine px_P.sn 2 (f1 := (26, [(0, .ref x), (1, .int (nI m)), (2, .int (nI sy)), (3, .int (nI w))], [.int 3, .int (nI w)])) (S1 := S) rfl ?_
  refine px_P.ic_le rfl rfl (fun _ => ?_) (fun h => absurd (nI_le (b := 3) (by omega) (by decide)) h)
  refine px_P.sn 1 (f1 := (40, [(0, .ref x), (1, .int (nI m)), (2, .int (nI sy)), (3, .int (nI w))], [.ref x])) (S1 := S) rfl ?_
  refine px_P.gf rfl rfl (by assumption) (v := .ref (x + 2)) rfl ?_
  refine px_P.sn 5 (f1 := (49, [(0, .ref x), (1, .int (nI m)), (2, .int (nI sy)), (3, .int (nI w))], [.int (((nI m) * 26) + (nI sy)), .ref (x + 2)])) (S1 := S) rfl ?_
  rw [sy2_i32 hm hs, ← hss]
  refine px_P.sn 1 (f1 := (50, [(0, .ref x), (1, .int (nI m)), (2, .int (nI sy)), (3, .int (nI w))], [.int (nI w), .int (nI s), .ref (x + 2)])) (S1 := S) rfl ?_
  refine px_P.cv rfl rfl rfl (by assumption) rfl ?_
  show px_M _ px_m_Workspace_tellSymbol [.ref (x + 2), .int (nI s), .int (nI w)] S _
  have rf0 : dF0 S S x lo := ⟨fun _ _ _ => rfl, rfl⟩
  refine pm_wsTellSymbol (by omega) a4 a5 a7 a10 (by omega) (by rw [a11]; exact a13) hs208 hw (fun e1 e2 => ?_) (fun e1 e2 => ?_) (fun e1 => ?_) (fun e1 => ?_) (fun e1 e2 => ?_) (fun e1 e2 => ?_)
  · refine px_P.ret rfl ?_
    exact k S _ h' ⟨fun z => absurd z (by omega), fun z => absurd z (by omega), fun _ _ => rfl, fun z => absurd z (by omega), fun _ z => absurd (hD0.mp e2) z, fun z => absurd z (by omega)⟩ rf0
  · refine px_P.ret rfl ?_
    exact k S _ h' ⟨fun z => absurd z (by omega), fun z => absurd z (by omega), fun _ z => absurd (hD0.mpr z) e2, fun z => absurd z (by omega), fun _ _ => ⟨T, hlf, rfl⟩, fun z => absurd z (by omega)⟩ rf0
  · refine px_P.ret rfl ?_
    exact k S _ h' ⟨fun _ => hD, fun z => absurd z (by omega), fun z => absurd z (by omega), fun z => absurd z (by omega), fun z => absurd z (by omega), fun z => absurd z (by omega)⟩ rf0
  · refine px_P.ret rfl ?_
    exact k S _ h' ⟨fun z => absurd z (by omega), fun _ => by rw [a11], fun z => absurd z (by omega), fun z => absurd z (by omega), fun z => absurd z (by omega), fun z => absurd z (by omega)⟩ rf0
  · refine px_P.ret rfl ?_
    exact k S _ h' ⟨fun z => absurd z (by omega), fun z => absurd z (by omega), fun z => absurd z (by omega), fun _ _ => rfl, fun z => absurd z (by omega), fun _ z => absurd (hD0.mp e2) z⟩ rf0
  · intro S1 H1 l1 d1 n1 c1 s1 f1 f2 f3 f4 f5
    rw [a11] at f3
    refine px_P.ret rfl ?_
    refine k S1 _ ⟨f, T, D, lk, wt, to, l1, d1, hp', la, hi, tW, H1, tz, n1, c1, s1, 0, G, ⟨(f4 _ (by omega)).trans a1.1, (f4 _ (by omega)).trans a1.2⟩, a2, a3, f1, f2, a6.keep (fun q q1 q2 => f4 q (by omega)), a7.keep (fun q q1 q2 => f4 q (by omega)) (by rw [f5]; exact Nat.le_refl _), by rw [f5]; exact a8, a9, a10, a11, a12, fun _ => f3, a14⟩ ⟨fun z => absurd z (by omega), fun z => absurd z (by omega), fun z => absurd z (by omega), fun _ z => absurd (hD0.mpr z) e2, fun z => absurd z (by omega), fun _ _ => ⟨H1, f3.1, ?_⟩⟩ ⟨fun q q1 q2 => f4 q (by omega), f5⟩
    exact f3.2.2.1 s hs208 (decide_eq_true ((D0_pos hD).mpr (fun z => e2 (hD0.mpr z))))
theorem pm_dmLine {d x lo m l w : Nat} {ty : List Nat} {tt : Nat → List Nat} {hh : List (Nat × List Nat)} {S : px_S} {Q : Option Value → px_S → Prop} (hd : 8 ≤ d) (h : dI S x lo ty tt hh) (hm : m < 8) (hl : l < 12) (hw : w < 5)
    (k : ∀ v, linA (sL tt) (12 * m + l) w v → Q (some (.int v)) S) : px_M d px_m_Daemon_line [.ref x, .int (nI m), .int (nI l), .int (nI w)] S Q := by
  obtain ⟨f, T, D, lk, wt, to, ls, df, hp', la, hi, tW, H, tz, ds, cc, sc, old, G, a1, a2, a3, a4, a5, a6, a7, a8, a9, a10, a11, a12, a13, a14⟩ := h
  have c0 := a1.1
  have w0 := a4.1
  obtain ⟨p, hp⟩ : ∃ p, p = 12 * m + l := ⟨_, rfl⟩
  rw [← hp] at k
  have hp96 : p < 96 := by omega
  have hD : ∀ t, t < 208 → D t = nI (dc (sL tt) t) := by rw [← a11]; exact a10.2.1
  have hlf : lf_is (sL tt) T := by rw [← a11]; exact a10.2.2.1
  refine px_M.go (by omega) (Nat.le_of_ble_eq_true rfl) ?_
  refine px_P.sn 2 (f1 := (2, [(0, .ref x), (1, .int (nI m)), (2, .int (nI l)), (3, .int (nI w))], [.int (nI l), .int (nI m)])) (S1 := S) rfl ?_
  refine px_P.call rfl ?_
  show px_M _ px_m_Daemon_isPlace [.int (nI m), .int (nI l)] S _
  refine pm_dmPlace (by omega) hm hl ?_
  show px_P _ _ (5, [(0, .ref x), (1, .int (nI m)), (2, .int (nI l)), (3, .int (nI w))], [.int 1]) S _
  refine px_P.if_eq rfl rfl (fun h => absurd h ((by decide))) (fun _ => ?_)
  refine px_P.sn 1 (f1 := (9, [(0, .ref x), (1, .int (nI m)), (2, .int (nI l)), (3, .int (nI w))], [.int (nI w)])) (S1 := S) rfl ?_
  refine px_P.if_lt rfl rfl (fun h => absurd h (nI_pos (by omega))) (fun _ => ?_)
  refine px_P.sn 2 (f1 := (14, [(0, .ref x), (1, .int (nI m)), (2, .int (nI l)), (3, .int (nI w))], [.int 4, .int (nI w)])) (S1 := S) rfl ?_
  refine px_P.ic_le rfl rfl (fun _ => ?_) (fun h => absurd (nI_le (b := 4) (by omega) (by decide)) h)
  refine px_P.sn 1 (f1 := (28, [(0, .ref x), (1, .int (nI m)), (2, .int (nI l)), (3, .int (nI w))], [.ref x])) (S1 := S) rfl ?_
  refine px_P.gf rfl rfl (by assumption) (v := .ref (x + 2)) rfl ?_
  refine px_P.sn 5 (f1 := (37, [(0, .ref x), (1, .int (nI m)), (2, .int (nI l)), (3, .int (nI w))], [.int (((nI m) * 12) + (nI l)), .ref (x + 2)])) (S1 := S) rfl ?_
  rw [pl_i32 hm hl, ← hp]
  refine px_P.cv rfl rfl rfl (by assumption) rfl ?_
  show px_M _ px_m_Workspace_lineAt [.ref (x + 2), .int (nI p)] S _
  refine pm_wsLineAt (by omega) a4 hp96 ?_
  cases hq : la p with
  | none =>
    show px_P _ _ (40, [(0, .ref x), (1, .int (nI m)), (2, .int (nI l)), (3, .int (nI w))], [.null]) S _
    refine px_P.sn 5 (f1 := (57, [(0, .ref x), (1, .int (nI m)), (2, .int (nI l)), (3, .int (nI w)), (4, .null)], [.int (-1)])) (S1 := S) rfl ?_
    refine px_P.ret rfl ?_
    have e : sL tt p = none := by rw [← a11]; exact sp_n hq
    exact k (-1) ⟨fun _ => rfl, fun s hs => by rw [e] at hs; cases hs⟩
  | some b =>
    obtain ⟨s, E, hg⟩ := a10.1 p b hp96 hq
    have e : sL tt p = some s := by rw [← a11]; exact sp_s hq hg
    obtain ⟨l1, l2, l3⟩ := a7.1 b s E hg
    obtain ⟨fs, hb⟩ := a7.cell hg
    obtain ⟨g1, g2, g3⟩ := a10.2.2.2 p b s E hp96 hq hg
    show px_P _ _ (40, [(0, .ref x), (1, .int (nI m)), (2, .int (nI l)), (3, .int (nI w))], [.ref b]) S _
    refine px_P.sn 5 (f1 := (54, [(0, .ref x), (1, .int (nI m)), (2, .int (nI l)), (3, .int (nI w)), (4, .ref b)], [.int (nI w), .ref b])) (S1 := S) rfl ?_
    refine px_P.cv rfl rfl rfl (by assumption) rfl ?_
    show px_M _ px_m_Line_tellAbout [.ref b, .int (nI w)] S _
    refine pm_lnTell (by omega) (by omega) l1 ?_
    show px_P _ _ (57, [(0, .ref x), (1, .int (nI m)), (2, .int (nI l)), (3, .int (nI w)), (4, .ref b)], [.int (ln_tell s E w)]) S _
    refine px_P.ret rfl ?_
    refine k _ ⟨fun z => (by rw [e] at z; cases z), fun s' hs' => ?_⟩
    rw [e] at hs'
    cases hs'
    refine ⟨fun z => ?_, fun z => ?_, fun z => ⟨T, hlf, ?_⟩, fun z => ⟨T, D, hlf, hD, ?_⟩, fun z => ?_⟩
    · subst z; rfl
    · subst z; rfl
    · subst z
      show (if ln_wr s = -1 then E.1 else -1) = _
      rw [g1]
    · subst z
      show nI E.2.2.2 = _
      rw [g3]
      rfl
    · subst z; rfl
theorem pm_dmDiag {d x lo q w : Nat} {ty : List Nat} {tt : Nat → List Nat} {hh : List (Nat × List Nat)} {S : px_S} {Q : Option Value → px_S → Prop} (hd : 8 ≤ d) (h : dI S x lo ty tt hh) (hq : q < 2 ^ 31) (hw : w < 4)
    (k : ∀ v, diaA (sL tt) q w v → Q (some (.int v)) S) : px_M d px_m_Daemon_diagnostic [.ref x, .int (nI q), .int (nI w)] S Q := by
  obtain ⟨f, T, D, lk, wt, to, ls, df, hp', la, hi, tW, H, tz, ds, cc, sc, old, G, a1, a2, a3, a4, a5, a6, a7, a8, a9, a10, a11, a12, a13, a14⟩ := h
  have c0 := a1.1
  have w0 := a4.1
  have hD : ∀ t, t < 208 → D t = nI (dc (sL tt) t) := by rw [← a11]; exact a10.2.1
  have hlf : lf_is (sL tt) T := by rw [← a11]; exact a10.2.2.1
  refine px_M.go (by omega) (Nat.le_of_ble_eq_true rfl) ?_
  refine px_P.sn 1 (f1 := (1, [(0, .ref x), (1, .int (nI q)), (2, .int (nI w))], [.int (nI w)])) (S1 := S) rfl ?_
  refine px_P.if_lt rfl rfl (fun h => absurd h (nI_pos (by omega))) (fun _ => ?_)
  refine px_P.sn 2 (f1 := (6, [(0, .ref x), (1, .int (nI q)), (2, .int (nI w))], [.int 3, .int (nI w)])) (S1 := S) rfl ?_
  refine px_P.ic_le rfl rfl (fun _ => ?_) (fun h => absurd (nI_le (b := 3) (by omega) (by decide)) h)
  refine px_P.sn 1 (f1 := (20, [(0, .ref x), (1, .int (nI q)), (2, .int (nI w))], [.int (nI q)])) (S1 := S) rfl ?_
  refine px_P.if_ge rfl rfl (fun _ => ?_) (fun h => absurd (nI_pos' hq) h)
  refine px_P.sn 1 (f1 := (28, [(0, .ref x), (1, .int (nI q)), (2, .int (nI w))], [.ref x])) (S1 := S) rfl ?_
  refine px_P.gf rfl rfl (by assumption) (v := .ref (x + 2)) rfl ?_
  refine px_P.sn 2 (f1 := (33, [(0, .ref x), (1, .int (nI q)), (2, .int (nI w))], [.int (nI w), .int (nI q), .ref (x + 2)])) (S1 := S) rfl ?_
  refine px_P.cv rfl rfl rfl (by assumption) rfl ?_
  show px_M _ px_m_Workspace_tellFault [.ref (x + 2), .int (nI q), .int (nI w)] S _
  refine pm_wsTellFault (by omega) a4 a7 a10 hq hw (fun e1 => ?_) (fun p i s e1 e2 e3 e4 e5 => ?_)
  · refine px_P.ret rfl ?_
    rw [a11] at e1
    exact k _ ⟨T, D, hlf, hD, Or.inl ⟨e1, rfl⟩⟩
  · refine px_P.ret rfl ?_
    rw [a11] at e2 e5
    exact k _ ⟨T, D, hlf, hD, Or.inr ⟨p, i, s, e1, e2, e3, e4, e5, rfl⟩⟩
theorem pm_dmDiagN {d x : Nat} {q : Int32} {w : Nat} {S : px_S} {Q : Option Value → px_S → Prop} (hd : 1 ≤ d) (hq : q < 0) (hw : w < 4) (k : Q (some (.int (-1))) S) : px_M d px_m_Daemon_diagnostic [.ref x, .int q, .int (nI w)] S Q := by
  refine px_M.go (by omega) (Nat.le_of_ble_eq_true rfl) ?_
  refine px_P.sn 1 (f1 := (1, [(0, .ref x), (1, .int q), (2, .int (nI w))], [.int (nI w)])) (S1 := S) rfl ?_
  refine px_P.if_lt rfl rfl (fun h => absurd h (nI_pos (by omega))) (fun _ => ?_)
  refine px_P.sn 2 (f1 := (6, [(0, .ref x), (1, .int q), (2, .int (nI w))], [.int 3, .int (nI w)])) (S1 := S) rfl ?_
  refine px_P.ic_le rfl rfl (fun _ => ?_) (fun h => absurd (nI_le (b := 3) (by omega) (by decide)) h)
  refine px_P.sn 1 (f1 := (20, [(0, .ref x), (1, .int q), (2, .int (nI w))], [.int q])) (S1 := S) rfl ?_
  refine px_P.if_ge rfl rfl (fun h => absurd h (Int32.not_le.mpr hq)) (fun _ => ?_)
  refine px_P.sn 2 (f1 := (36, [(0, .ref x), (1, .int q), (2, .int (nI w))], [.int (-1)])) (S1 := S) rfl ?_
  refine px_P.ret rfl ?_
  exact k
theorem pm_dmCount {d x lo w : Nat} {ty : List Nat} {tt : Nat → List Nat} {hh : List (Nat × List Nat)} {S : px_S} {Q : Option Value → px_S → Prop} (hd : 8 ≤ d) (h : dI S x lo ty tt hh) (hw : w < 6)
    (k : ∀ S' v, dI S' x lo ty tt hh → cntA tt hh.length w v → dF0 S S' x lo → Q (some (.int v)) S') : px_M d px_m_Daemon_count [.ref x, .int (nI w)] S Q := by
  have h' := h
  obtain ⟨f, T, D, lk, wt, to, ls, df, hp', la, hi, tW, H, tz, ds, cc, sc, old, G, a1, a2, a3, a4, a5, a6, a7, a8, a9, a10, a11, a12, a13, a14⟩ := h
  have c0 := a1.1
  have w0 := a4.1
  have h0 := a6.1
  have hD : ∀ t, t < 208 → D t = nI (dc (sL tt) t) := by rw [← a11]; exact a10.2.1
  have hlf : lf_is (sL tt) T := by rw [← a11]; exact a10.2.2.1
  have rf0 : dF0 S S x lo := ⟨fun _ _ _ => rfl, rfl⟩
  have no : ∀ {P : Prop} {j : Nat}, w ≠ j → w = j → P := fun h1 h2 => absurd h2 h1
  refine px_M.go (by omega) (Nat.le_of_ble_eq_true rfl) ?_
  refine px_P.sn 1 (f1 := (1, [(0, .ref x), (1, .int (nI w))], [.int (nI w)])) (S1 := S) rfl ?_
  refine px_P.if_lt rfl rfl (fun h => absurd h (nI_pos (by omega))) (fun _ => ?_)
  refine px_P.sn 2 (f1 := (6, [(0, .ref x), (1, .int (nI w))], [.int 5, .int (nI w)])) (S1 := S) rfl ?_
  refine px_P.ic_le rfl rfl (fun _ => ?_) (fun h => absurd (nI_le (b := 5) (by omega) (by decide)) h)
  refine px_P.sn 2 (f1 := (21, [(0, .ref x), (1, .int (nI w))], [.int 5, .int (nI w)])) (S1 := S) rfl ?_
  refine px_P.ic_ne rfl rfl (fun hq => ?_) (fun hq => ?_)
  · have hw5 : w < 5 := by
      have : ¬ w = 5 := fun z => hq (by rw [z]; rfl)
      omega
    refine px_P.sn 1 (f1 := (35, [(0, .ref x), (1, .int (nI w))], [.ref x])) (S1 := S) rfl ?_
    refine px_P.gf rfl rfl (by assumption) (v := .ref (x + 2)) rfl ?_
    refine px_P.sn 1 (f1 := (39, [(0, .ref x), (1, .int (nI w))], [.int (nI w), .ref (x + 2)])) (S1 := S) rfl ?_
    refine px_P.cv rfl rfl rfl (by assumption) rfl ?_
    show px_M _ px_m_Workspace_howMany [.ref (x + 2), .int (nI w)] S _
    have fresh : ∀ (S1 : px_S) (H1 : Nat → Nat → Int64) (l1 d1 : Nat → Int32) (n1 c1 s1 : Nat), ws_at S1 (x + 2) la T D lk wt tW to tz 0 → ci_at S1 (x + 2 + 10) H1 l1 d1 n1 c1 s1 → cI (sp la G) D H1 l1 c1 s1 → (∀ q, (q < x + 2 ∨ x + 2 + 430 ≤ q) → S1.1 q = S.1 q) → S1.2 = S.2 → dI S1 x lo ty tt hh := fun S1 H1 l1 d1 n1 c1 s1 f1 f2 f3 f4 f5 =>
      ⟨f, T, D, lk, wt, to, l1, d1, hp', la, hi, tW, H1, tz, n1, c1, s1, 0, G, ⟨(f4 _ (by omega)).trans a1.1, (f4 _ (by omega)).trans a1.2⟩, a2, a3, f1, f2, a6.keep (fun q q1 q2 => f4 q (by omega)), a7.keep (fun q q1 q2 => f4 q (by omega)) (by rw [f5]; exact Nat.le_refl _), by rw [f5]; exact a8, a9, a10, a11, a12, fun _ => by rw [← a11]; exact f3, a14⟩
    refine pm_wsHowMany (by omega) a4 a5 a7 a10 (by omega) (by rw [a11]; exact a13) hw5 (fun e1 => ?_) (fun e1 => ?_) (fun e1 => ?_) (fun e1 => ?_) (fun e1 => ?_)
    · refine px_P.ret rfl ?_
      exact k S _ h' ⟨fun _ => ⟨T, D, hlf, hD, by rw [a11]⟩, no (by omega), no (by omega), no (by omega), no (by omega), no (by omega)⟩ rf0
    · refine px_P.ret rfl ?_
      refine k S _ h' ⟨no (by omega), fun _ => congrArg nI (ct_congr (fun i hi => ?_)), no (by omega), no (by omega), no (by omega), no (by omega)⟩ rf0
      have := D0_pos (hD i hi)
      by_cases z : dc (sL tt) i = 0
      · rw [decide_eq_false (fun y => this.mp y z), decide_eq_false (fun y => y z)]
      · rw [decide_eq_true (this.mpr z), decide_eq_true z]
    · intro S1 H1 l1 d1 n1 c1 s1 f1 f2 f3 f4 f5
      refine px_P.ret rfl ?_
      exact k S1 _ (fresh S1 H1 l1 d1 n1 c1 s1 f1 f2 f3 f4 f5) ⟨no (by omega), no (by omega), fun _ => ⟨H1, by rw [← a11]; exact f3.1, by rw [f3.2.2.2.1]⟩, no (by omega), no (by omega), no (by omega)⟩ ⟨fun q q1 q2 => f4 q (by omega), f5⟩
    · intro S1 H1 l1 d1 n1 c1 s1 f1 f2 f3 f4 f5
      refine px_P.ret rfl ?_
      exact k S1 _ (fresh S1 H1 l1 d1 n1 c1 s1 f1 f2 f3 f4 f5) ⟨no (by omega), no (by omega), no (by omega), fun _ => ⟨H1, by rw [← a11]; exact f3.1, by rw [f3.2.2.2.2]⟩, no (by omega), no (by omega)⟩ ⟨fun q q1 q2 => f4 q (by omega), f5⟩
    · refine px_P.ret rfl ?_
      refine k S _ h' ⟨no (by omega), no (by omega), no (by omega), no (by omega), fun _ => congrArg nI (ct_congr (fun i hi => ?_)), no (by omega)⟩ rf0
      have hno := la_none a10.1 a11 hi
      unfold lcb
      cases hl : la i with
      | none => exact (decide_eq_false (fun y => y (hno.mp hl))).symm
      | some a =>
        have hne : ¬ tt i = [] := fun y => by rw [hno.mpr y] at hl; cases hl
        exact (decide_eq_true hne).symm
  · have hw5 : w = 5 := (nI_eq (b := 5) (by omega) (by decide)).mp hq
    refine px_P.sn 1 (f1 := (25, [(0, .ref x), (1, .int (nI w))], [.ref x])) (S1 := S) rfl ?_
    refine px_P.gf rfl rfl (by assumption) (v := .ref (x + 432)) rfl ?_
    refine px_P.cv rfl rfl rfl (by assumption) rfl ?_
    show px_M _ px_m_History_size [.ref (x + 432)] S _
    refine pm_hiSize (by omega) a6 ?_
    show px_P _ _ (31, [(0, .ref x), (1, .int (nI w))], [.int (nI hh.length)]) S _
    refine px_P.sn 1 (f1 := (42, [(0, .ref x), (1, .int (nI w))], [.int (nI hh.length)])) (S1 := S) rfl ?_
    refine px_P.ret rfl ?_
    exact k S _ h' ⟨no (by omega), no (by omega), no (by omega), no (by omega), no (by omega), fun _ => rfl⟩ rf0
