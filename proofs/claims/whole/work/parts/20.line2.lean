/-! ===== Line: workOut, findFaults, tellAbout, makers ===== -/
/-- the value that a line's expression comes to -/
def ln_val (s : ln_S) (T : Nat → Int32) : Int32 := if ln_n s = 0 then 0 else xe_ev (ln_st s) T (ln_n s) (ln_n s - 1)
theorem pm_lnWork {d b y tT tD : Nat} {s : ln_S} {D : ln_D} {T : Nat → Int32} {S : px_S} {Q : Option Value → px_S → Prop} (hd : 5 ≤ d) (h : ln_at S b s D) (hy : S.1 y = some (.inr (7, [.ref tT, .ref tD]))) (hT : S.1 tT = some (.inl (0, 208, .inl T))) (hyo : ¬ ln_own b s y) (hTo : ¬ ln_own b s tT)
    (k : ∀ S' V', ln_at S' b s (ln_val s T, V', D.2.2) → (∀ j, j < ln_n s → V' j = xe_ev (ln_st s) T (ln_n s) j) → (∀ q, ¬ ln_own b s q → S'.1 q = S.1 q) → S'.2 = S.2 → Q none S') :
    px_M d px_m_Line_workOut [.ref b, .ref y] S Q := by
  obtain ⟨e, fa, M, K, F, C, P, h1, h2, h3, h4, h5, h6, h7, h8, h9⟩ := h
  have ow : ∀ q, (q = b ∨ (e ≤ q ∧ q < e + 8) ∨ q = fa ∨ q = fa + 1) → ln_own b s q := by
    intro q hq
    rcases h1 with ⟨a1, a2, a3, a4⟩ | ⟨a1, a2, a3, a4⟩
    · exact ⟨by omega, Or.inl ⟨a4, by omega⟩⟩
    · exact ⟨by omega, Or.inr ⟨a4, by omega, by omega⟩⟩
  have sep : (b < e ∨ e + 8 ≤ b) ∧ (fa < e ∨ e + 8 ≤ fa) ∧ (fa + 1 < e ∨ e + 8 ≤ fa + 1) ∧ b ≠ fa ∧ b ≠ fa + 1 := by
    rcases h1 with ⟨a1, a2, a3, a4⟩ | ⟨a1, a2, a3, a4⟩ <;> omega
  have hex := h7.1
  refine px_M.go (by omega) (Nat.le_of_ble_eq_true rfl) ?_
  refine px_P.sn 2 (f1 := (2, [(0, .ref b), (1, .ref y)], [.ref b, .ref b])) (S1 := S) rfl ?_
  refine px_P.gf rfl rfl (by assumption) (v := .ref e) rfl ?_
  refine px_P.sn 1 (f1 := (6, [(0, .ref b), (1, .ref y)], [.ref y, .ref e, .ref b])) (S1 := S) rfl ?_
  refine px_P.cv rfl rfl rfl (by assumption) rfl ?_
  show px_M _ px_m_Expression_workOut [.ref e, .ref y] S _
  refine pm_exprWork (st := ln_st s) (by omega) (by omega) h4 h7 h5 hy hT (fun z => hyo (ow _ (by omega))) (fun z => hTo (ow _ (by omega))) (fun S1 V1 r1 r2 r3 r4 => ?_)
  show px_P _ _ (9, [(0, .ref b), (1, .ref y)], [.int (ln_val s T), .ref b]) S1 _
  have hb1 := (r3 b (by omega)).trans h6
  refine px_P.pf rfl rfl (by assumption) rfl (fun S2 u2 => ?_)
  refine px_P.ret rfl ?_
  obtain ⟨q0, q1, q2, q3, q4, q5, q6, q7⟩ := r1
  refine k S2 V1 ⟨e, fa, M, K, F, C, P, h1, h2, h3, h4, h5, u2.s, ⟨u2.n q0 (by omega), u2.n q1 (by omega), u2.n q2 (by omega), u2.n q3 (by omega), u2.n q4 (by omega), u2.n q5 (by omega), u2.n q6 (by omega), u2.n q7 (by omega)⟩, u2.n ((r3 fa (by omega)).trans h8) (by omega), u2.n ((r3 (fa + 1) (by omega)).trans h9) (by omega)⟩ r2 (fun q hq => ?_) (by rw [u2.t, r4])
  rw [u2.o (fun z => hq (ow _ (Or.inl z))), r3 q (fun z => hq (ow _ (by omega)))]
def ln_mis (s : ln_S) (ty : Int32) : Bool := if ln_dc s = -1 then false else if ln_dc s &&& 16 = 0 then decide (¬ (ty &&& (ln_dc s ^^^ (-1))) &&& (-17) = 0) else false
theorem pm_lnMis {d b : Nat} {s : ln_S} {D : ln_D} {S : px_S} {Q : Option Value → px_S → Prop} (hd : 1 ≤ d) (h : ln_at S b s D) (k : Q (some (.int (bif ln_mis s D.1 then 1 else 0))) S) : px_M d px_m_Line_isMismatch [.ref b] S Q := by
  obtain ⟨e, fa, M, K, F, C, P, h1, h2, h3, h4, h5, h6, h7, h8, h9⟩ := h
  refine px_M.go hd (Nat.le_of_ble_eq_true rfl) ?_
  refine px_P.sn 1 (f1 := (1, [(0, .ref b)], [.ref b])) (S1 := S) rfl ?_
  refine px_P.gf rfl rfl (by assumption) (v := .int (ln_dc s)) rfl ?_
  refine px_P.sn 1 (f1 := (5, [(0, .ref b)], [.int (-1), .int (ln_dc s)])) (S1 := S) rfl ?_
  refine px_P.ic_eq rfl rfl (fun q1 => ?_) (fun q1 => ?_)
  · refine px_P.sn 1 (f1 := (19, [(0, .ref b)], [.int 0])) (S1 := S) rfl ?_
    refine px_P.ret rfl ?_
    rw [show ln_mis s D.1 = false from if_pos q1] at k
    exact k
  · refine px_P.sn 1 (f1 := (9, [(0, .ref b)], [.ref b])) (S1 := S) rfl ?_
    refine px_P.gf rfl rfl (by assumption) (v := .int (ln_dc s)) rfl ?_
    refine px_P.sn 2 (f1 := (15, [(0, .ref b)], [.int ((ln_dc s) &&& 16)])) (S1 := S) rfl ?_
    refine px_P.if_eq rfl rfl (fun q2 => ?_) (fun q2 => ?_)
    · refine px_P.sn 1 (f1 := (21, [(0, .ref b)], [.ref b])) (S1 := S) rfl ?_
      refine px_P.gf rfl rfl (by assumption) (v := .int D.1) rfl ?_
      refine px_P.sn 1 (f1 := (25, [(0, .ref b)], [.ref b, .int D.1])) (S1 := S) rfl ?_
      refine px_P.gf rfl rfl (by assumption) (v := .int (ln_dc s)) rfl ?_
      refine px_P.sn 5 (f1 := (34, [(0, .ref b)], [.int ((D.1 &&& ((ln_dc s) ^^^ (-1))) &&& (-17))])) (S1 := S) rfl ?_
      refine px_P.if_eq rfl rfl (fun q3 => ?_) (fun q3 => ?_)
      · refine px_P.sn 1 (f1 := (42, [(0, .ref b)], [.int 0])) (S1 := S) rfl ?_
        refine px_P.ret rfl ?_
        rw [show ln_mis s D.1 = false from by unfold ln_mis; rw [if_neg q1, if_pos q2]; exact decide_eq_false (fun w => w q3)] at k
        exact k
      · refine px_P.sn 2 (f1 := (42, [(0, .ref b)], [.int 1])) (S1 := S) rfl ?_
        refine px_P.ret rfl ?_
        rw [show ln_mis s D.1 = true from by unfold ln_mis; rw [if_neg q1, if_pos q2]; exact decide_eq_true q3] at k
        exact k
    · refine px_P.sn 1 (f1 := (19, [(0, .ref b)], [.int 0])) (S1 := S) rfl ?_
      refine px_P.ret rfl ?_
      rw [show ln_mis s D.1 = false from by unfold ln_mis; rw [if_neg q1, if_neg q2]] at k
      exact k
theorem xe_fc_congr {st : xe_T} {V D c c' : Nat → Int32} {j : Nat} (h : c j = c' j) : ∀ n, xe_fc st V D c n j = xe_fc st V D c' n j
  | 0 => h
  | n + 1 => by
    unfold xe_fc
    split
    · exact xe_fc_congr h n
    · unfold upd
      split
      · rfl
      · exact xe_fc_congr h n
/-- a line's faults by their places; how many -/
def ln_fc (s : ln_S) (V D : Nat → Int32) (ty : Int32) : Nat → Int32 :=
  if ln_wr s = -1 then (bif ln_mis s ty then upd (xe_fc (ln_st s) V D (fun _ => 0) (ln_n s)) (ln_eq s).toNatClampNeg 5 else xe_fc (ln_st s) V D (fun _ => 0) (ln_n s)) else upd (fun _ => 0) (ln_wr s).toNatClampNeg 1
def ln_fz (s : ln_S) (V D : Nat → Int32) (ty : Int32) : Nat :=
  if ln_wr s = -1 then ct (fun j => decide (¬ xe_f V D (ln_st s j) = -1)) (ln_n s) + (bif ln_mis s ty then 1 else 0) else 1
/-- places are within the line, and apart -/
def ln_ok (s : ln_S) : Prop := (ln_wr s = -1 → (∃ q, q ≤ ln_L s ∧ ln_eq s = nI q ∧ ∀ j, j < ln_n s → (ln_st s j).2.2.2 ≠ q) ∧ (∀ j, j < ln_n s → (ln_st s j).2.2.2 ≤ ln_L s) ∧ ∀ i j, i < j → j < ln_n s → (ln_st s i).2.2.2 ≠ (ln_st s j).2.2.2) ∧ (¬ ln_wr s = -1 → ∃ q, q ≤ ln_L s ∧ ln_wr s = nI q)
theorem xe_fc_free {st : xe_T} {V D c : Nat → Int32} {p : Nat} : ∀ n, (∀ i, i < n → (st i).2.2.2 ≠ p) → xe_fc st V D c n p = c p
  | 0, _ => rfl
  | n + 1, h => by
    unfold xe_fc
    split
    · exact xe_fc_free n (fun i hi => h i (by omega))
    · rw [pk_un (Ne.symm (h n (by omega)))]
      exact xe_fc_free n (fun i hi => h i (by omega))
set_option maxHeartbeats 2000000 in
theorem pm_lnFind {d b y tT tD : Nat} {s : ln_S} {D : ln_D} {Df : Nat → Int32} {S : px_S} {Q : Option Value → px_S → Prop} (hd : 5 ≤ d) (h : ln_at S b s D) (hok : ln_ok s) (hy : S.1 y = some (.inr (7, [.ref tT, .ref tD]))) (hDf : S.1 tD = some (.inl (0, 208, .inl Df))) (hyo : ¬ ln_own b s y) (hDo : ¬ ln_own b s tD)
    (k : ∀ S' cf, ln_at S' b s (D.1, D.2.1, cf, ln_fz s D.2.1 Df D.1) → (∀ j, j ≤ ln_L s → cf j = ln_fc s D.2.1 Df D.1 j) → (∀ q, ¬ ln_own b s q → S'.1 q = S.1 q) → S'.2 = S.2 → Q none S') :
    px_M d px_m_Line_findFaults [.ref b, .ref y] S Q := by
  obtain ⟨e, fa, M, K, F, C, P, h1, h2, h3, h4, h5, h6, h7, h8, h9⟩ := h
  have ow : ∀ q, (q = b ∨ (e ≤ q ∧ q < e + 8) ∨ q = fa ∨ q = fa + 1) → ln_own b s q := by
    intro q hq
    rcases h1 with ⟨a1, a2, a3, a4⟩ | ⟨a1, a2, a3, a4⟩
    · exact ⟨by omega, Or.inl ⟨a4, by omega⟩⟩
    · exact ⟨by omega, Or.inr ⟨a4, by omega, by omega⟩⟩
  have sep : (b < e ∨ e + 8 ≤ b) ∧ (fa < e ∨ e + 8 ≤ fa) ∧ (fa + 1 < e ∨ e + 8 ≤ fa + 1) ∧ b ≠ fa ∧ b ≠ fa + 1 := by
    rcases h1 with ⟨a1, a2, a3, a4⟩ | ⟨a1, a2, a3, a4⟩ <;> omega
  have y1 : y ≠ fa := fun z => hyo (ow _ (by omega))
  have y2 : y ≠ fa + 1 := fun z => hyo (ow _ (by omega))
  have y3 : tD ≠ fa := fun z => hDo (ow _ (by omega))
  have y4 : tD ≠ fa + 1 := fun z => hDo (ow _ (by omega))
  have pack : ∀ (S1 : px_S) (cf : Nat → Int32) (z : Nat), (∀ q, q ≠ fa → q ≠ fa + 1 → S1.1 q = S.1 q) → S1.1 fa = some (.inr (2, [.ref (fa + 1), .int (nI z)])) → S1.1 (fa + 1) = some (.inl (0, ln_L s + 1, .inl cf)) → ln_at S1 b s (D.1, D.2.1, cf, z) := by
    intro S1 cf z hk r8 r9
    obtain ⟨q0, q1, q2, q3, q4, q5, q6, q7⟩ := h7
    exact ⟨e, fa, M, K, F, C, P, h1, h2, h3, h4, h5, (hk _ (by omega) (by omega)).trans h6, ⟨(hk _ (by omega) (by omega)).trans q0, (hk _ (by omega) (by omega)).trans q1, (hk _ (by omega) (by omega)).trans q2, (hk _ (by omega) (by omega)).trans q3, (hk _ (by omega) (by omega)).trans q4, (hk _ (by omega) (by omega)).trans q5, (hk _ (by omega) (by omega)).trans q6, (hk _ (by omega) (by omega)).trans q7⟩, r8, r9⟩
  refine px_M.go (by omega) (Nat.le_of_ble_eq_true rfl) ?_
  refine px_P.sn 1 (f1 := (1, [(0, .ref b), (1, .ref y)], [.ref b])) (S1 := S) rfl ?_
  refine px_P.gf rfl rfl (by assumption) (v := .ref fa) rfl ?_
  refine px_P.cv rfl rfl rfl (by assumption) rfl ?_
  show px_M _ px_m_Faults_clear [.ref fa] S _
  refine pm_faultsClear (by omega) (by omega) (by omega) h8 h9 (fun S1 c1 r1 r2 r3 r4 r5 => ?_)
  have hb1 := (r4 b (by omega) (by omega)).trans h6
  show px_P _ _ (7, [(0, .ref b), (1, .ref y)], []) S1 _
  refine px_P.sn 1 (f1 := (8, [(0, .ref b), (1, .ref y)], [.ref b])) (S1 := S1) rfl ?_
  refine px_P.gf rfl rfl (by assumption) (v := .int (ln_wr s)) rfl ?_
  refine px_P.sn 1 (f1 := (12, [(0, .ref b), (1, .ref y)], [.int (-1), .int (ln_wr s)])) (S1 := S1) rfl ?_
  refine px_P.ic_eq rfl rfl (fun hw => ?_) (fun hw => ?_)
  · obtain ⟨⟨qe, w1, w2, w3⟩, w4, w5⟩ := hok.1 hw
    have he1 : xe_at S1 e M (ln_n s) (ln_W s) K F C P D.2.1 := by
      obtain ⟨q0, q1, q2, q3, q4, q5, q6, q7⟩ := h7
      exact ⟨(r4 _ (by omega) (by omega)).trans q0, (r4 _ (by omega) (by omega)).trans q1, (r4 _ (by omega) (by omega)).trans q2, (r4 _ (by omega) (by omega)).trans q3, (r4 _ (by omega) (by omega)).trans q4, (r4 _ (by omega) (by omega)).trans q5, (r4 _ (by omega) (by omega)).trans q6, (r4 _ (by omega) (by omega)).trans q7⟩
    have he10 := he1.1
    refine px_P.sn 1 (f1 := (29, [(0, .ref b), (1, .ref y)], [.ref b])) (S1 := S1) rfl ?_
    refine px_P.gf rfl rfl (by assumption) (v := .ref e) rfl ?_
    refine px_P.sn 2 (f1 := (34, [(0, .ref b), (1, .ref y)], [.ref b, .ref y, .ref e])) (S1 := S1) rfl ?_
    refine px_P.gf rfl rfl (by assumption) (v := .ref fa) rfl ?_
    refine px_P.cv rfl rfl rfl (by assumption) rfl ?_
    show px_M _ px_m_Expression_findFaults [.ref e, .ref y, .ref fa] S1 _
    refine pm_exprFaults (z := 0) (st := ln_st s) (by omega) (by omega) (by omega) h4 he1 h5 ((r4 y y1 y2).trans hy) ((r4 tD y3 y4).trans hDf) r1 r2 ⟨by omega, by omega, by omega, y1, y2, y3, y4⟩ (fun j hj => Nat.lt_succ_of_le (w4 j hj)) (fun j hj _ => ?_) (fun S2 t1 t2 t3 t4 => ?_)
    · rw [xe_fc_free j (fun i hi => w5 i j hi hj)]
      exact r3 _ (Nat.lt_succ_of_le (w4 j hj))
    rw [Nat.zero_add] at t1
    have hb2 := (t3 b (by omega) (by omega)).trans hb1
    have fr2 : ∀ q, q ≠ fa → q ≠ fa + 1 → S2.1 q = S.1 q := fun q a1 a2 => (t3 q a1 a2).trans (r4 q a1 a2)
    show px_P _ _ (40, [(0, .ref b), (1, .ref y)], []) S2 _
    refine px_P.sn 1 (f1 := (41, [(0, .ref b), (1, .ref y)], [.ref b])) (S1 := S2) rfl ?_
    refine px_P.cv rfl rfl rfl (by assumption) rfl ?_
    show px_M _ px_m_Line_isMismatch [.ref b] S2 _
    refine pm_lnMis (by omega) (pack S2 _ _ fr2 t1 t2) ?_
    have cz : ∀ j, j ≤ ln_L s → xe_fc (ln_st s) D.2.1 Df c1 (ln_n s) j = xe_fc (ln_st s) D.2.1 Df (fun _ => 0) (ln_n s) j := fun j hj => xe_fc_congr (r3 j (Nat.lt_succ_of_le hj)) _
    cases hm : ln_mis s D.1 with
    | false =>
      show px_P _ _ (44, [(0, .ref b), (1, .ref y)], [.int 0]) S2 _
      refine px_P.if_eq rfl rfl (fun _ => ?_) (fun h => absurd (rfl) h)
      refine px_P.ret rfl ?_
      refine k S2 _ (pack S2 _ _ fr2 ?_ t2) (fun j hj => ?_) (fun q hq => fr2 q (fun z => hq (ow _ (by omega))) (fun z => hq (ow _ (by omega)))) (t4.trans r5)
      · unfold ln_fz; rw [if_pos hw, hm]; exact t1
      · rw [cz j hj]; unfold ln_fc; rw [if_pos hw, hm]; rfl
    | true =>
      show px_P _ _ (44, [(0, .ref b), (1, .ref y)], [.int 1]) S2 _
      refine px_P.if_eq rfl rfl (fun h => absurd h ((by decide))) (fun _ => ?_)
      refine px_P.sn 1 (f1 := (48, [(0, .ref b), (1, .ref y)], [.ref b])) (S1 := S2) rfl ?_
      refine px_P.gf rfl rfl (by assumption) (v := .ref fa) rfl ?_
      refine px_P.sn 1 (f1 := (52, [(0, .ref b), (1, .ref y)], [.ref b, .ref fa])) (S1 := S2) rfl ?_
      refine px_P.gf rfl rfl (by assumption) (v := .int (ln_eq s)) rfl ?_
      refine px_P.sn 1 (f1 := (56, [(0, .ref b), (1, .ref y)], [.int 5, .int (ln_eq s), .ref fa])) (S1 := S2) rfl ?_
      rw [w2]
      show px_P _ _ (56, [(0, .ref b), (1, .ref y)], [.int 5, .int ((nI qe)), .ref fa]) S2 _
      refine px_P.cv rfl rfl rfl (by assumption) rfl ?_
      show px_M _ px_m_Faults_add [.ref fa, .int ((nI qe)), .int 5] S2 _
      refine pm_faultsAdd (by omega) (by omega) (by omega) t1 t2 (Nat.lt_succ_of_le w1) ?_ (fun S3 v1 v2 v3 v4 => ?_)
      · rw [xe_fc_free _ w3]; exact r3 _ (Nat.lt_succ_of_le w1)
      show px_P _ _ (59, [(0, .ref b), (1, .ref y)], []) S3 _
      refine px_P.ret rfl ?_
      have fr3 : ∀ q, q ≠ fa → q ≠ fa + 1 → S3.1 q = S.1 q := fun q a1 a2 => (v3 q a1 a2).trans (fr2 q a1 a2)
      rw [nI_1] at v1
      refine k S3 _ (pack S3 _ _ fr3 ?_ v2) (fun j hj => ?_) (fun q hq => fr3 q (fun z => hq (ow _ (by omega))) (fun z => hq (ow _ (by omega)))) (v4.trans (t4.trans r5))
      · unfold ln_fz; rw [if_pos hw, hm]; exact v1
      · unfold ln_fc
        rw [if_pos hw, hm, w2, nI_clamp (by omega)]
        show upd _ qe 5 j = upd _ qe 5 j
        unfold upd
        split
        · rfl
        · exact cz j hj
  · obtain ⟨qw, w1, w2⟩ := hok.2 hw
    refine px_P.sn 1 (f1 := (16, [(0, .ref b), (1, .ref y)], [.ref b])) (S1 := S1) rfl ?_
    refine px_P.gf rfl rfl (by assumption) (v := .ref fa) rfl ?_
    refine px_P.sn 1 (f1 := (20, [(0, .ref b), (1, .ref y)], [.ref b, .ref fa])) (S1 := S1) rfl ?_
    refine px_P.gf rfl rfl (by assumption) (v := .int (ln_wr s)) rfl ?_
    refine px_P.sn 1 (f1 := (24, [(0, .ref b), (1, .ref y)], [.int 1, .int (ln_wr s), .ref fa])) (S1 := S1) rfl ?_
    rw [w2]
    show px_P _ _ (24, [(0, .ref b), (1, .ref y)], [.int 1, .int ((nI qw)), .ref fa]) S1 _
    refine px_P.cv rfl rfl rfl (by assumption) rfl ?_
    show px_M _ px_m_Faults_add [.ref fa, .int ((nI qw)), .int 1] S1 _
    refine pm_faultsAdd (by omega) (by omega) (by omega) r1 r2 (Nat.lt_succ_of_le w1) (r3 _ (Nat.lt_succ_of_le w1)) (fun S3 v1 v2 v3 v4 => ?_)
    show px_P _ _ (27, [(0, .ref b), (1, .ref y)], []) S3 _
    refine px_P.ret rfl ?_
    have fr3 : ∀ q, q ≠ fa → q ≠ fa + 1 → S3.1 q = S.1 q := fun q a1 a2 => (v3 q a1 a2).trans (r4 q a1 a2)
    refine k S3 _ (pack S3 _ _ fr3 ?_ v2) (fun j hj => ?_) (fun q hq => fr3 q (fun z => hq (ow _ (by omega))) (fun z => hq (ow _ (by omega)))) (v4.trans r5)
    · unfold ln_fz; rw [if_neg hw]; exact v1
    · unfold ln_fc
      rw [if_neg hw, w2, nI_clamp (by omega)]
      unfold upd
      split
      · rfl
      · exact r3 j (Nat.lt_succ_of_le hj)
/-- what a line tells of itself -/
def ln_tell (s : ln_S) (D : ln_D) (w : Nat) : Int32 := if w = 0 then nI (ln_L s) else if w = 1 then (if ln_wr s = -1 then 1 else 0) else if w = 2 then (if ln_wr s = -1 then D.1 else -1) else if w = 3 then nI D.2.2.2 else (if ln_wr s = -1 then sbc (ln_W s) 4 else -1)
set_option maxHeartbeats 2000000 in
theorem pm_lnTell {d b w : Nat} {s : ln_S} {D : ln_D} {S : px_S} {Q : Option Value → px_S → Prop} (hd : 3 ≤ d) (hw : w ≤ 4) (h : ln_at S b s D) (k : Q (some (.int (ln_tell s D w))) S) : px_M d px_m_Line_tellAbout [.ref b, .int (nI w)] S Q := by
  obtain ⟨e, fa, M, K, F, C, P, h1, h2, h3, h4, h5, h6, ⟨q0, q1, q2, q3, q4, q5, q6, q7⟩, h8, h9⟩ := h
  refine px_M.go (by omega) (Nat.le_of_ble_eq_true rfl) ?_
  refine px_P.sn 1 (f1 := (1, [(0, .ref b), (1, .int (nI w))], [.int (nI w)])) (S1 := S) rfl ?_
  rcases (show w = 0 ∨ w = 1 ∨ w = 2 ∨ w = 3 ∨ w = 4 by omega) with rfl | rfl | rfl | rfl | rfl
  · refine px_P.sn 1 (f1 := (32, [(0, .ref b), (1, .int (nI 0))], [])) (S1 := S) rfl ?_
    refine px_P.sn 1 (f1 := (33, [(0, .ref b), (1, .int (nI 0))], [.ref b])) (S1 := S) rfl ?_
    refine px_P.gf rfl rfl (by assumption) (v := .int (nI (ln_L s))) rfl ?_
    refine px_P.ret rfl ?_
    exact k
  · refine px_P.sn 1 (f1 := (37, [(0, .ref b), (1, .int (nI 1))], [])) (S1 := S) rfl ?_
    refine px_P.sn 1 (f1 := (38, [(0, .ref b), (1, .int (nI 1))], [.ref b])) (S1 := S) rfl ?_
    refine px_P.gf rfl rfl (by assumption) (v := .int (ln_wr s)) rfl ?_
    refine px_P.sn 1 (f1 := (42, [(0, .ref b), (1, .int (nI 1))], [.int (-1), .int (ln_wr s)])) (S1 := S) rfl ?_
    refine px_P.ic_ne rfl rfl (fun z => ?_) (fun z => ?_)
    · refine px_P.sn 1 (f1 := (50, [(0, .ref b), (1, .int (nI 1))], [.int 0])) (S1 := S) rfl ?_
      refine px_P.ret rfl ?_
      rw [show ln_tell s D 1 = 0 from if_neg z] at k
      exact k
    · refine px_P.sn 2 (f1 := (50, [(0, .ref b), (1, .int (nI 1))], [.int 1])) (S1 := S) rfl ?_
      refine px_P.ret rfl ?_
      rw [show ln_tell s D 1 = 1 from if_pos z] at k
      exact k
  · refine px_P.sn 1 (f1 := (51, [(0, .ref b), (1, .int (nI 2))], [])) (S1 := S) rfl ?_
    refine px_P.sn 1 (f1 := (52, [(0, .ref b), (1, .int (nI 2))], [.ref b])) (S1 := S) rfl ?_
    refine px_P.gf rfl rfl (by assumption) (v := .int (ln_wr s)) rfl ?_
    refine px_P.sn 1 (f1 := (56, [(0, .ref b), (1, .int (nI 2))], [.int (-1), .int (ln_wr s)])) (S1 := S) rfl ?_
    refine px_P.ic_ne rfl rfl (fun z => ?_) (fun z => ?_)
    · refine px_P.sn 1 (f1 := (67, [(0, .ref b), (1, .int (nI 2))], [.int (-1)])) (S1 := S) rfl ?_
      refine px_P.ret rfl ?_
      rw [show ln_tell s D 2 = -1 from if_neg z] at k
      exact k
    · refine px_P.sn 1 (f1 := (60, [(0, .ref b), (1, .int (nI 2))], [.ref b])) (S1 := S) rfl ?_
      refine px_P.gf rfl rfl (by assumption) (v := .int D.1) rfl ?_
      refine px_P.sn 1 (f1 := (67, [(0, .ref b), (1, .int (nI 2))], [.int D.1])) (S1 := S) rfl ?_
      refine px_P.ret rfl ?_
      rw [show ln_tell s D 2 = D.1 from if_pos z] at k
      exact k
  · refine px_P.sn 1 (f1 := (68, [(0, .ref b), (1, .int (nI 3))], [])) (S1 := S) rfl ?_
    refine px_P.sn 1 (f1 := (69, [(0, .ref b), (1, .int (nI 3))], [.ref b])) (S1 := S) rfl ?_
    refine px_P.gf rfl rfl (by assumption) (v := .ref fa) rfl ?_
    refine px_P.cv rfl rfl rfl (by assumption) rfl ?_
    show px_M _ px_m_Faults_size [.ref fa] S _
    refine pm_faultsSize (by omega) h8 ?_
    show px_P _ _ (75, [(0, .ref b), (1, .int (nI 3))], [.int (nI D.2.2.2)]) S _
    refine px_P.ret rfl ?_
    exact k
  · refine px_P.sn 1 (f1 := (76, [(0, .ref b), (1, .int (nI 4))], [])) (S1 := S) rfl ?_
    refine px_P.sn 1 (f1 := (77, [(0, .ref b), (1, .int (nI 4))], [.ref b])) (S1 := S) rfl ?_
    refine px_P.gf rfl rfl (by assumption) (v := .int (ln_wr s)) rfl ?_
    refine px_P.sn 1 (f1 := (81, [(0, .ref b), (1, .int (nI 4))], [.int (-1), .int (ln_wr s)])) (S1 := S) rfl ?_
    refine px_P.ic_ne rfl rfl (fun z => ?_) (fun z => ?_)
    · refine px_P.sn 1 (f1 := (98, [(0, .ref b), (1, .int (nI 4))], [.int (-1)])) (S1 := S) rfl ?_
      refine px_P.ret rfl ?_
      rw [show ln_tell s D 4 = -1 from if_neg z] at k
      exact k
    · refine px_P.sn 1 (f1 := (85, [(0, .ref b), (1, .int (nI 4))], [.ref b])) (S1 := S) rfl ?_
      refine px_P.gf rfl rfl (by assumption) (v := .ref e) rfl ?_
      refine px_P.gf rfl rfl (by assumption) (v := .ref (e + 1)) rfl ?_
      refine px_P.cv rfl rfl rfl (by assumption) rfl ?_
      show px_M _ px_m_SymbolSet_size [.ref (e + 1)] S _
      refine pm_ss_size (by omega) q1 q2 ?_
      show px_P _ _ (94, [(0, .ref b), (1, .int (nI 4))], [.int (sbc (ln_W s) 4)]) S _
      refine px_P.sn 1 (f1 := (98, [(0, .ref b), (1, .int (nI 4))], [.int (sbc (ln_W s) 4)])) (S1 := S) rfl ?_
      refine px_P.ret rfl ?_
      rw [show ln_tell s D 4 = sbc (ln_W s) 4 from if_pos z] at k
      exact k
