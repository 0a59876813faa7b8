/-! ===== the model: a line's value ===== -/
/-- the types that an array of types and one of defined symbols tell -/
def envT (A : Nat → Nat → Int32) (T : Nat → Int32) : Prop := ∀ t, t < 208 → T t = (if A 14 t = 0 then 16 else A 13 t)
def envD (A : Nat → Nat → Int32) (D : Nat → Int32) : Prop := ∀ t, t < 208 → (A 14 t = 0 ↔ D t = 0)
set_option maxRecDepth 20000 in
theorem pm_moValue {d m p n : Nat} {b : Bool} {st : xe_T} {T D : Nat → Int32} {q : Nat → Int32} {A0 : Nat → Nat → Int32} {FL : fl_T} {S : px_S} {Q : Option Value → px_S → Prop} (hd : 4 ≤ d) (hp : p < 96) (h : mo_at S m q A0) (hq2 : q 2 = nI FL.length) (hf : fl A0 FL) (hs : ste A0 p n st) (hok : ∀ j, j < n → xe_ok1 (st j) j) (hg : good st 0 n) (hn : n ≤ 60) (hT : envT A0 T) (hTb : ∀ t, t < 208 → le32 (T t) lF) (hD : envD A0 D) (hFL : FL.length + n ≤ 6000)
    (k : ∀ S' A' t, mo_at S' m (mq2 q (nI (FL ++ (bif b then nts p st T D n else [])).length) t) A' → mF S S' m → fl A' (FL ++ (bif b then nts p st T D n else [])) → (∀ i, i ≠ 15 → i ≠ 16 → i ≠ 17 → i ≠ 25 → A' i = A0 i) → Q (some (.int (xe_ev st T n (n - 1)))) S') : px_M d px_m_Model_value [.ref m, .int (nI p), .int (bif b then 1 else 0)] S Q := by
  have hnT : ∀ j, j ≤ n → ∀ t, nm st j t → le32 (T t) lF := by
    intro j hj t ⟨i, hi, h1, h2⟩
    exact hTb t (by rw [← h2]; exact (hok i (by omega)).2.2.1 h1)
  have bd : ∀ kk, kk < n → ∀ j, j < kk → le32 (xe_ev st T kk j) lF := fun kk hkk j hj => xe_ev_bd (fun i hi => hok i (by omega)) (hnT kk (by omega)) j hj
  obtain ⟨y0, hy0⟩ : ∃ y0 : (Nat → Int32) × Nat, y0 = (fun _ => 0, 0) := ⟨_, rfl⟩
  have gd := hg.2 T y0
  rw [Nat.sub_zero] at gd
  have lp : ∀ (j i : Nat), i + j = n → ∀ (S1 : px_S) (A1 : Nat → Nat → Int32), vS S S1 m q A0 A1 (FL ++ (bif b then nts p st T D i else [])) (vmr st T 0 i y0) → px_P (d - 1) px_m_Model_value (10, [(0, .ref m), (1, .int (nI p)), (2, .int (bif b then 1 else 0)), (3, .int (nI (64 * p + i)))], []) S1 Q := by
    intro j
    induction j with
    | zero =>
      intro i hi S1 A1 h1
      have ei : i = n := by omega
      subst ei
      generalize FL ++ (bif b then nts p st T D i else []) = FL1 at *
      generalize hY : vmr st T 0 i y0 = y at *
      have c1 := h1.1.1
      have r8 : S1.1 (m + 8) = some (.inl (0, 96, .inl (A0 8))) := h1.ar 8 (by decide) (by decide) (by decide) (by decide) (by decide) (by decide)
      have r25 : S1.1 (m + 25) = some (.inl (0, 64, .inl (A1 25))) := h1.1.2 25 (by decide) (by decide)
      refine px_P.sn 5 (f1 := (16, [(0, .ref m), (1, .int (nI p)), (2, .int (bif b then 1 else 0)), (3, .int (nI (64 * p + i)))], [.ref m, .int (64 * (nI p)), .int (nI (64 * p + i))])) (S1 := S1) rfl ?_
      refine px_P.gf rfl rfl (by assumption) (v := .ref (m + 8)) rfl ?_
      refine px_P.sn 1 (f1 := (20, [(0, .ref m), (1, .int (nI p)), (2, .int (bif b then 1 else 0)), (3, .int (nI (64 * p + i)))], [.int (nI p), .ref (m + 8), .int (64 * (nI p)), .int (nI (64 * p + i))])) (S1 := S1) rfl ?_
      refine px_P.ialdj (j := p) rfl (by assumption) rfl (by omega) (by decide) ?_
      rw [hs.1]
      refine px_P.sn 1 (f1 := (22, [(0, .ref m), (1, .int (nI p)), (2, .int (bif b then 1 else 0)), (3, .int (nI (64 * p + i)))], [.int ((64 * (nI p)) + (nI i)), .int (nI (64 * p + i))])) (S1 := S1) rfl ?_
      rw [show (64 : Int32) * nI p + nI i = nI (64 * p + i) by rw [show (64 : Int32) = nI 64 from rfl, pk_mul, nI_add]]
      refine px_P.ic_ge rfl rfl (fun _ => ?_) (fun h => absurd (Int32.le_refl _) h)
      refine px_P.sn 1 (f1 := (372, [(0, .ref m), (1, .int (nI p)), (2, .int (bif b then 1 else 0)), (3, .int (nI (64 * p + i)))], [.ref m])) (S1 := S1) rfl ?_
      refine px_P.gf rfl rfl (by assumption) (v := .ref (m + 25)) rfl ?_
      refine px_P.sn 1 (f1 := (376, [(0, .ref m), (1, .int (nI p)), (2, .int (bif b then 1 else 0)), (3, .int (nI (64 * p + i)))], [.int 0, .ref (m + 25)])) (S1 := S1) rfl ?_
      refine px_P.ialdj (j := 0) rfl (by assumption) rfl (by omega) (by decide) ?_
      have e0 : A1 25 0 = xe_ev st T i (i - 1) := by
        have q1 := gd.2.1
        have q2 := gd.2.2.1
        rw [hy0] at q1 q2
        rw [h1.2.2.2.2 0 (by rw [q1]; exact Nat.lt_succ_self _)]
        exact q2
      rw [e0]
      refine px_P.ret rfl ?_
      exact k S1 A1 _ h1.1 h1.2.1 h1.2.2.1 h1.2.2.2.1
    | succ j ih =>
      intro i hi S1 A1 h1
      have hin : i < n := by omega
      have hst := hs.2 i hin
      have hoki := hok i hin
      have hop := gd.2.2.2 i (Nat.zero_le _) hin
      rw [Nat.sub_zero] at hop
      unfold opk at hop
      have hyl := vmr_le (st := st) (T := T) (y := y0) i
      have hy64 : (vmr st T 0 i y0).2 < 64 := by rw [hy0] at hyl ⊢; simp only at hyl; omega
      have bdi := bd i hin
      have hFi : (FL ++ (bif b then nts p st T D i else [])).length < 6000 := by
        have := nts_le p st T D i
        rw [List.length_append]
        cases b
        · simp only [cond_false, List.length_nil]; omega
        · simp only [cond_true]; omega
      have nx : ∀ (S' : px_S) (A' : Nat → Nat → Int32) (L : fl_T) (kk : Int32), (FL ++ (bif b then nts p st T D i else [])) ++ L = FL ++ (bif b then nts p st T D (i + 1) else []) → vS S S' m q A0 A' ((FL ++ (bif b then nts p st T D i else [])) ++ L) (vm1 T (st i) (vmr st T 0 i y0)) → px_P (d - 1) px_m_Model_value (365, [(0, .ref m), (1, .int (nI p)), (2, .int (bif b then 1 else 0)), (3, .int (nI (64 * p + i))), (4, .int kk)], []) S' Q := by
        intro S' A' L kk e g
        refine px_P.sn 2 (f1 := (10, [(0, .ref m), (1, .int (nI p)), (2, .int (bif b then 1 else 0)), (3, .int ((nI (64 * p + i)) + 1)), (4, .int kk)], [])) (S1 := S') rfl ?_
        show px_P _ _ (10, [(0, .ref m), (1, .int (nI p)), (2, .int (bif b then 1 else 0)), (3, .int ((nI (64 * p + i)) + 1)), (4, .int kk)], []) S' _
        refine px_P.wk (ls := [(0, .ref m), (1, .int (nI p)), (2, .int (bif b then 1 else 0)), (3, .int ((nI (64 * p + i)) + 1))]) rfl (.cons_cons _ (.cons_cons _ (.cons_cons _ (.cons_cons _ (.cons _ .slnil))))) ?_
        rw [nI_1, show 64 * p + i + 1 = 64 * p + (i + 1) by omega]
        refine ih (i + 1) (by omega) S' A' ?_
        rw [← e]
        have e2 : vmr st T 0 (i + 1) y0 = vm1 T (st i) (vmr st T 0 i y0) := by
          show vm1 T (st (0 + i)) _ = _
          rw [Nat.zero_add]
        rw [e2]
        exact g
      have nte : nts p st T D (i + 1) = nts p st T D i ++ (if xe_f (xe_ev st T i) D (st i) = -1 then [] else [(p, (st i).2.2.2, xe_f (xe_ev st T i) D (st i))]) := rfl
      have nx2 : ∀ (c : Bool) (v : Int32), ((c = true → xe_f (xe_ev st T i) D (st i) = v ∧ ¬ v = -1) ∧ (c = false → xe_f (xe_ev st T i) D (st i) = -1)) → (FL ++ (bif b then nts p st T D i else [])) ++ (bif b && c then [(p, (st i).2.2.2, v)] else []) = FL ++ (bif b then nts p st T D (i + 1) else []) := by
        intro c v ⟨z1, z2⟩
        rw [nte]
        cases b with
        | false => simp
        | true =>
          cases c with
          | false => rw [z2 rfl]; simp
          | true =>
            obtain ⟨w1, w2⟩ := z1 rfl
            rw [w1, if_neg w2]; simp
      generalize FL ++ (bif b then nts p st T D i else []) = FL1 at *
      generalize vmr st T 0 i y0 = y at *
      generalize xe_ev st T i = V at *
      generalize hq4 : st i = q4 at *
      obtain ⟨kd, fs, sc, pl⟩ := q4
      obtain ⟨s9, s10, s11⟩ := hst
      obtain ⟨o1, o2, o3, o4, o5, o6⟩ := hoki
      obtain ⟨p1, p2⟩ := hop
      dsimp only at s9 s10 s11 o1 o2 o3 o4 o5 o6 p1 p2 nx2
      have c1 := h1.1.1
      have r8 : S1.1 (m + 8) = some (.inl (0, 96, .inl (A0 8))) := h1.ar 8 (by decide) (by decide) (by decide) (by decide) (by decide) (by decide)
      have r9 : S1.1 (m + 9) = some (.inl (0, 6144, .inl (A0 9))) := h1.ar 9 (by decide) (by decide) (by decide) (by decide) (by decide) (by decide)
      refine px_P.sn 5 (f1 := (16, [(0, .ref m), (1, .int (nI p)), (2, .int (bif b then 1 else 0)), (3, .int (nI (64 * p + i)))], [.ref m, .int (64 * (nI p)), .int (nI (64 * p + i))])) (S1 := S1) rfl ?_
      refine px_P.gf rfl rfl (by assumption) (v := .ref (m + 8)) rfl ?_
      refine px_P.sn 1 (f1 := (20, [(0, .ref m), (1, .int (nI p)), (2, .int (bif b then 1 else 0)), (3, .int (nI (64 * p + i)))], [.int (nI p), .ref (m + 8), .int (64 * (nI p)), .int (nI (64 * p + i))])) (S1 := S1) rfl ?_
      refine px_P.ialdj (j := p) rfl (by assumption) rfl (by omega) (by decide) ?_
      rw [hs.1]
      refine px_P.sn 1 (f1 := (22, [(0, .ref m), (1, .int (nI p)), (2, .int (bif b then 1 else 0)), (3, .int (nI (64 * p + i)))], [.int ((64 * (nI p)) + (nI n)), .int (nI (64 * p + i))])) (S1 := S1) rfl ?_
      rw [show (64 : Int32) * nI p + nI n = nI (64 * p + n) by rw [show (64 : Int32) = nI 64 from rfl, pk_mul, nI_add]]
      refine px_P.ic_ge rfl rfl (fun h => absurd h (nI_ge (by omega) (by omega))) (fun _ => ?_)
      refine px_P.sn 1 (f1 := (26, [(0, .ref m), (1, .int (nI p)), (2, .int (bif b then 1 else 0)), (3, .int (nI (64 * p + i)))], [.ref m])) (S1 := S1) rfl ?_
      refine px_P.gf rfl rfl (by assumption) (v := .ref (m + 9)) rfl ?_
      refine px_P.sn 1 (f1 := (30, [(0, .ref m), (1, .int (nI p)), (2, .int (bif b then 1 else 0)), (3, .int (nI (64 * p + i)))], [.int (nI (64 * p + i)), .ref (m + 9)])) (S1 := S1) rfl ?_
      refine px_P.ialdj (j := 64 * p + i) rfl (by assumption) rfl (by omega) (by decide) ?_
      rw [s9]
      refine px_P.sn 1 (f1 := (33, [(0, .ref m), (1, .int (nI p)), (2, .int (bif b then 1 else 0)), (3, .int (nI (64 * p + i))), (4, .int (nI (kd + 1)))], [])) (S1 := S1) rfl ?_
      by_cases h2 : kd < 2
      · have h01 : kd = 0 ∨ kd = 1 := by omega
        rcases h01 with h0 | h0
        · subst h0
          have e : vm1 T (0, fs, sc, pl) y = (upd y.1 y.2 (1 <<< (nI fs &&& 31)), y.2 + 1) := rfl
          refine vl_form h1 hy64 (by omega) s10 (fun S2 A2 h3 => ?_)
          refine nx S2 A2 (bif b && false then [(p, pl, 0)] else []) 1 (nx2 false 0 ⟨fun z => (by cases z), fun _ => rfl⟩) ?_
          rw [e, Bool.and_false, cond_false, List.append_nil]
          exact h3
        · subst h0
          have hfs := o3 rfl
          have e : vm1 T (1, fs, sc, pl) y = (upd y.1 y.2 (T fs), y.2 + 1) := rfl
          refine vl_sym (by omega) h1 hy64 (by omega) hfs s10 (s11 (by decide)) hFi (fun S2 A2 h3 => ?_)
          refine nx S2 A2 _ 2 (nx2 (decide (A0 14 fs = 0)) 2 ⟨fun z => ?_, fun z => ?_⟩) ?_
          · show (if D fs = 0 then (2 : Int32) else -1) = 2 ∧ _
            rw [if_pos ((hD fs hfs).mp (of_decide_eq_true z))]
            exact ⟨rfl, by decide⟩
          · show (if D fs = 0 then (2 : Int32) else -1) = -1
            rw [if_neg (fun w => of_decide_eq_false z ((hD fs hfs).mpr w))]
          · rw [e, hT fs hfs]
            exact h3
      · by_cases h6 : kd < 6
        · obtain ⟨t1, t2⟩ := p1 (by omega) h6
          have e : vm1 T (kd, fs, sc, pl) y = (upd y.1 (y.2 - 1) (xe_v (fun _ => y.1 (y.2 - 1)) T (kd, fs, sc, pl)), y.2) := by
            unfold vm1
            rw [if_neg h2, if_pos h6]
          refine vl_un (T := T) (kd := kd) (fs := fs) (l := sc) (pl := pl) (by omega) h1 t1 hy64 (by omega) (by omega) h6 (fun z => by have := o5 z; omega) (by rw [t2]; exact bdi fs (o4 (by omega))) s10 s11 hFi (fun S2 A2 h3 => ?_)
          refine nx S2 A2 _ _ (nx2 (decide (kd = 3) && fm_unL (y.1 (y.2 - 1))) 3 ⟨fun z => ?_, fun z => ?_⟩) ?_
          · rw [Bool.and_eq_true, decide_eq_true_eq] at z
            have z1 := z.1
            subst z1
            show (bif fm_unL (V fs) then (3 : Int32) else -1) = 3 ∧ _
            rw [← t2, z.2]
            exact ⟨rfl, by decide⟩
          · unfold xe_f
            dsimp only
            rw [if_neg (by omega)]
            by_cases z3 : kd = 3
            · rw [if_pos z3, ← t2]
              rw [decide_eq_true z3, Bool.true_and] at z
              rw [z]
              rfl
            · rw [if_neg z3, if_neg (by omega)]
          · rw [e]
            exact h3
        · obtain ⟨t1, t2, t3⟩ := p2 (by omega)
          have hk : kd = 6 ∨ kd = 7 := by omega
          have e : vm1 T (kd, fs, sc, pl) y = (upd y.1 (y.2 - 2) (if kd = 6 then y.1 (y.2 - 2) ||| y.1 (y.2 - 1) else fm_sum (y.1 (y.2 - 2)) (y.1 (y.2 - 1))), y.2 - 1) := by
            unfold vm1
            rw [if_neg h2, if_neg h6]
          refine vl_bin (by omega) h1 t1 hy64 (by omega) hk (by rw [t2]; exact bdi fs (o4 (by omega))) (by rw [t3]; exact bdi sc (o6 (by omega))) (s11 (by omega)) hFi (fun S2 A2 h3 => ?_)
          refine nx S2 A2 _ _ (nx2 (decide (kd = 7) && fm_sumL (y.1 (y.2 - 2)) (y.1 (y.2 - 1))) 4 ⟨fun z => ?_, fun z => ?_⟩) ?_
          · rw [Bool.and_eq_true, decide_eq_true_eq] at z
            have z1 := z.1
            subst z1
            show (bif fm_sumL (V fs) (V sc) then (4 : Int32) else -1) = 4 ∧ _
            rw [← t2, ← t3, z.2]
            exact ⟨rfl, by decide⟩
          · unfold xe_f
            dsimp only
            rw [if_neg (by omega), if_neg (by omega)]
            by_cases z3 : kd = 7
            · rw [if_pos z3, ← t2, ← t3]
              rw [decide_eq_true z3, Bool.true_and] at z
              rw [z]
              rfl
            · rw [if_neg z3]
          · rw [e]
            exact h3
  have c0 := h.1
  refine px_M.go (by omega) (Nat.le_of_ble_eq_true rfl) ?_
  refine px_P.sn 2 (f1 := (2, [(0, .ref m), (1, .int (nI p)), (2, .int (bif b then 1 else 0))], [.int 0, .ref m])) (S1 := S) rfl ?_
  refine px_P.pf rfl rfl (by assumption) rfl (fun S1 u1 => ?_)
  refine px_P.sn 4 (f1 := (10, [(0, .ref m), (1, .int (nI p)), (2, .int (bif b then 1 else 0)), (3, .int (64 * (nI p)))], [])) (S1 := S1) rfl ?_
  rw [show (64 : Int32) * nI p = nI (64 * p + 0) by rw [show (64 : Int32) = nI 64 from rfl, pk_mul, Nat.add_zero]]
  refine lp n 0 (by omega) S1 A0 ⟨?_, mF.u (Nat.le_refl _) (by omega) u1, ?_, fun _ _ _ _ _ => rfl, fun j hj => ?_⟩
  · rw [show FL ++ (bif b then nts p st T D 0 else []) = FL by cases b <;> simp [nts]]
    refine h.ob ?_
    have e : mo_ob m (mq2 q (nI FL.length) (nI (vmr st T 0 0 y0).2)) = mo_ob m (upd q 8 0) := by
      rw [← hq2, hy0]
      rfl
    rw [e]
    exact u1
  · rw [show FL ++ (bif b then nts p st T D 0 else []) = FL by cases b <;> simp [nts]]
    exact hf
  · rw [hy0] at hj
    exact absurd hj (Nat.not_lt_zero _)
