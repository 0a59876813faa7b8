/-! ===== Workspace: what it tells ===== -/
/-- how many faults a line has that is told right -/
theorem xe_fc_ct {st : xe_T} {V D : Nat → Int32} {N : Nat} : ∀ {n : Nat}, (∀ j, j < n → (st j).2.2.2 < N) → (∀ i j, i < j → j < n → (st i).2.2.2 ≠ (st j).2.2.2) → ct (fun j => decide (¬ xe_fc st V D (fun _ => 0) n j = 0)) N = ct (fun j => decide (¬ xe_f V D (st j) = -1)) n
  | 0, _, _ => ct_zero.mpr (fun i _ => by simp [xe_fc])
  | n + 1, h1, h2 => by
    have ih := xe_fc_ct (V := V) (D := D) (N := N) (n := n) (fun j hj => h1 j (by omega)) (fun i j hi hj => h2 i j hi (by omega))
    by_cases e : xe_f V D (st n) = -1
    · rw [ct_z (decide_eq_false (fun z => z e)), ← ih, show xe_fc st V D (fun _ => 0) (n + 1) = xe_fc st V D (fun _ => 0) n from if_pos e]
    · rw [ct_s (decide_eq_true e), ← ih, show xe_fc st V D (fun _ => 0) (n + 1) = _ from if_neg e]
      have hne : ¬ xe_f V D (st n) = 0 := by
        unfold xe_f
        repeat' split
        all_goals first | decide | (cases fm_unL (V (st n).2.1) <;> decide) | (cases fm_sumL (V (st n).2.1) (V (st n).2.2.1) <;> decide)
      rw [ct_put (q := fun j => decide (¬ xe_fc st V D (fun _ => 0) n j = 0)) (t := (st n).2.2.2) ?_ ?_ ?_, if_pos (h1 n (by omega))]
      · exact decide_eq_false (fun z => z (xe_fc_free n (fun i hi => h2 i n hi (by omega))))
      · rw [pk_us]; exact decide_eq_true hne
      · intro i hi; rw [pk_un hi]
theorem ln_fz_ct {s : ln_S} {V D : Nat → Int32} {ty : Int32} (h : ln_ok s) (hL : ln_L s ≤ 60) : ln_fz s V D ty = ct (fun j => decide (¬ ln_fc s V D ty j = 0)) (ln_L s + 1) := by
  unfold ln_fz ln_fc
  by_cases hw : ln_wr s = -1
  · obtain ⟨⟨q, q1, q2, q3⟩, q4, q5⟩ := h.1 hw
    have e := xe_fc_ct (st := ln_st s) (V := V) (D := D) (N := ln_L s + 1) (n := ln_n s) (fun j hj => by have := q4 j hj; omega) q5
    rw [if_pos hw, ← e]
    simp only [if_pos hw]
    cases ln_mis s ty with
    | false => rfl
    | true =>
      simp only [cond_true]
      rw [q2, nI_clamp (by omega)]
      rw [ct_put (q := fun j => decide (¬ xe_fc (ln_st s) V D (fun _ => 0) (ln_n s) j = 0)) (q' := fun j => decide (¬ upd (xe_fc (ln_st s) V D (fun _ => 0) (ln_n s)) q 5 j = 0)) (t := q) ?_ ?_ ?_, if_pos (by omega)]
      · exact decide_eq_false (fun z => z (xe_fc_free _ q3))
      · rw [pk_us]; decide
      · intro i hi; rw [pk_un hi]
  · obtain ⟨q, q1, q2⟩ := h.2 hw
    rw [if_neg hw]
    simp only [if_neg hw]
    rw [q2, nI_clamp (by omega)]
    rw [ct_put (q := fun _ => false) (q' := fun j => decide (¬ upd (fun _ => 0) q 1 j = 0)) (t := q) rfl ?_ ?_, if_pos (by omega), ct_zero.mpr (fun _ _ => rfl)]
    · rw [pk_us]; decide
    · intro i hi; rw [pk_un hi]; rfl
/-- the code at place j of the line at p; how many -/
def fcd (s : ln_S) (T D : Nat → Int32) (j : Nat) : Int32 := ln_fc s (xe_ev (ln_st s) T (ln_n s)) D (ln_val s T) j
def fzd (s : ln_S) (T D : Nat → Int32) : Nat := ln_fz s (xe_ev (ln_st s) T (ln_n s)) D (ln_val s T)
def fzp (L : Nat → Option ln_S) (T D : Nat → Int32) (p : Nat) : Nat := match L p with
  | some s => fzd s T D
  | none => 0
def sm (f : Nat → Nat) : Nat → Nat
  | 0 => 0
  | n + 1 => sm f n + f n
theorem fzd_le {s : ln_S} {T D : Nat → Int32} (h : ln_ok s) (hL : ln_L s ≤ 60) : fzd s T D ≤ 61 := by
  unfold fzd
  rw [ln_fz_ct h hL]
  have := ct_le (fun j => decide (¬ ln_fc s (xe_ev (ln_st s) T (ln_n s)) D (ln_val s T) j = 0)) (ln_L s + 1)
  omega
theorem lo_len {S : px_S} {lo a : Nat} {G : ln_G} {s : ln_S} {E : ln_D} (h : lo_at S lo G) (hg : G a = some (s, E)) : ln_L s ≤ 60 := by
  obtain ⟨e, fa, M, K, F, C, P, h1, h2, h3, _⟩ := (h.1 a s E hg).1
  exact h3
theorem pm_wsFaultCount {d w tz lo : Nat} {la : Nat → Option Nat} {T D lk wt to : Nat → Int32} {tW : Nat → Int64} {old : Int32} {G : ln_G} {S : px_S} {Q : Option Value → px_S → Prop} (hd : 2 ≤ d) (h : ws_at S w la T D lk wt tW to tz old) (hlo : lo_at S lo G) (hI : wsI la G T D)
    (k : Q (some (.int (nI (sm (fzp (sp la G) T D) 96)))) S) : px_M d px_m_Workspace_faultCount [.ref w] S Q := by
  obtain ⟨h0, h1, h2, h3, h4, h5, h6, h7, h8, h9⟩ := h
  have lp := px_for (d := d - 1) (mi := px_m_Workspace_faultCount) (Q := Q) (X := Unit) 96 (fun i _ => (4, [(0, .ref w), (1, .int (nI (sm (fzp (sp la G) T D) i))), (2, .int (nI i))], []))
    (fun i _ S1 => S1 = S)
    (by
      intro i hi _ S1 e ih
      subst e
      have ih := ih () S1 rfl
      refine px_P.sn 2 (f1 := (7, [(0, .ref w), (1, .int (nI (sm (fzp (sp la G) T D) i))), (2, .int (nI i))], [.int 96, .int (nI i)])) (S1 := S1) rfl ?_
      refine px_P.ic_ge rfl rfl (fun h => absurd h (nI_ge (b := 96) hi (by decide))) (fun _ => ?_)
      refine px_P.sn 1 (f1 := (11, [(0, .ref w), (1, .int (nI (sm (fzp (sp la G) T D) i))), (2, .int (nI i))], [.ref w])) (S1 := S1) rfl ?_
      refine px_P.gf rfl rfl (by assumption) (v := .ref (w + 1)) rfl ?_
      refine px_P.sn 1 (f1 := (15, [(0, .ref w), (1, .int (nI (sm (fzp (sp la G) T D) i))), (2, .int (nI i))], [.int (nI i), .ref (w + 1)])) (S1 := S1) rfl ?_
      refine px_P.aaldj (j := i) rfl (by assumption) rfl rfl (by omega) (by decide) ?_
      cases hl : la i with
      | none =>
        show px_P _ _ (16, [(0, .ref w), (1, .int (nI (sm (fzp (sp la G) T D) i))), (2, .int (nI i))], [.null]) S1 _
        refine px_P.sn 5 (f1 := (4, [(0, .ref w), (1, .int (nI (sm (fzp (sp la G) T D) i))), (2, .int ((nI i) + 1)), (3, .null)], [])) (S1 := S1) rfl ?_
        show px_P _ _ (4, [(0, .ref w), (1, .int (nI (sm (fzp (sp la G) T D) i))), (2, .int ((nI i) + 1)), (3, .null)], []) S1 _
        refine px_P.wk (ls := [(0, .ref w), (1, .int (nI (sm (fzp (sp la G) T D) i))), (2, .int ((nI i) + 1))]) rfl (.cons_cons _ (.cons_cons _ (.cons_cons _ (.cons _ .slnil)))) ?_
        rw [nI_1]
        have e : sm (fzp (sp la G) T D) (i + 1) = sm (fzp (sp la G) T D) i := by
          show _ + fzp (sp la G) T D i = _
          unfold fzp
          rw [sp_n hl]; rfl
        rw [e] at ih
        exact ih
      | some b =>
        obtain ⟨s, E, hg⟩ := hI.1 i b hi hl
        obtain ⟨l1, l2, l3⟩ := hlo.1 b s E hg
        obtain ⟨fs, hb⟩ := hlo.cell hg
        show px_P _ _ (16, [(0, .ref w), (1, .int (nI (sm (fzp (sp la G) T D) i))), (2, .int (nI i))], [.ref b]) S1 _
        refine px_P.sn 5 (f1 := (23, [(0, .ref w), (1, .int (nI (sm (fzp (sp la G) T D) i))), (2, .int (nI i)), (3, .ref b)], [.ref b, .int (nI (sm (fzp (sp la G) T D) i))])) (S1 := S1) rfl ?_
        refine px_P.cv rfl rfl rfl (by assumption) rfl ?_
        show px_M _ px_m_Line_faults [.ref b] S1 _
        refine pm_lnFaults (by omega) l1 (fun fa f1 f2 => ?_)
        show px_P _ _ (26, [(0, .ref w), (1, .int (nI (sm (fzp (sp la G) T D) i))), (2, .int (nI i)), (3, .ref b)], [.ref fa, .int (nI (sm (fzp (sp la G) T D) i))]) S1 _
        refine px_P.cv rfl rfl rfl (by assumption) rfl ?_
        show px_M _ px_m_Faults_size [.ref fa] S1 _
        refine pm_faultsSize (by omega) f1 ?_
        show px_P _ _ (29, [(0, .ref w), (1, .int (nI (sm (fzp (sp la G) T D) i))), (2, .int (nI i)), (3, .ref b)], [.int (nI E.2.2.2), .int (nI (sm (fzp (sp la G) T D) i))]) S1 _
        refine px_P.sn 4 (f1 := (4, [(0, .ref w), (1, .int ((nI (sm (fzp (sp la G) T D) i)) + (nI E.2.2.2))), (2, .int ((nI i) + 1)), (3, .ref b)], [])) (S1 := S1) rfl ?_
        show px_P _ _ (4, [(0, .ref w), (1, .int ((nI (sm (fzp (sp la G) T D) i)) + (nI E.2.2.2))), (2, .int ((nI i) + 1)), (3, .ref b)], []) S1 _
        refine px_P.wk (ls := [(0, .ref w), (1, .int ((nI (sm (fzp (sp la G) T D) i)) + (nI E.2.2.2))), (2, .int ((nI i) + 1))]) rfl (.cons_cons _ (.cons_cons _ (.cons_cons _ (.cons _ .slnil)))) ?_
        rw [nI_1, nI_add]
        have e : sm (fzp (sp la G) T D) (i + 1) = sm (fzp (sp la G) T D) i + E.2.2.2 := by
          show _ + fzp (sp la G) T D i = _
          unfold fzp
          rw [sp_s hl hg]
          rw [(hI.2.2.2 i b s E hi hl hg).2.2]; rfl
        rw [e] at ih
        exact ih)
    (by
      intro _ S1 e
      subst e
      refine px_P.sn 2 (f1 := (7, [(0, .ref w), (1, .int (nI (sm (fzp (sp la G) T D) 96))), (2, .int (nI 96))], [.int 96, .int (nI 96)])) (S1 := S1) rfl ?_
      refine px_P.ic_ge rfl rfl (fun _ => ?_) (fun h => absurd (nI_le (a := 96) (by omega) (by omega)) h)
      refine px_P.sn 1 (f1 := (38, [(0, .ref w), (1, .int (nI (sm (fzp (sp la G) T D) 96))), (2, .int (nI 96))], [.int (nI (sm (fzp (sp la G) T D) 96))])) (S1 := S1) rfl ?_
      refine px_P.ret rfl ?_
      exact k)
  refine px_M.go (by omega) (Nat.le_of_ble_eq_true rfl) ?_
  refine px_P.sn 4 (f1 := (4, [(0, .ref w), (1, .int 0), (2, .int 0)], [])) (S1 := S) rfl ?_
  exact lp 96 0 rfl () S rfl
def lcb (la : Nat → Option Nat) (p : Nat) : Bool := match la p with
  | some _ => true
  | none => false
theorem pm_wsLineCount {d w tz : Nat} {la : Nat → Option Nat} {T D lk wt to : Nat → Int32} {tW : Nat → Int64} {old : Int32} {S : px_S} {Q : Option Value → px_S → Prop} (hd : 1 ≤ d) (h : ws_at S w la T D lk wt tW to tz old)
    (k : Q (some (.int (nI (ct (lcb la) 96)))) S) : px_M d px_m_Workspace_lineCount [.ref w] S Q := by
  obtain ⟨h0, h1, h2, h3, h4, h5, h6, h7, h8, h9⟩ := h
  have lp := px_for (d := d - 1) (mi := px_m_Workspace_lineCount) (Q := Q) (X := Unit) 96 (fun i _ => (4, [(0, .ref w), (1, .int (nI (ct (lcb la) i))), (2, .int (nI i))], []))
    (fun i _ S1 => S1 = S)
    (by
      intro i hi _ S1 e ih
      subst e
      have ih := ih () S1 rfl
      refine px_P.sn 2 (f1 := (7, [(0, .ref w), (1, .int (nI (ct (lcb la) i))), (2, .int (nI i))], [.int 96, .int (nI i)])) (S1 := S1) rfl ?_
      refine px_P.ic_ge rfl rfl (fun h => absurd h (nI_ge (b := 96) hi (by decide))) (fun _ => ?_)
      refine px_P.sn 1 (f1 := (11, [(0, .ref w), (1, .int (nI (ct (lcb la) i))), (2, .int (nI i))], [.ref w])) (S1 := S1) rfl ?_
      refine px_P.gf rfl rfl (by assumption) (v := .ref (w + 1)) rfl ?_
      refine px_P.sn 1 (f1 := (15, [(0, .ref w), (1, .int (nI (ct (lcb la) i))), (2, .int (nI i))], [.int (nI i), .ref (w + 1)])) (S1 := S1) rfl ?_
      refine px_P.aaldj (j := i) rfl (by assumption) rfl rfl (by omega) (by decide) ?_
      cases hl : la i with
      | none =>
        show px_P _ _ (16, [(0, .ref w), (1, .int (nI (ct (lcb la) i))), (2, .int (nI i))], [.null]) S1 _
        refine px_P.sn 3 (f1 := (4, [(0, .ref w), (1, .int (nI (ct (lcb la) i))), (2, .int ((nI i) + 1))], [])) (S1 := S1) rfl ?_
        rw [nI_1]
        rw [ct_z (show lcb la i = false by simp [lcb, hl])] at ih
        exact ih
      | some b =>
        show px_P _ _ (16, [(0, .ref w), (1, .int (nI (ct (lcb la) i))), (2, .int (nI i))], [.ref b]) S1 _
        refine px_P.sn 4 (f1 := (4, [(0, .ref w), (1, .int ((nI (ct (lcb la) i)) + 1)), (2, .int ((nI i) + 1))], [])) (S1 := S1) rfl ?_
        rw [nI_1, nI_1]
        rw [ct_s (show lcb la i = true by simp [lcb, hl])] at ih
        exact ih)
    (by
      intro _ S1 e
      subst e
      refine px_P.sn 2 (f1 := (7, [(0, .ref w), (1, .int (nI (ct (lcb la) 96))), (2, .int (nI 96))], [.int 96, .int (nI 96)])) (S1 := S1) rfl ?_
      refine px_P.ic_ge rfl rfl (fun _ => ?_) (fun h => absurd (nI_le (a := 96) (by omega) (by omega)) h)
      refine px_P.sn 1 (f1 := (29, [(0, .ref w), (1, .int (nI (ct (lcb la) 96))), (2, .int (nI 96))], [.int (nI (ct (lcb la) 96))])) (S1 := S1) rfl ?_
      refine px_P.ret rfl ?_
      exact k)
  refine px_M.go (by omega) (Nat.le_of_ble_eq_true rfl) ?_
  refine px_P.sn 4 (f1 := (4, [(0, .ref w), (1, .int 0), (2, .int 0)], [])) (S1 := S) rfl ?_
  exact lp 96 0 rfl () S rfl
def rdb (L : Nat → Option ln_S) (t p : Nat) : Bool := match L p with
  | some s => ss_in (ln_W s) t
  | none => false
theorem pm_wsReaders {d w tz lo t : Nat} {la : Nat → Option Nat} {T D lk wt to : Nat → Int32} {tW : Nat → Int64} {old : Int32} {G : ln_G} {S : px_S} {Q : Option Value → px_S → Prop} (hd : 3 ≤ d) (h : ws_at S w la T D lk wt tW to tz old) (hlo : lo_at S lo G) (hla : la_ok la G 96) (ht : t < 208)
    (k : Q (some (.int (nI (ct (rdb (sp la G) t) 96)))) S) : px_M d px_m_Workspace_readersOf [.ref w, .int (nI t)] S Q := by
  obtain ⟨h0, h1, h2, h3, h4, h5, h6, h7, h8, h9⟩ := h
  have lp := px_for (d := d - 1) (mi := px_m_Workspace_readersOf) (Q := Q) (X := Unit) 96 (fun i _ => (4, [(0, .ref w), (1, .int (nI t)), (2, .int (nI (ct (rdb (sp la G) t) i))), (3, .int (nI i))], []))
    (fun i _ S1 => S1 = S)
    (by
      intro i hi _ S1 e ih
      subst e
      have ih := ih () S1 rfl
      refine px_P.sn 2 (f1 := (7, [(0, .ref w), (1, .int (nI t)), (2, .int (nI (ct (rdb (sp la G) t) i))), (3, .int (nI i))], [.int 96, .int (nI i)])) (S1 := S1) rfl ?_
      refine px_P.ic_ge rfl rfl (fun h => absurd h (nI_ge (b := 96) hi (by decide))) (fun _ => ?_)
      refine px_P.sn 1 (f1 := (11, [(0, .ref w), (1, .int (nI t)), (2, .int (nI (ct (rdb (sp la G) t) i))), (3, .int (nI i))], [.ref w])) (S1 := S1) rfl ?_
      refine px_P.gf rfl rfl (by assumption) (v := .ref (w + 1)) rfl ?_
      refine px_P.sn 1 (f1 := (15, [(0, .ref w), (1, .int (nI t)), (2, .int (nI (ct (rdb (sp la G) t) i))), (3, .int (nI i))], [.int (nI i), .ref (w + 1)])) (S1 := S1) rfl ?_
      refine px_P.aaldj (j := i) rfl (by assumption) rfl rfl (by omega) (by decide) ?_
      cases hl : la i with
      | none =>
        show px_P _ _ (16, [(0, .ref w), (1, .int (nI t)), (2, .int (nI (ct (rdb (sp la G) t) i))), (3, .int (nI i))], [.null]) S1 _
        refine px_P.sn 5 (f1 := (4, [(0, .ref w), (1, .int (nI t)), (2, .int (nI (ct (rdb (sp la G) t) i))), (3, .int ((nI i) + 1)), (4, .null)], [])) (S1 := S1) rfl ?_
        show px_P _ _ (4, [(0, .ref w), (1, .int (nI t)), (2, .int (nI (ct (rdb (sp la G) t) i))), (3, .int ((nI i) + 1)), (4, .null)], []) S1 _
        refine px_P.wk (ls := [(0, .ref w), (1, .int (nI t)), (2, .int (nI (ct (rdb (sp la G) t) i))), (3, .int ((nI i) + 1))]) rfl (.cons_cons _ (.cons_cons _ (.cons_cons _ (.cons_cons _ (.cons _ .slnil))))) ?_
        rw [nI_1]
        rw [ct_z (show rdb (sp la G) t i = false by simp [rdb, sp_n hl])] at ih
        exact ih
      | some b =>
        obtain ⟨s, E, hg⟩ := hla i b hi hl
        obtain ⟨l1, l2, l3⟩ := hlo.1 b s E hg
        obtain ⟨fs, hb⟩ := hlo.cell hg
        show px_P _ _ (16, [(0, .ref w), (1, .int (nI t)), (2, .int (nI (ct (rdb (sp la G) t) i))), (3, .int (nI i))], [.ref b]) S1 _
        refine px_P.sn 5 (f1 := (26, [(0, .ref w), (1, .int (nI t)), (2, .int (nI (ct (rdb (sp la G) t) i))), (3, .int (nI i)), (4, .ref b)], [.int (nI t), .ref b])) (S1 := S1) rfl ?_
        refine px_P.cv rfl rfl rfl (by assumption) rfl ?_
        show px_M _ px_m_Line_reads [.ref b, .int (nI t)] S1 _
        refine pm_lnReads (by omega) l1 ?_
        rw [ss_hs_in ht]
        cases hr : ss_in (ln_W s) t with
        | false =>
          show px_P _ _ (29, [(0, .ref w), (1, .int (nI t)), (2, .int (nI (ct (rdb (sp la G) t) i))), (3, .int (nI i)), (4, .ref b)], [.int 0]) S1 _
          refine px_P.if_eq rfl rfl (fun _ => ?_) (fun h => absurd (rfl) h)
          refine px_P.sn 2 (f1 := (4, [(0, .ref w), (1, .int (nI t)), (2, .int (nI (ct (rdb (sp la G) t) i))), (3, .int ((nI i) + 1)), (4, .ref b)], [])) (S1 := S1) rfl ?_
          show px_P _ _ (4, [(0, .ref w), (1, .int (nI t)), (2, .int (nI (ct (rdb (sp la G) t) i))), (3, .int ((nI i) + 1)), (4, .ref b)], []) S1 _
          refine px_P.wk (ls := [(0, .ref w), (1, .int (nI t)), (2, .int (nI (ct (rdb (sp la G) t) i))), (3, .int ((nI i) + 1))]) rfl (.cons_cons _ (.cons_cons _ (.cons_cons _ (.cons_cons _ (.cons _ .slnil))))) ?_
          rw [nI_1]
          rw [ct_z (show rdb (sp la G) t i = false by simp only [rdb, sp_s hl hg]; exact hr)] at ih
          exact ih
        | true =>
          show px_P _ _ (29, [(0, .ref w), (1, .int (nI t)), (2, .int (nI (ct (rdb (sp la G) t) i))), (3, .int (nI i)), (4, .ref b)], [.int 1]) S1 _
          refine px_P.if_eq rfl rfl (fun h => absurd h ((by decide))) (fun _ => ?_)
          refine px_P.sn 3 (f1 := (4, [(0, .ref w), (1, .int (nI t)), (2, .int ((nI (ct (rdb (sp la G) t) i)) + 1)), (3, .int ((nI i) + 1)), (4, .ref b)], [])) (S1 := S1) rfl ?_
          show px_P _ _ (4, [(0, .ref w), (1, .int (nI t)), (2, .int ((nI (ct (rdb (sp la G) t) i)) + 1)), (3, .int ((nI i) + 1)), (4, .ref b)], []) S1 _
          refine px_P.wk (ls := [(0, .ref w), (1, .int (nI t)), (2, .int ((nI (ct (rdb (sp la G) t) i)) + 1)), (3, .int ((nI i) + 1))]) rfl (.cons_cons _ (.cons_cons _ (.cons_cons _ (.cons_cons _ (.cons _ .slnil))))) ?_
          rw [nI_1, nI_1]
          rw [ct_s (show rdb (sp la G) t i = true by simp only [rdb, sp_s hl hg]; exact hr)] at ih
          exact ih)
    (by
      intro _ S1 e
      subst e
      refine px_P.sn 2 (f1 := (7, [(0, .ref w), (1, .int (nI t)), (2, .int (nI (ct (rdb (sp la G) t) 96))), (3, .int (nI 96))], [.int 96, .int (nI 96)])) (S1 := S1) rfl ?_
      refine px_P.ic_ge rfl rfl (fun _ => ?_) (fun h => absurd (nI_le (a := 96) (by omega) (by omega)) h)
      refine px_P.sn 1 (f1 := (42, [(0, .ref w), (1, .int (nI t)), (2, .int (nI (ct (rdb (sp la G) t) 96))), (3, .int (nI 96))], [.int (nI (ct (rdb (sp la G) t) 96))])) (S1 := S1) rfl ?_
      refine px_P.ret rfl ?_
      exact k)
  refine px_M.go (by omega) (Nat.le_of_ble_eq_true rfl) ?_
  refine px_P.sn 4 (f1 := (4, [(0, .ref w), (1, .int (nI t)), (2, .int 0), (3, .int 0)], [])) (S1 := S) rfl ?_
  exact lp 96 0 rfl () S rfl
/-- the answer about the fault at place i of the line at p -/
def dgA (p i : Nat) (c : Int32) (x : Nat) : Int32 := if x = 0 then nI (p / 12) else if x = 1 then nI (p % 12) else if x = 2 then nI i else c
theorem nI_div {a b : Nat} (ha : a < 2 ^ 31) (hb : b < 2 ^ 31) : nI a / nI b = nI (a / b) := by
  apply Int32.toInt_inj.mp
  have h1 : a / b < 2 ^ 31 := Nat.lt_of_le_of_lt (Nat.div_le_self _ _) ha
  rw [nI_toInt h1, Int32.toInt_div, nI_toInt ha, nI_toInt hb]
  rw [Int.tdiv_eq_ediv_of_nonneg (by omega), show ((a : Int) / (b : Int)) = ((a / b : Nat) : Int) from rfl]
  generalize a / b = c at h1 ⊢
  exact Int.bmod_eq_of_le (by omega) (by omega)
theorem nI_rem {a b : Nat} (ha : a < 2 ^ 31) (hb : b < 2 ^ 31) : nI a - nI a / nI b * nI b = nI (a % b) := by
  rw [nI_div ha hb]
  apply Int32.toInt_inj.mp
  have h1 : a / b < 2 ^ 31 := Nat.lt_of_le_of_lt (Nat.div_le_self _ _) ha
  have h3 : a / b * b ≤ a := Nat.div_mul_le_self _ _
  have h2 : a % b < 2 ^ 31 := Nat.lt_of_le_of_lt (Nat.mod_le _ _) ha
  have h4 : a = a / b * b + a % b := by rw [Nat.mul_comm]; exact (Nat.div_add_mod a b).symm
  generalize a / b = c at h1 h3 h4 ⊢
  generalize a % b = r at h2 h4 ⊢
  have e : nI c * nI b = nI (c * b) := by
    apply Int32.toInt_inj.mp
    rw [Int32.toInt_mul, nI_toInt h1, nI_toInt hb, nI_toInt (by omega)]
    rw [show ((c : Nat) : Int) * (b : Int) = ((c * b : Nat) : Int) by rw [Int.natCast_mul]]
    generalize c * b = x at h3 h4 ⊢
    exact Int.bmod_eq_of_le (by omega) (by omega)
  rw [e, Int32.toInt_sub, nI_toInt ha, nI_toInt (by omega), nI_toInt h2]
  generalize c * b = x at h3 h4 ⊢
  have : (a : Int) - ((x : Nat) : Int) = ((r : Nat) : Int) := by omega
  rw [this]
  exact Int.bmod_eq_of_le (by omega) (by omega)
theorem pm_wsFaultAt {d fa c N p q x : Nat} {z : Int32} {f : Nat → Int32} {S : px_S} {Q : Option Value → px_S → Prop} (hd : 3 ≤ d) (hN : N ≤ 1001) (hp : p < 96) (hq : q < 2 ^ 30) (hx : x < 4) (ha : S.1 fa = some (.inr (2, [.ref c, .int z]))) (hc : S.1 c = some (.inl (0, N, .inl f))) (hlt : q < ct (fun j => decide (¬ f j = 0)) N)
    (k : ∀ i, i < N → ¬ f i = 0 → ct (fun j => decide (¬ f j = 0)) i = q → Q (some (.int (dgA p i (f i) x))) S) : px_M d px_m_Workspace_tellFaultAt [.int (nI p), .ref fa, .int (nI q), .int (nI x)] S Q := by
  obtain ⟨i0, i1, i2, i3⟩ := ct_ex hlt
  have kk := k i0 i1 (of_decide_eq_true i2) i3
  refine px_M.go (by omega) (Nat.le_of_ble_eq_true rfl) ?_
  refine px_P.sn 1 (f1 := (1, [(0, .int (nI p)), (1, .ref fa), (2, .int (nI q)), (3, .int (nI x))], [.int (nI x)])) (S1 := S) rfl ?_
  rcases (show x = 0 ∨ x = 1 ∨ x = 2 ∨ x = 3 by omega) with rfl | rfl | rfl | rfl
  · refine px_P.sn 1 (f1 := (28, [(0, .int (nI p)), (1, .ref fa), (2, .int (nI q)), (3, .int (nI 0))], [])) (S1 := S) rfl ?_
    refine px_P.sn 2 (f1 := (31, [(0, .int (nI p)), (1, .ref fa), (2, .int (nI q)), (3, .int (nI 0))], [.int 12, .int (nI p)])) (S1 := S) rfl ?_
    refine px_P.idiv rfl (by decide) ?_
    rw [show (12 : Int32) = nI 12 from rfl, nI_div (by omega) (by omega)]
    refine px_P.ret rfl ?_
    exact kk
  · refine px_P.sn 1 (f1 := (33, [(0, .int (nI p)), (1, .ref fa), (2, .int (nI q)), (3, .int (nI 1))], [])) (S1 := S) rfl ?_
    refine px_P.sn 2 (f1 := (36, [(0, .int (nI p)), (1, .ref fa), (2, .int (nI q)), (3, .int (nI 1))], [.int 12, .int (nI p)])) (S1 := S) rfl ?_
    refine px_P.irem rfl (by decide) ?_
    rw [show (12 : Int32) = nI 12 from rfl, nI_rem (by omega) (by omega)]
    refine px_P.ret rfl ?_
    exact kk
  · refine px_P.sn 1 (f1 := (38, [(0, .int (nI p)), (1, .ref fa), (2, .int (nI q)), (3, .int (nI 2))], [])) (S1 := S) rfl ?_
    refine px_P.sn 2 (f1 := (40, [(0, .int (nI p)), (1, .ref fa), (2, .int (nI q)), (3, .int (nI 2))], [.int (nI q), .ref fa])) (S1 := S) rfl ?_
    refine px_P.cv rfl rfl rfl (by assumption) rfl ?_
    show px_M _ px_m_Faults_placeOf [.ref fa, .int (nI q)] S _
    refine pm_placeOf (by omega) hN hq ha hc (fun i h1 h2 h3 => ?_) (fun h => absurd h (by omega))
    show px_P _ _ (43, [(0, .int (nI p)), (1, .ref fa), (2, .int (nI q)), (3, .int (nI 2))], [.int (nI i)]) S _
    refine px_P.ret rfl ?_
    exact k i h1 h2 h3
  · refine px_P.sn 1 (f1 := (44, [(0, .int (nI p)), (1, .ref fa), (2, .int (nI q)), (3, .int (nI 3))], [])) (S1 := S) rfl ?_
    refine px_P.sn 2 (f1 := (46, [(0, .int (nI p)), (1, .ref fa), (2, .int (nI q)), (3, .int (nI 3))], [.int (nI q), .ref fa])) (S1 := S) rfl ?_
    refine px_P.cv rfl rfl rfl (by assumption) rfl ?_
    show px_M _ px_m_Faults_codeOf [.ref fa, .int (nI q)] S _
    refine pm_codeOf (by omega) hN hq ha hc (fun i h1 h2 h3 => ?_) (fun h => absurd h (by omega))
    show px_P _ _ (49, [(0, .int (nI p)), (1, .ref fa), (2, .int (nI q)), (3, .int (nI 3))], [.int (f i)]) S _
    refine px_P.ret rfl ?_
    exact k i h1 h2 h3
theorem pm_wsTellFault {d w tz lo q x : Nat} {la : Nat → Option Nat} {T D lk wt to : Nat → Int32} {tW : Nat → Int64} {old : Int32} {G : ln_G} {S : px_S} {Q : Option Value → px_S → Prop} (hd : 4 ≤ d) (h : ws_at S w la T D lk wt tW to tz old) (hlo : lo_at S lo G) (hI : wsI la G T D) (hq : q < 2 ^ 31) (hx : x < 4)
    (k1 : sm (fzp (sp la G) T D) 96 ≤ q → Q (some (.int (-1))) S) (k2 : ∀ p i s, p < 96 → sp la G p = some s → i ≤ ln_L s → ¬ fcd s T D i = 0 → sm (fzp (sp la G) T D) p + ct (fun j => decide (¬ fcd s T D j = 0)) i = q → Q (some (.int (dgA p i (fcd s T D i) x))) S) :
    px_M d px_m_Workspace_tellFault [.ref w, .int (nI q), .int (nI x)] S Q := by
  obtain ⟨h0, h1, h2, h3, h4, h5, h6, h7, h8, h9⟩ := h
  have lp := px_for (d := d - 1) (mi := px_m_Workspace_tellFault) (Q := Q) (X := Nat) 96 (fun i l => (5, [(0, .ref w), (1, .int (nI q)), (2, .int (nI x)), (3, .int (nI l)), (4, .int (nI i))], []))
    (fun i l S1 => S1 = S ∧ sm (fzp (sp la G) T D) i + l = q)
    (by
      intro i hi l S1 ⟨e, hl0⟩ ih
      subst e
      refine px_P.sn 2 (f1 := (9, [(0, .ref w), (1, .int (nI q)), (2, .int (nI x)), (3, .int (nI l)), (4, .int (nI i))], [.int 96, .int (nI i)])) (S1 := S1) rfl ?_
      refine px_P.ic_ge rfl rfl (fun h => absurd h (nI_ge (b := 96) hi (by decide))) (fun _ => ?_)
      refine px_P.sn 1 (f1 := (13, [(0, .ref w), (1, .int (nI q)), (2, .int (nI x)), (3, .int (nI l)), (4, .int (nI i))], [.ref w])) (S1 := S1) rfl ?_
      refine px_P.gf rfl rfl (by assumption) (v := .ref (w + 1)) rfl ?_
      refine px_P.sn 1 (f1 := (18, [(0, .ref w), (1, .int (nI q)), (2, .int (nI x)), (3, .int (nI l)), (4, .int (nI i))], [.int (nI i), .ref (w + 1)])) (S1 := S1) rfl ?_
      refine px_P.aaldj (j := i) rfl (by assumption) rfl rfl (by omega) (by decide) ?_
      cases hl : la i with
      | none =>
        show px_P _ _ (19, [(0, .ref w), (1, .int (nI q)), (2, .int (nI x)), (3, .int (nI l)), (4, .int (nI i))], [.null]) S1 _
        refine px_P.sn 5 (f1 := (5, [(0, .ref w), (1, .int (nI q)), (2, .int (nI x)), (3, .int (nI l)), (4, .int ((nI i) + 1)), (5, .null)], [])) (S1 := S1) rfl ?_
        show px_P _ _ (5, [(0, .ref w), (1, .int (nI q)), (2, .int (nI x)), (3, .int (nI l)), (4, .int ((nI i) + 1)), (5, .null)], []) S1 _
        refine px_P.wk (ls := [(0, .ref w), (1, .int (nI q)), (2, .int (nI x)), (3, .int (nI l)), (4, .int ((nI i) + 1))]) rfl (.cons_cons _ (.cons_cons _ (.cons_cons _ (.cons_cons _ (.cons_cons _ (.cons _ .slnil)))))) ?_
        rw [nI_1]
        refine ih l S1 ⟨rfl, ?_⟩
        show _ + fzp (sp la G) T D i + l = q
        unfold fzp
        rw [sp_n hl]
        exact hl0
      | some b =>
        obtain ⟨s, E, hg⟩ := hI.1 i b hi hl
        obtain ⟨l1, l2, l3⟩ := hlo.1 b s E hg
        obtain ⟨fs, hb⟩ := hlo.cell hg
        have hlen := lo_len hlo hg
        obtain ⟨g1, g2, g3⟩ := hI.2.2.2 i b s E hi hl hg
        have ez : fzp (sp la G) T D i = E.2.2.2 := by
          unfold fzp
          rw [sp_s hl hg, g3]; rfl
        have hz61 : E.2.2.2 ≤ 61 := by rw [g3]; exact fzd_le l2.1 hlen
        show px_P _ _ (19, [(0, .ref w), (1, .int (nI q)), (2, .int (nI x)), (3, .int (nI l)), (4, .int (nI i))], [.ref b]) S1 _
        refine px_P.sn 4 (f1 := (28, [(0, .ref w), (1, .int (nI q)), (2, .int (nI x)), (3, .int (nI l)), (4, .int (nI i)), (5, .ref b)], [.ref b])) (S1 := S1) rfl ?_
        refine px_P.cv rfl rfl rfl (by assumption) rfl ?_
        show px_M _ px_m_Line_faults [.ref b] S1 _
        refine pm_lnFaults (by omega) l1 (fun fa f1 f2 => ?_)
        show px_P _ _ (31, [(0, .ref w), (1, .int (nI q)), (2, .int (nI x)), (3, .int (nI l)), (4, .int (nI i)), (5, .ref b)], [.ref fa]) S1 _
        refine px_P.sn 3 (f1 := (36, [(0, .ref w), (1, .int (nI q)), (2, .int (nI x)), (3, .int (nI l)), (4, .int (nI i)), (5, .ref b), (6, .ref fa)], [.ref fa, .int (nI l)])) (S1 := S1) rfl ?_
        refine px_P.cv rfl rfl rfl (by assumption) rfl ?_
        show px_M _ px_m_Faults_size [.ref fa] S1 _
        refine pm_faultsSize (by omega) f1 ?_
        show px_P _ _ (39, [(0, .ref w), (1, .int (nI q)), (2, .int (nI x)), (3, .int (nI l)), (4, .int (nI i)), (5, .ref b), (6, .ref fa)], [.int (nI E.2.2.2), .int (nI l)]) S1 _
        refine px_P.ic_ge rfl rfl (fun hlt => ?_) (fun hlt => ?_)
        · have hge := (nI_leI (by omega) (by omega)).mp hlt
          refine px_P.sn 2 (f1 := (55, [(0, .ref w), (1, .int (nI q)), (2, .int (nI x)), (3, .int (nI l)), (4, .int (nI i)), (5, .ref b), (6, .ref fa)], [.ref fa, .int (nI l)])) (S1 := S1) rfl ?_
          refine px_P.cv rfl rfl rfl (by assumption) rfl ?_
          show px_M _ px_m_Faults_size [.ref fa] S1 _
          refine pm_faultsSize (by omega) f1 ?_
          show px_P _ _ (58, [(0, .ref w), (1, .int (nI q)), (2, .int (nI x)), (3, .int (nI l)), (4, .int (nI i)), (5, .ref b), (6, .ref fa)], [.int (nI E.2.2.2), .int (nI l)]) S1 _
          refine px_P.sn 4 (f1 := (5, [(0, .ref w), (1, .int (nI q)), (2, .int (nI x)), (3, .int ((nI l) - (nI E.2.2.2))), (4, .int ((nI i) + 1)), (5, .ref b), (6, .ref fa)], [])) (S1 := S1) rfl ?_
          have esub : nI l - nI E.2.2.2 = nI (l - E.2.2.2) := by
            obtain ⟨c, hc⟩ : ∃ c, l = c + E.2.2.2 := ⟨l - E.2.2.2, by omega⟩
            rw [hc, ← nI_add, Nat.add_sub_cancel]
            exact Int32.add_sub_cancel _ _
          rw [esub, nI_1]
          show px_P _ _ (5, [(0, .ref w), (1, .int (nI q)), (2, .int (nI x)), (3, .int (nI (l - E.2.2.2))), (4, .int (nI (i + 1))), (5, .ref b), (6, .ref fa)], []) S1 _
          refine px_P.wk (ls := [(0, .ref w), (1, .int (nI q)), (2, .int (nI x)), (3, .int (nI (l - E.2.2.2))), (4, .int (nI (i + 1)))]) rfl (.cons_cons _ (.cons_cons _ (.cons_cons _ (.cons_cons _ (.cons_cons _ (.cons _ (.cons _ .slnil))))))) ?_
          refine ih (l - E.2.2.2) S1 ⟨rfl, ?_⟩
          show _ + fzp (sp la G) T D i + _ = q
          rw [ez]
          omega
        · have hlt' : l < E.2.2.2 := (nI_ltI (by omega) (by omega)).mp (Int32.not_le.mp hlt)
          have hcd : ∀ j, j < ln_L s + 1 → E.2.2.1 j = fcd s T D j := fun j hj => g2 j (by omega)
          have hcc : ∀ n, n ≤ ln_L s + 1 → ct (fun j => decide (¬ E.2.2.1 j = 0)) n = ct (fun j => decide (¬ fcd s T D j = 0)) n := fun n hn => ct_congr (fun j hj => by rw [hcd j (by omega)])
          refine px_P.sn 4 (f1 := (48, [(0, .ref w), (1, .int (nI q)), (2, .int (nI x)), (3, .int (nI l)), (4, .int (nI i)), (5, .ref b), (6, .ref fa)], [.int (nI x), .int (nI l), .ref fa, .int (nI i)])) (S1 := S1) rfl ?_
          refine px_P.call rfl ?_
          show px_M _ px_m_Workspace_tellFaultAt [.int (nI i), .ref fa, .int (nI l), .int (nI x)] S1 _
          refine pm_wsFaultAt (by omega) (N := ln_L s + 1) (by omega) hi (by omega) hx f1 f2 ?_ (fun j j1 j2 j3 => ?_)
          · rw [hcc _ (Nat.le_refl _)]
            rw [g3, show ln_fz s _ D _ = _ from ln_fz_ct l2.1 hlen] at hlt'
            exact hlt'
          · rw [hcd j j1] at j2
            rw [hcd j j1]
            show px_P _ _ (51, [(0, .ref w), (1, .int (nI q)), (2, .int (nI x)), (3, .int (nI l)), (4, .int (nI i)), (5, .ref b), (6, .ref fa)], [.int (dgA i j (fcd s T D j) x)]) S1 _
            refine px_P.ret rfl ?_
            refine k2 i j s hi (sp_s hl hg) (by omega) j2 ?_
            rw [← hcc j (by omega), j3]
            exact hl0)
    (by
      intro l S1 ⟨e, hl0⟩
      subst e
      refine px_P.sn 2 (f1 := (9, [(0, .ref w), (1, .int (nI q)), (2, .int (nI x)), (3, .int (nI l)), (4, .int (nI 96))], [.int 96, .int (nI 96)])) (S1 := S1) rfl ?_
      refine px_P.ic_ge rfl rfl (fun _ => ?_) (fun h => absurd (nI_le (a := 96) (by omega) (by omega)) h)
      refine px_P.sn 1 (f1 := (67, [(0, .ref w), (1, .int (nI q)), (2, .int (nI x)), (3, .int (nI l)), (4, .int (nI 96))], [.int (-1)])) (S1 := S1) rfl ?_
      refine px_P.ret rfl ?_
      exact k1 (by omega))
  refine px_M.go (by omega) (Nat.le_of_ble_eq_true rfl) ?_
  refine px_P.sn 4 (f1 := (5, [(0, .ref w), (1, .int (nI q)), (2, .int (nI x)), (3, .int (nI q)), (4, .int 0)], [])) (S1 := S) rfl ?_
  exact lp 96 0 rfl q S ⟨rfl, by show 0 + q = q; omega⟩
