/-! ===== Workspace: findFaults ===== -/
theorem xe_f_congr {V V' D D' : Nat → Int32} {q : Nat × Nat × Nat × Nat} {k : Nat} (hq : xe_ok1 q k) (h : ∀ j, j < k → V j = V' j) (hD : q.1 = 1 → D q.2.1 = D' q.2.1) : xe_f V D q = xe_f V' D' q := by
  obtain ⟨o1, o2, o3, o4, o5, o6⟩ := hq
  unfold xe_f
  by_cases h1 : q.1 = 1
  · rw [if_pos h1, if_pos h1, hD h1]
  rw [if_neg h1, if_neg h1]
  by_cases h3 : q.1 = 3
  · rw [if_pos h3, if_pos h3, h _ (o4 (by omega))]
  rw [if_neg h3, if_neg h3]
  by_cases h7 : q.1 = 7
  · rw [if_pos h7, if_pos h7, h _ (o4 (by omega)), h _ (o6 (by omega))]
  rw [if_neg h7, if_neg h7]
theorem xe_fc_cg {st : xe_T} {V V' D D' c : Nat → Int32} : ∀ {n : Nat}, (∀ j, j < n → xe_f V D (st j) = xe_f V' D' (st j)) → xe_fc st V D c n = xe_fc st V' D' c n
  | 0, _ => rfl
  | n + 1, h => by
    unfold xe_fc
    rw [h n (by omega), xe_fc_cg (n := n) (fun j hj => h j (by omega))]
theorem ln_f_cg {s : ln_S} {V V' D D' : Nat → Int32} {ty : Int32} (hw : ln_wf s) (hV : ∀ j, j < ln_n s → V j = V' j) (hD : ∀ t, lr s t → D t = D' t) : ln_fc s V D ty = ln_fc s V' D' ty ∧ ln_fz s V D ty = ln_fz s V' D' ty := by
  have e : ∀ j, j < ln_n s → xe_f V D (ln_st s j) = xe_f V' D' (ln_st s j) := fun j hj =>
    xe_f_congr (hw.2.2.2.1 j hj) (fun i hi => hV i (by omega)) (fun z => hD _ ((lr_nm hw).mp ⟨j, hj, z, rfl⟩))
  constructor
  · unfold ln_fc
    rw [xe_fc_cg e]
  · unfold ln_fz
    rw [ct_congr (fun j hj => by rw [e j hj])]
/-- the faults of a line are told right -/
def fg (s : ln_S) (V D : Nat → Int32) (ty : Int32) (F : (Nat → Int32) × Nat) : Prop := (∀ j, j ≤ ln_L s → F.1 j = ln_fc s V D ty j) ∧ F.2 = ln_fz s V D ty
/-- seen: what stands fast, the type, the values -/
def seeV (q : ln_S × ln_D) : ln_S × Int32 × (Nat → Int32) := (q.1, q.2.1, q.2.2.1)
theorem gsmV_la {G G' : ln_G} (h : gsm seeV G G') {la : Nat → Option Nat} {n : Nat} (hl : la_ok la G n) : la_ok la G' n := by
  intro p a hp ha
  obtain ⟨s, E, hg⟩ := hl p a hp ha
  obtain ⟨y, h1, _⟩ := h.get hg
  exact ⟨y.1, y.2, h1⟩
theorem gsmV_sp {G G' : ln_G} (h : gsm seeV G G') (la : Nat → Option Nat) : sp la G = sp la G' := by
  funext p
  unfold sp
  cases la p with
  | none => rfl
  | some a =>
    show (G a).map Prod.fst = (G' a).map Prod.fst
    cases hx : G a with
    | none =>
      cases hy : G' a with
      | none => rfl
      | some y => obtain ⟨x, h1, _⟩ := h.back hy; rw [hx] at h1; cases h1
    | some x =>
      obtain ⟨y, h1, h2⟩ := h.get hx
      rw [h1]
      have h3 : (seeV x).1 = (seeV y).1 := by rw [h2]
      exact congrArg some h3
theorem pm_wsFaults {d w tz lo : Nat} {la : Nat → Option Nat} {T D lk wt to : Nat → Int32} {tW : Nat → Int64} {old : Int32} {G : ln_G} {S : px_S} {Q : Option Value → px_S → Prop} (hd : 6 ≤ d) (h : ws_at S w la T D lk wt tW to tz old) (hlo : lo_at S lo G) (hla : la_ok la G 96) (hwl : w + 10 ≤ lo)
    (k : ∀ S' G', ws_at S' w la T D lk wt tW to tz old → lo_at S' lo G' → gsm seeV G G' → (∀ a s E E', G a = some (s, E) → G' a = some (s, E') → E'.2.2 = E.2.2 ∨ ∃ p, p < 96 ∧ la p = some a ∧ bz lk p = true) → (∀ p a s E, p < 96 → la p = some a → bz lk p = true → G' a = some (s, E) → fg s E.2.1 D E.1 E.2.2) →
      (∀ q, q < lo → (q < w ∨ w + 10 ≤ q) → S'.1 q = S.1 q) → S'.2 = S.2 → Q none S') :
    px_M d px_m_Workspace_findFaults [.ref w] S Q := by
  have lp := px_for (d := d - 1) (mi := px_m_Workspace_findFaults) (Q := Q) (X := ln_G) 96 (fun i _ => (2, [(0, .ref w), (1, .int (nI i))], []))
    (fun i G1 S1 => ws_at S1 w la T D lk wt tW to tz old ∧ lo_at S1 lo G1 ∧ gsm seeV G G1 ∧ (∀ a s E E', G a = some (s, E) → G1 a = some (s, E') → E'.2.2 = E.2.2 ∨ ∃ p, p < 96 ∧ la p = some a ∧ bz lk p = true) ∧ (∀ p a s E, p < i → la p = some a → bz lk p = true → G1 a = some (s, E) → fg s E.2.1 D E.1 E.2.2) ∧
      (∀ q, q < lo → (q < w ∨ w + 10 ≤ q) → S1.1 q = S.1 q) ∧ S1.2 = S.2)
    (by
      intro i hi G1 S1 ⟨e1, e2, e3, e4, e5, e6, e7⟩ ih
      have e1' := e1
      obtain ⟨h0, h1, h2, h3, h4, h5, h6, h7, h8, h9⟩ := e1
      have skip : (∀ a, la i = some a → bz lk i = true → False) → px_P (d - 1) px_m_Workspace_findFaults (2, [(0, .ref w), (1, .int (nI (i + 1)))], []) S1 Q := by
        intro hn
        refine ih G1 S1 ⟨e1', e2, e3, e4, fun p a s E hp ha hb hg => ?_, e6, e7⟩
        by_cases e : p = i
        · subst e; exact (hn a ha hb).elim
        · exact e5 p a s E (by omega) ha hb hg
      refine px_P.sn 2 (f1 := (5, [(0, .ref w), (1, .int (nI i))], [.int 96, .int (nI i)])) (S1 := S1) rfl ?_
      refine px_P.ic_ge rfl rfl (fun h => absurd h (nI_ge (b := 96) hi (by decide))) (fun _ => ?_)
      refine px_P.sn 1 (f1 := (9, [(0, .ref w), (1, .int (nI i))], [.ref w])) (S1 := S1) rfl ?_
      refine px_P.gf rfl rfl (by assumption) (v := .ref (w + 1)) rfl ?_
      refine px_P.sn 1 (f1 := (13, [(0, .ref w), (1, .int (nI i))], [.int (nI i), .ref (w + 1)])) (S1 := S1) rfl ?_
      refine px_P.aaldj (j := i) rfl (by assumption) rfl rfl (by omega) (by decide) ?_
      cases hl : la i with
      | none =>
        show px_P _ _ (14, [(0, .ref w), (1, .int (nI i))], [.null]) S1 _
        refine px_P.sn 5 (f1 := (2, [(0, .ref w), (1, .int ((nI i) + 1)), (2, .null)], [])) (S1 := S1) rfl ?_
        show px_P _ _ (2, [(0, .ref w), (1, .int ((nI i) + 1)), (2, .null)], []) S1 _
        refine px_P.wk (ls := [(0, .ref w), (1, .int ((nI i) + 1))]) rfl (.cons_cons _ (.cons_cons _ (.cons _ .slnil))) ?_
        rw [nI_1]
        exact skip (fun a ha => by rw [hl] at ha; cases ha)
      | some b =>
        obtain ⟨s, E, hg⟩ := gsmV_la e3 hla i b hi hl
        obtain ⟨l1, l2, l3⟩ := e2.1 b s E hg
        obtain ⟨fs, hb⟩ := e2.cell hg
        have nown : ∀ q, q < lo → ¬ ln_own b s q := fun q hq z => by have := (l3 q z).1; omega
        show px_P _ _ (14, [(0, .ref w), (1, .int (nI i))], [.ref b]) S1 _
        refine px_P.sn 4 (f1 := (20, [(0, .ref w), (1, .int (nI i)), (2, .ref b)], [.ref w])) (S1 := S1) rfl ?_
        refine px_P.gf rfl rfl (by assumption) (v := .ref (w + 5)) rfl ?_
        refine px_P.sn 1 (f1 := (24, [(0, .ref w), (1, .int (nI i)), (2, .ref b)], [.int (nI i), .ref (w + 5)])) (S1 := S1) rfl ?_
        refine px_P.zaldj (j := i) rfl (by assumption) rfl (by omega) (by decide) ?_
        refine px_P.if_eq rfl rfl (fun hq => ?_) (fun hq => ?_)
        · refine px_P.sn 2 (f1 := (2, [(0, .ref w), (1, .int ((nI i) + 1)), (2, .ref b)], [])) (S1 := S1) rfl ?_
          show px_P _ _ (2, [(0, .ref w), (1, .int ((nI i) + 1)), (2, .ref b)], []) S1 _
          refine px_P.wk (ls := [(0, .ref w), (1, .int ((nI i) + 1))]) rfl (.cons_cons _ (.cons_cons _ (.cons _ .slnil))) ?_
          rw [nI_1]
          exact skip (fun a ha hz => by rw [bz_f hq] at hz; cases hz)
        · refine px_P.sn 2 (f1 := (30, [(0, .ref w), (1, .int (nI i)), (2, .ref b)], [.ref w, .ref b])) (S1 := S1) rfl ?_
          refine px_P.gf rfl rfl (by assumption) (v := .ref (w + 2)) rfl ?_
          refine px_P.cv rfl rfl rfl (by assumption) rfl ?_
          show px_M _ px_m_Line_findFaults [.ref b, .ref (w + 2)] S1 _
          refine pm_lnFind (by omega) l1 l2.1 h2 h4 (nown _ (by omega)) (nown _ (by omega)) (fun S2 cf r1 r2 r3 r4 => ?_)
          show px_P _ _ (36, [(0, .ref w), (1, .int (nI i)), (2, .ref b)], []) S2 _
          refine px_P.sn 2 (f1 := (2, [(0, .ref w), (1, .int ((nI i) + 1)), (2, .ref b)], [])) (S1 := S2) rfl ?_
          show px_P _ _ (2, [(0, .ref w), (1, .int ((nI i) + 1)), (2, .ref b)], []) S2 _
          refine px_P.wk (ls := [(0, .ref w), (1, .int ((nI i) + 1))]) rfl (.cons_cons _ (.cons_cons _ (.cons _ .slnil))) ?_
          rw [nI_1]
          have good : fg s E.2.1 D E.1 (cf, ln_fz s E.2.1 D E.1) := ⟨r2, rfl⟩
          refine ih (va_up G1 b (some (s, (E.1, E.2.1, cf, ln_fz s E.2.1 D E.1)))) S2 ⟨e1'.keep (fun q q1 q2 => r3 q (nown q (by omega))), e2.set hg r1 r3 r4, e3.tr (gsm.set hg rfl), fun a s1 E1 E2 ha ha2 => ?_, fun p a s1 E1 hp ha hbz hga => ?_, fun q q1 q2 => by rw [r3 q (nown q q1)]; exact e6 q q1 q2, by rw [r4, e7]⟩
          · by_cases ea : a = b
            · subst ea
              simp only [va_up, if_true] at ha2
              cases ha2
              exact Or.inr ⟨i, hi, hl, bz_t hq⟩
            · simp only [va_up, if_neg ea] at ha2
              exact e4 a s1 E1 E2 ha ha2
          · by_cases ea : a = b
            · subst ea
              simp only [va_up, if_true] at hga
              cases hga
              exact good
            · simp only [va_up, if_neg ea] at hga
              have ep : p ≠ i := fun z => by rw [z, hl] at ha; cases ha; exact ea rfl
              exact e5 p a s1 E1 (by omega) ha hbz hga)
    (by
      intro G1 S1 ⟨e1, e2, e3, e4, e5, e6, e7⟩
      refine px_P.sn 2 (f1 := (5, [(0, .ref w), (1, .int (nI 96))], [.int 96, .int (nI 96)])) (S1 := S1) rfl ?_
      refine px_P.ic_ge rfl rfl (fun _ => ?_) (fun h => absurd (nI_le (a := 96) (by omega) (by omega)) h)
      refine px_P.ret rfl ?_
      exact k S1 G1 e1 e2 e3 e4 e5 e6 e7)
  refine px_M.go (by omega) (Nat.le_of_ble_eq_true rfl) ?_
  refine px_P.sn 2 (f1 := (2, [(0, .ref w), (1, .int 0)], [])) (S1 := S) rfl ?_
  exact lp 96 0 rfl G S ⟨h, hlo, gsm.rf, fun a s E E' h1 h2 => by rw [h1] at h2; cases h2; exact Or.inl rfl, fun p a s E hp => absurd hp (by omega), fun _ _ _ => rfl, rfl⟩
