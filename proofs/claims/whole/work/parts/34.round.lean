/-! ===== Workspace: workOutWaiting, findFaults ===== -/
/-- the same lines by address, but for what f does not see -/
def gsm {A : Type} (f : ln_S × ln_D → A) (G G' : ln_G) : Prop := ∀ a, (G a).map f = (G' a).map f
theorem gsm.rf {A : Type} {f : ln_S × ln_D → A} {G : ln_G} : gsm f G G := fun _ => rfl
theorem gsm.tr {A : Type} {f : ln_S × ln_D → A} {G G' G'' : ln_G} (h : gsm f G G') (k : gsm f G' G'') : gsm f G G'' := fun a => (h a).trans (k a)
theorem gsm.set {A : Type} {f : ln_S × ln_D → A} {G : ln_G} {a : Nat} {x y : ln_S × ln_D} (hg : G a = some x) (e : f x = f y) : gsm f G (va_up G a (some y)) := by
  intro b
  by_cases z : b = a
  · subst z; simp [va_up, hg, e]
  · simp [va_up, z]
theorem gsm.get {A : Type} {f : ln_S × ln_D → A} {G G' : ln_G} (h : gsm f G G') {a : Nat} {x : ln_S × ln_D} (hg : G a = some x) : ∃ y, G' a = some y ∧ f x = f y := by
  have := h a
  rw [hg] at this
  cases hy : G' a with
  | none => rw [hy] at this; cases this
  | some y => rw [hy] at this; exact ⟨y, rfl, by simpa using this⟩
theorem gsm.back {A : Type} {f : ln_S × ln_D → A} {G G' : ln_G} (h : gsm f G G') {a : Nat} {y : ln_S × ln_D} (hg : G' a = some y) : ∃ x, G a = some x ∧ f x = f y := by
  have := h a
  rw [hg] at this
  cases hy : G a with
  | none => rw [hy] at this; cases this
  | some x => rw [hy] at this; exact ⟨x, rfl, by simpa using this⟩
/-- seen: what stands fast, and the faults -/
def seeF (q : ln_S × ln_D) : ln_S × (Nat → Int32) × Nat := (q.1, q.2.2.2)
theorem gsm_sp {G G' : ln_G} (h : gsm seeF G G') (la : Nat → Option Nat) : sp la G = sp la G' := by
  funext p
  unfold sp
  cases la p with
  | none => rfl
  | some a =>
    show (G a).map Prod.fst = (G' a).map Prod.fst
    cases hx : G a with
    | none =>
      cases hy : G' a with
      | none => rfl
      | some y => obtain ⟨x, h1, _⟩ := h.back hy; rw [hx] at h1; cases h1
    | some x =>
      obtain ⟨y, h1, h2⟩ := h.get hx
      rw [h1]
      show some x.1 = some y.1
      have h3 : (seeF x).1 = (seeF y).1 := by rw [h2]
      exact congrArg some h3
theorem gsm_la {G G' : ln_G} (h : gsm seeF G G') {la : Nat → Option Nat} {n : Nat} (hl : la_ok la G n) : la_ok la G' n := by
  intro p a hp ha
  obtain ⟨s, E, hg⟩ := hl p a hp ha
  obtain ⟨y, h1, _⟩ := h.get hg
  exact ⟨y.1, y.2, h1⟩
/-- a line that is not waiting has been worked out -/
def wi (la : Nat → Option Nat) (G : ln_G) (lk wt T : Nat → Int32) (p : Nat) : Prop := ∀ a s E, la p = some a → G a = some (s, E) → wt p = 0 → E.1 = ln_val s T ∧ (bz lk p = true → ∀ j, j < ln_n s → E.2.1 j = xe_ev (ln_st s) T (ln_n s) j) ∧ ∀ t, t < 208 → ln_df s = nI t → le32 (ln_says s E.1) (T t)
set_option maxHeartbeats 1000000 in
theorem pm_wsRound {d w tz lo : Nat} {la : Nat → Option Nat} {T D lk wt to : Nat → Int32} {tW : Nat → Int64} {old : Int32} {G : ln_G} {S : px_S} {Q : Option Value → px_S → Prop} (hd : 6 ≤ d) (h : ws_at S w la T D lk wt tW to tz old) (hlo : lo_at S lo G) (hla : la_ok la G 96) (hwl : w + 10 ≤ lo)
    (h01 : ∀ p, p < 96 → wt p = 0 ∨ wt p = 1) (hwi : ∀ p, p < 96 → wi la G lk wt T p)
    (k : ∀ S' T' wt' G' (g : Bool), ws_at S' w la T' D lk wt' tW to tz old → lo_at S' lo G' → gsm seeF G G' → (∀ p, p < 96 → wt' p = 0 ∨ wt' p = 1) → (∀ p, p < 96 → wi la G' lk wt' T' p) → (∀ t, t < 208 → le32 (T t) (T' t)) →
      (∀ X : Nat → Int32, (∀ t, t < 208 → le32 (X t) lF) → cs_ok (sp la G) X → (∀ t, t < 208 → le32 (T t) (X t)) → ∀ t, t < 208 → le32 (T' t) (X t)) → (g = false → T' = T ∧ ∀ p, p < 96 → ¬ la p = none → wt' p = 0) → (g = true → ∃ t, t < 208 ∧ ¬ T' t = T t) →
      (∀ q, q < lo → (q < w ∨ w + 10 ≤ q) → S'.1 q = S.1 q) → S'.2 = S.2 → Q (some (.int (bif g then 1 else 0))) S') :
    px_M d px_m_Workspace_workOutWaiting [.ref w] S Q := by
  have lp := px_for (d := d - 1) (mi := px_m_Workspace_workOutWaiting) (Q := Q) (X := (Nat → Int32) × (Nat → Int32) × ln_G × Bool) 96 (fun i y => (4, [(0, .ref w), (1, .int (bif y.2.2.2 then 1 else 0)), (2, .int (nI i))], []))
    (fun i y S1 => ws_at S1 w la y.1 D lk y.2.1 tW to tz old ∧ lo_at S1 lo y.2.2.1 ∧ gsm seeF G y.2.2.1 ∧ (∀ p, p < 96 → y.2.1 p = 0 ∨ y.2.1 p = 1) ∧ (∀ p, p < 96 → wi la y.2.2.1 lk y.2.1 y.1 p) ∧ (∀ t, t < 208 → le32 (T t) (y.1 t)) ∧
      (∀ X : Nat → Int32, (∀ t, t < 208 → le32 (X t) lF) → cs_ok (sp la G) X → (∀ t, t < 208 → le32 (T t) (X t)) → ∀ t, t < 208 → le32 (y.1 t) (X t)) ∧ (y.2.2.2 = false → y.1 = T ∧ ∀ p, p < i → ¬ la p = none → y.2.1 p = 0) ∧ (y.2.2.2 = true → ∃ t, t < 208 ∧ ¬ y.1 t = T t) ∧
      (∀ q, q < lo → (q < w ∨ w + 10 ≤ q) → S1.1 q = S.1 q) ∧ S1.2 = S.2)
    (by
      intro i hi ⟨T1, w1, G1, g1⟩ S1 ⟨e1, e2, e3, e4, e5, e6, e7, e8, e9, e10, e11⟩ ih
      dsimp only at e1 e2 e3 e4 e5 e6 e7 e8 e9
      have e1' := e1
      obtain ⟨h0, h1, h2, h3, h4, h5, h6, h7, h8, h9⟩ := e1
      have hla1 := gsm_la e3 hla
      have hsp1 := gsm_sp e3 la
      have skip : (¬ la i = none → w1 i = 0) → px_P (d - 1) px_m_Workspace_workOutWaiting (4, [(0, .ref w), (1, .int (bif g1 then 1 else 0)), (2, .int (nI (i + 1)))], []) S1 Q := by
        intro hn
        refine ih (T1, w1, G1, g1) S1 ⟨e1', e2, e3, e4, e5, e6, e7, fun z => ⟨(e8 z).1, fun p hp hlp => ?_⟩, e9, e10, e11⟩
        by_cases e : p = i
        · subst e; exact hn hlp
        · exact (e8 z).2 p (by omega) hlp
      refine px_P.sn 2 (f1 := (7, [(0, .ref w), (1, .int (bif g1 then 1 else 0)), (2, .int (nI i))], [.int 96, .int (nI i)])) (S1 := S1) rfl ?_
      refine px_P.ic_ge rfl rfl (fun h => absurd h (nI_ge (b := 96) hi (by decide))) (fun _ => ?_)
      refine px_P.sn 1 (f1 := (11, [(0, .ref w), (1, .int (bif g1 then 1 else 0)), (2, .int (nI i))], [.ref w])) (S1 := S1) rfl ?_
      refine px_P.gf rfl rfl (by assumption) (v := .ref (w + 1)) rfl ?_
      refine px_P.sn 1 (f1 := (15, [(0, .ref w), (1, .int (bif g1 then 1 else 0)), (2, .int (nI i))], [.int (nI i), .ref (w + 1)])) (S1 := S1) rfl ?_
      refine px_P.aaldj (j := i) rfl (by assumption) rfl rfl (by omega) (by decide) ?_
      cases hl : la i with
      | none =>
        show px_P _ _ (16, [(0, .ref w), (1, .int (bif g1 then 1 else 0)), (2, .int (nI i))], [.null]) S1 _
        refine px_P.sn 5 (f1 := (4, [(0, .ref w), (1, .int (bif g1 then 1 else 0)), (2, .int ((nI i) + 1)), (3, .null)], [])) (S1 := S1) rfl ?_
        show px_P _ _ (4, [(0, .ref w), (1, .int (bif g1 then 1 else 0)), (2, .int ((nI i) + 1)), (3, .null)], []) S1 _
        refine px_P.wk (ls := [(0, .ref w), (1, .int (bif g1 then 1 else 0)), (2, .int ((nI i) + 1))]) rfl (.cons_cons _ (.cons_cons _ (.cons_cons _ (.cons _ .slnil)))) ?_
        rw [nI_1]
        exact skip (fun z => absurd hl z)
      | some b =>
        obtain ⟨s, E, hg⟩ := hla1 i b hi hl
        have hsp := sp_s hl hg
        show px_P _ _ (16, [(0, .ref w), (1, .int (bif g1 then 1 else 0)), (2, .int (nI i))], [.ref b]) S1 _
        refine px_P.sn 4 (f1 := (22, [(0, .ref w), (1, .int (bif g1 then 1 else 0)), (2, .int (nI i)), (3, .ref b)], [.ref w])) (S1 := S1) rfl ?_
        refine px_P.gf rfl rfl (by assumption) (v := .ref (w + 6)) rfl ?_
        refine px_P.sn 1 (f1 := (26, [(0, .ref w), (1, .int (bif g1 then 1 else 0)), (2, .int (nI i)), (3, .ref b)], [.int (nI i), .ref (w + 6)])) (S1 := S1) rfl ?_
        refine px_P.zaldj (j := i) rfl (by assumption) rfl (by omega) (by decide) ?_
        refine px_P.if_eq rfl rfl (fun hq => ?_) (fun hq => ?_)
        · refine px_P.sn 2 (f1 := (4, [(0, .ref w), (1, .int (bif g1 then 1 else 0)), (2, .int ((nI i) + 1)), (3, .ref b)], [])) (S1 := S1) rfl ?_
          show px_P _ _ (4, [(0, .ref w), (1, .int (bif g1 then 1 else 0)), (2, .int ((nI i) + 1)), (3, .ref b)], []) S1 _
          refine px_P.wk (ls := [(0, .ref w), (1, .int (bif g1 then 1 else 0)), (2, .int ((nI i) + 1))]) rfl (.cons_cons _ (.cons_cons _ (.cons_cons _ (.cons _ .slnil)))) ?_
          rw [nI_1]
          exact skip (fun _ => hq)
        · refine px_P.sn 1 (f1 := (31, [(0, .ref w), (1, .int (bif g1 then 1 else 0)), (2, .int (nI i)), (3, .ref b)], [.ref w])) (S1 := S1) rfl ?_
          refine px_P.gf rfl rfl (by assumption) (v := .ref (w + 6)) rfl ?_
          refine px_P.sn 2 (f1 := (36, [(0, .ref w), (1, .int (bif g1 then 1 else 0)), (2, .int (nI i)), (3, .ref b)], [.int 0, .int (nI i), .ref (w + 6)])) (S1 := S1) rfl ?_
          refine px_P.zastj (j := i) rfl (by assumption) rfl rfl (by omega) (by decide) (fun S2 u2 => ?_)
          have m1 := e1'.uw u2
          have m1' := m1
          obtain ⟨k0, k1, k2, k3, k4, k5, k6, k7, k8, k9⟩ := m1
          have lo2 : lo_at S2 lo G1 := e2.keep (fun q hq _ => u2.o (by omega)) (by rw [u2.t]; exact Nat.le_refl _)
          obtain ⟨l1, l2, l3⟩ := lo2.1 b s E hg
          obtain ⟨fs, hb⟩ := lo2.cell hg
          have nown : ∀ q, q < lo → ¬ ln_own b s q := fun q hq z => by have := (l3 q z).1; omega
          refine px_P.sn 2 (f1 := (39, [(0, .ref w), (1, .int (bif g1 then 1 else 0)), (2, .int (nI i)), (3, .ref b)], [.ref w, .ref b])) (S1 := S2) rfl ?_
          refine px_P.gf rfl rfl (by assumption) (v := .ref (w + 2)) rfl ?_
          refine px_P.cv rfl rfl rfl (by assumption) rfl ?_
          show px_M _ px_m_Line_workOut [.ref b, .ref (w + 2)] S2 _
          refine pm_lnWork (by omega) l1 k2 k3 (nown _ (by omega)) (nown _ (by omega)) (fun S3 V3 r1 r2 r3 r4 => ?_)
          obtain ⟨E3, hE3⟩ : ∃ E3 : ln_D, E3 = (ln_val s T1, V3, E.2.2) := ⟨_, rfl⟩
          rw [← hE3] at r1
          obtain ⟨G3, hG3⟩ : ∃ G3 : ln_G, G3 = va_up G1 b (some (s, E3)) := ⟨_, rfl⟩
          have lo3 : lo_at S3 lo G3 := by rw [hG3]; exact lo2.set hg r1 r3 r4
          have m3 : ws_at S3 w la T1 D lk (upd w1 i 0) tW to tz old := m1'.keep (fun q q1 q2 => r3 q (nown q (by omega)))
          have s3 : gsm seeF G G3 := e3.tr (by rw [hG3]; exact gsm.set hg (by rw [hE3]; rfl))
          have hg3 : G3 b = some (s, E3) := by rw [hG3]; simp [va_up]
          have fr3 : ∀ q, q < lo → (q < w ∨ w + 10 ≤ q) → S3.1 q = S.1 q := fun q q1 q2 => by rw [r3 q (nown q q1), u2.o (by omega)]; exact e10 q q1 q2
          have t3 : S3.2 = S.2 := by rw [r4, u2.t, e11]
          have w01 : ∀ p, p < 96 → upd w1 i 0 p = 0 ∨ upd w1 i 0 p = 1 := by
            intro p hp
            by_cases e : p = i
            · subst e; exact Or.inl pk_us
            · rw [pk_un e]; exact e4 p hp
          -- what is sure of the lines once more, the types being the same
          have wi3 : (∀ t, t < 208 → ln_df s = nI t → le32 (ln_says s (ln_val s T1)) (T1 t)) → ∀ p, p < 96 → wi la G3 lk (upd w1 i 0) T1 p := by
            intro hs p hp a s1 E1 ha hga hw
            by_cases ea : a = b
            · subst ea
              rw [hg3] at hga
              cases hga
              rw [hE3]
              exact ⟨rfl, fun _ => r2, hs⟩
            · have hga1 : G1 a = some (s1, E1) := by rw [hG3] at hga; simpa [va_up, ea] using hga
              have ep : p ≠ i := fun z => by rw [z, hl] at ha; cases ha; exact ea rfl
              rw [pk_un ep] at hw
              exact e5 p hp a s1 E1 ha hga1 hw
          have noGrow : (∀ t, t < 208 → ln_df s = nI t → le32 (ln_says s (ln_val s T1)) (T1 t)) → px_P (d - 1) px_m_Workspace_workOutWaiting (4, [(0, .ref w), (1, .int (bif g1 then 1 else 0)), (2, .int (nI (i + 1)))], []) S3 Q := by
            intro hs
            refine ih (T1, upd w1 i 0, G3, g1) S3 ⟨m3, lo3, s3, w01, wi3 hs, e6, e7, fun z => ⟨(e8 z).1, fun p hp hlp => ?_⟩, e9, fr3, t3⟩
            by_cases e : p = i
            · subst e; exact pk_us
            · dsimp only
              rw [pk_un e]; exact (e8 z).2 p (by omega) hlp
          have b3 : S3.1 b = _ := (show S3.1 b = some (.inr (4, _)) from (lo3.cell hg3).choose_spec)
          have k03 := m3.1
          have k23 := m3.2.2.1
          have k33 := m3.2.2.2.1
          show px_P _ _ (45, [(0, .ref w), (1, .int (bif g1 then 1 else 0)), (2, .int (nI i)), (3, .ref b)], []) S3 _
          refine px_P.sn 1 (f1 := (46, [(0, .ref w), (1, .int (bif g1 then 1 else 0)), (2, .int (nI i)), (3, .ref b)], [.ref w])) (S1 := S3) rfl ?_
          refine px_P.gf rfl rfl (by assumption) (v := .ref (w + 2)) rfl ?_
          refine px_P.sn 1 (f1 := (50, [(0, .ref w), (1, .int (bif g1 then 1 else 0)), (2, .int (nI i)), (3, .ref b)], [.ref b, .ref (w + 2)])) (S1 := S3) rfl ?_
          refine px_P.cv rfl rfl rfl (by assumption) rfl ?_
          show px_M _ px_m_Line_defined [.ref b] S3 _
          refine pm_lnDefined (by omega) r1 ?_
          rcases l2.2.1 with e | ⟨t, ht, e⟩
          · rw [e]
            show px_P _ _ (53, [(0, .ref w), (1, .int (bif g1 then 1 else 0)), (2, .int (nI i)), (3, .ref b)], [.int (-1), .ref (w + 2)]) S3 _
            refine px_P.sn 1 (f1 := (54, [(0, .ref w), (1, .int (bif g1 then 1 else 0)), (2, .int (nI i)), (3, .ref b)], [.ref b, .int (-1), .ref (w + 2)])) (S1 := S3) rfl ?_
            refine px_P.cv rfl rfl rfl (by assumption) rfl ?_
            show px_M _ px_m_Line_says [.ref b] S3 _
            refine pm_lnSays (by omega) r1 ?_
            show px_P _ _ (57, [(0, .ref w), (1, .int (bif g1 then 1 else 0)), (2, .int (nI i)), (3, .ref b)], [.int (ln_says s E3.1), .int (-1), .ref (w + 2)]) S3 _
            refine px_P.cv rfl rfl rfl (by assumption) rfl ?_
            show px_M _ px_m_Symbols_grow [.ref (w + 2), .int (-1), .int (ln_says s E3.1)] S3 _
            refine pm_growN (by omega) ?_
            show px_P _ _ (60, [(0, .ref w), (1, .int (bif g1 then 1 else 0)), (2, .int (nI i)), (3, .ref b)], [.int 0]) S3 _
            refine px_P.if_eq rfl rfl (fun _ => ?_) (fun h => absurd (rfl) h)
            refine px_P.sn 2 (f1 := (4, [(0, .ref w), (1, .int (bif g1 then 1 else 0)), (2, .int ((nI i) + 1)), (3, .ref b)], [])) (S1 := S3) rfl ?_
            show px_P _ _ (4, [(0, .ref w), (1, .int (bif g1 then 1 else 0)), (2, .int ((nI i) + 1)), (3, .ref b)], []) S3 _
            refine px_P.wk (ls := [(0, .ref w), (1, .int (bif g1 then 1 else 0)), (2, .int ((nI i) + 1))]) rfl (.cons_cons _ (.cons_cons _ (.cons_cons _ (.cons _ .slnil)))) ?_
            rw [nI_1]
            exact noGrow (fun t ht z => by rw [e] at z; exact absurd z.symm (nI_neg (by omega)))
          · rw [e]
            show px_P _ _ (53, [(0, .ref w), (1, .int (bif g1 then 1 else 0)), (2, .int (nI i)), (3, .ref b)], [.int (nI t), .ref (w + 2)]) S3 _
            refine px_P.sn 1 (f1 := (54, [(0, .ref w), (1, .int (bif g1 then 1 else 0)), (2, .int (nI i)), (3, .ref b)], [.ref b, .int (nI t), .ref (w + 2)])) (S1 := S3) rfl ?_
            refine px_P.cv rfl rfl rfl (by assumption) rfl ?_
            show px_M _ px_m_Line_says [.ref b] S3 _
            refine pm_lnSays (by omega) r1 ?_
            show px_P _ _ (57, [(0, .ref w), (1, .int (bif g1 then 1 else 0)), (2, .int (nI i)), (3, .ref b)], [.int (ln_says s E3.1), .int (nI t), .ref (w + 2)]) S3 _
            refine px_P.cv rfl rfl rfl (by assumption) rfl ?_
            show px_M _ px_m_Symbols_grow [.ref (w + 2), .int (nI t), .int (ln_says s E3.1)] S3 _
            have hE1 : E3.1 = ln_val s T1 := by rw [hE3]
            refine pm_grow (by omega) k23 k33 ht (fun hz0 => ?_) (fun hz1 S4 u4 => ?_)
            · show px_P _ _ (60, [(0, .ref w), (1, .int (bif g1 then 1 else 0)), (2, .int (nI i)), (3, .ref b)], [.int 0]) S3 _
              refine px_P.if_eq rfl rfl (fun _ => ?_) (fun h => absurd (rfl) h)
              refine px_P.sn 2 (f1 := (4, [(0, .ref w), (1, .int (bif g1 then 1 else 0)), (2, .int ((nI i) + 1)), (3, .ref b)], [])) (S1 := S3) rfl ?_
              show px_P _ _ (4, [(0, .ref w), (1, .int (bif g1 then 1 else 0)), (2, .int ((nI i) + 1)), (3, .ref b)], []) S3 _
              refine px_P.wk (ls := [(0, .ref w), (1, .int (bif g1 then 1 else 0)), (2, .int ((nI i) + 1))]) rfl (.cons_cons _ (.cons_cons _ (.cons_cons _ (.cons _ .slnil)))) ?_
              rw [nI_1]
              refine noGrow (fun t1 ht1 z => ?_)
              rw [e] at z
              rw [← (nI_eq (by omega) (by omega)).mp z, ← hE1]
              exact le32_gr.mp hz0
            · rw [hE1] at hz1 u4
              have m4 := m3.uT u4
              have lo4 : lo_at S4 lo G3 := lo3.keep (fun q hq _ => u4.o (by omega)) (by rw [u4.t]; exact Nat.le_refl _)
              have r14 := (lo4.1 b s E3 hg3).1
              obtain ⟨fs4, b4⟩ := lo4.cell hg3
              have k04 := m4.1
              show px_P _ _ (60, [(0, .ref w), (1, .int (bif g1 then 1 else 0)), (2, .int (nI i)), (3, .ref b)], [.int 1]) S4 _
              refine px_P.if_eq rfl rfl (fun h => absurd h ((by decide))) (fun _ => ?_)
              refine px_P.sn 2 (f1 := (65, [(0, .ref w), (1, .int (bif g1 then 1 else 0)), (2, .int (nI i)), (3, .ref b)], [.ref b, .ref w])) (S1 := S4) rfl ?_
              refine px_P.cv rfl rfl rfl (by assumption) rfl ?_
              show px_M _ px_m_Line_defined [.ref b] S4 _
              refine pm_lnDefined (by omega) r14 ?_
              rw [e]
              show px_P _ _ (68, [(0, .ref w), (1, .int (bif g1 then 1 else 0)), (2, .int (nI i)), (3, .ref b)], [.int (nI t), .ref w]) S4 _
              refine px_P.cv rfl rfl rfl (by assumption) rfl ?_
              show px_M _ px_m_Workspace_wakeReaders [.ref w, .int (nI t)] S4 _
              refine pm_wsWake (by omega) m4 lo4 (gsm_la s3 hla) hwl ht (fun S5 w5 f1 f2 f3 f4 f5 f6 => ?_)
              show px_P _ _ (71, [(0, .ref w), (1, .int (bif g1 then 1 else 0)), (2, .int (nI i)), (3, .ref b)], []) S5 _
              refine px_P.sn 4 (f1 := (4, [(0, .ref w), (1, .int 1), (2, .int ((nI i) + 1)), (3, .ref b)], [])) (S1 := S5) rfl ?_
              show px_P _ _ (4, [(0, .ref w), (1, .int 1), (2, .int ((nI i) + 1)), (3, .ref b)], []) S5 _
              refine px_P.wk (ls := [(0, .ref w), (1, .int 1), (2, .int ((nI i) + 1))]) rfl (.cons_cons _ (.cons_cons _ (.cons_cons _ (.cons _ .slnil)))) ?_
              rw [nI_1]
              have up : ∀ u, u < 208 → le32 (T1 u) (upd T1 t (T1 t ||| ln_says s (ln_val s T1)) u) := by
                intro u hu
                by_cases z : u = t
                · subst z; rw [pk_us]; exact le32.l _ _
                · rw [pk_un z]; exact le32.rf _
              have strict : ¬ (T1 t ||| ln_says s (ln_val s T1)) = T1 t := fun z => hz1 (le32_gr.mpr (by
                have := le32.r (T1 t) (ln_says s (ln_val s T1))
                rw [z] at this
                exact this))
              refine ih (upd T1 t (T1 t ||| ln_says s (ln_val s T1)), w5, G3, true) S5 ⟨f1, lo4.keep (fun q hq _ => f5 q (by omega)) (by rw [f6]; exact Nat.le_refl _), s3, fun p hp => ?_, fun p hp => ?_, fun u hu => (e6 u hu).tr (up u hu), fun X x1 x2 x3 u hu => ?_, fun z => (by cases z), fun _ => ⟨t, ht, fun z => ?_⟩, fun q q1 q2 => by rw [f5 q q2, u4.o (by omega)]; exact fr3 q q1 q2, by rw [f6, u4.t, t3]⟩
              · rcases f2 p hp with z | z
                · dsimp only; rw [z]; exact w01 p hp
                · exact Or.inr z
              · intro a s1 E1 ha hga hw
                dsimp only at hga hw ⊢
                have hw3 : upd w1 i 0 p = 0 := by
                  rcases f2 p hp with z | z
                  · rw [← z]; exact hw
                  · rw [z] at hw; exact absurd hw (by decide)
                have hsp3 := sp_s ha hga
                have nr : ¬ ss_in (ln_W s1) t = true := fun z => by
                  have := f3 p s1 hp hsp3 z
                  rw [this] at hw
                  exact absurd hw (by decide)
                have wf1 := (lo4.1 a s1 E1 hga).2.1
                have agree : ∀ u, lr s1 u → T1 u = upd T1 t (T1 t ||| ln_says s (ln_val s T1)) u := by
                  intro u hu
                  rw [pk_un (fun z => nr (by rw [← z]; exact hu.2))]
                have agn : ∀ u, nm (ln_st s1) (ln_n s1) u → T1 u = upd T1 t (T1 t ||| ln_says s (ln_val s T1)) u := fun u hu => agree u ((lr_nm wf1).mp hu)
                by_cases ea : a = b
                · subst ea
                  rw [hg3] at hga
                  cases hga
                  rw [hE3]
                  refine ⟨ln_val_eq wf1 agree, fun _ j hj => by rw [← xe_ev_eq wf1.2.2.2.1 agn j hj]; exact r2 j hj, fun t1 ht1 z => ?_⟩
                  rw [e] at z
                  rw [← (nI_eq (by omega) (by omega)).mp z, pk_us]
                  exact le32.r _ _
                · have hga1 : G1 a = some (s1, E1) := by rw [hG3] at hga; simpa [va_up, ea] using hga
                  have ep : p ≠ i := fun z => by rw [z, hl] at ha; cases ha; exact ea rfl
                  rw [pk_un ep] at hw3
                  obtain ⟨v1, v2, v3⟩ := e5 p hp a s1 E1 ha hga1 hw3
                  exact ⟨v1.trans (ln_val_eq wf1 agree), fun z j hj => by rw [← xe_ev_eq wf1.2.2.2.1 agn j hj]; exact v2 z j hj, fun t1 ht1 z => (v3 t1 ht1 z).tr (up t1 ht1)⟩
              · dsimp only
                by_cases z : u = t
                · subst z
                  rw [pk_us]
                  refine (e7 X x1 x2 x3 u hu).or ?_
                  refine le32.tr (ln_says_le ?_) (x2 i s u hi (by rw [hsp1]; exact hsp) hu e)
                  exact ln_val_le l2 (fun v hv => e7 X x1 x2 x3 v hv.1) (fun v hv => x1 v hv.1)
                · rw [pk_un z]; exact e7 X x1 x2 x3 u hu
              · dsimp only at z
                rw [pk_us] at z
                have h6 := e6 t ht
                refine strict (le32.as ?_ (le32.l _ _))
                rw [z]
                exact h6)
    (by
      intro ⟨T1, w1, G1, g1⟩ S1 ⟨e1, e2, e3, e4, e5, e6, e7, e8, e9, e10, e11⟩
      dsimp only at e1 e2 e3 e4 e5 e6 e7 e8 e9
      have kk := k S1 T1 w1 G1 g1 e1 e2 e3 e4 e5 e6 e7 e8 e9 e10 e11
      cases g1 with
      | true =>
        show px_P _ _ (4, [(0, .ref w), (1, .int 1), (2, .int (nI 96))], []) S1 _
        refine px_P.sn 2 (f1 := (7, [(0, .ref w), (1, .int 1), (2, .int (nI 96))], [.int 96, .int (nI 96)])) (S1 := S1) rfl ?_
        refine px_P.ic_ge rfl rfl (fun _ => ?_) (fun h => absurd (nI_le (a := 96) (by omega) (by omega)) h)
        refine px_P.sn 1 (f1 := (80, [(0, .ref w), (1, .int 1), (2, .int (nI 96))], [.int 1])) (S1 := S1) rfl ?_
        refine px_P.ret rfl ?_
        exact kk
      | false =>
        show px_P _ _ (4, [(0, .ref w), (1, .int 0), (2, .int (nI 96))], []) S1 _
        refine px_P.sn 2 (f1 := (7, [(0, .ref w), (1, .int 0), (2, .int (nI 96))], [.int 96, .int (nI 96)])) (S1 := S1) rfl ?_
        refine px_P.ic_ge rfl rfl (fun _ => ?_) (fun h => absurd (nI_le (a := 96) (by omega) (by omega)) h)
        refine px_P.sn 1 (f1 := (80, [(0, .ref w), (1, .int 0), (2, .int (nI 96))], [.int 0])) (S1 := S1) rfl ?_
        refine px_P.ret rfl ?_
        exact kk)
  refine px_M.go (by omega) (Nat.le_of_ble_eq_true rfl) ?_
  refine px_P.sn 4 (f1 := (4, [(0, .ref w), (1, .int 0), (2, .int 0)], [])) (S1 := S) rfl ?_
  exact lp 96 0 rfl (T, wt, G, false) S ⟨h, hlo, gsm.rf, h01, hwi, fun _ _ => le32.rf _, fun _ _ _ x3 => x3, fun _ => ⟨rfl, fun p hp => absurd hp (by omega)⟩, fun z => (by cases z), fun _ _ _ => rfl, rfl⟩
