/-! ===== Workspace: lookOn ===== -/
/-- lines and symbols that hold all that must be looked at again with them -/
def cl_ok (L : Nat → Option ln_S) (P T : Nat → Prop) : Prop := (∀ p z t, p < 96 → L p = some z → t < 208 → ss_in (ln_W z) t = true → T t → P p) ∧ ∀ p z t, p < 96 → L p = some z → P p → t < 208 → ln_df z = nI t → T t
def bz (f : Nat → Int32) (p : Nat) : Bool := decide (¬ f p = 0)
theorem bz_t {f : Nat → Int32} {p : Nat} (h : ¬ f p = 0) : bz f p = true := decide_eq_true h
theorem bz_f {f : Nat → Int32} {p : Nat} (h : f p = 0) : bz f p = false := decide_eq_false (fun z => z h)
theorem bz_1 {f : Nat → Int32} {p : Nat} : bz (upd f p 1) p = true := bz_t (by rw [pk_us]; decide)
theorem bz_o {f : Nat → Int32} {p q : Nat} {x : Int32} (h : q ≠ p) : bz (upd f p x) q = bz f q := by unfold bz; rw [pk_un h]
set_option maxHeartbeats 1000000 in
theorem pm_wsLook {d w tz lo : Nat} {la : Nat → Option Nat} {T D lk wt to : Nat → Int32} {tW : Nat → Int64} {old : Int32} {G : ln_G} {S : px_S} {Q : Option Value → px_S → Prop} (hd : 4 ≤ d) (h : ws_at S w la T D lk wt tW to tz old) (hto : tou tW to tz) (hlo : lo_at S lo G) (hla : la_ok la G 96) (hwl : w + 10 ≤ lo)
    (h01 : ∀ p, p < 96 → lk p = 0 ∨ lk p = 1) (hst : ∀ p z t, p < 96 → sp la G p = some z → bz lk p = true → t < 208 → ln_df z = nI t → ss_in tW t = true)
    (k : ∀ S' lk' tW' to' tz' n, ws_at S' w la T D lk' wt tW' to' tz' old → tou tW' to' tz' → (∀ p, p < 96 → lk' p = 0 ∨ lk' p = 1) → (∀ p, p < 96 → bz lk p = true → bz lk' p = true) → (∀ t, t < 208 → ss_in tW t = true → ss_in tW' t = true) → cl_ok (sp la G) (fun p => bz lk' p = true) (fun t => ss_in tW' t = true) →
      (∀ P R, cl_ok (sp la G) P R → (∀ p, p < 96 → bz lk p = true → P p) → (∀ t, t < 208 → ss_in tW t = true → R t) → (∀ p, p < 96 → bz lk' p = true → P p) ∧ ∀ t, t < 208 → ss_in tW' t = true → R t) → n + ct (bz lk) 96 = ct (bz lk') 96 → (∀ q, (q < w ∨ w + 10 ≤ q) → S'.1 q = S.1 q) → S'.2 = S.2 → Q (some (.int (nI n))) S') :
    px_M d px_m_Workspace_lookOn [.ref w] S Q := by
  obtain ⟨I, hI⟩ : ∃ I : (Nat → Int32) → (Nat → Int64) → (Nat → Int32) → Nat → Nat → px_S → Prop, I = fun l1 b1 o1 z1 n S1 => ws_at S1 w la T D l1 wt b1 o1 z1 old ∧ tou b1 o1 z1 ∧ (∀ p, p < 96 → l1 p = 0 ∨ l1 p = 1) ∧ (∀ p, p < 96 → bz lk p = true → bz l1 p = true) ∧ (∀ t, t < 208 → ss_in tW t = true → ss_in b1 t = true) ∧
      (∀ p z t, p < 96 → sp la G p = some z → bz l1 p = true → t < 208 → ln_df z = nI t → ss_in b1 t = true) ∧ (∀ P R, cl_ok (sp la G) P R → (∀ p, p < 96 → bz lk p = true → P p) → (∀ t, t < 208 → ss_in tW t = true → R t) → (∀ p, p < 96 → bz l1 p = true → P p) ∧ ∀ t, t < 208 → ss_in b1 t = true → R t) ∧ n + ct (bz lk) 96 = ct (bz l1) 96 ∧ (∀ q, (q < w ∨ w + 10 ≤ q) → S1.1 q = S.1 q) ∧ S1.2 = S.2 := ⟨_, rfl⟩
  have done : ∀ (kk : Nat) (l1 : Nat → Int32) (b1 : Nat → Int64) (o1 : Nat → Int32) (z1 n : Nat) (S1 : px_S), I l1 b1 o1 z1 n S1 → (∀ i, i < z1 → ∀ t, o1 i = nI t → t < 208 → ∀ p z, p < 96 → sp la G p = some z → ss_in (ln_W z) t = true → bz l1 p = true) → px_P (d - 1) px_m_Workspace_lookOn (94, [(0, .ref w), (1, .int (nI n)), (2, .int (nI kk))], []) S1 Q := by
    intro kk l1 b1 o1 z1 n S1 hi hc
    rw [hI] at hi
    obtain ⟨g1, g2, g3, g4, g5, g6, g7, g8, g9, g10⟩ := hi
    refine px_P.sn 1 (f1 := (95, [(0, .ref w), (1, .int (nI n)), (2, .int (nI kk))], [.int (nI n)])) (S1 := S1) rfl ?_
    refine px_P.ret rfl ?_
    refine k S1 l1 b1 o1 z1 n g1 g2 g3 g4 g5 ⟨fun p z t hp hz ht hr hT => ?_, g6⟩ g7 g8 g9 g10
    obtain ⟨i, hi, e⟩ := g2.2.2 t ht hT
    exact hc i hi t e ht p z hp hz hr
  have lp : ∀ (m kk : Nat), kk + m = 208 → ∀ (l1 : Nat → Int32) (b1 : Nat → Int64) (o1 : Nat → Int32) (z1 n : Nat) (S1 : px_S), I l1 b1 o1 z1 n S1 → kk ≤ z1 → (∀ i, i < kk → ∀ t, o1 i = nI t → t < 208 → ∀ p z, p < 96 → sp la G p = some z → ss_in (ln_W z) t = true → bz l1 p = true) → px_P (d - 1) px_m_Workspace_lookOn (4, [(0, .ref w), (1, .int (nI n)), (2, .int (nI kk))], []) S1 Q := by
    intro m
    induction m with
    | zero =>
      intro kk hk l1 b1 o1 z1 n S1 hi hkz hc
      have hi' := hi
      rw [hI] at hi
      have hz : z1 ≤ 208 := by rw [hi.2.1.1]; exact ct_le _ _
      have h0 := hi.1.1
      refine px_P.sn 2 (f1 := (6, [(0, .ref w), (1, .int (nI n)), (2, .int (nI kk))], [.ref w, .int (nI kk)])) (S1 := S1) rfl ?_
      refine px_P.gf rfl rfl (by assumption) (v := .int (nI z1)) rfl ?_
      refine px_P.ic_ge rfl rfl (fun _ => ?_) (fun h => absurd (nI_le (by omega) (by omega)) h)
      exact done kk l1 b1 o1 z1 n S1 hi' (by rw [show z1 = kk by omega]; exact hc)
    | succ m ih =>
      intro kk hk l1 b1 o1 z1 n S1 hi hkz hc
      have hi' := hi
      rw [hI] at hi
      have hz : z1 ≤ 208 := by rw [hi.2.1.1]; exact ct_le _ _
      have h0 := hi.1.1
      by_cases hlt : kk < z1
      · obtain ⟨t0, ht0, et0, _⟩ := hi.2.1.2.1 kk hlt
        have inner := px_for (d := d - 1) (mi := px_m_Workspace_lookOn) (Q := Q) (X := (Nat → Int32) × (Nat → Int64) × (Nat → Int32) × Nat × Nat) 96 (fun i y => (21, [(0, .ref w), (1, .int (nI y.2.2.2.2)), (2, .int (nI kk)), (3, .int (nI i))], []))
          (fun i y S2 => I y.1 y.2.1 y.2.2.1 y.2.2.2.1 y.2.2.2.2 S2 ∧ kk < y.2.2.2.1 ∧ (∀ j, j ≤ kk → y.2.2.1 j = o1 j) ∧ (∀ p, p < 96 → bz l1 p = true → bz y.1 p = true) ∧ ∀ p z, p < i → sp la G p = some z → ss_in (ln_W z) t0 = true → bz y.1 p = true)
          (by
            intro i hi96 ⟨l2, b2, o2, z2, n2⟩ S2 ⟨f1, f2, f3, f4, f5⟩ ih2
            dsimp only at f1 f2 f3 f4 f5
            have f1' := f1
            rw [hI] at f1
            obtain ⟨g1, g2, g3, g4, g5, g6, g7, g8, g9, g10⟩ := f1
            have g1' := g1
            obtain ⟨h0, h1, h2, h3, h4, h5, h6, h7, h8, h9⟩ := g1
            have hlo2 : lo_at S2 lo G := hlo.keep (fun q hq _ => g9 q (by omega)) (by rw [g10]; exact Nat.le_refl _)
            have hz2 : z2 ≤ 208 := by rw [g2.1]; exact ct_le _ _
            have skip : (∀ z, sp la G i = some z → ss_in (ln_W z) t0 = true → bz l2 i = true) → px_P (d - 1) px_m_Workspace_lookOn (21, [(0, .ref w), (1, .int (nI n2)), (2, .int (nI kk)), (3, .int (nI (i + 1)))], []) S2 Q := by
              intro hs
              refine ih2 (l2, b2, o2, z2, n2) S2 ⟨f1', f2, f3, f4, fun p z hp hz hr => ?_⟩
              by_cases e : p = i
              · subst e; exact hs z hz hr
              · exact f5 p z (by omega) hz hr
            refine px_P.sn 2 (f1 := (24, [(0, .ref w), (1, .int (nI n2)), (2, .int (nI kk)), (3, .int (nI i))], [.int 96, .int (nI i)])) (S1 := S2) rfl ?_
            refine px_P.ic_ge rfl rfl (fun h => absurd h (nI_ge (b := 96) hi96 (by decide))) (fun _ => ?_)
            refine px_P.sn 1 (f1 := (28, [(0, .ref w), (1, .int (nI n2)), (2, .int (nI kk)), (3, .int (nI i))], [.ref w])) (S1 := S2) rfl ?_
            refine px_P.gf rfl rfl (by assumption) (v := .ref (w + 1)) rfl ?_
            refine px_P.sn 1 (f1 := (32, [(0, .ref w), (1, .int (nI n2)), (2, .int (nI kk)), (3, .int (nI i))], [.int (nI i), .ref (w + 1)])) (S1 := S2) rfl ?_
            refine px_P.aaldj (j := i) rfl (by assumption) rfl rfl (by omega) (by decide) ?_
            cases hl : la i with
            | none =>
              show px_P _ _ (33, [(0, .ref w), (1, .int (nI n2)), (2, .int (nI kk)), (3, .int (nI i))], [.null]) S2 _
              refine px_P.sn 5 (f1 := (21, [(0, .ref w), (1, .int (nI n2)), (2, .int (nI kk)), (3, .int ((nI i) + 1)), (4, .null)], [])) (S1 := S2) rfl ?_
              show px_P _ _ (21, [(0, .ref w), (1, .int (nI n2)), (2, .int (nI kk)), (3, .int ((nI i) + 1)), (4, .null)], []) S2 _
              refine px_P.wk (ls := [(0, .ref w), (1, .int (nI n2)), (2, .int (nI kk)), (3, .int ((nI i) + 1))]) rfl (.cons_cons _ (.cons_cons _ (.cons_cons _ (.cons_cons _ (.cons _ .slnil))))) ?_
              rw [nI_1]
              exact skip (fun z hz => by rw [sp_n hl] at hz; cases hz)
            | some b =>
              obtain ⟨s, E, hg⟩ := hla i b hi96 hl
              obtain ⟨l1', l2', l3'⟩ := hlo2.1 b s E hg
              obtain ⟨fs, hb⟩ := hlo2.cell hg
              have hsp := sp_s hl hg
              show px_P _ _ (33, [(0, .ref w), (1, .int (nI n2)), (2, .int (nI kk)), (3, .int (nI i))], [.ref b]) S2 _
              refine px_P.sn 4 (f1 := (41, [(0, .ref w), (1, .int (nI n2)), (2, .int (nI kk)), (3, .int (nI i)), (4, .ref b)], [.ref w])) (S1 := S2) rfl ?_
              refine px_P.gf rfl rfl (by assumption) (v := .ref (w + 5)) rfl ?_
              refine px_P.sn 1 (f1 := (45, [(0, .ref w), (1, .int (nI n2)), (2, .int (nI kk)), (3, .int (nI i)), (4, .ref b)], [.int (nI i), .ref (w + 5)])) (S1 := S2) rfl ?_
              refine px_P.zaldj (j := i) rfl (by assumption) rfl (by omega) (by decide) ?_
              refine px_P.if_ne rfl rfl (fun hq => ?_) (fun hq => ?_)
              · refine px_P.sn 2 (f1 := (21, [(0, .ref w), (1, .int (nI n2)), (2, .int (nI kk)), (3, .int ((nI i) + 1)), (4, .ref b)], [])) (S1 := S2) rfl ?_
                show px_P _ _ (21, [(0, .ref w), (1, .int (nI n2)), (2, .int (nI kk)), (3, .int ((nI i) + 1)), (4, .ref b)], []) S2 _
                refine px_P.wk (ls := [(0, .ref w), (1, .int (nI n2)), (2, .int (nI kk)), (3, .int ((nI i) + 1))]) rfl (.cons_cons _ (.cons_cons _ (.cons_cons _ (.cons_cons _ (.cons _ .slnil))))) ?_
                rw [nI_1]
                exact skip (fun _ _ _ => bz_t hq)
              · refine px_P.sn 2 (f1 := (52, [(0, .ref w), (1, .int (nI n2)), (2, .int (nI kk)), (3, .int (nI i)), (4, .ref b)], [.ref w, .ref b])) (S1 := S2) rfl ?_
                refine px_P.gf rfl rfl (by assumption) (v := .ref (w + 9)) rfl ?_
                refine px_P.sn 1 (f1 := (56, [(0, .ref w), (1, .int (nI n2)), (2, .int (nI kk)), (3, .int (nI i)), (4, .ref b)], [.int (nI kk), .ref (w + 9), .ref b])) (S1 := S2) rfl ?_
                refine px_P.ialdj (j := kk) rfl (by assumption) rfl (by omega) (by decide) ?_
                rw [f3 kk (Nat.le_refl _), et0]
                show px_P _ _ (57, [(0, .ref w), (1, .int (nI n2)), (2, .int (nI kk)), (3, .int (nI i)), (4, .ref b)], [.int (nI t0), .ref b]) S2 _
                refine px_P.cv rfl rfl rfl (by assumption) rfl ?_
                show px_M _ px_m_Line_reads [.ref b, .int (nI t0)] S2 _
                refine pm_lnReads (by omega) l1' ?_
                rw [ss_hs_in ht0]
                cases hr : ss_in (ln_W s) t0 with
                | false =>
                  show px_P _ _ (60, [(0, .ref w), (1, .int (nI n2)), (2, .int (nI kk)), (3, .int (nI i)), (4, .ref b)], [.int 0]) S2 _
                  refine px_P.if_eq rfl rfl (fun _ => ?_) (fun h => absurd (rfl) h)
                  refine px_P.sn 2 (f1 := (21, [(0, .ref w), (1, .int (nI n2)), (2, .int (nI kk)), (3, .int ((nI i) + 1)), (4, .ref b)], [])) (S1 := S2) rfl ?_
                  show px_P _ _ (21, [(0, .ref w), (1, .int (nI n2)), (2, .int (nI kk)), (3, .int ((nI i) + 1)), (4, .ref b)], []) S2 _
                  refine px_P.wk (ls := [(0, .ref w), (1, .int (nI n2)), (2, .int (nI kk)), (3, .int ((nI i) + 1))]) rfl (.cons_cons _ (.cons_cons _ (.cons_cons _ (.cons_cons _ (.cons _ .slnil))))) ?_
                  rw [nI_1]
                  exact skip (fun z hz hz2 => by rw [hsp] at hz; cases hz; rw [hr] at hz2; cases hz2)
                | true =>
                  show px_P _ _ (60, [(0, .ref w), (1, .int (nI n2)), (2, .int (nI kk)), (3, .int (nI i)), (4, .ref b)], [.int 1]) S2 _
                  refine px_P.if_eq rfl rfl (fun h => absurd h ((by decide))) (fun _ => ?_)
                  refine px_P.sn 1 (f1 := (64, [(0, .ref w), (1, .int (nI n2)), (2, .int (nI kk)), (3, .int (nI i)), (4, .ref b)], [.ref w])) (S1 := S2) rfl ?_
                  refine px_P.gf rfl rfl (by assumption) (v := .ref (w + 5)) rfl ?_
                  refine px_P.sn 2 (f1 := (69, [(0, .ref w), (1, .int (nI n2)), (2, .int (nI kk)), (3, .int (nI i)), (4, .ref b)], [.int 1, .int (nI i), .ref (w + 5)])) (S1 := S2) rfl ?_
                  refine px_P.zastj (j := i) rfl (by assumption) rfl rfl (by omega) (by decide) (fun S3 u3 => ?_)
                  have hl2i : bz l2 i = false := bz_f hq
                  have m1 := g1'.uk u3
                  have l1'' := l1'.keep (S' := S3) (fun q hq => u3.o (by have := (l3' q hq).1; omega))
                  have hb3 : S3.1 b = some (.inr (4, fs)) := u3.n hb (by intro z; rw [z] at hb; rw [h5] at hb; cases hb)
                  have e0 := m1.1
                  have hcn : n2 + 1 + ct (bz lk) 96 = ct (bz (upd l2 i 1)) 96 := by
                    rw [ct_put (q := bz l2) (t := i) hl2i bz_1 (fun j hj => bz_o hj), if_pos hi96]; omega
                  have m01 : ∀ p, p < 96 → upd l2 i 1 p = 0 ∨ upd l2 i 1 p = 1 := by
                    intro p hp
                    by_cases e : p = i
                    · subst e; exact Or.inr pk_us
                    · rw [pk_un e]; exact g3 p hp
                  have mup : ∀ p, bz l2 p = true → bz (upd l2 i 1) p = true := by
                    intro p hp
                    by_cases e : p = i
                    · subst e; exact bz_1
                    · rw [bz_o e]; exact hp
                  have fin : ∀ (S4 : px_S) (b4 : Nat → Int64) (o4 : Nat → Int32) (z4 : Nat), ws_at S4 w la T D (upd l2 i 1) wt b4 o4 z4 old → tou b4 o4 z4 → z2 ≤ z4 → (∀ j, j < z2 → o4 j = o2 j) → (∀ t, t < 208 → (ss_in b4 t = true ↔ ss_in b2 t = true ∨ ln_df s = nI t)) → (∀ q, (q < w ∨ w + 10 ≤ q) → S4.1 q = S.1 q) → S4.2 = S.2 → px_P (d - 1) px_m_Workspace_lookOn (82, [(0, .ref w), (1, .int (nI n2 + 1)), (2, .int (nI kk)), (3, .int (nI i)), (4, .ref b)], []) S4 Q := by
                    intro S4 b4 o4 z4 r1 r2 r3 r4 r5 r6 r7
                    refine px_P.sn 2 (f1 := (21, [(0, .ref w), (1, .int (nI n2 + 1)), (2, .int (nI kk)), (3, .int ((nI i) + 1)), (4, .ref b)], [])) (S1 := S4) rfl ?_
                    show px_P _ _ (21, [(0, .ref w), (1, .int (nI n2 + 1)), (2, .int (nI kk)), (3, .int ((nI i) + 1)), (4, .ref b)], []) S4 _
                    refine px_P.wk (ls := [(0, .ref w), (1, .int (nI n2 + 1)), (2, .int (nI kk)), (3, .int ((nI i) + 1))]) rfl (.cons_cons _ (.cons_cons _ (.cons_cons _ (.cons_cons _ (.cons _ .slnil))))) ?_
                    rw [nI_1, nI_1]
                    refine ih2 (upd l2 i 1, b4, o4, z4, n2 + 1) S4 ⟨?_, by dsimp only; omega, fun j hj => by dsimp only; rw [r4 j (by omega)]; exact f3 j hj, fun p hp hp2 => mup p (f4 p hp hp2), fun p z hp hz hr2 => ?_⟩
                    · rw [hI]
                      refine ⟨r1, r2, m01, fun p hp hp2 => mup p (g4 p hp hp2), fun t ht ht2 => (r5 t ht).mpr (Or.inl (g5 t ht ht2)), fun p z t hp hz hp2 ht hdf => ?_, fun P R hPR q1 q2 => ?_, hcn, r6, r7⟩
                      · rw [r5 t ht]
                        by_cases e : p = i
                        · subst e
                          rw [hsp] at hz
                          cases hz
                          exact Or.inr hdf
                        · rw [bz_o e] at hp2
                          exact Or.inl (g6 p z t hp hz hp2 ht hdf)
                      · obtain ⟨s1, s2⟩ := g7 P R hPR q1 q2
                        have hPi : P i := by
                          refine hPR.1 i s t0 hi96 hsp ht0 hr (s2 t0 ht0 ?_)
                          obtain ⟨t1, ht1, e1, e2⟩ := g2.2.1 kk f2
                          rw [f3 kk (Nat.le_refl _), et0] at e1
                          rw [(nI_eq (by omega) (by omega)).mp e1]
                          exact e2
                        refine ⟨fun p hp hp2 => ?_, fun t ht ht2 => ?_⟩
                        · by_cases e : p = i
                          · rw [e]; exact hPi
                          · rw [bz_o e] at hp2; exact s1 p hp hp2
                        · rcases (r5 t ht).mp ht2 with e | e
                          · exact s2 t ht e
                          · exact hPR.2 i s t hi96 hsp hPi ht e
                    · by_cases e : p = i
                      · subst e; exact bz_1
                      · exact mup p (f5 p z (by omega) hz hr2)
                  refine px_P.sn 3 (f1 := (76, [(0, .ref w), (1, .int ((nI n2) + 1)), (2, .int (nI kk)), (3, .int (nI i)), (4, .ref b)], [.ref b, .ref w])) (S1 := S3) rfl ?_
                  refine px_P.cv rfl rfl rfl (by assumption) rfl ?_
                  show px_M _ px_m_Line_defined [.ref b] S3 _
                  refine pm_lnDefined (by omega) l1'' ?_
                  have fr3 : ∀ q, (q < w ∨ w + 10 ≤ q) → S3.1 q = S.1 q := fun q hq => by rw [u3.o (by omega)]; exact g9 q hq
                  rcases l2'.2.1 with e | ⟨t, ht, e⟩
                  · rw [e]
                    show px_P _ _ (79, [(0, .ref w), (1, .int ((nI n2) + 1)), (2, .int (nI kk)), (3, .int (nI i)), (4, .ref b)], [.int (-1), .ref w]) S3 _
                    refine px_P.cv rfl rfl rfl (by assumption) rfl ?_
                    show px_M _ px_m_Workspace_touch [.ref w, .int (-1)] S3 _
                    refine pm_wsTouchN (by omega) ?_
                    refine fin S3 b2 o2 z2 m1 g2 (Nat.le_refl _) (fun _ _ => rfl) (fun t ht => ?_) fr3 (by rw [u3.t, g10])
                    rw [e]
                    exact ⟨Or.inl, fun z => z.elim id (fun z => absurd z.symm (nI_neg (by omega)))⟩
                  · rw [e]
                    show px_P _ _ (79, [(0, .ref w), (1, .int ((nI n2) + 1)), (2, .int (nI kk)), (3, .int (nI i)), (4, .ref b)], [.int (nI t), .ref w]) S3 _
                    refine px_P.cv rfl rfl rfl (by assumption) rfl ?_
                    show px_M _ px_m_Workspace_touch [.ref w, .int (nI t)] S3 _
                    refine pm_wsTouch (by omega) m1 ht g2 (fun S4 tW2 to2 tz2 q1 q2 q3 q4 q5 q6 q7 => ?_)
                    refine fin S4 tW2 to2 tz2 q1 q2 q3 q4 (fun t1 ht1 => ?_) (fun q hq => (q6 q hq).trans (fr3 q hq)) (by rw [q7, u3.t, g10])
                    rw [q5 t1 ht1, e]
                    constructor
                    · rintro (z | z)
                      · exact Or.inl z
                      · rw [z]; exact Or.inr rfl
                    · rintro (z | z)
                      · exact Or.inl z
                      · exact Or.inr ((nI_eq (by omega) (by omega)).mp z).symm)
          (by
            intro ⟨l2, b2, o2, z2, n2⟩ S2 ⟨f1, f2, f3, f4, f5⟩
            dsimp only at f1 f2 f3 f4 f5
            refine px_P.sn 2 (f1 := (24, [(0, .ref w), (1, .int (nI n2)), (2, .int (nI kk)), (3, .int (nI 96))], [.int 96, .int (nI 96)])) (S1 := S2) rfl ?_
            refine px_P.ic_ge rfl rfl (fun _ => ?_) (fun h => absurd (nI_le (a := 96) (by omega) (by omega)) h)
            refine px_P.sn 2 (f1 := (4, [(0, .ref w), (1, .int (nI n2)), (2, .int ((nI kk) + 1)), (3, .int (nI 96))], [])) (S1 := S2) rfl ?_
            show px_P _ _ (4, [(0, .ref w), (1, .int (nI n2)), (2, .int ((nI kk) + 1)), (3, .int (nI 96))], []) S2 _
            refine px_P.wk (ls := [(0, .ref w), (1, .int (nI n2)), (2, .int ((nI kk) + 1))]) rfl (.cons_cons _ (.cons_cons _ (.cons_cons _ (.cons _ .slnil)))) ?_
            rw [nI_1]
            refine ih (kk + 1) (by omega) l2 b2 o2 z2 n2 S2 f1 (by omega) (fun i hi t et ht p z hp hz hr => ?_)
            by_cases e : i = kk
            · subst e
              rw [f3 i (Nat.le_refl _), et0] at et
              have e2 := (nI_eq (by omega) (by omega)).mp et
              subst e2
              exact f5 p z hp hz hr
            · refine f4 p hp (hc i (by omega) t ?_ ht p z hp hz hr)
              rw [← f3 i (by omega)]
              exact et)
        refine px_P.sn 2 (f1 := (6, [(0, .ref w), (1, .int (nI n)), (2, .int (nI kk))], [.ref w, .int (nI kk)])) (S1 := S1) rfl ?_
        refine px_P.gf rfl rfl (by assumption) (v := .int (nI z1)) rfl ?_
        refine px_P.ic_ge rfl rfl (fun h => absurd h (nI_ge hlt (by omega))) (fun _ => ?_)
        refine px_P.sn 2 (f1 := (16, [(0, .ref w), (1, .int (nI n)), (2, .int (nI kk))], [.int 208, .int (nI kk)])) (S1 := S1) rfl ?_
        refine px_P.ic_ge rfl rfl (fun h => absurd h (nI_ge (b := 208) (by omega) (by decide))) (fun _ => ?_)
        refine px_P.sn 2 (f1 := (21, [(0, .ref w), (1, .int (nI n)), (2, .int (nI kk)), (3, .int 0)], [])) (S1 := S1) rfl ?_
        exact inner 96 0 rfl (l1, b1, o1, z1, n) S1 ⟨hi', hlt, fun _ _ => rfl, fun _ _ e => e, fun p z hp => absurd hp (by omega)⟩
      · refine px_P.sn 2 (f1 := (6, [(0, .ref w), (1, .int (nI n)), (2, .int (nI kk))], [.ref w, .int (nI kk)])) (S1 := S1) rfl ?_
        refine px_P.gf rfl rfl (by assumption) (v := .int (nI z1)) rfl ?_
        refine px_P.ic_ge rfl rfl (fun _ => ?_) (fun h => absurd (nI_le (by omega) (by omega)) h)
        exact done kk l1 b1 o1 z1 n S1 hi' (by rw [show z1 = kk by omega]; exact hc)
  refine px_M.go (by omega) (Nat.le_of_ble_eq_true rfl) ?_
  refine px_P.sn 4 (f1 := (4, [(0, .ref w), (1, .int 0), (2, .int 0)], [])) (S1 := S) rfl ?_
  refine lp 208 0 rfl lk tW to tz 0 S ?_ (by omega) (fun i hi => absurd hi (by omega))
  rw [hI]
  exact ⟨h, hto, h01, fun _ _ e => e, fun _ _ e => e, hst, fun P R _ q1 q2 => ⟨q1, q2⟩, by omega, fun _ _ => rfl, rfl⟩
