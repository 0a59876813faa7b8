/-! ===== Workspace: restartTypes, wakeReaders, workOutWaiting, findFaults ===== -/
theorem pm_wsRestart {d w tz lo : Nat} {la : Nat → Option Nat} {T D lk wt to : Nat → Int32} {tW : Nat → Int64} {old : Int32} {G : ln_G} {S : px_S} {Q : Option Value → px_S → Prop} (hd : 4 ≤ d) (h : ws_at S w la T D lk wt tW to tz old) (hto : tou tW to tz) (hlo : lo_at S lo G) (hla : la_ok la G 96) (hwl : w + 10 ≤ lo)
    (h01 : ∀ p, p < 96 → lk p = 0 ∨ lk p = 1)
    (k : ∀ S' T' wt', ws_at S' w la T' D lk wt' tW to tz old → (∀ p, p < 96 → wt' p = lk p) → (∀ t, t < 208 → ss_in tW t = false → T' t = T t) → (∀ t, t < 208 → ss_in tW t = true → D t = 0 → le32 16 (T' t)) → (∀ p a s E t, p < 96 → la p = some a → G a = some (s, E) → lk p = 0 → t < 208 → ln_df s = nI t → ss_in tW t = true → le32 (ln_says s E.1) (T' t)) →
      (∀ X : Nat → Int32, (∀ t, t < 208 → ss_in tW t = true → D t = 0 → le32 16 (X t)) → (∀ p a s E t, p < 96 → la p = some a → G a = some (s, E) → lk p = 0 → t < 208 → ln_df s = nI t → ss_in tW t = true → le32 (ln_says s E.1) (X t)) → ∀ t, t < 208 → ss_in tW t = true → le32 (T' t) (X t)) →
      (∀ q, (q < w ∨ w + 10 ≤ q) → S'.1 q = S.1 q) → S'.2 = S.2 → Q none S') :
    px_M d px_m_Workspace_restartTypes [.ref w] S Q := by
  have hz : tz ≤ 208 := by rw [hto.1]; exact ct_le _ _
  -- the second loop
  have lp2 : ∀ (T0 : Nat → Int32), (∀ t, t < 208 → ss_in tW t = false → T0 t = T t) → (∀ t, t < 208 → ss_in tW t = true → T0 t = if D t = 0 then 16 else 0) → ∀ S0 : px_S, ws_at S0 w la T0 D lk wt tW to tz old → (∀ q, (q < w ∨ w + 10 ≤ q) → S0.1 q = S.1 q) → S0.2 = S.2 → px_P (d - 1) px_m_Workspace_restartTypes (38, [(0, .ref w), (1, .int (nI 0))], []) S0 Q := by
    intro T0 hT0 hT1 S0 hS0 hfr0 ht0
    refine px_for (d := d - 1) (mi := px_m_Workspace_restartTypes) (Q := Q) (X := (Nat → Int32) × (Nat → Int32)) 96 (fun i _ => (38, [(0, .ref w), (1, .int (nI i))], []))
      (fun i y S1 => ws_at S1 w la y.1 D lk y.2 tW to tz old ∧ (∀ p, p < i → y.2 p = lk p) ∧ (∀ t, t < 208 → ss_in tW t = false → y.1 t = T t) ∧ (∀ t, t < 208 → ss_in tW t = true → le32 (T0 t) (y.1 t)) ∧ (∀ p a s E t, p < i → la p = some a → G a = some (s, E) → lk p = 0 → t < 208 → ln_df s = nI t → ss_in tW t = true → le32 (ln_says s E.1) (y.1 t)) ∧
        (∀ X : Nat → Int32, (∀ t, t < 208 → ss_in tW t = true → D t = 0 → le32 16 (X t)) → (∀ p a s E t, p < 96 → la p = some a → G a = some (s, E) → lk p = 0 → t < 208 → ln_df s = nI t → ss_in tW t = true → le32 (ln_says s E.1) (X t)) → ∀ t, t < 208 → ss_in tW t = true → le32 (y.1 t) (X t)) ∧
        (∀ q, (q < w ∨ w + 10 ≤ q) → S1.1 q = S.1 q) ∧ S1.2 = S.2)
      (by
        intro i hi ⟨T1, w1⟩ S1 ⟨g1, g2, g3, g4, g5, g6, g7, g8⟩ ih
        dsimp only at g1 g2 g3 g4 g5 g6
        have g1' := g1
        obtain ⟨h0, h1, h2, h3, h4, h5, h6, h7, h8, h9⟩ := g1
        refine px_P.sn 2 (f1 := (41, [(0, .ref w), (1, .int (nI i))], [.int 96, .int (nI i)])) (S1 := S1) rfl ?_
        refine px_P.ic_ge rfl rfl (fun h => absurd h (nI_ge (b := 96) hi (by decide))) (fun _ => ?_)
        refine px_P.sn 1 (f1 := (45, [(0, .ref w), (1, .int (nI i))], [.ref w])) (S1 := S1) rfl ?_
        refine px_P.gf rfl rfl (by assumption) (v := .ref (w + 1)) rfl ?_
        refine px_P.sn 1 (f1 := (49, [(0, .ref w), (1, .int (nI i))], [.int (nI i), .ref (w + 1)])) (S1 := S1) rfl ?_
        refine px_P.aaldj (j := i) rfl (by assumption) rfl rfl (by omega) (by decide) ?_
        have wtu : ∀ (S2 : px_S), px_Up S1 S2 (w + 6) (.inl (2, 96, .inl (upd w1 i (lk i)))) → ws_at S2 w la T1 D lk (upd w1 i (lk i)) tW to tz old ∧ (∀ p, p < i + 1 → upd w1 i (lk i) p = lk p) ∧ (∀ q, (q < w ∨ w + 10 ≤ q) → S2.1 q = S.1 q) ∧ S2.2 = S.2 := by
          intro S2 u2
          refine ⟨g1'.uw u2, fun p hp => ?_, fun q hq => by rw [u2.o (by omega)]; exact g7 q hq, by rw [u2.t, g8]⟩
          by_cases e : p = i
          · subst e; exact pk_us
          · rw [pk_un e]; exact g2 p (by omega)
        have skip : ∀ (S2 : px_S), px_Up S1 S2 (w + 6) (.inl (2, 96, .inl (upd w1 i (lk i)))) → (∀ a s E t, la i = some a → G a = some (s, E) → lk i = 0 → t < 208 → ln_df s = nI t → ss_in tW t = true → le32 (ln_says s E.1) (T1 t)) → px_P (d - 1) px_m_Workspace_restartTypes (38, [(0, .ref w), (1, .int (nI (i + 1)))], []) S2 Q := by
          intro S2 u2 hn
          obtain ⟨e1, e2, e3, e4⟩ := wtu S2 u2
          refine ih (T1, upd w1 i (lk i)) S2 ⟨e1, e2, g3, g4, fun p a s E t hp => ?_, g6, e3, e4⟩
          by_cases e : p = i
          · subst e; exact hn a s E t
          · exact g5 p a s E t (by omega)
        have h01i : (lk i == 0 || lk i == 1) = true := by
          rcases h01 i hi with e | e <;> rw [e] <;> rfl
        cases hl : la i with
        | none =>
          show px_P _ _ (50, [(0, .ref w), (1, .int (nI i))], [.null]) S1 _
          refine px_P.sn 2 (f1 := (52, [(0, .ref w), (1, .int (nI i)), (2, .null)], [.ref w])) (S1 := S1) rfl ?_
          refine px_P.gf rfl rfl (by assumption) (v := .ref (w + 6)) rfl ?_
          refine px_P.sn 2 (f1 := (57, [(0, .ref w), (1, .int (nI i)), (2, .null)], [.ref w, .int (nI i), .ref (w + 6)])) (S1 := S1) rfl ?_
          refine px_P.gf rfl rfl (by assumption) (v := .ref (w + 5)) rfl ?_
          refine px_P.sn 1 (f1 := (61, [(0, .ref w), (1, .int (nI i)), (2, .null)], [.int (nI i), .ref (w + 5), .int (nI i), .ref (w + 6)])) (S1 := S1) rfl ?_
          refine px_P.zaldj (j := i) rfl (by assumption) rfl (by omega) (by decide) ?_
          refine px_P.zastj (j := i) rfl (by assumption) h01i rfl (by omega) (by decide) (fun S2 u2 => ?_)
          refine px_P.sn 4 (f1 := (38, [(0, .ref w), (1, .int ((nI i) + 1)), (2, .null)], [])) (S1 := S2) rfl ?_
          show px_P _ _ (38, [(0, .ref w), (1, .int ((nI i) + 1)), (2, .null)], []) S2 _
          refine px_P.wk (ls := [(0, .ref w), (1, .int ((nI i) + 1))]) rfl (.cons_cons _ (.cons_cons _ (.cons _ .slnil))) ?_
          rw [nI_1]
          exact skip S2 u2 (fun a s E t hz => by rw [hl] at hz; cases hz)
        | some b =>
          obtain ⟨s, E, hg⟩ := hla i b hi hl
          show px_P _ _ (50, [(0, .ref w), (1, .int (nI i))], [.ref b]) S1 _
          refine px_P.sn 2 (f1 := (52, [(0, .ref w), (1, .int (nI i)), (2, .ref b)], [.ref w])) (S1 := S1) rfl ?_
          refine px_P.gf rfl rfl (by assumption) (v := .ref (w + 6)) rfl ?_
          refine px_P.sn 2 (f1 := (57, [(0, .ref w), (1, .int (nI i)), (2, .ref b)], [.ref w, .int (nI i), .ref (w + 6)])) (S1 := S1) rfl ?_
          refine px_P.gf rfl rfl (by assumption) (v := .ref (w + 5)) rfl ?_
          refine px_P.sn 1 (f1 := (61, [(0, .ref w), (1, .int (nI i)), (2, .ref b)], [.int (nI i), .ref (w + 5), .int (nI i), .ref (w + 6)])) (S1 := S1) rfl ?_
          refine px_P.zaldj (j := i) rfl (by assumption) rfl (by omega) (by decide) ?_
          refine px_P.zastj (j := i) rfl (by assumption) h01i rfl (by omega) (by decide) (fun S2 u2 => ?_)
          obtain ⟨e1, e2, e3, e4⟩ := wtu S2 u2
          have e1' := e1
          obtain ⟨k0, k1, k2, k3, k4, k5, k6, k7, k8, k9⟩ := e1
          have hlo2 : lo_at S2 lo G := hlo.keep (fun q hq _ => e3 q (by omega)) (by rw [e4]; exact Nat.le_refl _)
          obtain ⟨l1, l2, l3⟩ := hlo2.1 b s E hg
          obtain ⟨fs, hb⟩ := hlo2.cell hg
          refine px_P.sn 3 (f1 := (68, [(0, .ref w), (1, .int (nI i)), (2, .ref b)], [.ref w])) (S1 := S2) rfl ?_
          refine px_P.gf rfl rfl (by assumption) (v := .ref (w + 5)) rfl ?_
          refine px_P.sn 1 (f1 := (72, [(0, .ref w), (1, .int (nI i)), (2, .ref b)], [.int (nI i), .ref (w + 5)])) (S1 := S2) rfl ?_
          refine px_P.zaldj (j := i) rfl (by assumption) rfl (by omega) (by decide) ?_
          refine px_P.if_ne rfl rfl (fun hq => ?_) (fun hq => ?_)
          · refine px_P.sn 2 (f1 := (38, [(0, .ref w), (1, .int ((nI i) + 1)), (2, .ref b)], [])) (S1 := S2) rfl ?_
            show px_P _ _ (38, [(0, .ref w), (1, .int ((nI i) + 1)), (2, .ref b)], []) S2 _
            refine px_P.wk (ls := [(0, .ref w), (1, .int ((nI i) + 1))]) rfl (.cons_cons _ (.cons_cons _ (.cons _ .slnil))) ?_
            rw [nI_1]
            exact skip S2 u2 (fun a s E t _ _ hz => absurd hz hq)
          · refine px_P.sn 1 (f1 := (77, [(0, .ref w), (1, .int (nI i)), (2, .ref b)], [.ref w])) (S1 := S2) rfl ?_
            refine px_P.gf rfl rfl (by assumption) (v := .ref (w + 7)) rfl ?_
            refine px_P.sn 1 (f1 := (81, [(0, .ref w), (1, .int (nI i)), (2, .ref b)], [.ref b, .ref (w + 7)])) (S1 := S2) rfl ?_
            refine px_P.cv rfl rfl rfl (by assumption) rfl ?_
            show px_M _ px_m_Line_defined [.ref b] S2 _
            refine pm_lnDefined (by omega) l1 ?_
            rcases l2.2.1 with e | ⟨t, ht, e⟩
            · rw [e]
              show px_P _ _ (84, [(0, .ref w), (1, .int (nI i)), (2, .ref b)], [.int (-1), .ref (w + 7)]) S2 _
              refine px_P.cv rfl rfl rfl (by assumption) rfl ?_
              show px_M _ px_m_SymbolSet_has [.ref (w + 7), .int (-1)] S2 _
              refine pm_ss_has (by omega) k7 k8 ?_
              rw [ss_hs_neg (by decide)]
              show px_P _ _ (87, [(0, .ref w), (1, .int (nI i)), (2, .ref b)], [.int 0]) S2 _
              refine px_P.if_eq rfl rfl (fun _ => ?_) (fun h => absurd (rfl) h)
              refine px_P.sn 2 (f1 := (38, [(0, .ref w), (1, .int ((nI i) + 1)), (2, .ref b)], [])) (S1 := S2) rfl ?_
              show px_P _ _ (38, [(0, .ref w), (1, .int ((nI i) + 1)), (2, .ref b)], []) S2 _
              refine px_P.wk (ls := [(0, .ref w), (1, .int ((nI i) + 1))]) rfl (.cons_cons _ (.cons_cons _ (.cons _ .slnil))) ?_
              rw [nI_1]
              refine skip S2 u2 (fun a s1 E1 t1 ha hga _ ht1 hdf _ => ?_)
              rw [hl] at ha; cases ha
              rw [hg] at hga; cases hga
              rw [e] at hdf
              exact absurd hdf.symm (nI_neg (by omega))
            · rw [e]
              show px_P _ _ (84, [(0, .ref w), (1, .int (nI i)), (2, .ref b)], [.int (nI t), .ref (w + 7)]) S2 _
              refine px_P.cv rfl rfl rfl (by assumption) rfl ?_
              show px_M _ px_m_SymbolSet_has [.ref (w + 7), .int (nI t)] S2 _
              refine pm_ss_has (by omega) k7 k8 ?_
              rw [ss_hs_in ht]
              cases hbt : ss_in tW t with
              | false =>
                show px_P _ _ (87, [(0, .ref w), (1, .int (nI i)), (2, .ref b)], [.int 0]) S2 _
                refine px_P.if_eq rfl rfl (fun _ => ?_) (fun h => absurd (rfl) h)
                refine px_P.sn 2 (f1 := (38, [(0, .ref w), (1, .int ((nI i) + 1)), (2, .ref b)], [])) (S1 := S2) rfl ?_
                show px_P _ _ (38, [(0, .ref w), (1, .int ((nI i) + 1)), (2, .ref b)], []) S2 _
                refine px_P.wk (ls := [(0, .ref w), (1, .int ((nI i) + 1))]) rfl (.cons_cons _ (.cons_cons _ (.cons _ .slnil))) ?_
                rw [nI_1]
                refine skip S2 u2 (fun a s1 E1 t1 ha hga _ ht1 hdf hti => ?_)
                rw [hl] at ha; cases ha
                rw [hg] at hga; cases hga
                rw [e] at hdf
                rw [← (nI_eq (by omega) (by omega)).mp hdf, hbt] at hti
                cases hti
              | true =>
                show px_P _ _ (87, [(0, .ref w), (1, .int (nI i)), (2, .ref b)], [.int 1]) S2 _
                refine px_P.if_eq rfl rfl (fun h => absurd h ((by decide))) (fun _ => ?_)
                refine px_P.sn 1 (f1 := (91, [(0, .ref w), (1, .int (nI i)), (2, .ref b)], [.ref w])) (S1 := S2) rfl ?_
                refine px_P.gf rfl rfl (by assumption) (v := .ref (w + 2)) rfl ?_
                refine px_P.sn 1 (f1 := (95, [(0, .ref w), (1, .int (nI i)), (2, .ref b)], [.ref b, .ref (w + 2)])) (S1 := S2) rfl ?_
                refine px_P.cv rfl rfl rfl (by assumption) rfl ?_
                show px_M _ px_m_Line_defined [.ref b] S2 _
                refine pm_lnDefined (by omega) l1 ?_
                rw [e]
                show px_P _ _ (98, [(0, .ref w), (1, .int (nI i)), (2, .ref b)], [.int (nI t), .ref (w + 2)]) S2 _
                refine px_P.sn 1 (f1 := (99, [(0, .ref w), (1, .int (nI i)), (2, .ref b)], [.ref b, .int (nI t), .ref (w + 2)])) (S1 := S2) rfl ?_
                refine px_P.cv rfl rfl rfl (by assumption) rfl ?_
                show px_M _ px_m_Line_says [.ref b] S2 _
                refine pm_lnSays (by omega) l1 ?_
                show px_P _ _ (102, [(0, .ref w), (1, .int (nI i)), (2, .ref b)], [.int (ln_says s E.1), .int (nI t), .ref (w + 2)]) S2 _
                refine px_P.cv rfl rfl rfl (by assumption) rfl ?_
                show px_M _ px_m_Symbols_grow [.ref (w + 2), .int (nI t), .int (ln_says s E.1)] S2 _
                refine pm_grow (by omega) k2 k3 ht (fun hz0 => ?_) (fun hz1 S3 u3 => ?_)
                · show px_P _ _ (105, [(0, .ref w), (1, .int (nI i)), (2, .ref b)], [.int 0]) S2 _
                  refine px_P.sn 3 (f1 := (38, [(0, .ref w), (1, .int ((nI i) + 1)), (2, .ref b)], [])) (S1 := S2) rfl ?_
                  show px_P _ _ (38, [(0, .ref w), (1, .int ((nI i) + 1)), (2, .ref b)], []) S2 _
                  refine px_P.wk (ls := [(0, .ref w), (1, .int ((nI i) + 1))]) rfl (.cons_cons _ (.cons_cons _ (.cons _ .slnil))) ?_
                  rw [nI_1]
                  refine skip S2 u2 (fun a s1 E1 t1 ha hga _ ht1 hdf hti => ?_)
                  rw [hl] at ha; cases ha
                  rw [hg] at hga; cases hga
                  rw [e] at hdf
                  rw [← (nI_eq (by omega) (by omega)).mp hdf]
                  exact le32_gr.mp hz0
                · show px_P _ _ (105, [(0, .ref w), (1, .int (nI i)), (2, .ref b)], [.int 1]) S3 _
                  refine px_P.sn 3 (f1 := (38, [(0, .ref w), (1, .int ((nI i) + 1)), (2, .ref b)], [])) (S1 := S3) rfl ?_
                  show px_P _ _ (38, [(0, .ref w), (1, .int ((nI i) + 1)), (2, .ref b)], []) S3 _
                  refine px_P.wk (ls := [(0, .ref w), (1, .int ((nI i) + 1))]) rfl (.cons_cons _ (.cons_cons _ (.cons _ .slnil))) ?_
                  rw [nI_1]
                  refine ih (upd T1 t (T1 t ||| ln_says s E.1), upd w1 i (lk i)) S3 ⟨e1'.uT u3, e2, fun t1 ht1 hf => ?_, fun t1 ht1 hf => ?_, fun p a s1 E1 t1 hp ha hga hlk ht1 hdf hti => ?_, fun X x1 x2 t1 ht1 hti => ?_, fun q hq => by rw [u3.o (by omega)]; exact e3 q hq, by rw [u3.t, e4]⟩
                  · dsimp only
                    rw [pk_un (fun z => by rw [z, hbt] at hf; cases hf)]
                    exact g3 t1 ht1 hf
                  · dsimp only
                    by_cases z : t1 = t
                    · subst z; rw [pk_us]; exact (g4 t1 ht1 hf).tr (le32.l _ _)
                    · rw [pk_un z]; exact g4 t1 ht1 hf
                  · dsimp only
                    by_cases ep : p = i
                    · subst ep
                      rw [hl] at ha; cases ha
                      rw [hg] at hga; cases hga
                      rw [e] at hdf
                      rw [← (nI_eq (by omega) (by omega)).mp hdf, pk_us]
                      exact le32.r _ _
                    · have := g5 p a s1 E1 t1 (by omega) ha hga hlk ht1 hdf hti
                      by_cases z : t1 = t
                      · subst z; rw [pk_us]; exact this.tr (le32.l _ _)
                      · rw [pk_un z]; exact this
                  · dsimp only
                    by_cases z : t1 = t
                    · subst z
                      rw [pk_us]
                      exact (g6 X x1 x2 t1 ht1 hti).or (x2 i b s E t1 hi hl hg hq ht1 e hti)
                    · rw [pk_un z]; exact g6 X x1 x2 t1 ht1 hti)
      (by
        intro ⟨T1, w1⟩ S1 ⟨g1, g2, g3, g4, g5, g6, g7, g8⟩
        dsimp only at g1 g2 g3 g4 g5 g6
        refine px_P.sn 2 (f1 := (41, [(0, .ref w), (1, .int (nI 96))], [.int 96, .int (nI 96)])) (S1 := S1) rfl ?_
        refine px_P.ic_ge rfl rfl (fun _ => ?_) (fun h => absurd (nI_le (a := 96) (by omega) (by omega)) h)
        refine px_P.ret rfl ?_
        refine k S1 T1 w1 g1 g2 g3 (fun t ht htt hD => ?_) g5 g6 g7 g8
        have := g4 t ht htt
        rw [hT1 t ht htt, if_pos hD] at this
        exact this)
      96 0 rfl (T0, wt) S0 ⟨hS0, fun p hp => absurd hp (by omega), hT0, fun _ _ _ => le32.rf _, fun p a s E t hp => absurd hp (by omega), fun X x1 x2 t ht htt => ?_, hfr0, ht0⟩
    dsimp only
    rw [hT1 t ht htt]
    split
    · rename_i hD; exact x1 t ht htt hD
    · exact le32.z _
  have lp := px_for (d := d - 1) (mi := px_m_Workspace_restartTypes) (Q := Q) (X := Nat → Int32) tz (fun i _ => (2, [(0, .ref w), (1, .int (nI i))], []))
    (fun i T1 S1 => ws_at S1 w la T1 D lk wt tW to tz old ∧ (∀ t, t < 208 → (∀ j, j < i → ¬ to j = nI t) → T1 t = T t) ∧ (∀ t j, t < 208 → j < i → to j = nI t → T1 t = if D t = 0 then 16 else 0) ∧ (∀ q, (q < w ∨ w + 10 ≤ q) → S1.1 q = S.1 q) ∧ S1.2 = S.2)
    (by
      intro i hi T1 S1 ⟨g1, g2, g3, g4, g5⟩ ih
      have g1' := g1
      obtain ⟨h0, h1, h2, h3, h4, h5, h6, h7, h8, h9⟩ := g1
      obtain ⟨t, ht, e, _⟩ := hto.2.1 i hi
      refine px_P.sn 2 (f1 := (4, [(0, .ref w), (1, .int (nI i))], [.ref w, .int (nI i)])) (S1 := S1) rfl ?_
      refine px_P.gf rfl rfl (by assumption) (v := .int (nI tz)) rfl ?_
      refine px_P.ic_ge rfl rfl (fun h => absurd h (nI_ge hi (by omega))) (fun _ => ?_)
      refine px_P.sn 2 (f1 := (14, [(0, .ref w), (1, .int (nI i))], [.int 208, .int (nI i)])) (S1 := S1) rfl ?_
      refine px_P.ic_ge rfl rfl (fun h => absurd h (nI_ge (b := 208) (by omega) (by decide))) (fun _ => ?_)
      refine px_P.sn 1 (f1 := (18, [(0, .ref w), (1, .int (nI i))], [.ref w])) (S1 := S1) rfl ?_
      refine px_P.gf rfl rfl (by assumption) (v := .ref (w + 2)) rfl ?_
      refine px_P.sn 1 (f1 := (22, [(0, .ref w), (1, .int (nI i))], [.ref w, .ref (w + 2)])) (S1 := S1) rfl ?_
      refine px_P.gf rfl rfl (by assumption) (v := .ref (w + 9)) rfl ?_
      refine px_P.sn 1 (f1 := (26, [(0, .ref w), (1, .int (nI i))], [.int (nI i), .ref (w + 9), .ref (w + 2)])) (S1 := S1) rfl ?_
      refine px_P.ialdj (j := i) rfl (by assumption) rfl (by omega) (by decide) ?_
      rw [e]
      show px_P _ _ (27, [(0, .ref w), (1, .int (nI i))], [.int (nI t), .ref (w + 2)]) S1 _
      refine px_P.cv rfl rfl rfl (by assumption) rfl ?_
      show px_M _ px_m_Symbols_restart [.ref (w + 2), .int (nI t)] S1 _
      refine pm_restart (by omega) h2 h3 h4 ht (fun S2 u2 => ?_)
      show px_P _ _ (30, [(0, .ref w), (1, .int (nI i))], []) S2 _
      refine px_P.sn 2 (f1 := (2, [(0, .ref w), (1, .int ((nI i) + 1))], [])) (S1 := S2) rfl ?_
      rw [nI_1]
      refine ih _ S2 ⟨g1'.uT u2, fun t1 ht1 hn => ?_, fun t1 j ht1 hj hj2 => ?_, fun q hq => by rw [u2.o (by omega)]; exact g4 q hq, by rw [u2.t, g5]⟩
      · rw [pk_un (fun z => hn i (by omega) (by rw [e, z]))]
        exact g2 t1 ht1 (fun j hj => hn j (by omega))
      · by_cases z : t1 = t
        · subst z; rw [pk_us]
        · rw [pk_un z]
          refine g3 t1 j ht1 ?_ hj2
          rcases (show j < i ∨ j = i by omega) with z2 | z2
          · exact z2
          · rw [z2, e] at hj2
            exact absurd ((nI_eq (by omega) (by omega)).mp hj2).symm z)
    (by
      intro T1 S1 ⟨g1, g2, g3, g4, g5⟩
      have h0 := g1.1
      refine px_P.sn 2 (f1 := (4, [(0, .ref w), (1, .int (nI tz))], [.ref w, .int (nI tz)])) (S1 := S1) rfl ?_
      refine px_P.gf rfl rfl (by assumption) (v := .int (nI tz)) rfl ?_
      refine px_P.ic_ge rfl rfl (fun _ => ?_) (fun h => absurd (nI_le (Nat.le_refl _) (by omega)) h)
      refine px_P.sn 2 (f1 := (38, [(0, .ref w), (1, .int 0)], [])) (S1 := S1) rfl ?_
      refine lp2 T1 (fun t ht hf => g2 t ht (fun j hj z => ?_)) (fun t ht htt => ?_) S1 g1 g4 g5
      · obtain ⟨t1, ht1, e1, e2⟩ := hto.2.1 j hj
        rw [z] at e1
        rw [← (nI_eq (by omega) (by omega)).mp e1, hf] at e2
        cases e2
      · obtain ⟨j, hj, e⟩ := hto.2.2 t ht htt
        exact g3 t j ht hj e)
  refine px_M.go (by omega) (Nat.le_of_ble_eq_true rfl) ?_
  refine px_P.sn 2 (f1 := (2, [(0, .ref w), (1, .int 0)], [])) (S1 := S) rfl ?_
  exact lp tz 0 (by omega) T S ⟨h, fun _ _ _ => rfl, fun t j _ hj => absurd hj (by omega), fun _ _ => rfl, rfl⟩
theorem pm_wsWake {d w tz lo t : Nat} {la : Nat → Option Nat} {T D lk wt to : Nat → Int32} {tW : Nat → Int64} {old : Int32} {G : ln_G} {S : px_S} {Q : Option Value → px_S → Prop} (hd : 3 ≤ d) (h : ws_at S w la T D lk wt tW to tz old) (hlo : lo_at S lo G) (hla : la_ok la G 96) (hwl : w + 10 ≤ lo) (ht : t < 208)
    (k : ∀ S' wt', ws_at S' w la T D lk wt' tW to tz old → (∀ p, p < 96 → wt' p = wt p ∨ wt' p = 1) → (∀ p z, p < 96 → sp la G p = some z → ss_in (ln_W z) t = true → wt' p = 1) → (∀ p, 96 ≤ p → wt' p = wt p) → (∀ q, (q < w ∨ w + 10 ≤ q) → S'.1 q = S.1 q) → S'.2 = S.2 → Q none S') :
    px_M d px_m_Workspace_wakeReaders [.ref w, .int (nI t)] S Q := by
  have lp := px_for (d := d - 1) (mi := px_m_Workspace_wakeReaders) (Q := Q) (X := Nat → Int32) 96 (fun i _ => (2, [(0, .ref w), (1, .int (nI t)), (2, .int (nI i))], []))
    (fun i w1 S1 => ws_at S1 w la T D lk w1 tW to tz old ∧ (∀ p, p < 96 → w1 p = wt p ∨ w1 p = 1) ∧ (∀ p z, p < i → sp la G p = some z → ss_in (ln_W z) t = true → w1 p = 1) ∧ (∀ p, 96 ≤ p → w1 p = wt p) ∧ (∀ q, (q < w ∨ w + 10 ≤ q) → S1.1 q = S.1 q) ∧ S1.2 = S.2)
    (by
      intro i hi w1 S1 ⟨g1, g2, g3, g4, g5, g6⟩ ih
      have g1' := g1
      obtain ⟨h0, h1, h2, h3, h4, h5, h6, h7, h8, h9⟩ := g1
      have hlo1 : lo_at S1 lo G := hlo.keep (fun q hq _ => g5 q (by omega)) (by rw [g6]; exact Nat.le_refl _)
      have skip : (∀ z, sp la G i = some z → ss_in (ln_W z) t = true → w1 i = 1) → px_P (d - 1) px_m_Workspace_wakeReaders (2, [(0, .ref w), (1, .int (nI t)), (2, .int (nI (i + 1)))], []) S1 Q := by
        intro hn
        refine ih w1 S1 ⟨g1', g2, fun p z hp hz hr => ?_, g4, g5, g6⟩
        by_cases e : p = i
        · subst e; exact hn z hz hr
        · exact g3 p z (by omega) hz hr
      refine px_P.sn 2 (f1 := (5, [(0, .ref w), (1, .int (nI t)), (2, .int (nI i))], [.int 96, .int (nI i)])) (S1 := S1) rfl ?_
      refine px_P.ic_ge rfl rfl (fun h => absurd h (nI_ge (b := 96) hi (by decide))) (fun _ => ?_)
      refine px_P.sn 1 (f1 := (9, [(0, .ref w), (1, .int (nI t)), (2, .int (nI i))], [.ref w])) (S1 := S1) rfl ?_
      refine px_P.gf rfl rfl (by assumption) (v := .ref (w + 1)) rfl ?_
      refine px_P.sn 1 (f1 := (13, [(0, .ref w), (1, .int (nI t)), (2, .int (nI i))], [.int (nI i), .ref (w + 1)])) (S1 := S1) rfl ?_
      refine px_P.aaldj (j := i) rfl (by assumption) rfl rfl (by omega) (by decide) ?_
      cases hl : la i with
      | none =>
        show px_P _ _ (14, [(0, .ref w), (1, .int (nI t)), (2, .int (nI i))], [.null]) S1 _
        refine px_P.sn 5 (f1 := (2, [(0, .ref w), (1, .int (nI t)), (2, .int ((nI i) + 1)), (3, .null)], [])) (S1 := S1) rfl ?_
        show px_P _ _ (2, [(0, .ref w), (1, .int (nI t)), (2, .int ((nI i) + 1)), (3, .null)], []) S1 _
        refine px_P.wk (ls := [(0, .ref w), (1, .int (nI t)), (2, .int ((nI i) + 1))]) rfl (.cons_cons _ (.cons_cons _ (.cons_cons _ (.cons _ .slnil)))) ?_
        rw [nI_1]
        exact skip (fun z hz => by rw [sp_n hl] at hz; cases hz)
      | some b =>
        obtain ⟨s, E, hg⟩ := hla i b hi hl
        obtain ⟨l1, l2, l3⟩ := hlo1.1 b s E hg
        obtain ⟨fs, hb⟩ := hlo1.cell hg
        have hsp := sp_s hl hg
        show px_P _ _ (14, [(0, .ref w), (1, .int (nI t)), (2, .int (nI i))], [.ref b]) S1 _
        refine px_P.sn 5 (f1 := (21, [(0, .ref w), (1, .int (nI t)), (2, .int (nI i)), (3, .ref b)], [.int (nI t), .ref b])) (S1 := S1) rfl ?_
        refine px_P.cv rfl rfl rfl (by assumption) rfl ?_
        show px_M _ px_m_Line_reads [.ref b, .int (nI t)] S1 _
        refine pm_lnReads (by omega) l1 ?_
        rw [ss_hs_in ht]
        cases hr : ss_in (ln_W s) t with
        | false =>
          show px_P _ _ (24, [(0, .ref w), (1, .int (nI t)), (2, .int (nI i)), (3, .ref b)], [.int 0]) S1 _
          refine px_P.if_eq rfl rfl (fun _ => ?_) (fun h => absurd (rfl) h)
          refine px_P.sn 2 (f1 := (2, [(0, .ref w), (1, .int (nI t)), (2, .int ((nI i) + 1)), (3, .ref b)], [])) (S1 := S1) rfl ?_
          show px_P _ _ (2, [(0, .ref w), (1, .int (nI t)), (2, .int ((nI i) + 1)), (3, .ref b)], []) S1 _
          refine px_P.wk (ls := [(0, .ref w), (1, .int (nI t)), (2, .int ((nI i) + 1))]) rfl (.cons_cons _ (.cons_cons _ (.cons_cons _ (.cons _ .slnil)))) ?_
          rw [nI_1]
          exact skip (fun z hz hz2 => by rw [hsp] at hz; cases hz; rw [hr] at hz2; cases hz2)
        | true =>
          show px_P _ _ (24, [(0, .ref w), (1, .int (nI t)), (2, .int (nI i)), (3, .ref b)], [.int 1]) S1 _
          refine px_P.if_eq rfl rfl (fun h => absurd h ((by decide))) (fun _ => ?_)
          refine px_P.sn 1 (f1 := (28, [(0, .ref w), (1, .int (nI t)), (2, .int (nI i)), (3, .ref b)], [.ref w])) (S1 := S1) rfl ?_
          refine px_P.gf rfl rfl (by assumption) (v := .ref (w + 6)) rfl ?_
          refine px_P.sn 2 (f1 := (33, [(0, .ref w), (1, .int (nI t)), (2, .int (nI i)), (3, .ref b)], [.int 1, .int (nI i), .ref (w + 6)])) (S1 := S1) rfl ?_
          refine px_P.zastj (j := i) rfl (by assumption) rfl rfl (by omega) (by decide) (fun S2 u2 => ?_)
          refine px_P.sn 2 (f1 := (2, [(0, .ref w), (1, .int (nI t)), (2, .int ((nI i) + 1)), (3, .ref b)], [])) (S1 := S2) rfl ?_
          show px_P _ _ (2, [(0, .ref w), (1, .int (nI t)), (2, .int ((nI i) + 1)), (3, .ref b)], []) S2 _
          refine px_P.wk (ls := [(0, .ref w), (1, .int (nI t)), (2, .int ((nI i) + 1))]) rfl (.cons_cons _ (.cons_cons _ (.cons_cons _ (.cons _ .slnil)))) ?_
          rw [nI_1]
          refine ih _ S2 ⟨g1'.uw u2, fun p hp => ?_, fun p z hp hz hr2 => ?_, fun p hp => ?_, fun q hq => by rw [u2.o (by omega)]; exact g5 q hq, by rw [u2.t, g6]⟩
          · by_cases e : p = i
            · subst e; exact Or.inr pk_us
            · rw [pk_un e]; exact g2 p hp
          · by_cases e : p = i
            · subst e; exact pk_us
            · rw [pk_un e]; exact g3 p z (by omega) hz hr2
          · rw [pk_un (by omega)]; exact g4 p hp)
    (by
      intro w1 S1 ⟨g1, g2, g3, g4, g5, g6⟩
      refine px_P.sn 2 (f1 := (5, [(0, .ref w), (1, .int (nI t)), (2, .int (nI 96))], [.int 96, .int (nI 96)])) (S1 := S1) rfl ?_
      refine px_P.ic_ge rfl rfl (fun _ => ?_) (fun h => absurd (nI_le (a := 96) (by omega) (by omega)) h)
      refine px_P.ret rfl ?_
      exact k S1 w1 g1 g2 g3 g4 g5 g6)
  refine px_M.go (by omega) (Nat.le_of_ble_eq_true rfl) ?_
  refine px_P.sn 2 (f1 := (2, [(0, .ref w), (1, .int (nI t)), (2, .int 0)], [])) (S1 := S) rfl ?_
  exact lp 96 0 rfl wt S ⟨h, fun _ _ => Or.inl rfl, fun p z hp => absurd hp (by omega), fun _ _ => rfl, fun _ _ => rfl, rfl⟩
