/-! ===== Circles: gatherReads, followOn ===== -/
theorem pm_ciGather {d c v lo ds cc sc : Nat} {H : Nat → Nat → Int64} {ls df : Nat → Int32} {la : Nat → Option Nat} {G : ln_G} {S : px_S} {Q : Option Value → px_S → Prop} (hd : 3 ≤ d) (hc : ci_at S c H ls df ds cc sc) (hv : S.1 v = some (.inl (4, 96, .inr (.inr (.inr (.inr la)))))) (hlo : lo_at S lo G) (hla : la_ok la G 96) (hco : c + 420 ≤ lo) (hvo : v < c ∨ c + 420 ≤ v)
    (k : ∀ S' H', ci_at S' c H' ls df ds cc sc → (∀ s t, s < 208 → t < 208 → (ss_in (H' s) t = true ↔ ss_in (H s) t = true ∨ ∃ p, p < 96 ∧ rd1 (sp la G) p s t)) → (∀ q, (q < c ∨ c + 420 ≤ q) → S'.1 q = S.1 q) → S'.2 = S.2 → Q none S') :
    px_M d px_m_Circles_gatherReads [.ref c, .ref v] S Q := by
  have lp := px_for (d := d - 1) (mi := px_m_Circles_gatherReads) (Q := Q) (X := Nat → Nat → Int64) 96 (fun i _ => (2, [(0, .ref c), (1, .ref v), (2, .int (nI i))], []))
    (fun i H1 S1 => ci_at S1 c H1 ls df ds cc sc ∧ (∀ s t, s < 208 → t < 208 → (ss_in (H1 s) t = true ↔ ss_in (H s) t = true ∨ ∃ p, p < i ∧ rd1 (sp la G) p s t)) ∧ (∀ q, (q < c ∨ c + 420 ≤ q) → S1.1 q = S.1 q) ∧ S1.2 = S.2)
    (by
      intro i hi H1 S1 ⟨h1, h2, h3, h4⟩ ih
      have hv1 := (h3 v hvo).trans hv
      have h1' := h1
      obtain ⟨a0, ⟨hf, a1, a2⟩, a3, a4, a5⟩ := h1
      have hlo1 : lo_at S1 lo G := hlo.keep (fun q hq _ => h3 q (by omega)) (by rw [h4]; exact Nat.le_refl _)
      have skip : (¬ ∃ s t, s < 208 ∧ t < 208 ∧ rd1 (sp la G) i s t) → px_P (d - 1) px_m_Circles_gatherReads (2, [(0, .ref c), (1, .ref v), (2, .int (nI (i + 1)))], []) S1 Q := by
        intro hn
        refine ih H1 S1 ⟨h1', fun s t hs ht => ?_, h3, h4⟩
        rw [h2 s t hs ht]
        constructor
        · rintro (e | ⟨p, hp, e⟩)
          · exact Or.inl e
          · exact Or.inr ⟨p, by omega, e⟩
        · rintro (e | ⟨p, hp, e⟩)
          · exact Or.inl e
          · by_cases ep : p = i
            · subst ep; exact absurd ⟨s, t, hs, ht, e⟩ hn
            · exact Or.inr ⟨p, by omega, e⟩
      refine px_P.sn 2 (f1 := (4, [(0, .ref c), (1, .ref v), (2, .int (nI i))], [.ref v, .int (nI i)])) (S1 := S1) rfl ?_
      refine px_P.alen rfl (by assumption) rfl ?_
      refine px_P.ic_ge rfl rfl (fun h => absurd h (nI_ge (b := 96) (by omega) (by decide))) (fun _ => ?_)
      refine px_P.sn 2 (f1 := (10, [(0, .ref c), (1, .ref v), (2, .int (nI i))], [.int (nI i), .ref v])) (S1 := S1) rfl ?_
      refine px_P.aaldj (j := i) rfl (by assumption) rfl rfl (by omega) (by decide) ?_
      cases hl : la i with
      | none =>
        show px_P _ _ (11, [(0, .ref c), (1, .ref v), (2, .int (nI i))], [.null]) S1 _
        refine px_P.sn 10 (f1 := (2, [(0, .ref c), (1, .ref v), (2, .int ((nI i) + 1)), (3, .null), (4, .int (-1))], [])) (S1 := S1) rfl ?_
        show px_P _ _ (2, [(0, .ref c), (1, .ref v), (2, .int ((nI i) + 1)), (3, .null), (4, .int (-1))], []) S1 _
        refine px_P.wk (ls := [(0, .ref c), (1, .ref v), (2, .int ((nI i) + 1))]) rfl (.cons_cons _ (.cons_cons _ (.cons_cons _ (.cons _ (.cons _ .slnil))))) ?_
        rw [nI_1]
        refine skip ?_
        rintro ⟨s, t, _, _, z, hz, _⟩
        rw [sp_n hl] at hz
        cases hz
      | some b =>
        obtain ⟨s, D, hg⟩ := hla i b hi hl
        obtain ⟨l1, l2, l3⟩ := hlo1.1 b s D hg
        obtain ⟨fs, hb⟩ := hlo1.cell hg
        have hsp := sp_s hl hg
        show px_P _ _ (11, [(0, .ref c), (1, .ref v), (2, .int (nI i))], [.ref b]) S1 _
        refine px_P.sn 4 (f1 := (21, [(0, .ref c), (1, .ref v), (2, .int (nI i)), (3, .ref b)], [.ref b])) (S1 := S1) rfl ?_
        refine px_P.cv rfl rfl rfl (by assumption) rfl ?_
        show px_M _ px_m_Line_defined [.ref b] S1 _
        refine pm_lnDefined (by omega) l1 ?_
        rcases l2.2.1 with e | ⟨u, hu, e⟩
        · show px_P _ _ (24, [(0, .ref c), (1, .ref v), (2, .int (nI i)), (3, .ref b)], [.int (ln_df s)]) S1 _
          refine px_P.sn 4 (f1 := (32, [(0, .ref c), (1, .ref v), (2, .int (nI i)), (3, .ref b), (4, .int (ln_df s))], [.int (ln_df s)])) (S1 := S1) rfl ?_
          refine px_P.if_lt rfl rfl (fun _ => ?_) (fun h => absurd ((by rw [e]; decide)) h)
          refine px_P.sn 2 (f1 := (2, [(0, .ref c), (1, .ref v), (2, .int ((nI i) + 1)), (3, .ref b), (4, .int (ln_df s))], [])) (S1 := S1) rfl ?_
          show px_P _ _ (2, [(0, .ref c), (1, .ref v), (2, .int ((nI i) + 1)), (3, .ref b), (4, .int (ln_df s))], []) S1 _
          refine px_P.wk (ls := [(0, .ref c), (1, .ref v), (2, .int ((nI i) + 1))]) rfl (.cons_cons _ (.cons_cons _ (.cons_cons _ (.cons _ (.cons _ .slnil))))) ?_
          rw [nI_1]
          refine skip ?_
          rintro ⟨s1, t1, h5, _, z, hz, hz2, _⟩
          rw [hsp] at hz
          cases hz
          rw [e] at hz2
          exact absurd hz2.symm (nI_neg (by omega))
        · rw [e]
          show px_P _ _ (24, [(0, .ref c), (1, .ref v), (2, .int (nI i)), (3, .ref b)], [.int (nI u)]) S1 _
          refine px_P.sn 4 (f1 := (32, [(0, .ref c), (1, .ref v), (2, .int (nI i)), (3, .ref b), (4, .int (nI u))], [.int (nI u)])) (S1 := S1) rfl ?_
          refine px_P.if_lt rfl rfl (fun h => absurd h (nI_pos (by omega))) (fun _ => ?_)
          refine px_P.sn 2 (f1 := (40, [(0, .ref c), (1, .ref v), (2, .int (nI i)), (3, .ref b), (4, .int (nI u))], [.int 208, .int (nI u)])) (S1 := S1) rfl ?_
          refine px_P.ic_ge rfl rfl (fun h => absurd h (nI_ge (b := 208) hu (by decide))) (fun _ => ?_)
          refine px_P.sn 1 (f1 := (44, [(0, .ref c), (1, .ref v), (2, .int (nI i)), (3, .ref b), (4, .int (nI u))], [.ref c])) (S1 := S1) rfl ?_
          refine px_P.gf rfl rfl (by assumption) (v := .ref (c + 1)) rfl ?_
          refine px_P.sn 1 (f1 := (49, [(0, .ref c), (1, .ref v), (2, .int (nI i)), (3, .ref b), (4, .int (nI u))], [.int (nI u), .ref (c + 1)])) (S1 := S1) rfl ?_
          refine px_P.aaldj (j := u) rfl (by assumption) rfl rfl (by omega) (by decide) ?_
          rw [a2 u hu]
          show px_P _ _ (50, [(0, .ref c), (1, .ref v), (2, .int (nI i)), (3, .ref b), (4, .int (nI u))], [.ref (c + 4 + 2 * u)]) S1 _
          refine px_P.sn 1 (f1 := (51, [(0, .ref c), (1, .ref v), (2, .int (nI i)), (3, .ref b), (4, .int (nI u))], [.ref b, .ref (c + 4 + 2 * u)])) (S1 := S1) rfl ?_
          refine px_P.cv rfl rfl rfl (by assumption) rfl ?_
          show px_M _ px_m_Line_symbolsRead [.ref b] S1 _
          refine pm_lnSymbolsRead (by omega) l1 (fun a o1 o2 w1 w2 => ?_)
          have b1 := l3 a o1
          have b2 := l3 (a + 1) o2
          have g1 := (a5 u hu).1
          have g2 := (a5 u hu).2
          show px_P _ _ (54, [(0, .ref c), (1, .ref v), (2, .int (nI i)), (3, .ref b), (4, .int (nI u))], [.ref a, .ref (c + 4 + 2 * u)]) S1 _
          refine px_P.cv rfl rfl rfl (by assumption) rfl ?_
          show px_M _ px_m_SymbolSet_addAll [.ref (c + 4 + 2 * u), .ref a] S1 _
          refine pm_ss_addAll (by omega) (by omega) (by omega) (by omega) g1 g2 w1 w2 (fun S2 f' u2 hf' => ?_)
          show px_P _ _ (57, [(0, .ref c), (1, .ref v), (2, .int (nI i)), (3, .ref b), (4, .int (nI u))], []) S2 _
          refine px_P.sn 2 (f1 := (2, [(0, .ref c), (1, .ref v), (2, .int ((nI i) + 1)), (3, .ref b), (4, .int (nI u))], [])) (S1 := S2) rfl ?_
          show px_P _ _ (2, [(0, .ref c), (1, .ref v), (2, .int ((nI i) + 1)), (3, .ref b), (4, .int (nI u))], []) S2 _
          refine px_P.wk (ls := [(0, .ref c), (1, .ref v), (2, .int ((nI i) + 1))]) rfl (.cons_cons _ (.cons_cons _ (.cons_cons _ (.cons _ (.cons _ .slnil))))) ?_
          rw [nI_1]
          refine ih (va_up H1 u f') S2 ⟨h1'.set hu u2, fun s1 t1 hs ht => ?_, fun q hq => by rw [u2.o (by omega)]; exact h3 q hq, by rw [u2.t, h4]⟩
          by_cases es : s1 = u
          · subst es
            simp only [va_up, if_true]
            rw [ss_or hf' ht, Bool.or_eq_true, h2 s1 t1 hs ht]
            constructor
            · rintro ((e1 | ⟨p, hp, e1⟩) | e1)
              · exact Or.inl e1
              · exact Or.inr ⟨p, by omega, e1⟩
              · exact Or.inr ⟨i, by omega, s, hsp, e, e1⟩
            · rintro (e1 | ⟨p, hp, e1⟩)
              · exact Or.inl (Or.inl e1)
              · by_cases ep : p = i
                · subst ep
                  obtain ⟨z, hz, _, hz2⟩ := e1
                  rw [hsp] at hz
                  cases hz
                  exact Or.inr hz2
                · exact Or.inl (Or.inr ⟨p, by omega, e1⟩)
          · simp only [va_up, if_neg es]
            rw [h2 s1 t1 hs ht]
            constructor
            · rintro (e1 | ⟨p, hp, e1⟩)
              · exact Or.inl e1
              · exact Or.inr ⟨p, by omega, e1⟩
            · rintro (e1 | ⟨p, hp, e1⟩)
              · exact Or.inl e1
              · by_cases ep : p = i
                · subst ep
                  obtain ⟨z, hz, hz2, _⟩ := e1
                  rw [hsp] at hz
                  cases hz
                  rw [e] at hz2
                  exact absurd ((nI_eq (by omega) (by omega)).mp hz2).symm es
                · exact Or.inr ⟨p, by omega, e1⟩)
    (by
      intro H1 S1 ⟨h1, h2, h3, h4⟩
      have hv1 := (h3 v hvo).trans hv
      refine px_P.sn 2 (f1 := (4, [(0, .ref c), (1, .ref v), (2, .int (nI 96))], [.ref v, .int (nI 96)])) (S1 := S1) rfl ?_
      refine px_P.alen rfl (by assumption) rfl ?_
      refine px_P.ic_ge rfl rfl (fun _ => ?_) (fun h => absurd (nI_le (a := 96) (by omega) (by omega)) h)
      refine px_P.ret rfl ?_
      exact k S1 H1 h1 h2 h3 h4)
  refine px_M.go (by omega) (Nat.le_of_ble_eq_true rfl) ?_
  refine px_P.sn 2 (f1 := (2, [(0, .ref c), (1, .ref v), (2, .int 0)], [])) (S1 := S) rfl ?_
  exact lp 96 0 rfl H S ⟨hc, fun s t _ _ => ⟨Or.inl, fun h => h.elim id (fun ⟨p, hp, _⟩ => absurd hp (by omega))⟩, fun _ _ => rfl, rfl⟩
