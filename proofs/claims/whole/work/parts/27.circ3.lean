/-! ===== Circles: followOn, findLeast, group, find ===== -/
/-- the relation that the sets tell -/
def hr (H : Nat → Nat → Int64) (s t : Nat) : Prop := s < 208 ∧ t < 208 ∧ ss_in (H s) t = true
/-- the least relation that holds r and goes on -/
def tc_is (r h : Nat → Nat → Prop) : Prop := (∀ s t, r s t → h s t) ∧ (∀ s t u, h s t → h t u → h s u) ∧ ∀ h' : Nat → Nat → Prop, (∀ s t, r s t → h' s t) → (∀ s t u, h' s t → h' t u → h' s u) → ∀ s t, h s t → h' s t
theorem ss_in_congr {f g : Nat → Int64} (h : ∀ j, j < 4 → f j = g j) {y : Nat} (hy : y < 208) : ss_in f y = ss_in g y := by
  unfold ss_in
  rw [h (y / 64) (by omega)]
theorem pm_ciFollow {d c cc sc : Nat} {H : Nat → Nat → Int64} {ls df : Nat → Int32} {p : Nat → Bool} {S : px_S} {Q : Option Value → px_S → Prop} (hd : 2 ≤ d) (hc : ci_at S c H ls df (ct p 208) cc sc) (hdf : ∀ s, s < 208 → p s = true → df (ct p s) = nI s) (hp : ∀ s t, hr H s t → p s = true)
    (k : ∀ S' H', ci_at S' c H' ls df (ct p 208) cc sc → tc_is (hr H) (hr H') → (∀ s t, hr H' s t → p s = true) → (∀ q, (q < c ∨ c + 420 ≤ q) → S'.1 q = S.1 q) → S'.2 = S.2 → Q none S') :
    px_M d px_m_Circles_followOn [.ref c] S Q := by
  have hle := ct_le p 208
  have lp := px_forE (d := d - 1) (mi := px_m_Circles_followOn) (Q := Q) (X := Nat → Nat → Int64) p 208 (fun m _ => (2, [(0, .ref c), (1, .int (nI m))], []))
    (fun n H1 S1 => ci_at S1 c H1 ls df (ct p 208) cc sc ∧ (∀ s t, hr H s t → hr H1 s t) ∧ (∀ v, v < n → p v = true → ∀ s t, hr H1 s v → hr H1 v t → hr H1 s t) ∧ (∀ h' : Nat → Nat → Prop, (∀ s t, hr H s t → h' s t) → (∀ s t u, h' s t → h' t u → h' s u) → ∀ s t, hr H1 s t → h' s t) ∧ (∀ s t, hr H1 s t → p s = true) ∧ (∀ q, (q < c ∨ c + 420 ≤ q) → S1.1 q = S.1 q) ∧ S1.2 = S.2)
    (by
      intro n hn hpn H1 S1 ⟨h1, h2, h3, h4, h5, h6, h7⟩
      refine ⟨h1, h2, fun v hv hpv => ?_, h4, h5, h6, h7⟩
      by_cases e : v = n
      · subst e; rw [hpn] at hpv; cases hpv
      · exact h3 v (by omega) hpv)
    (by
      intro v hv hpv W S1 ⟨h1, h2, h3, h4, h5, h6, h7⟩ ih
      have hlt := ct_lt hv hpv
      -- the inner loop
      have inner := px_forE (d := d - 1) (mi := px_m_Circles_followOn) (Q := Q) (X := Nat → Nat → Int64) p 208 (fun f _ => (19, [(0, .ref c), (1, .int (nI (ct p v))), (2, .int (nI v)), (3, .int (nI f))], []))
        (fun n H2 S2 => ci_at S2 c H2 ls df (ct p 208) cc sc ∧ (∀ s t, hr H2 s t ↔ hr W s t ∨ (s < n ∧ hr W s v ∧ hr W v t)) ∧ (∀ q, (q < c ∨ c + 420 ≤ q) → S2.1 q = S.1 q) ∧ S2.2 = S.2)
        (by
          intro n hn hpn H2 S2 ⟨g1, g2, g3, g4⟩
          refine ⟨g1, fun s t => ?_, g3, g4⟩
          rw [g2]
          constructor
          · rintro (e | ⟨e1, e2⟩)
            · exact Or.inl e
            · exact Or.inr ⟨by omega, e2⟩
          · rintro (e | ⟨e1, e2, e3⟩)
            · exact Or.inl e
            · by_cases en : s = n
              · subst en; rw [h5 _ _ e2] at hpn; cases hpn
              · exact Or.inr ⟨by omega, e2, e3⟩)
        (by
          intro n hn hpn H2 S2 ⟨g1, g2, g3, g4⟩ ih2
          have hlt2 := ct_lt hn hpn
          have g1' := g1
          have rowv : ∀ t, t < 208 → (ss_in (H2 v) t = true ↔ hr W v t) := by
            intro t ht
            have := g2 v t
            unfold hr at this ⊢
            constructor
            · intro e
              rcases this.mp ⟨hv, ht, e⟩ with e1 | ⟨_, _, e1⟩ <;> exact e1
            · intro e
              exact (this.mpr (Or.inl e)).2.2
          have rown : ∀ t, t < 208 → (ss_in (H2 n) t = true ↔ hr W n t) := by
            intro t ht
            have := g2 n t
            constructor
            · intro e
              rcases this.mp ⟨hn, ht, e⟩ with e1 | ⟨e0, _, e1⟩
              · exact e1
              · omega
            · intro e
              exact (this.mpr (Or.inl e)).2.2
          obtain ⟨a0, ⟨hf, a1, a2⟩, a3, a4, a5⟩ := g1
          have w1 := (a5 n hn).1
          have w2 := (a5 n hn).2
          have w3 := (a5 v hv).1
          have w4 := (a5 v hv).2
          refine px_P.sn 2 (f1 := (21, [(0, .ref c), (1, .int (nI (ct p v))), (2, .int (nI v)), (3, .int (nI (ct p n)))], [.ref c, .int (nI (ct p n))])) (S1 := S2) rfl ?_
          refine px_P.gf rfl rfl (by assumption) (v := .int (nI (ct p 208))) rfl ?_
          refine px_P.ic_ge rfl rfl (fun h => absurd h (nI_ge hlt2 (by omega))) (fun _ => ?_)
          refine px_P.sn 1 (f1 := (28, [(0, .ref c), (1, .int (nI (ct p v))), (2, .int (nI v)), (3, .int (nI (ct p n)))], [.ref c])) (S1 := S2) rfl ?_
          refine px_P.gf rfl rfl (by assumption) (v := .ref (c + 3)) rfl ?_
          refine px_P.sn 1 (f1 := (32, [(0, .ref c), (1, .int (nI (ct p v))), (2, .int (nI v)), (3, .int (nI (ct p n)))], [.int (nI (ct p n)), .ref (c + 3)])) (S1 := S2) rfl ?_
          refine px_P.ialdj (j := ct p n) rfl (by assumption) rfl (by omega) (by decide) ?_
          rw [hdf n hn hpn]
          show px_P _ _ (33, [(0, .ref c), (1, .int (nI (ct p v))), (2, .int (nI v)), (3, .int (nI (ct p n)))], [.int (nI n)]) S2 _
          refine px_P.sn 2 (f1 := (36, [(0, .ref c), (1, .int (nI (ct p v))), (2, .int (nI v)), (3, .int (nI (ct p n))), (4, .int (nI n))], [.ref c])) (S1 := S2) rfl ?_
          refine px_P.gf rfl rfl (by assumption) (v := .ref (c + 1)) rfl ?_
          refine px_P.sn 1 (f1 := (41, [(0, .ref c), (1, .int (nI (ct p v))), (2, .int (nI v)), (3, .int (nI (ct p n))), (4, .int (nI n))], [.int (nI n), .ref (c + 1)])) (S1 := S2) rfl ?_
          refine px_P.aaldj (j := n) rfl (by assumption) rfl rfl (by omega) (by decide) ?_
          rw [a2 n hn]
          show px_P _ _ (42, [(0, .ref c), (1, .int (nI (ct p v))), (2, .int (nI v)), (3, .int (nI (ct p n))), (4, .int (nI n))], [.ref (c + 4 + 2 * n)]) S2 _
          refine px_P.sn 1 (f1 := (43, [(0, .ref c), (1, .int (nI (ct p v))), (2, .int (nI v)), (3, .int (nI (ct p n))), (4, .int (nI n))], [.int (nI v), .ref (c + 4 + 2 * n)])) (S1 := S2) rfl ?_
          refine px_P.cv rfl rfl rfl (by assumption) rfl ?_
          show px_M _ px_m_SymbolSet_has [.ref (c + 4 + 2 * n), .int (nI v)] S2 _
          refine pm_ss_has (by omega) w1 w2 ?_
          rw [ss_hs_in hv]
          cases hb : ss_in (H2 n) v with
          | false =>
            show px_P _ _ (46, [(0, .ref c), (1, .int (nI (ct p v))), (2, .int (nI v)), (3, .int (nI (ct p n))), (4, .int (nI n))], [.int 0]) S2 _
            refine px_P.if_eq rfl rfl (fun _ => ?_) (fun h => absurd (rfl) h)
            refine px_P.sn 2 (f1 := (19, [(0, .ref c), (1, .int (nI (ct p v))), (2, .int (nI v)), (3, .int ((nI (ct p n)) + 1)), (4, .int (nI n))], [])) (S1 := S2) rfl ?_
            show px_P _ _ (19, [(0, .ref c), (1, .int (nI (ct p v))), (2, .int (nI v)), (3, .int ((nI (ct p n)) + 1)), (4, .int (nI n))], []) S2 _
            refine px_P.wk (ls := [(0, .ref c), (1, .int (nI (ct p v))), (2, .int (nI v)), (3, .int ((nI (ct p n)) + 1))]) rfl (.cons_cons _ (.cons_cons _ (.cons_cons _ (.cons_cons _ (.cons _ .slnil))))) ?_
            rw [nI_1]
            refine ih2 H2 S2 ⟨g1', fun s t => ?_, g3, g4⟩
            rw [g2]
            constructor
            · rintro (e | ⟨e1, e2⟩)
              · exact Or.inl e
              · exact Or.inr ⟨by omega, e2⟩
            · rintro (e | ⟨e1, e2, e3⟩)
              · exact Or.inl e
              · by_cases en : s = n
                · subst en
                  rw [(rown v hv).mpr e2] at hb
                  cases hb
                · exact Or.inr ⟨by omega, e2, e3⟩
          | true =>
            show px_P _ _ (46, [(0, .ref c), (1, .int (nI (ct p v))), (2, .int (nI v)), (3, .int (nI (ct p n))), (4, .int (nI n))], [.int 1]) S2 _
            refine px_P.if_eq rfl rfl (fun h => absurd h ((by decide))) (fun _ => ?_)
            refine px_P.sn 1 (f1 := (50, [(0, .ref c), (1, .int (nI (ct p v))), (2, .int (nI v)), (3, .int (nI (ct p n))), (4, .int (nI n))], [.ref c])) (S1 := S2) rfl ?_
            refine px_P.gf rfl rfl (by assumption) (v := .ref (c + 1)) rfl ?_
            refine px_P.sn 1 (f1 := (55, [(0, .ref c), (1, .int (nI (ct p v))), (2, .int (nI v)), (3, .int (nI (ct p n))), (4, .int (nI n))], [.int (nI n), .ref (c + 1)])) (S1 := S2) rfl ?_
            refine px_P.aaldj (j := n) rfl (by assumption) rfl rfl (by omega) (by decide) ?_
            rw [a2 n hn]
            show px_P _ _ (56, [(0, .ref c), (1, .int (nI (ct p v))), (2, .int (nI v)), (3, .int (nI (ct p n))), (4, .int (nI n))], [.ref (c + 4 + 2 * n)]) S2 _
            refine px_P.sn 1 (f1 := (57, [(0, .ref c), (1, .int (nI (ct p v))), (2, .int (nI v)), (3, .int (nI (ct p n))), (4, .int (nI n))], [.ref c, .ref (c + 4 + 2 * n)])) (S1 := S2) rfl ?_
            refine px_P.gf rfl rfl (by assumption) (v := .ref (c + 1)) rfl ?_
            refine px_P.sn 1 (f1 := (61, [(0, .ref c), (1, .int (nI (ct p v))), (2, .int (nI v)), (3, .int (nI (ct p n))), (4, .int (nI n))], [.int (nI v), .ref (c + 1), .ref (c + 4 + 2 * n)])) (S1 := S2) rfl ?_
            refine px_P.aaldj (j := v) rfl (by assumption) rfl rfl (by omega) (by decide) ?_
            rw [a2 v hv]
            show px_P _ _ (62, [(0, .ref c), (1, .int (nI (ct p v))), (2, .int (nI v)), (3, .int (nI (ct p n))), (4, .int (nI n))], [.ref (c + 4 + 2 * v), .ref (c + 4 + 2 * n)]) S2 _
            have fin : ∀ (S3 : px_S) (f' : Nat → Int64), px_Up S2 S3 (c + 5 + 2 * n) (.inl (1, 4, .inr (.inl f'))) → (∀ t, t < 208 → (ss_in f' t = true ↔ hr W n t ∨ hr W v t)) → px_P (d - 1) px_m_Circles_followOn (65, [(0, .ref c), (1, .int (nI (ct p v))), (2, .int (nI v)), (3, .int (nI (ct p n))), (4, .int (nI n))], []) S3 Q := by
              intro S3 f' u3 hf'
              refine px_P.sn 2 (f1 := (19, [(0, .ref c), (1, .int (nI (ct p v))), (2, .int (nI v)), (3, .int ((nI (ct p n)) + 1)), (4, .int (nI n))], [])) (S1 := S3) rfl ?_
              show px_P _ _ (19, [(0, .ref c), (1, .int (nI (ct p v))), (2, .int (nI v)), (3, .int ((nI (ct p n)) + 1)), (4, .int (nI n))], []) S3 _
              refine px_P.wk (ls := [(0, .ref c), (1, .int (nI (ct p v))), (2, .int (nI v)), (3, .int ((nI (ct p n)) + 1))]) rfl (.cons_cons _ (.cons_cons _ (.cons_cons _ (.cons_cons _ (.cons _ .slnil))))) ?_
              rw [nI_1]
              refine ih2 (va_up H2 n f') S3 ⟨g1'.set hn u3, fun s t => ?_, fun q hq => by rw [u3.o (by omega)]; exact g3 q hq, by rw [u3.t, g4]⟩
              by_cases en : s = n
              · subst en
                constructor
                · rintro ⟨e1, e2, e3⟩
                  simp only [va_up, if_true] at e3
                  rcases (hf' t e2).mp e3 with e4 | e4
                  · exact Or.inl e4
                  · exact Or.inr ⟨by omega, (rown v hv).mp hb, e4⟩
                · intro e
                  have ht : t < 208 := e.elim (fun z => z.2.1) (fun z => z.2.2.2.1)
                  refine ⟨hn, ht, ?_⟩
                  simp only [va_up, if_true]
                  exact (hf' t ht).mpr (e.elim Or.inl (fun z => Or.inr z.2.2))
              · have e9 : hr (va_up H2 n f') s t ↔ hr H2 s t := by
                  unfold hr
                  simp only [va_up, if_neg en]
                rw [e9, g2]
                constructor
                · rintro (e | ⟨e1, e2⟩)
                  · exact Or.inl e
                  · exact Or.inr ⟨by omega, e2⟩
                · rintro (e | ⟨e1, e2⟩)
                  · exact Or.inl e
                  · exact Or.inr ⟨by omega, e2⟩
            refine px_P.cv rfl rfl rfl (by assumption) rfl ?_
            show px_M _ px_m_SymbolSet_addAll [.ref (c + 4 + 2 * n), .ref (c + 4 + 2 * v)] S2 _
            by_cases env : n = v
            · subst env
              refine pm_ss_addSelf (by omega) (by omega) w1 w2 (fun S3 f' u3 hf' => ?_)
              refine fin S3 f' u3 (fun t ht => ?_)
              rw [ss_in_congr hf' ht, rown t ht]
              exact ⟨Or.inl, fun z => z.elim id id⟩
            · refine pm_ss_addAll (by omega) (by omega) (by omega) (by omega) w1 w2 w3 w4 (fun S3 f' u3 hf' => ?_)
              refine fin S3 f' u3 (fun t ht => ?_)
              rw [ss_or hf' ht, Bool.or_eq_true, rown t ht, rowv t ht])
        (by
          intro H2 S2 ⟨g1, g2, g3, g4⟩
          have a0 := g1.1
          refine px_P.sn 2 (f1 := (21, [(0, .ref c), (1, .int (nI (ct p v))), (2, .int (nI v)), (3, .int (nI (ct p 208)))], [.ref c, .int (nI (ct p 208))])) (S1 := S2) rfl ?_
          refine px_P.gf rfl rfl (by assumption) (v := .int (nI (ct p 208))) rfl ?_
          refine px_P.ic_ge rfl rfl (fun _ => ?_) (fun h => absurd (nI_le (Nat.le_refl _) (by omega)) h)
          refine px_P.sn 2 (f1 := (2, [(0, .ref c), (1, .int ((nI (ct p v)) + 1)), (2, .int (nI v)), (3, .int (nI (ct p 208)))], [])) (S1 := S2) rfl ?_
          show px_P _ _ (2, [(0, .ref c), (1, .int ((nI (ct p v)) + 1)), (2, .int (nI v)), (3, .int (nI (ct p 208)))], []) S2 _
          refine px_P.wk (ls := [(0, .ref c), (1, .int ((nI (ct p v)) + 1))]) rfl (.cons_cons _ (.cons_cons _ (.cons _ (.cons _ .slnil)))) ?_
          rw [nI_1]
          have g2' : ∀ s t, hr H2 s t ↔ hr W s t ∨ (hr W s v ∧ hr W v t) := by
            intro s t
            rw [g2]
            exact ⟨fun e => e.elim Or.inl (fun z => Or.inr z.2), fun e => e.elim Or.inl (fun z => Or.inr ⟨z.1.1, z⟩)⟩
          refine ih H2 S2 ⟨g1, fun s t e => (g2' s t).mpr (Or.inl (h2 s t e)), fun w hw hpw s t e1 e2 => ?_, fun h' q1 q2 s t e => ?_, fun s t e => ?_, g3, g4⟩
          · rw [g2'] at e1 e2 ⊢
            by_cases ew : w = v
            · subst ew
              have f1 : hr W s w := e1.elim id (fun z => z.1)
              have f2 : hr W w t := e2.elim id (fun z => z.2)
              exact Or.inr ⟨f1, f2⟩
            · have tr := h3 w (by omega) hpw
              rcases e1 with e1 | ⟨e1, e3⟩
              · rcases e2 with e2 | ⟨e2, e4⟩
                · exact Or.inl (tr _ _ e1 e2)
                · exact Or.inr ⟨tr _ _ e1 e2, e4⟩
              · rcases e2 with e2 | ⟨e2, e4⟩
                · exact Or.inr ⟨e1, tr _ _ e3 e2⟩
                · exact Or.inr ⟨e1, e4⟩
          · rcases (g2' s t).mp e with e | ⟨e1, e2⟩
            · exact h4 h' q1 q2 s t e
            · exact q2 s v t (h4 h' q1 q2 s v e1) (h4 h' q1 q2 v t e2)
          · rcases (g2' s t).mp e with e | ⟨e1, e2⟩
            · exact h5 s t e
            · exact h5 s v e1)
      obtain ⟨a0, ⟨hf, a1, a2⟩, a3, a4, a5⟩ := h1
      refine px_P.sn 2 (f1 := (4, [(0, .ref c), (1, .int (nI (ct p v)))], [.ref c, .int (nI (ct p v))])) (S1 := S1) rfl ?_
      refine px_P.gf rfl rfl (by assumption) (v := .int (nI (ct p 208))) rfl ?_
      refine px_P.ic_ge rfl rfl (fun h => absurd h (nI_ge hlt (by omega))) (fun _ => ?_)
      refine px_P.sn 1 (f1 := (11, [(0, .ref c), (1, .int (nI (ct p v)))], [.ref c])) (S1 := S1) rfl ?_
      refine px_P.gf rfl rfl (by assumption) (v := .ref (c + 3)) rfl ?_
      refine px_P.sn 1 (f1 := (15, [(0, .ref c), (1, .int (nI (ct p v)))], [.int (nI (ct p v)), .ref (c + 3)])) (S1 := S1) rfl ?_
      refine px_P.ialdj (j := ct p v) rfl (by assumption) rfl (by omega) (by decide) ?_
      rw [hdf v hv hpv]
      show px_P _ _ (16, [(0, .ref c), (1, .int (nI (ct p v)))], [.int (nI v)]) S1 _
      refine px_P.sn 3 (f1 := (19, [(0, .ref c), (1, .int (nI (ct p v))), (2, .int (nI v)), (3, .int 0)], [])) (S1 := S1) rfl ?_
      exact inner 208 0 rfl W S1 ⟨⟨a0, ⟨hf, a1, a2⟩, a3, a4, a5⟩, fun s t => ⟨Or.inl, fun e => e.elim id (fun z => absurd z.1 (by omega))⟩, h6, h7⟩)
    (by
      intro H1 S1 ⟨h1, h2, h3, h4, h5, h6, h7⟩
      have a0 := h1.1
      refine px_P.sn 2 (f1 := (4, [(0, .ref c), (1, .int (nI (ct p 208)))], [.ref c, .int (nI (ct p 208))])) (S1 := S1) rfl ?_
      refine px_P.gf rfl rfl (by assumption) (v := .int (nI (ct p 208))) rfl ?_
      refine px_P.ic_ge rfl rfl (fun _ => ?_) (fun h => absurd (nI_le (Nat.le_refl _) (by omega)) h)
      refine px_P.ret rfl ?_
      refine k S1 H1 h1 ⟨h2, fun s t u e1 e2 => h3 t e1.2.1 (h5 t u e2) s u e1 e2, h4⟩ h5 h6 h7)
  refine px_M.go (by omega) (Nat.le_of_ble_eq_true rfl) ?_
  refine px_P.sn 2 (f1 := (2, [(0, .ref c), (1, .int 0)], [])) (S1 := S) rfl ?_
  exact lp 208 0 rfl H S ⟨hc, fun _ _ e => e, fun v hv => absurd hv (by omega), fun h' q1 _ => q1, hp, fun _ _ => rfl, rfl⟩
