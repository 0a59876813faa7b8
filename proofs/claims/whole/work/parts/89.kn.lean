/-! ===== the model: what hangs on what ===== -/
def kS (S0 S : px_S) (m : Nat) (q : Nat → Int32) (A0 A : Nat → Nat → Int32) : Prop := mo_at S m q A ∧ mF S0 S m ∧ ∀ i, i ≠ 21 → A i = A0 i
theorem kS.up {S0 S S' : px_S} {m : Nat} {q : Nat → Int32} {A0 A : Nat → Nat → Int32} {g : Nat → Int32} (h : kS S0 S m q A0 A) (u : px_Up S S' (m + 21) (.inl (2, 43264, .inl g))) : kS S0 S' m q A0 (va_up A 21 g) :=
  ⟨h.1.ar (i := 21) (by omega) (by omega) u, h.2.1.tr (mF.u (by omega) (by omega) u), fun i e1 => (va_un e1).trans (h.2.2 i e1)⟩
theorem kS.ml {S0 S : px_S} {m : Nat} {q : Nat → Int32} {A0 A : Nat → Nat → Int32} {L : Nat → Option ln_S} (h : kS S0 S m q A0 A) (k : ml A0 L) : ml A L := k.cg (fun i h1 h2 => h.2.2 i (by omega))
def hb (A : Nat → Nat → Int32) (s t : Nat) : Bool := bz (A 21) (208 * s + t)
def tcl (r h : Nat → Nat → Prop) : Prop := (∀ s t, r s t → h s t) ∧ ∀ s t u, h s t → h t u → h s u
def kI (L : Nat → Option ln_S) (s : Nat) (A1 A : Nat → Nat → Int32) (more : Bool) : Prop :=
  (∀ h', tcl (rd L) h' → ∀ t, t < 208 → hb A s t = true → h' s t) ∧ (∀ t, t < 208 → hb A1 s t = true → hb A s t = true) ∧ (more = true → ct (hb A1 s) 208 + 1 ≤ ct (hb A s) 208) ∧ (more = false → ∀ t, t < 208 → hb A s t = hb A1 s t) ∧ (∀ c, (c < 208 * s ∨ 208 * s + 208 ≤ c) → A 21 c = A1 21 c) ∧ ∀ c, c < 43264 → A 21 c = 0 ∨ A 21 c = 1
theorem kI.up {L : Nat → Option ln_S} {s p s' t : Nat} {z : ln_S} {A1 A : Nat → Nat → Int32} {more : Bool} (h : kI L s A1 A more) (hs : s < 208) (hp : p < 96) (hL : L p = some z) (hs' : s' < 208) (hd : ln_df z = nI s') (hf : s' = s ∨ hb A s s' = true) (ht : t < 208) (hW : ss_in (ln_W z) t = true) (h0 : hb A s t = false) : kI L s A1 (va_up A 21 (upd (A 21) (208 * s + t) 1)) true := by
  obtain ⟨h1, h2, h3, h4, h5, h6⟩ := h
  have e1 : ∀ j, hb (va_up A 21 (upd (A 21) (208 * s + t) 1)) s j = bz (upd (A 21) (208 * s + t) 1) (208 * s + j) := fun j => by unfold hb; rw [va_us]
  have up : ∀ j, j < 208 → hb A s j = true → hb (va_up A 21 (upd (A 21) (208 * s + t) 1)) s j = true := fun j _ w => by rw [e1]; exact bz_up _ _ _ w
  have hr : rd L s' t := ⟨hs', ht, p, hp, z, hL, hd, hW⟩
  refine ⟨fun h' hc j hj w => ?_, fun j hj w => up j hj (h2 j hj w), fun _ => ?_, fun w => (by cases w), fun c hc => ?_, fun c hc => ?_⟩
  · by_cases e : j = t
    · subst e
      rcases hf with e | e
      · subst e; exact hc.1 _ _ hr
      · exact hc.2 s s' j (h1 h' hc s' hs' e) (hc.1 _ _ hr)
    · rw [e1, bz_n _ (by omega)] at w
      exact h1 h' hc j hj w
  · have q1 := ct_sub1 (q := hb A s) (q' := hb (va_up A 21 (upd (A 21) (208 * s + t) 1)) s) (p := t) (n := 208) h0 (by rw [e1]; exact bz_s _ _) ht up
    have q2 := ct_sub (n := 208) h2
    omega
  · rw [va_us, pk_un (by omega)]; exact h5 c hc
  · rw [va_us]
    by_cases e : c = 208 * s + t
    · rw [e, pk_us]; exact Or.inr rfl
    · rw [pk_un e]; exact h6 c hc
theorem e208 (s t : Nat) : (208 : Int32) * nI s + nI t = nI (208 * s + t) := by rw [show (208 : Int32) = nI 208 from rfl, pk_mul, nI_add]
set_option maxRecDepth 20000 in
theorem kn_steps {d m p s s' : Nat} {z : ln_S} {L : Nat → Option ln_S} {more : Bool} {q : Nat → Int32} {A0 A1 A : Nat → Nat → Int32} {S0 S : px_S} {Q : Option Value → px_S → Prop} (hs : s < 208) (hp : p < 96) (h : kS S0 S m q A0 A) (hm : ml A0 L) (hw : wfL L) (hL : L p = some z) (hr : ln_wr z = -1) (hs' : s' < 208) (hd : ln_df z = nI s') (hf : s' = s ∨ hb A s s' = true) (hI : kI L s A1 A more)
    (k : ∀ S' A' mo, kS S0 S' m q A0 A' → kI L s A1 A' mo → (mo = false → more = false ∧ ∀ t, t < 208 → ss_in (ln_W z) t = true → hb A1 s t = true) → px_P d px_m_Model_know (189, [(0, .ref m), (1, .int (nI s)), (2, .int (bif mo then 1 else 0)), (3, .int (nI p))], []) S' Q) : px_P d px_m_Model_know (116, [(0, .ref m), (1, .int (nI s)), (2, .int (bif more then 1 else 0)), (3, .int (nI p)), (4, .int 1), (5, .int (nI (64 * p + 0)))], []) S Q := by
  have hst := hm.st hp hL hr
  obtain ⟨w1, w2, w3, w4⟩ := hw p z hp hL
  have lp := px_for (d := d) (mi := px_m_Model_know) (Q := Q) (X := Bool × (Nat → Nat → Int32)) (ln_n z) (fun i y => (116, [(0, .ref m), (1, .int (nI s)), (2, .int (bif y.1 then 1 else 0)), (3, .int (nI p)), (4, .int 1), (5, .int (nI (64 * p + i)))], []))
    (fun i y S' => kS S0 S' m q A0 y.2 ∧ kI L s A1 y.2 y.1 ∧ (y.1 = false → more = false ∧ ∀ j, j < i → (ln_st z j).1 = 1 → hb A1 s (ln_st z j).2.1 = true) ∧ (s' = s ∨ hb y.2 s s' = true))
    (by
      intro i hi ⟨mo, B⟩ S1 ⟨g1, g2, g3, hfB⟩ kk
      dsimp only at g1 g2 g3 hfB
      obtain ⟨s9, s10, s11⟩ := hst.2 i hi
      have hok := w1.2.2.2.1 i hi
      have h8 := hok.1
      have tail : ∀ (S2 : px_S) (B2 : Nat → Nat → Int32) (mo2 : Bool) (x : Int32), kS S0 S2 m q A0 B2 → kI L s A1 B2 mo2 → (mo2 = false → more = false ∧ ∀ j, j < i + 1 → (ln_st z j).1 = 1 → hb A1 s (ln_st z j).2.1 = true) → (s' = s ∨ hb B2 s s' = true) → px_P d px_m_Model_know (183, [(0, .ref m), (1, .int (nI s)), (2, .int (bif mo2 then 1 else 0)), (3, .int (nI p)), (4, .int 1), (5, .int (nI (64 * p + i))), (6, .int x)], []) S2 Q := by
        intro S2 B2 mo2 x f1 f2 f3 f4
        refine px_P.sn 2 (f1 := (116, [(0, .ref m), (1, .int (nI s)), (2, .int (bif mo2 then 1 else 0)), (3, .int (nI p)), (4, .int 1), (5, .int ((nI (64 * p + i)) + 1)), (6, .int x)], [])) (S1 := S2) rfl ?_
        show px_P _ _ (116, [(0, .ref m), (1, .int (nI s)), (2, .int (bif mo2 then 1 else 0)), (3, .int (nI p)), (4, .int 1), (5, .int ((nI (64 * p + i)) + 1)), (6, .int x)], []) S2 _
        refine px_P.wk (ls := [(0, .ref m), (1, .int (nI s)), (2, .int (bif mo2 then 1 else 0)), (3, .int (nI p)), (4, .int 1), (5, .int ((nI (64 * p + i)) + 1))]) rfl (.cons_cons _ (.cons_cons _ (.cons_cons _ (.cons_cons _ (.cons_cons _ (.cons_cons _ (.cons _ .slnil))))))) ?_
        rw [nI_1, show 64 * p + i + 1 = 64 * p + (i + 1) by omega]
        exact kk (mo2, B2) S2 ⟨f1, f2, f3, f4⟩
      have e8 : B 8 = A0 8 := g1.2.2 8 (by decide)
      have e9 : B 9 = A0 9 := g1.2.2 9 (by decide)
      have e10 : B 10 = A0 10 := g1.2.2 10 (by decide)
      have c1 := g1.1.1
      show px_P _ _ (116, [(0, .ref m), (1, .int (nI s)), (2, .int (bif mo then 1 else 0)), (3, .int (nI p)), (4, .int 1), (5, .int (nI (64 * p + i)))], []) S1 _
      have r8 : S1.1 (m + 8) = some (.inl (0, 96, .inl (B 8))) := g1.1.2 8 (by decide) (by decide)
      have r9 : S1.1 (m + 9) = some (.inl (0, 6144, .inl (B 9))) := g1.1.2 9 (by decide) (by decide)
      have r10 : S1.1 (m + 10) = some (.inl (0, 6144, .inl (B 10))) := g1.1.2 10 (by decide) (by decide)
      have r21 : S1.1 (m + 21) = some (.inl (2, 43264, .inl (B 21))) := g1.1.2 21 (by decide) (by decide)
      refine px_P.sn 1 (f1 := (118, [(0, .ref m), (1, .int (nI s)), (2, .int (bif mo then 1 else 0)), (3, .int (nI p)), (4, .int 1), (5, .int (nI (64 * p + i)))], [.int 1])) (S1 := S1) rfl ?_
      refine px_P.if_eq rfl rfl (fun h => absurd h ((by decide))) (fun _ => ?_)
      refine px_P.sn 5 (f1 := (128, [(0, .ref m), (1, .int (nI s)), (2, .int (bif mo then 1 else 0)), (3, .int (nI p)), (4, .int 1), (5, .int (nI (64 * p + i)))], [.ref m, .int (64 * (nI p)), .int (nI (64 * p + i))])) (S1 := S1) rfl ?_
      refine px_P.gf rfl rfl (by assumption) (v := .ref (m + 8)) rfl ?_
      refine px_P.sn 1 (f1 := (132, [(0, .ref m), (1, .int (nI s)), (2, .int (bif mo then 1 else 0)), (3, .int (nI p)), (4, .int 1), (5, .int (nI (64 * p + i)))], [.int (nI p), .ref (m + 8), .int (64 * (nI p)), .int (nI (64 * p + i))])) (S1 := S1) rfl ?_
      refine px_P.ialdj (j := p) rfl (by assumption) rfl (by omega) (by decide) ?_
      rw [e8, hst.1]
      refine px_P.sn 1 (f1 := (134, [(0, .ref m), (1, .int (nI s)), (2, .int (bif mo then 1 else 0)), (3, .int (nI p)), (4, .int 1), (5, .int (nI (64 * p + i)))], [.int ((64 * (nI p)) + (nI (ln_n z))), .int (nI (64 * p + i))])) (S1 := S1) rfl ?_
      rw [show (64 : Int32) * nI p + nI (ln_n z) = nI (64 * p + ln_n z) by rw [show (64 : Int32) = nI 64 from rfl, pk_mul, nI_add]]
      refine px_P.ic_ge rfl rfl (fun h => absurd h (nI_ge (by omega) (by omega))) (fun _ => ?_)
      refine px_P.sn 4 (f1 := (143, [(0, .ref m), (1, .int (nI s)), (2, .int (bif mo then 1 else 0)), (3, .int (nI p)), (4, .int 1), (5, .int (nI (64 * p + i)))], [.ref m, .int (208 * (nI s))])) (S1 := S1) rfl ?_
      refine px_P.gf rfl rfl (by assumption) (v := .ref (m + 10)) rfl ?_
      refine px_P.sn 1 (f1 := (148, [(0, .ref m), (1, .int (nI s)), (2, .int (bif mo then 1 else 0)), (3, .int (nI p)), (4, .int 1), (5, .int (nI (64 * p + i)))], [.int (nI (64 * p + i)), .ref (m + 10), .int (208 * (nI s))])) (S1 := S1) rfl ?_
      refine px_P.ialdj (j := 64 * p + i) rfl (by assumption) rfl (by omega) (by decide) ?_
      rw [e10, s10]
      refine px_P.sn 2 (f1 := (152, [(0, .ref m), (1, .int (nI s)), (2, .int (bif mo then 1 else 0)), (3, .int (nI p)), (4, .int 1), (5, .int (nI (64 * p + i))), (6, .int ((208 * (nI s)) + (nI (wth (ln_st z i)))))], [])) (S1 := S1) rfl ?_
      rw [e208]
      show px_P _ _ (152, [(0, .ref m), (1, .int (nI s)), (2, .int (bif mo then 1 else 0)), (3, .int (nI p)), (4, .int 1), (5, .int (nI (64 * p + i))), (6, .int (nI (208 * s + wth (ln_st z i))))], []) S1 _
      refine px_P.sn 1 (f1 := (153, [(0, .ref m), (1, .int (nI s)), (2, .int (bif mo then 1 else 0)), (3, .int (nI p)), (4, .int 1), (5, .int (nI (64 * p + i))), (6, .int (nI (208 * s + wth (ln_st z i))))], [.ref m])) (S1 := S1) rfl ?_
      refine px_P.gf rfl rfl (by assumption) (v := .ref (m + 9)) rfl ?_
      refine px_P.sn 1 (f1 := (158, [(0, .ref m), (1, .int (nI s)), (2, .int (bif mo then 1 else 0)), (3, .int (nI p)), (4, .int 1), (5, .int (nI (64 * p + i))), (6, .int (nI (208 * s + wth (ln_st z i))))], [.int (nI (64 * p + i)), .ref (m + 9)])) (S1 := S1) rfl ?_
      refine px_P.ialdj (j := 64 * p + i) rfl (by assumption) rfl (by omega) (by decide) ?_
      rw [e9, s9]
      refine px_P.sn 1 (f1 := (160, [(0, .ref m), (1, .int (nI s)), (2, .int (bif mo then 1 else 0)), (3, .int (nI p)), (4, .int 1), (5, .int (nI (64 * p + i))), (6, .int (nI (208 * s + wth (ln_st z i))))], [.int 2, .int (nI ((ln_st z i).1 + 1))])) (S1 := S1) rfl ?_
      by_cases h1 : (ln_st z i).1 = 1
      · have ew : wth (ln_st z i) = (ln_st z i).2.1 := if_pos (by omega)
        have ht := hok.2.2.1 h1
        have hW : ss_in (ln_W z) (ln_st z i).2.1 = true := (w1.2.2.2.2.1 _ (by omega)).mpr ⟨i, hi, h1, rfl⟩
        rw [ew]
        generalize ht0 : (ln_st z i).2.1 = t at *
        show px_P _ _ (160, [(0, .ref m), (1, .int (nI s)), (2, .int (bif mo then 1 else 0)), (3, .int (nI p)), (4, .int 1), (5, .int (nI (64 * p + i))), (6, .int (nI (208 * s + t)))], [.int 2, .int (nI ((ln_st z i).1 + 1))]) S1 _
        refine px_P.ic_ne rfl rfl (fun h => absurd ((by rw [h1]; rfl)) h) (fun _ => ?_)
        refine px_P.sn 1 (f1 := (164, [(0, .ref m), (1, .int (nI s)), (2, .int (bif mo then 1 else 0)), (3, .int (nI p)), (4, .int 1), (5, .int (nI (64 * p + i))), (6, .int (nI (208 * s + t)))], [.ref m])) (S1 := S1) rfl ?_
        refine px_P.gf rfl rfl (by assumption) (v := .ref (m + 21)) rfl ?_
        refine px_P.sn 1 (f1 := (169, [(0, .ref m), (1, .int (nI s)), (2, .int (bif mo then 1 else 0)), (3, .int (nI p)), (4, .int 1), (5, .int (nI (64 * p + i))), (6, .int (nI (208 * s + t)))], [.int (nI (208 * s + t)), .ref (m + 21)])) (S1 := S1) rfl ?_
        refine px_P.zaldj (j := 208 * s + t) rfl (by assumption) rfl (by omega) (by decide) ?_
        refine px_P.if_ne rfl rfl (fun zz => ?_) (fun zz => ?_)
        · refine tail S1 B mo _ g1 g2 (fun e => ⟨(g3 e).1, fun j hj hk => ?_⟩) hfB
          by_cases ej : j = i
          · subst ej
            rw [ht0, ← g2.2.2.2.1 e t ht]
            exact decide_eq_true zz
          · exact (g3 e).2 j (by omega) hk
        · refine px_P.sn 1 (f1 := (174, [(0, .ref m), (1, .int (nI s)), (2, .int (bif mo then 1 else 0)), (3, .int (nI p)), (4, .int 1), (5, .int (nI (64 * p + i))), (6, .int (nI (208 * s + t)))], [.ref m])) (S1 := S1) rfl ?_
          refine px_P.gf rfl rfl (by assumption) (v := .ref (m + 21)) rfl ?_
          refine px_P.sn 2 (f1 := (180, [(0, .ref m), (1, .int (nI s)), (2, .int (bif mo then 1 else 0)), (3, .int (nI p)), (4, .int 1), (5, .int (nI (64 * p + i))), (6, .int (nI (208 * s + t)))], [.int 1, .int (nI (208 * s + t)), .ref (m + 21)])) (S1 := S1) rfl ?_
          refine px_P.zastj (j := 208 * s + t) rfl (by assumption) rfl rfl (by omega) (by decide) (fun S2 u2 => ?_)
          refine px_P.sn 2 (f1 := (183, [(0, .ref m), (1, .int (nI s)), (2, .int 1), (3, .int (nI p)), (4, .int 1), (5, .int (nI (64 * p + i))), (6, .int (nI (208 * s + t)))], [])) (S1 := S2) rfl ?_
          refine tail S2 _ true _ (g1.up u2) (g2.up hs hp hL hs' hd hfB ht hW (decide_eq_false (fun w => w zz))) (fun w => (by cases w)) (hfB.elim Or.inl (fun w => Or.inr (by unfold hb; rw [va_us]; exact bz_up _ _ _ w)))
      · refine px_P.ic_ne rfl rfl (fun _ => ?_) (fun h => absurd h ((fun w => h1 (by have := (nI_eq (b := 2) (by omega) (by decide)).mp w; omega))))
        refine tail S1 B mo _ g1 g2 (fun e => ⟨(g3 e).1, fun j hj hk => ?_⟩) hfB
        by_cases ej : j = i
        · subst ej; exact absurd hk h1
        · exact (g3 e).2 j (by omega) hk)
    (by
      intro ⟨mo, B⟩ S1 ⟨g1, g2, g3, _⟩
      dsimp only at g1 g2 g3
      have e8 : B 8 = A0 8 := g1.2.2 8 (by decide)
      have c1 := g1.1.1
      show px_P _ _ (116, [(0, .ref m), (1, .int (nI s)), (2, .int (bif mo then 1 else 0)), (3, .int (nI p)), (4, .int 1), (5, .int (nI (64 * p + ln_n z)))], []) S1 _
      have r8 : S1.1 (m + 8) = some (.inl (0, 96, .inl (B 8))) := g1.1.2 8 (by decide) (by decide)
      refine px_P.sn 1 (f1 := (118, [(0, .ref m), (1, .int (nI s)), (2, .int (bif mo then 1 else 0)), (3, .int (nI p)), (4, .int 1), (5, .int (nI (64 * p + ln_n z)))], [.int 1])) (S1 := S1) rfl ?_
      refine px_P.if_eq rfl rfl (fun h => absurd h ((by decide))) (fun _ => ?_)
      refine px_P.sn 5 (f1 := (128, [(0, .ref m), (1, .int (nI s)), (2, .int (bif mo then 1 else 0)), (3, .int (nI p)), (4, .int 1), (5, .int (nI (64 * p + ln_n z)))], [.ref m, .int (64 * (nI p)), .int (nI (64 * p + ln_n z))])) (S1 := S1) rfl ?_
      refine px_P.gf rfl rfl (by assumption) (v := .ref (m + 8)) rfl ?_
      refine px_P.sn 1 (f1 := (132, [(0, .ref m), (1, .int (nI s)), (2, .int (bif mo then 1 else 0)), (3, .int (nI p)), (4, .int 1), (5, .int (nI (64 * p + ln_n z)))], [.int (nI p), .ref (m + 8), .int (64 * (nI p)), .int (nI (64 * p + ln_n z))])) (S1 := S1) rfl ?_
      refine px_P.ialdj (j := p) rfl (by assumption) rfl (by omega) (by decide) ?_
      rw [e8, hst.1]
      refine px_P.sn 1 (f1 := (134, [(0, .ref m), (1, .int (nI s)), (2, .int (bif mo then 1 else 0)), (3, .int (nI p)), (4, .int 1), (5, .int (nI (64 * p + ln_n z)))], [.int ((64 * (nI p)) + (nI (ln_n z))), .int (nI (64 * p + ln_n z))])) (S1 := S1) rfl ?_
      rw [show (64 : Int32) * nI p + nI (ln_n z) = nI (64 * p + ln_n z) by rw [show (64 : Int32) = nI 64 from rfl, pk_mul, nI_add]]
      refine px_P.ic_ge rfl rfl (fun _ => ?_) (fun h => absurd (Int32.le_refl _) h)
      show px_P _ _ (189, [(0, .ref m), (1, .int (nI s)), (2, .int (bif mo then 1 else 0)), (3, .int (nI p)), (4, .int 1), (5, .int (nI (64 * p + ln_n z)))], []) S1 _
      refine px_P.wk (ls := [(0, .ref m), (1, .int (nI s)), (2, .int (bif mo then 1 else 0)), (3, .int (nI p))]) rfl (.cons_cons _ (.cons_cons _ (.cons_cons _ (.cons_cons _ (.cons _ (.cons _ .slnil)))))) ?_
      refine k S1 B mo g1 g2 (fun e => ⟨(g3 e).1, fun t ht hW => ?_⟩)
      obtain ⟨j, j1, j2, j3⟩ := (w1.2.2.2.2.1 t (by omega)).mp hW
      rw [← j3]
      exact (g3 e).2 j j1 j2)
  exact lp (ln_n z) 0 (by omega) (more, A) S ⟨h, hI, fun e => ⟨e, fun j hj => absurd hj (by omega)⟩, hf⟩
