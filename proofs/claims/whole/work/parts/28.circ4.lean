/-! ===== Circles: findLeast, group, find, makers ===== -/
def bo (H : Nat → Nat → Int64) (s t : Nat) : Bool := ss_in (H s) t && ss_in (H t) s
/-- the first below n that q has, or s -/
def lsf (q : Nat → Bool) (s : Nat) : Nat → Nat
  | 0 => s
  | n + 1 => if ct q n = 0 ∧ q n = true then n else lsf q s n
theorem lsf_z {q : Nat → Bool} {s n : Nat} (h : q n = false) : lsf q s (n + 1) = lsf q s n := by
  simp [lsf, h]
theorem pm_ciFind1 {d c s ds cc sc : Nat} {H : Nat → Nat → Int64} {ls df : Nat → Int32} {p : Nat → Bool} {S : px_S} {Q : Option Value → px_S → Prop} (hd : 2 ≤ d) (hc : ci_at S c H ls df ds cc sc) (hdf : ∀ s, s < 208 → p s = true → df (ct p s) = nI s) (hp : ∀ s t, hr H s t → p s = true) (hs : s < 208)
    (k : ∀ S' ls', ci_at S' c H ls' df ds cc sc → ls' s = nI (lsf (bo H s) s s) → (∀ t, t ≠ s → ls' t = ls t) → (∀ q, (q < c ∨ c + 420 ≤ q) → S'.1 q = S.1 q) → S'.2 = S.2 → Q (some (.int (nI (ct (bo H s) s)))) S') :
    px_M d px_m_Circles_findLeast [.ref c, .int (nI (ct p s)), .int (nI s)] S Q := by
  have hle := ct_le p s
  have lp := px_forE (d := d - 1) (mi := px_m_Circles_findLeast) (Q := Q) (X := (Nat → Int32) × Nat) p s (fun m y => (12, [(0, .ref c), (1, .int (nI (ct p s))), (2, .int (nI s)), (3, .int (nI y.2)), (4, .int (nI m))], []))
    (fun n y S1 => ci_at S1 c H y.1 df ds cc sc ∧ y.2 = ct (bo H s) n ∧ y.1 s = nI (lsf (bo H s) s n) ∧ (∀ t, t ≠ s → y.1 t = ls t) ∧ (∀ q, (q < c ∨ c + 420 ≤ q) → S1.1 q = S.1 q) ∧ S1.2 = S.2)
    (by
      intro n hn hpn y S1 ⟨h1, h2, h3, h4, h5, h6⟩
      have e : bo H s n = false := by
        cases hb : bo H s n with
        | false => rfl
        | true =>
          unfold bo at hb
          rw [Bool.and_eq_true] at hb
          rw [hp n s ⟨by omega, hs, hb.2⟩] at hpn
          cases hpn
      exact ⟨h1, by rw [ct_z e]; exact h2, by rw [lsf_z e]; exact h3, h4, h5, h6⟩)
    (by
      intro n hn hpn y S1 ⟨h1, h2, h3, h4, h5, h6⟩ ih
      obtain ⟨l1, lw⟩ := y
      dsimp only at h1 h2 h3 h4
      have hlt := ct_lt hn hpn
      have hbl := ct_le (bo H s) n
      have h1' := h1
      obtain ⟨a0, ⟨hf, a1, a2⟩, a3, a4, a5⟩ := h1
      have w1 := (a5 s hs).1
      have w2 := (a5 s hs).2
      have w3 := (a5 n (by omega)).1
      have w4 := (a5 n (by omega)).2
      refine px_P.sn 2 (f1 := (15, [(0, .ref c), (1, .int (nI (ct p s))), (2, .int (nI s)), (3, .int (nI lw)), (4, .int (nI (ct p n)))], [.int (nI (ct p s)), .int (nI (ct p n))])) (S1 := S1) rfl ?_
      refine px_P.ic_ge rfl rfl (fun h => absurd h (nI_ge hlt (by omega))) (fun _ => ?_)
      refine px_P.sn 1 (f1 := (19, [(0, .ref c), (1, .int (nI (ct p s))), (2, .int (nI s)), (3, .int (nI lw)), (4, .int (nI (ct p n)))], [.ref c])) (S1 := S1) rfl ?_
      refine px_P.gf rfl rfl (by assumption) (v := .ref (c + 3)) rfl ?_
      refine px_P.sn 1 (f1 := (24, [(0, .ref c), (1, .int (nI (ct p s))), (2, .int (nI s)), (3, .int (nI lw)), (4, .int (nI (ct p n)))], [.int (nI (ct p n)), .ref (c + 3)])) (S1 := S1) rfl ?_
      refine px_P.ialdj (j := ct p n) rfl (by assumption) rfl (by omega) (by decide) ?_
      rw [hdf n (by omega) hpn]
      show px_P _ _ (25, [(0, .ref c), (1, .int (nI (ct p s))), (2, .int (nI s)), (3, .int (nI lw)), (4, .int (nI (ct p n)))], [.int (nI n)]) S1 _
      refine px_P.sn 2 (f1 := (28, [(0, .ref c), (1, .int (nI (ct p s))), (2, .int (nI s)), (3, .int (nI lw)), (4, .int (nI (ct p n))), (5, .int (nI n))], [.ref c])) (S1 := S1) rfl ?_
      refine px_P.gf rfl rfl (by assumption) (v := .ref (c + 1)) rfl ?_
      refine px_P.sn 1 (f1 := (32, [(0, .ref c), (1, .int (nI (ct p s))), (2, .int (nI s)), (3, .int (nI lw)), (4, .int (nI (ct p n))), (5, .int (nI n))], [.int (nI s), .ref (c + 1)])) (S1 := S1) rfl ?_
      refine px_P.aaldj (j := s) rfl (by assumption) rfl rfl (by omega) (by decide) ?_
      rw [a2 s hs]
      show px_P _ _ (33, [(0, .ref c), (1, .int (nI (ct p s))), (2, .int (nI s)), (3, .int (nI lw)), (4, .int (nI (ct p n))), (5, .int (nI n))], [.ref (c + 4 + 2 * s)]) S1 _
      have no : bo H s n = false → px_P (d - 1) px_m_Circles_findLeast (70, [(0, .ref c), (1, .int (nI (ct p s))), (2, .int (nI s)), (3, .int (nI lw)), (4, .int (nI (ct p n))), (5, .int (nI n))], []) S1 Q := by
        intro e
        refine px_P.sn 2 (f1 := (12, [(0, .ref c), (1, .int (nI (ct p s))), (2, .int (nI s)), (3, .int (nI lw)), (4, .int ((nI (ct p n)) + 1)), (5, .int (nI n))], [])) (S1 := S1) rfl ?_
        show px_P _ _ (12, [(0, .ref c), (1, .int (nI (ct p s))), (2, .int (nI s)), (3, .int (nI lw)), (4, .int ((nI (ct p n)) + 1)), (5, .int (nI n))], []) S1 _
        refine px_P.wk (ls := [(0, .ref c), (1, .int (nI (ct p s))), (2, .int (nI s)), (3, .int (nI lw)), (4, .int ((nI (ct p n)) + 1))]) rfl (.cons_cons _ (.cons_cons _ (.cons_cons _ (.cons_cons _ (.cons_cons _ (.cons _ .slnil)))))) ?_
        rw [nI_1]
        exact ih (l1, lw) S1 ⟨h1', by rw [ct_z e]; exact h2, by rw [lsf_z e]; exact h3, h4, h5, h6⟩
      refine px_P.sn 1 (f1 := (35, [(0, .ref c), (1, .int (nI (ct p s))), (2, .int (nI s)), (3, .int (nI lw)), (4, .int (nI (ct p n))), (5, .int (nI n))], [.int (nI n), .ref (c + 4 + 2 * s)])) (S1 := S1) rfl ?_
      refine px_P.cv rfl rfl rfl (by assumption) rfl ?_
      show px_M _ px_m_SymbolSet_has [.ref (c + 4 + 2 * s), .int (nI n)] S1 _
      refine pm_ss_has (by omega) w1 w2 ?_
      rw [ss_hs_in (by omega : n < 208)]
      cases hb : ss_in (H s) n with
      | false =>
        show px_P _ _ (38, [(0, .ref c), (1, .int (nI (ct p s))), (2, .int (nI s)), (3, .int (nI lw)), (4, .int (nI (ct p n))), (5, .int (nI n))], [.int 0]) S1 _
        refine px_P.if_eq rfl rfl (fun _ => ?_) (fun h => absurd (rfl) h)
        exact no (by simp [bo, hb])
      | true =>
        show px_P _ _ (38, [(0, .ref c), (1, .int (nI (ct p s))), (2, .int (nI s)), (3, .int (nI lw)), (4, .int (nI (ct p n))), (5, .int (nI n))], [.int 1]) S1 _
        refine px_P.if_eq rfl rfl (fun h => absurd h ((by decide))) (fun _ => ?_)
        refine px_P.sn 1 (f1 := (42, [(0, .ref c), (1, .int (nI (ct p s))), (2, .int (nI s)), (3, .int (nI lw)), (4, .int (nI (ct p n))), (5, .int (nI n))], [.ref c])) (S1 := S1) rfl ?_
        refine px_P.gf rfl rfl (by assumption) (v := .ref (c + 1)) rfl ?_
        refine px_P.sn 1 (f1 := (47, [(0, .ref c), (1, .int (nI (ct p s))), (2, .int (nI s)), (3, .int (nI lw)), (4, .int (nI (ct p n))), (5, .int (nI n))], [.int (nI n), .ref (c + 1)])) (S1 := S1) rfl ?_
        refine px_P.aaldj (j := n) rfl (by assumption) rfl rfl (by omega) (by decide) ?_
        rw [a2 n (by omega)]
        show px_P _ _ (48, [(0, .ref c), (1, .int (nI (ct p s))), (2, .int (nI s)), (3, .int (nI lw)), (4, .int (nI (ct p n))), (5, .int (nI n))], [.ref (c + 4 + 2 * n)]) S1 _
        refine px_P.sn 1 (f1 := (49, [(0, .ref c), (1, .int (nI (ct p s))), (2, .int (nI s)), (3, .int (nI lw)), (4, .int (nI (ct p n))), (5, .int (nI n))], [.int (nI s), .ref (c + 4 + 2 * n)])) (S1 := S1) rfl ?_
        refine px_P.cv rfl rfl rfl (by assumption) rfl ?_
        show px_M _ px_m_SymbolSet_has [.ref (c + 4 + 2 * n), .int (nI s)] S1 _
        refine pm_ss_has (by omega) w3 w4 ?_
        rw [ss_hs_in hs]
        cases hb2 : ss_in (H n) s with
        | false =>
          show px_P _ _ (52, [(0, .ref c), (1, .int (nI (ct p s))), (2, .int (nI s)), (3, .int (nI lw)), (4, .int (nI (ct p n))), (5, .int (nI n))], [.int 0]) S1 _
          refine px_P.if_eq rfl rfl (fun _ => ?_) (fun h => absurd (rfl) h)
          exact no (by simp [bo, hb2])
        | true =>
          have e : bo H s n = true := by simp [bo, hb, hb2]
          show px_P _ _ (52, [(0, .ref c), (1, .int (nI (ct p s))), (2, .int (nI s)), (3, .int (nI lw)), (4, .int (nI (ct p n))), (5, .int (nI n))], [.int 1]) S1 _
          refine px_P.if_eq rfl rfl (fun h => absurd h ((by decide))) (fun _ => ?_)
          refine px_P.sn 1 (f1 := (56, [(0, .ref c), (1, .int (nI (ct p s))), (2, .int (nI s)), (3, .int (nI lw)), (4, .int (nI (ct p n))), (5, .int (nI n))], [.int (nI lw)])) (S1 := S1) rfl ?_
          have go : ∀ (S2 : px_S) (l2 : Nat → Int32), ci_at S2 c H l2 df ds cc sc → l2 s = nI (lsf (bo H s) s (n + 1)) → (∀ t, t ≠ s → l2 t = ls t) → (∀ q, (q < c ∨ c + 420 ≤ q) → S2.1 q = S.1 q) → S2.2 = S.2 → px_P (d - 1) px_m_Circles_findLeast (67, [(0, .ref c), (1, .int (nI (ct p s))), (2, .int (nI s)), (3, .int (nI lw)), (4, .int (nI (ct p n))), (5, .int (nI n))], []) S2 Q := by
            intro S2 l2 g1 g2 g3 g4 g5
            refine px_P.sn 3 (f1 := (12, [(0, .ref c), (1, .int (nI (ct p s))), (2, .int (nI s)), (3, .int ((nI lw) + 1)), (4, .int ((nI (ct p n)) + 1)), (5, .int (nI n))], [])) (S1 := S2) rfl ?_
            show px_P _ _ (12, [(0, .ref c), (1, .int (nI (ct p s))), (2, .int (nI s)), (3, .int ((nI lw) + 1)), (4, .int ((nI (ct p n)) + 1)), (5, .int (nI n))], []) S2 _
            refine px_P.wk (ls := [(0, .ref c), (1, .int (nI (ct p s))), (2, .int (nI s)), (3, .int ((nI lw) + 1)), (4, .int ((nI (ct p n)) + 1))]) rfl (.cons_cons _ (.cons_cons _ (.cons_cons _ (.cons_cons _ (.cons_cons _ (.cons _ .slnil)))))) ?_
            rw [nI_1, nI_1]
            exact ih (l2, lw + 1) S2 ⟨g1, by rw [ct_s e]; dsimp only; omega, g2, g3, g4, g5⟩
          refine px_P.if_ne rfl rfl (fun h0 => ?_) (fun h0 => ?_)
          · refine go S1 l1 h1' ?_ h4 h5 h6
            rw [h3]
            have : ¬ ct (bo H s) n = 0 := fun z => h0 (by rw [h2, z]; rfl)
            simp [lsf, this]
          · have hz : ct (bo H s) n = 0 := by
              rw [← h2]
              exact (nI_eq (b := 0) (by omega) (by decide)).mp h0
            refine px_P.sn 1 (f1 := (60, [(0, .ref c), (1, .int (nI (ct p s))), (2, .int (nI s)), (3, .int (nI lw)), (4, .int (nI (ct p n))), (5, .int (nI n))], [.ref c])) (S1 := S1) rfl ?_
            refine px_P.gf rfl rfl (by assumption) (v := .ref (c + 2)) rfl ?_
            refine px_P.sn 2 (f1 := (66, [(0, .ref c), (1, .int (nI (ct p s))), (2, .int (nI s)), (3, .int (nI lw)), (4, .int (nI (ct p n))), (5, .int (nI n))], [.int (nI n), .int (nI s), .ref (c + 2)])) (S1 := S1) rfl ?_
            refine px_P.iastj (j := s) rfl (by assumption) rfl (by omega) (by decide) (fun S2 u2 => ?_)
            refine go S2 _ ⟨u2.n a0 (by omega), ⟨hf, u2.n a1 (by omega), a2⟩, u2.s, u2.n a4 (by omega), fun j hj => ⟨u2.n (a5 j hj).1 (by omega), u2.n (a5 j hj).2 (by omega)⟩⟩ ?_ (fun t ht => by rw [pk_un ht]; exact h4 t ht) (fun q hq => by rw [u2.o (by omega)]; exact h5 q hq) (by rw [u2.t, h6])
            rw [pk_us, lsf, if_pos ⟨hz, e⟩])
    (by
      intro y S1 ⟨h1, h2, h3, h4, h5, h6⟩
      obtain ⟨l1, lw⟩ := y
      dsimp only at h1 h2 h3 h4
      refine px_P.sn 2 (f1 := (15, [(0, .ref c), (1, .int (nI (ct p s))), (2, .int (nI s)), (3, .int (nI lw)), (4, .int (nI (ct p s)))], [.int (nI (ct p s)), .int (nI (ct p s))])) (S1 := S1) rfl ?_
      refine px_P.ic_ge rfl rfl (fun _ => ?_) (fun h => absurd (nI_le (Nat.le_refl _) (by omega)) h)
      refine px_P.sn 1 (f1 := (77, [(0, .ref c), (1, .int (nI (ct p s))), (2, .int (nI s)), (3, .int (nI lw)), (4, .int (nI (ct p s)))], [.int (nI lw)])) (S1 := S1) rfl ?_
      refine px_P.ret rfl ?_
      rw [h2]
      exact k S1 l1 h1 h3 h4 h5 h6)
  obtain ⟨a0, ⟨hf, a1, a2⟩, a3, a4, a5⟩ := hc
  refine px_M.go (by omega) (Nat.le_of_ble_eq_true rfl) ?_
  refine px_P.sn 3 (f1 := (3, [(0, .ref c), (1, .int (nI (ct p s))), (2, .int (nI s)), (3, .int 0)], [.ref c])) (S1 := S) rfl ?_
  refine px_P.gf rfl rfl (by assumption) (v := .ref (c + 2)) rfl ?_
  refine px_P.sn 2 (f1 := (8, [(0, .ref c), (1, .int (nI (ct p s))), (2, .int (nI s)), (3, .int 0)], [.int (nI s), .int (nI s), .ref (c + 2)])) (S1 := S) rfl ?_
  refine px_P.iastj (j := s) rfl (by assumption) rfl (by omega) (by decide) (fun S1 u1 => ?_)
  refine px_P.sn 2 (f1 := (12, [(0, .ref c), (1, .int (nI (ct p s))), (2, .int (nI s)), (3, .int 0), (4, .int 0)], [])) (S1 := S1) rfl ?_
  exact lp s 0 (by omega) (_, 0) S1 ⟨⟨u1.n a0 (by omega), ⟨hf, u1.n a1 (by omega), a2⟩, u1.s, u1.n a4 (by omega), fun j hj => ⟨u1.n (a5 j hj).1 (by omega), u1.n (a5 j hj).2 (by omega)⟩⟩, rfl, pk_us, fun t ht => pk_un ht, fun q hq => u1.o (by omega), u1.t⟩
def ciC (H : Nat → Nat → Int64) (s : Nat) : Bool := decide (ct (bo H s) s = 1)
theorem pm_ciGroup {d c cc sc : Nat} {H : Nat → Nat → Int64} {ls df : Nat → Int32} {p : Nat → Bool} {S : px_S} {Q : Option Value → px_S → Prop} (hd : 3 ≤ d) (hc : ci_at S c H ls df (ct p 208) cc sc) (hdf : ∀ s, s < 208 → p s = true → df (ct p s) = nI s) (hp : ∀ s t, hr H s t → p s = true)
    (k : ∀ S' ls', ci_at S' c H ls' df (ct p 208) (ct (ciC H) 208) (ct (fun s => ss_in (H s) s) 208) → (∀ s, s < 208 → p s = true → ls' s = nI (lsf (bo H s) s s)) → (∀ q, (q < c ∨ c + 420 ≤ q) → S'.1 q = S.1 q) → S'.2 = S.2 → Q none S') :
    px_M d px_m_Circles_group [.ref c] S Q := by
  have hle := ct_le p 208
  have lp := px_forE (d := d - 1) (mi := px_m_Circles_group) (Q := Q) (X := Nat → Int32) p 208 (fun m _ => (12, [(0, .ref c), (1, .int (nI m))], []))
    (fun n l1 S1 => ci_at S1 c H l1 df (ct p 208) (ct (ciC H) n) (ct (fun s => ss_in (H s) s) n) ∧ (∀ s, s < n → p s = true → l1 s = nI (lsf (bo H s) s s)) ∧ (∀ q, (q < c ∨ c + 420 ≤ q) → S1.1 q = S.1 q) ∧ S1.2 = S.2)
    (by
      intro n hn hpn l1 S1 ⟨h1, h2, h3, h4⟩
      have row : ∀ t, t < 208 → ss_in (H n) t = false := by
        intro t ht
        cases hb : ss_in (H n) t with
        | false => rfl
        | true => rw [hp n t ⟨hn, ht, hb⟩] at hpn; cases hpn
      have e1 : (fun s => ss_in (H s) s) n = false := row n hn
      have e2 : ciC H n = false := by
        have : ct (bo H n) n = 0 := by
          have z : ∀ m, m ≤ 208 → ct (bo H n) m = 0 := by
            intro m
            induction m with
            | zero => intro _; rfl
            | succ m ih => intro hm; rw [ct_z (by simp [bo, row m (by omega)])]; exact ih (by omega)
          exact z n (by omega)
        simp [ciC, this]
      refine ⟨by rw [ct_z (p := fun s => ss_in (H s) s) e1, ct_z e2]; exact h1, fun s hs hps => ?_, h3, h4⟩
      by_cases e : s = n
      · subst e; rw [hpn] at hps; cases hps
      · exact h2 s (by omega) hps)
    (by
      intro n hn hpn l1 S1 ⟨h1, h2, h3, h4⟩ ih
      have hlt := ct_lt hn hpn
      have h1' := h1
      have hb1 := ct_le (ciC H) n
      have hb2 := ct_le (fun s => ss_in (H s) s) n
      obtain ⟨a0, ⟨hf, a1, a2⟩, a3, a4, a5⟩ := h1
      have w1 := (a5 n hn).1
      have w2 := (a5 n hn).2
      have fin : ∀ (S2 : px_S), ci_at S2 c H l1 df (ct p 208) (ct (ciC H) n) (ct (fun s => ss_in (H s) s) (n + 1)) → (∀ q, (q < c ∨ c + 420 ≤ q) → S2.1 q = S.1 q) → S2.2 = S.2 → px_P (d - 1) px_m_Circles_group (50, [(0, .ref c), (1, .int (nI (ct p n))), (2, .int (nI n))], []) S2 Q := by
        intro S2 g1 g2 g3
        have b0 := g1.1
        refine px_P.sn 3 (f1 := (53, [(0, .ref c), (1, .int (nI (ct p n))), (2, .int (nI n))], [.int (nI n), .int (nI (ct p n)), .ref c])) (S1 := S2) rfl ?_
        refine px_P.cv rfl rfl rfl (by assumption) rfl ?_
        show px_M _ px_m_Circles_findLeast [.ref c, .int (nI (ct p n)), .int (nI n)] S2 _
        refine pm_ciFind1 (by omega) g1 hdf hp hn (fun S3 l3 e1 e2 e3 e4 e5 => ?_)
        have hls : ∀ s, s < n + 1 → p s = true → l3 s = nI (lsf (bo H s) s s) := by
          intro s hs hps
          by_cases e : s = n
          · subst e; exact e2
          · rw [e3 s e]; exact h2 s (by omega) hps
        have hbo := ct_le (bo H n) n
        show px_P _ _ (56, [(0, .ref c), (1, .int (nI (ct p n))), (2, .int (nI n))], [.int (nI (ct (bo H n) n))]) S3 _
        refine px_P.sn 1 (f1 := (57, [(0, .ref c), (1, .int (nI (ct p n))), (2, .int (nI n))], [.int 1, .int (nI (ct (bo H n) n))])) (S1 := S3) rfl ?_
        refine px_P.ic_ne rfl rfl (fun h1 => ?_) (fun h1 => ?_)
        · have z : ciC H n = false := decide_eq_false (fun w => h1 (by rw [w]; rfl))
          refine px_P.sn 2 (f1 := (12, [(0, .ref c), (1, .int ((nI (ct p n)) + 1)), (2, .int (nI n))], [])) (S1 := S3) rfl ?_
          show px_P _ _ (12, [(0, .ref c), (1, .int ((nI (ct p n)) + 1)), (2, .int (nI n))], []) S3 _
          refine px_P.wk (ls := [(0, .ref c), (1, .int ((nI (ct p n)) + 1))]) rfl (.cons_cons _ (.cons_cons _ (.cons _ .slnil))) ?_
          rw [nI_1]
          exact ih l3 S3 ⟨by rw [ct_z z]; exact e1, hls, fun q hq => (e4 q hq).trans (g2 q hq), e5.trans g3⟩
        · have z : ciC H n = true := decide_eq_true ((nI_eq (b := 1) (by omega) (by decide)).mp h1)
          obtain ⟨b0, ⟨hf3, b1, b2⟩, b3, b4, b5⟩ := e1
          refine px_P.sn 2 (f1 := (62, [(0, .ref c), (1, .int (nI (ct p n))), (2, .int (nI n))], [.ref c, .ref c])) (S1 := S3) rfl ?_
          refine px_P.gf rfl rfl (by assumption) (v := .int (nI (ct (ciC H) n))) rfl ?_
          refine px_P.sn 2 (f1 := (67, [(0, .ref c), (1, .int (nI (ct p n))), (2, .int (nI n))], [.int ((nI (ct (ciC H) n)) + 1), .ref c])) (S1 := S3) rfl ?_
          refine px_P.pf rfl rfl (by assumption) rfl (fun S4 u4 => ?_)
          have b6 := u4.s
          refine px_P.sn 2 (f1 := (12, [(0, .ref c), (1, .int ((nI (ct p n)) + 1)), (2, .int (nI n))], [])) (S1 := S4) rfl ?_
          show px_P _ _ (12, [(0, .ref c), (1, .int ((nI (ct p n)) + 1)), (2, .int (nI n))], []) S4 _
          refine px_P.wk (ls := [(0, .ref c), (1, .int ((nI (ct p n)) + 1))]) rfl (.cons_cons _ (.cons_cons _ (.cons _ .slnil))) ?_
          rw [nI_1]
          refine ih l3 S4 ⟨⟨?_, ⟨hf3, u4.n b1 (by omega), b2⟩, u4.n b3 (by omega), u4.n b4 (by omega), fun j hj => ⟨u4.n (b5 j hj).1 (by omega), u4.n (b5 j hj).2 (by omega)⟩⟩, hls, fun q hq => by rw [u4.o (by omega)]; exact (e4 q hq).trans (g2 q hq), by rw [u4.t]; exact e5.trans g3⟩
          rw [ct_s z]
          rw [nI_1] at b6
          exact b6
      refine px_P.sn 2 (f1 := (14, [(0, .ref c), (1, .int (nI (ct p n)))], [.ref c, .int (nI (ct p n))])) (S1 := S1) rfl ?_
      refine px_P.gf rfl rfl (by assumption) (v := .int (nI (ct p 208))) rfl ?_
      refine px_P.ic_ge rfl rfl (fun h => absurd h (nI_ge hlt (by omega))) (fun _ => ?_)
      refine px_P.sn 1 (f1 := (21, [(0, .ref c), (1, .int (nI (ct p n)))], [.ref c])) (S1 := S1) rfl ?_
      refine px_P.gf rfl rfl (by assumption) (v := .ref (c + 3)) rfl ?_
      refine px_P.sn 1 (f1 := (25, [(0, .ref c), (1, .int (nI (ct p n)))], [.int (nI (ct p n)), .ref (c + 3)])) (S1 := S1) rfl ?_
      refine px_P.ialdj (j := ct p n) rfl (by assumption) rfl (by omega) (by decide) ?_
      rw [hdf n hn hpn]
      show px_P _ _ (26, [(0, .ref c), (1, .int (nI (ct p n)))], [.int (nI n)]) S1 _
      refine px_P.sn 2 (f1 := (28, [(0, .ref c), (1, .int (nI (ct p n))), (2, .int (nI n))], [.ref c])) (S1 := S1) rfl ?_
      refine px_P.gf rfl rfl (by assumption) (v := .ref (c + 1)) rfl ?_
      refine px_P.sn 1 (f1 := (32, [(0, .ref c), (1, .int (nI (ct p n))), (2, .int (nI n))], [.int (nI n), .ref (c + 1)])) (S1 := S1) rfl ?_
      refine px_P.aaldj (j := n) rfl (by assumption) rfl rfl (by omega) (by decide) ?_
      rw [a2 n hn]
      show px_P _ _ (33, [(0, .ref c), (1, .int (nI (ct p n))), (2, .int (nI n))], [.ref (c + 4 + 2 * n)]) S1 _
      refine px_P.sn 1 (f1 := (34, [(0, .ref c), (1, .int (nI (ct p n))), (2, .int (nI n))], [.int (nI n), .ref (c + 4 + 2 * n)])) (S1 := S1) rfl ?_
      refine px_P.cv rfl rfl rfl (by assumption) rfl ?_
      show px_M _ px_m_SymbolSet_has [.ref (c + 4 + 2 * n), .int (nI n)] S1 _
      refine pm_ss_has (by omega) w1 w2 ?_
      rw [ss_hs_in hn]
      cases hb : ss_in (H n) n with
      | false =>
        show px_P _ _ (37, [(0, .ref c), (1, .int (nI (ct p n))), (2, .int (nI n))], [.int 0]) S1 _
        refine px_P.if_eq rfl rfl (fun _ => ?_) (fun h => absurd (rfl) h)
        exact fin S1 (by rw [ct_z (p := fun s => ss_in (H s) s) hb]; exact h1') h3 h4
      | true =>
        show px_P _ _ (37, [(0, .ref c), (1, .int (nI (ct p n))), (2, .int (nI n))], [.int 1]) S1 _
        refine px_P.if_eq rfl rfl (fun h => absurd h ((by decide))) (fun _ => ?_)
        refine px_P.sn 2 (f1 := (42, [(0, .ref c), (1, .int (nI (ct p n))), (2, .int (nI n))], [.ref c, .ref c])) (S1 := S1) rfl ?_
        refine px_P.gf rfl rfl (by assumption) (v := .int (nI (ct (fun s => ss_in (H s) s) n))) rfl ?_
        refine px_P.sn 2 (f1 := (47, [(0, .ref c), (1, .int (nI (ct p n))), (2, .int (nI n))], [.int ((nI (ct (fun s => ss_in (H s) s) n)) + 1), .ref c])) (S1 := S1) rfl ?_
        refine px_P.pf rfl rfl (by assumption) rfl (fun S2 u2 => ?_)
        have b6 := u2.s
        rw [nI_1, ← ct_s (p := fun s => ss_in (H s) s) hb] at b6
        exact fin S2 ⟨b6, ⟨hf, u2.n a1 (by omega), a2⟩, u2.n a3 (by omega), u2.n a4 (by omega), fun j hj => ⟨u2.n (a5 j hj).1 (by omega), u2.n (a5 j hj).2 (by omega)⟩⟩ (fun q hq => by rw [u2.o (by omega)]; exact h3 q hq) (by rw [u2.t, h4]))
    (by
      intro l1 S1 ⟨h1, h2, h3, h4⟩
      have a0 := h1.1
      refine px_P.sn 2 (f1 := (14, [(0, .ref c), (1, .int (nI (ct p 208)))], [.ref c, .int (nI (ct p 208))])) (S1 := S1) rfl ?_
      refine px_P.gf rfl rfl (by assumption) (v := .int (nI (ct p 208))) rfl ?_
      refine px_P.ic_ge rfl rfl (fun _ => ?_) (fun h => absurd (nI_le (Nat.le_refl _) (by omega)) h)
      refine px_P.ret rfl ?_
      exact k S1 l1 h1 h2 h3 h4)
  obtain ⟨a0, ⟨hf, a1, a2⟩, a3, a4, a5⟩ := hc
  refine px_M.go (by omega) (Nat.le_of_ble_eq_true rfl) ?_
  refine px_P.sn 2 (f1 := (2, [(0, .ref c)], [.int 0, .ref c])) (S1 := S) rfl ?_
  refine px_P.pf rfl rfl (by assumption) rfl (fun S1 u1 => ?_)
  have b0 := u1.s
  refine px_P.sn 2 (f1 := (7, [(0, .ref c)], [.int 0, .ref c])) (S1 := S1) rfl ?_
  refine px_P.pf rfl rfl (by assumption) rfl (fun S2 u2 => ?_)
  refine px_P.sn 2 (f1 := (12, [(0, .ref c), (1, .int 0)], [])) (S1 := S2) rfl ?_
  exact lp 208 0 rfl ls S2 ⟨⟨u2.s, ⟨hf, u2.n (u1.n a1 (by omega)) (by omega), a2⟩, u2.n (u1.n a3 (by omega)) (by omega), u2.n (u1.n a4 (by omega)) (by omega), fun j hj => ⟨u2.n (u1.n (a5 j hj).1 (by omega)) (by omega), u2.n (u1.n (a5 j hj).2 (by omega)) (by omega)⟩⟩, fun s hs => absurd hs (by omega), fun q hq => by rw [u2.o (by omega), u1.o (by omega)], by rw [u2.t, u1.t]⟩
theorem tc_is.congr {r r' h : Nat → Nat → Prop} (e : ∀ s t, r s t ↔ r' s t) (a : tc_is r h) : tc_is r' h := ⟨fun s t q => a.1 s t ((e s t).mpr q), a.2.1, fun h' q1 q2 => a.2.2 h' (fun s t q => q1 s t ((e s t).mp q)) q2⟩
def ci_ok (H : Nat → Nat → Int64) (ls : Nat → Int32) (cc sc : Nat) (p : Nat → Bool) : Prop := (∀ s t, hr H s t → p s = true) ∧ (∀ s, s < 208 → p s = true → ls s = nI (lsf (bo H s) s s)) ∧ cc = ct (ciC H) 208 ∧ sc = ct (fun s => ss_in (H s) s) 208
theorem pm_ciFind {d c v y tT tD lo ds cc sc : Nat} {H : Nat → Nat → Int64} {ls df D : Nat → Int32} {la : Nat → Option Nat} {G : ln_G} {S : px_S} {Q : Option Value → px_S → Prop} (hd : 4 ≤ d) (hc : ci_at S c H ls df ds cc sc) (hv : S.1 v = some (.inl (4, 96, .inr (.inr (.inr (.inr la)))))) (hy : S.1 y = some (.inr (7, [.ref tT, .ref tD]))) (hD : S.1 tD = some (.inl (0, 208, .inl D))) (hyo : y < c ∨ c + 420 ≤ y) (hDo : tD < c ∨ c + 420 ≤ tD) (hlo : lo_at S lo G) (hla : la_ok la G 96) (hco : c + 420 ≤ lo) (hvo : v < c ∨ c + 420 ≤ v)
    (hpD : ∀ s t, rd (sp la G) s t → 0 < D s)
    (k : ∀ S' H' ls' df' ds' cc' sc', ci_at S' c H' ls' df' ds' cc' sc' → tc_is (rd (sp la G)) (hr H') → ci_ok H' ls' cc' sc' (fun s => decide (0 < D s)) → (∀ q, (q < c ∨ c + 420 ≤ q) → S'.1 q = S.1 q) → S'.2 = S.2 → Q none S') :
    px_M d px_m_Circles_find [.ref c, .ref v, .ref y] S Q := by
  have c0 := hc.1
  refine px_M.go (by omega) (Nat.le_of_ble_eq_true rfl) ?_
  refine px_P.sn 2 (f1 := (2, [(0, .ref c), (1, .ref v), (2, .ref y)], [.ref y, .ref c])) (S1 := S) rfl ?_
  refine px_P.cv rfl rfl rfl (by assumption) rfl ?_
  show px_M _ px_m_Circles_listDefined [.ref c, .ref y] S _
  refine pm_ciListed (by omega) hc hy hD hyo hDo (fun S1 H1 l1 d1 e1 e2 e3 e4 e5 e6 => ?_)
  have c1 := e1.1
  show px_P _ _ (5, [(0, .ref c), (1, .ref v), (2, .ref y)], []) S1 _
  refine px_P.sn 2 (f1 := (7, [(0, .ref c), (1, .ref v), (2, .ref y)], [.ref v, .ref c])) (S1 := S1) rfl ?_
  refine px_P.cv rfl rfl rfl (by assumption) rfl ?_
  show px_M _ px_m_Circles_gatherReads [.ref c, .ref v] S1 _
  refine pm_ciGather (by omega) e1 ((e5 v hvo).trans hv) (hlo.keep (fun q hq _ => e5 q (by omega)) (by rw [e6]; exact Nat.le_refl _)) hla hco hvo (fun S2 H2 f1 f2 f3 f4 => ?_)
  have hH2 : ∀ s t, hr H2 s t ↔ rd (sp la G) s t := by
    intro s t
    constructor
    · rintro ⟨q1, q2, q3⟩
      refine ⟨q1, q2, ?_⟩
      rcases (f2 s t q1 q2).mp q3 with q4 | q4
      · rw [ss_none (fun j hj => e2 s j q1 hj) q2] at q4; cases q4
      · exact q4
    · rintro ⟨q1, q2, q3⟩
      exact ⟨q1, q2, (f2 s t q1 q2).mpr (Or.inr q3)⟩
  have c2 := f1.1
  show px_P _ _ (10, [(0, .ref c), (1, .ref v), (2, .ref y)], []) S2 _
  refine px_P.sn 1 (f1 := (11, [(0, .ref c), (1, .ref v), (2, .ref y)], [.ref c])) (S1 := S2) rfl ?_
  refine px_P.cv rfl rfl rfl (by assumption) rfl ?_
  show px_M _ px_m_Circles_followOn [.ref c] S2 _
  refine pm_ciFollow (p := fun s => decide (0 < D s)) (by omega) f1 (fun s hs hp => e4 s hs (of_decide_eq_true hp)) (fun s t q => decide_eq_true (hpD s t ((hH2 s t).mp q))) (fun S3 H3 g1 g2 g3 g4 g5 => ?_)
  have c3 := g1.1
  show px_P _ _ (14, [(0, .ref c), (1, .ref v), (2, .ref y)], []) S3 _
  refine px_P.sn 1 (f1 := (15, [(0, .ref c), (1, .ref v), (2, .ref y)], [.ref c])) (S1 := S3) rfl ?_
  refine px_P.cv rfl rfl rfl (by assumption) rfl ?_
  show px_M _ px_m_Circles_group [.ref c] S3 _
  refine pm_ciGroup (p := fun s => decide (0 < D s)) (by omega) g1 (fun s hs hp => e4 s hs (of_decide_eq_true hp)) g3 (fun S4 l4 m1 m2 m3 m4 => ?_)
  show px_P _ _ (18, [(0, .ref c), (1, .ref v), (2, .ref y)], []) S4 _
  refine px_P.ret rfl ?_
  exact k S4 H3 l4 d1 _ _ _ m1 (g2.congr hH2) ⟨g3, m2, rfl, rfl⟩ (fun q hq => by rw [m3 q hq, g4 q hq, f3 q hq, e5 q hq]) (by rw [m4, g5, f4, e6])
theorem pm_ciLeastOf {d c s ds cc sc : Nat} {H : Nat → Nat → Int64} {ls df : Nat → Int32} {S : px_S} {Q : Option Value → px_S → Prop} (hd : 1 ≤ d) (hc : ci_at S c H ls df ds cc sc) (hs : s < 208) (k : Q (some (.int (ls s))) S) : px_M d px_m_Circles_leastOf [.ref c, .int (nI s)] S Q := by
  obtain ⟨a0, a1, a3, a4, a5⟩ := hc
  refine px_M.go (by omega) (Nat.le_of_ble_eq_true rfl) ?_
  refine px_P.sn 1 (f1 := (1, [(0, .ref c), (1, .int (nI s))], [.int (nI s)])) (S1 := S) rfl ?_
  refine px_P.if_lt rfl rfl (fun h => absurd h (nI_pos (by omega))) (fun _ => ?_)
  refine px_P.sn 2 (f1 := (8, [(0, .ref c), (1, .int (nI s))], [.int 208, .int (nI s)])) (S1 := S) rfl ?_
  refine px_P.ic_ge rfl rfl (fun h => absurd h (nI_ge (b := 208) hs (by decide))) (fun _ => ?_)
  refine px_P.sn 1 (f1 := (12, [(0, .ref c), (1, .int (nI s))], [.ref c])) (S1 := S) rfl ?_
  refine px_P.gf rfl rfl (by assumption) (v := .ref (c + 2)) rfl ?_
  refine px_P.sn 1 (f1 := (16, [(0, .ref c), (1, .int (nI s))], [.int (nI s), .ref (c + 2)])) (S1 := S) rfl ?_
  refine px_P.ialdj (j := s) rfl (by assumption) rfl (by omega) (by decide) ?_
  refine px_P.sn 1 (f1 := (21, [(0, .ref c), (1, .int (nI s))], [.int (ls s)])) (S1 := S) rfl ?_
  refine px_P.ret rfl ?_
  exact k
theorem pm_ciCircles {d c ds cc sc : Nat} {H : Nat → Nat → Int64} {ls df : Nat → Int32} {S : px_S} {Q : Option Value → px_S → Prop} (hd : 1 ≤ d) (hc : ci_at S c H ls df ds cc sc) (k : Q (some (.int (nI cc))) S) : px_M d px_m_Circles_circleCount [.ref c] S Q := by
  obtain ⟨a0, a1, a3, a4, a5⟩ := hc
  refine px_M.go (by omega) (Nat.le_of_ble_eq_true rfl) ?_
  refine px_P.sn 1 (f1 := (1, [(0, .ref c)], [.ref c])) (S1 := S) rfl ?_
  refine px_P.gf rfl rfl (by assumption) (v := .int (nI cc)) rfl ?_
  refine px_P.ret rfl ?_
  exact k
theorem pm_ciSelf {d c ds cc sc : Nat} {H : Nat → Nat → Int64} {ls df : Nat → Int32} {S : px_S} {Q : Option Value → px_S → Prop} (hd : 1 ≤ d) (hc : ci_at S c H ls df ds cc sc) (k : Q (some (.int (nI sc))) S) : px_M d px_m_Circles_selfCount [.ref c] S Q := by
  obtain ⟨a0, a1, a3, a4, a5⟩ := hc
  refine px_M.go (by omega) (Nat.le_of_ble_eq_true rfl) ?_
  refine px_P.sn 1 (f1 := (1, [(0, .ref c)], [.ref c])) (S1 := S) rfl ?_
  refine px_P.gf rfl rfl (by assumption) (v := .int (nI sc)) rfl ?_
  refine px_P.ret rfl ?_
  exact k
theorem pm_ciInit {d c : Nat} {S : px_S} {Q : Option Value → px_S → Prop} (hd : 2 ≤ d) (hc : S.1 c = some (.inr (0, [.null, .null, .null, .int 0, .int 0, .int 0]))) (hS : S.2.1 = c + 1)
    (k : ∀ S', ci_at S' c (fun _ _ => 0) (fun _ => 0) (fun _ => 0) 0 0 0 → (∀ q, q < c → S'.1 q = S.1 q) → S'.2 = (c + 420, S.2.2 + 1664) → Q none S') : px_M d px_m_Circles_init [.ref c] S Q := by
  have lp := px_for (d := d - 1) (mi := px_m_Circles_init) (Q := Q) (X := Nat → Option Nat) 208 (fun i _ => (49, [(0, .ref c), (1, .int (nI i))], []))
    (fun i hf S1 => S1.1 c = some (.inr (0, [.ref (c + 1), .ref (c + 2), .ref (c + 3), .int 0, .int 0, .int 0])) ∧ S1.1 (c + 1) = some (.inl (5, 208, .inr (.inr (.inr (.inr hf))))) ∧ (∀ j, j < i → hf j = some (c + 4 + 2 * j)) ∧ S1.1 (c + 2) = some (.inl (0, 208, .inl (fun _ => 0))) ∧ S1.1 (c + 3) = some (.inl (0, 208, .inl (fun _ => 0))) ∧ (∀ j, j < i → S1.1 (c + 4 + 2 * j) = some (.inr (6, [.ref (c + 5 + 2 * j)])) ∧ S1.1 (c + 5 + 2 * j) = some (.inl (1, 4, .inr (.inl (fun _ => 0))))) ∧ (∀ q, q < c → S1.1 q = S.1 q) ∧ S1.2 = (c + 4 + 2 * i, S.2.2 + 624 + 5 * i))
    (by
      intro i hi hf S1 ⟨h1, h2, h3, h4, h5, h6, h7, h8⟩ ih
      have z1 : S1.2.1 = c + 4 + 2 * i := by rw [h8]
      refine px_P.sn 2 (f1 := (53, [(0, .ref c), (1, .int (nI i))], [.int 208, .int (nI i)])) (S1 := S1) rfl ?_
      refine px_P.ic_ge rfl rfl (fun h => absurd h (nI_ge (b := 208) (by omega) (by decide))) (fun _ => ?_)
      refine px_P.sn 1 (f1 := (57, [(0, .ref c), (1, .int (nI i))], [.ref c])) (S1 := S1) rfl ?_
      refine px_P.gf rfl rfl (by assumption) (v := .ref (c + 1)) rfl ?_
      refine px_P.sn 1 (f1 := (61, [(0, .ref c), (1, .int (nI i))], [.int (nI i), .ref (c + 1)])) (S1 := S1) rfl ?_
      refine px_P.nw rfl rfl (fun S2 u2 => ?_)
      have z2 : S2.2 = (c + 5 + 2 * i, S.2.2 + 624 + 5 * i + 1) := by rw [u2.t, h8]; exact Prod.ext (by show c + 4 + 2 * i + 1 = _; omega) rfl
      have s2 := u2.s
      rw [z1] at s2
      rw [z1]
      show px_P _ _ (64, [(0, .ref c), (1, .int (nI i))], [.ref (c + 4 + 2 * i), .int (nI i), .ref (c + 1)]) S2 _
      refine px_P.sn 1 (f1 := (65, [(0, .ref c), (1, .int (nI i))], [.ref (c + 4 + 2 * i), .ref (c + 4 + 2 * i), .int (nI i), .ref (c + 1)])) (S1 := S2) rfl ?_
      refine px_P.call rfl ?_
      show px_M _ px_m_SymbolSet_init [.ref (c + 4 + 2 * i)] S2 _
      refine pm_ssInit (by omega) s2 (by rw [z2]; show c + 4 + 2 * i < c + 5 + 2 * i; omega) (fun S3 e1 e2 e3 e4 => ?_)
      rw [z2] at e1 e2 e4
      have z3 : S2.2.1 = c + 5 + 2 * i := by rw [z2]
      rw [z3] at e3
      have fr : ∀ q, q ≠ c + 4 + 2 * i → q ≠ c + 5 + 2 * i → S3.1 q = S1.1 q := fun q a b => by rw [e3 q a b, u2.o (by rw [z1]; exact a)]
      have h23 : S3.1 (c + 1) = _ := (fr _ (by omega) (by omega)).trans h2
      show px_P _ _ (68, [(0, .ref c), (1, .int (nI i))], [.ref (c + 4 + 2 * i), .int (nI i), .ref (c + 1)]) S3 _
      refine px_P.aastj (j := i) rfl (by assumption) (by assumption) rfl rfl rfl (by omega) (by decide) (fun S4 u4 => ?_)
      refine px_P.sn 2 (f1 := (49, [(0, .ref c), (1, .int ((nI i) + 1))], [])) (S1 := S4) rfl ?_
      rw [nI_1]
      refine ih _ S4 ⟨u4.n ((fr _ (by omega) (by omega)).trans h1) (by omega), u4.s, fun j hj => ?_, u4.n ((fr _ (by omega) (by omega)).trans h4) (by omega), u4.n ((fr _ (by omega) (by omega)).trans h5) (by omega), fun j hj => ?_, fun q hq => by rw [u4.o (by omega), fr q (by omega) (by omega)]; exact h7 q hq, ?_⟩
      · by_cases e : j = i
        · subst e; simp only [va_up, if_true]
        · simp only [va_up, if_neg e]; exact h3 j (by omega)
      · by_cases e : j = i
        · subst e; exact ⟨u4.n e1 (by omega), u4.n e2 (by omega)⟩
        · exact ⟨u4.n ((fr _ (by omega) (by omega)).trans (h6 j (by omega)).1) (by omega), u4.n ((fr _ (by omega) (by omega)).trans (h6 j (by omega)).2) (by omega)⟩
      · rw [u4.t, e4]
        exact Prod.ext (by show c + 5 + 2 * i + 1 = _; omega) (by show S.2.2 + 624 + 5 * i + 1 + 4 = _; omega))
    (by
      intro hf S1 ⟨h1, h2, h3, h4, h5, h6, h7, h8⟩
      refine px_P.sn 2 (f1 := (53, [(0, .ref c), (1, .int (nI 208))], [.int 208, .int (nI 208)])) (S1 := S1) rfl ?_
      refine px_P.ic_ge rfl rfl (fun _ => ?_) (fun h => absurd (nI_le (a := 208) (by omega) (by omega)) h)
      refine px_P.ret rfl ?_
      refine k S1 ⟨h1, ⟨hf, h2, h3⟩, h4, h5, h6⟩ h7 (by rw [h8]))
  refine px_M.go (by omega) (Nat.le_of_ble_eq_true rfl) ?_
  refine px_P.sn 4 (f1 := (8, [(0, .ref c)], [.int 208, .ref c])) (S1 := S) rfl ?_
  refine px_P.newA rfl rfl (by decide) (fun S1 u1 => ?_)
  have t1 : S1.2 = (c + 2, S.2.2 + 208) := by rw [u1.t, hS]; rfl
  have s1 := u1.s
  rw [hS] at s1
  rw [hS]
  show px_P _ _ (11, [(0, .ref c)], [.ref (c + 1), .ref c]) S1 _
  have c1 := u1.n hc (by omega)
  refine px_P.pf rfl rfl (by assumption) rfl (fun S2 u2 => ?_)
  have c2 := u2.s
  have t2 : S2.2 = (c + 2, S.2.2 + 208) := by rw [u2.t, t1]
  refine px_P.sn 2 (f1 := (18, [(0, .ref c)], [.int 208, .ref c])) (S1 := S2) rfl ?_
  refine px_P.newI rfl (by decide) (fun S3 u3 => ?_)
  have z2 : S2.2.1 = c + 2 := by rw [t2]
  have s3 := u3.s
  rw [z2] at s3
  have t3 : S3.2 = (c + 3, S.2.2 + 416) := by rw [u3.t, t2]; rfl
  rw [z2]
  show px_P _ _ (20, [(0, .ref c)], [.ref (c + 2), .ref c]) S3 _
  have c3 := u3.n c2 (by omega)
  refine px_P.pf rfl rfl (by assumption) rfl (fun S4 u4 => ?_)
  have c4 := u4.s
  have t4 : S4.2 = (c + 3, S.2.2 + 416) := by rw [u4.t, t3]
  refine px_P.sn 2 (f1 := (27, [(0, .ref c)], [.int 208, .ref c])) (S1 := S4) rfl ?_
  refine px_P.newI rfl (by decide) (fun S5 u5 => ?_)
  have z4 : S4.2.1 = c + 3 := by rw [t4]
  have s5 := u5.s
  rw [z4] at s5
  have t5 : S5.2 = (c + 4, S.2.2 + 624) := by rw [u5.t, t4]; rfl
  rw [z4]
  show px_P _ _ (29, [(0, .ref c)], [.ref (c + 3), .ref c]) S5 _
  have c5 := u5.n c4 (by omega)
  refine px_P.pf rfl rfl (by assumption) rfl (fun S6 u6 => ?_)
  have c6 := u6.s
  refine px_P.sn 2 (f1 := (34, [(0, .ref c)], [.int 0, .ref c])) (S1 := S6) rfl ?_
  refine px_P.pf rfl rfl (by assumption) rfl (fun S7 u7 => ?_)
  have c7 := u7.s
  refine px_P.sn 2 (f1 := (39, [(0, .ref c)], [.int 0, .ref c])) (S1 := S7) rfl ?_
  refine px_P.pf rfl rfl (by assumption) rfl (fun S8 u8 => ?_)
  have c8 := u8.s
  refine px_P.sn 2 (f1 := (44, [(0, .ref c)], [.int 0, .ref c])) (S1 := S8) rfl ?_
  refine px_P.pf rfl rfl (by assumption) rfl (fun S9 u9 => ?_)
  refine px_P.sn 2 (f1 := (49, [(0, .ref c), (1, .int 0)], [])) (S1 := S9) rfl ?_
  refine lp 208 0 rfl (fun _ => none) S9 ⟨u9.s, ?_, fun j hj => absurd hj (by omega), ?_, ?_, fun j hj => absurd hj (by omega), fun q hq => ?_, by rw [u9.t, u8.t, u7.t, u6.t, t5]⟩
  · rw [u9.o (by omega), u8.o (by omega), u7.o (by omega), u6.o (by omega), u5.o (by omega), u4.o (by omega), u3.o (by omega), u2.o (by omega)]; exact s1
  · rw [u9.o (by omega), u8.o (by omega), u7.o (by omega), u6.o (by omega), u5.o (by omega), u4.o (by omega)]; exact s3
  · rw [u9.o (by omega), u8.o (by omega), u7.o (by omega), u6.o (by omega)]; exact s5
  · rw [u9.o (by omega), u8.o (by omega), u7.o (by omega), u6.o (by omega), u5.o (by omega), u4.o (by omega), u3.o (by omega), u2.o (by omega), u1.o (by omega)]
