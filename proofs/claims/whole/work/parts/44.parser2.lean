/-! ===== Parser: names, atoms ===== -/
theorem sy_i32 {o k : Nat} (ho : o < 8) (h1 : 65 ≤ k) (h2 : k ≤ 90) : nI o * 26 + nI k - 65 = nI (26 * o + (k - 65)) := by
  obtain ⟨j, hj⟩ : ∃ j, k = j + 65 := ⟨k - 65, by omega⟩
  subst hj
  rw [show j + 65 - 65 = j by omega, show nI (j + 65) = nI j + 65 from (nI_add j 65).symm, ← nI_add]
  have e : nI o * 26 = nI (26 * o) := by
    rcases (show o = 0 ∨ o = 1 ∨ o = 2 ∨ o = 3 ∨ o = 4 ∨ o = 5 ∨ o = 6 ∨ o = 7 by omega) with rfl | rfl | rfl | rfl | rfl | rfl | rfl | rfl <;> rfl
  rw [e, ← Int32.add_assoc, Int32.add_sub_cancel]
theorem pm_paName {d p t N m o pl : Nat} {f V : Nat → Int32} {tx : Nat → Nat} {df dc eq : Int32} {y : ps} {S : px_S} {Q : Option Value → px_S → Prop} (hd : 2 ≤ d) (ht : tok f tx N) (hN : ps_a y ≤ N) (hn : ps_n y ≤ ps_a y) (ho : o < 8) (h : pa S p t N m f df dc eq V y)
    (k : ∀ S', pa S' p t N m f df dc eq V (pz_name tx N o pl y).2 → (∀ q, (q < p ∨ p + 9 ≤ q) → S'.1 q = S.1 q) → S'.2 = S.2 → Q (some (.int (rv (pz_name tx N o pl y).1))) S') : px_M d px_m_Parser_readName [.ref p, .int (nI o), .int (nI pl)] S Q := by
  have tN := ht.2.2
  have c0 := h.1
  have hb := nx_le (tx := tx) (a := ps_a y) hN
  refine px_M.go (by omega) (Nat.le_of_ble_eq_true rfl) ?_
  refine px_P.sn 1 (f1 := (1, [(0, .ref p), (1, .int (nI o)), (2, .int (nI pl))], [.ref p])) (S1 := S) rfl ?_
  refine px_P.cv rfl rfl rfl (by assumption) rfl ?_
  show px_M _ px_m_Parser_next [.ref p] S _
  refine pm_paNext (by omega) ht hN h (fun S1 e1 e2 e3 => ?_)
  show px_P _ _ (4, [(0, .ref p), (1, .int (nI o)), (2, .int (nI pl))], [.int (c32 (cn tx N (nx tx N (ps_a y))))]) S1 _
  refine px_P.sn 2 (f1 := (6, [(0, .ref p), (1, .int (nI o)), (2, .int (nI pl)), (3, .int (c32 (cn tx N (nx tx N (ps_a y)))))], [.int (c32 (cn tx N (nx tx N (ps_a y))))])) (S1 := S1) rfl ?_
  refine px_P.call rfl ?_
  show px_M _ px_m_Parser_isName [.int (c32 (cn tx N (nx tx N (ps_a y))))] S1 _
  refine pm_paIsName (by omega) (ht.cn _) ?_
  cases hc : isN (cn tx N (nx tx N (ps_a y))) with
  | false =>
    have pe : pz_name tx N o pl y = (none, ps_at y (nx tx N (ps_a y))) := if_neg (by rw [hc]; decide)
    rw [pe] at k
    show px_P _ _ (9, [(0, .ref p), (1, .int (nI o)), (2, .int (nI pl)), (3, .int (c32 (cn tx N (nx tx N (ps_a y)))))], [.int 0]) S1 _
    refine px_P.if_ne rfl rfl (fun h => absurd (rfl) h) (fun _ => ?_)
    refine px_P.sn 1 (f1 := (13, [(0, .ref p), (1, .int (nI o)), (2, .int (nI pl)), (3, .int (c32 (cn tx N (nx tx N (ps_a y)))))], [.int (-1)])) (S1 := S1) rfl ?_
    refine px_P.ret rfl ?_
    exact k S1 e1 e2 e3
  | true =>
    have hc' : (decide (65 ≤ cn tx N (nx tx N (ps_a y))) && decide (cn tx N (nx tx N (ps_a y)) ≤ 90)) = true := hc
    rw [Bool.and_eq_true, decide_eq_true_iff, decide_eq_true_iff] at hc'
    obtain ⟨a, ha⟩ : ∃ a, a = nx tx N (ps_a y) := ⟨_, rfl⟩
    rw [← ha] at e1 hc hc' hb ⊢
    obtain ⟨c, hcc⟩ : ∃ c, c = cn tx N a := ⟨_, rfl⟩
    rw [← hcc] at hc hc' ⊢
    have hlt : a < N := cn_lt (tx := tx) (by rw [← hcc]; omega)
    have c1 : c32 c = nI c := if_neg (by omega)
    obtain ⟨sy, hsy⟩ : ∃ sy, sy = 26 * o + (c - 65) := ⟨_, rfl⟩
    have hs : sy < 208 := by omega
    have pe : pz_name tx N o pl y = (some (ps_n y), (a + 1, ps_n y + 1, va_up (ps_s y) (ps_n y) (1, sy, 0, pl), ss_put (ps_w y) sy)) := by
      unfold pz_name
      dsimp only
      rw [← ha, ← hcc, if_pos hc, ← hsy]
    rw [pe] at k
    have b0 : S1.1 p = some (.inr (5, [.ref t, .int (nI N), .int (nI m), .ref (p + 1), .int (nI a), .int df, .int dc, .int eq])) := e1.1
    show px_P _ _ (9, [(0, .ref p), (1, .int (nI o)), (2, .int (nI pl)), (3, .int (c32 c))], [.int 1]) S1 _
    refine px_P.if_ne rfl rfl (fun _ => ?_) (fun h => absurd h ((by decide)))
    refine px_P.sn 2 (f1 := (16, [(0, .ref p), (1, .int (nI o)), (2, .int (nI pl)), (3, .int (c32 c))], [.ref p, .ref p])) (S1 := S1) rfl ?_
    refine px_P.gf rfl rfl (by assumption) (v := .int (nI a)) rfl ?_
    refine px_P.sn 2 (f1 := (21, [(0, .ref p), (1, .int (nI o)), (2, .int (nI pl)), (3, .int (c32 c))], [.int ((nI a) + 1), .ref p])) (S1 := S1) rfl ?_
    refine px_P.pf rfl rfl (by assumption) rfl (fun S2 u2 => ?_)
    have u2' : px_Up S1 S2 p (.inr (5, [.ref t, .int (nI N), .int (nI m), .ref (p + 1), .int (nI (a + 1)), .int df, .int dc, .int eq])) := by rw [← nI_1]; exact u2
    have m2 : pa S2 p t N m f df dc eq V (ps_at y (a + 1)) := e1.cell u2'
    obtain ⟨d0, d1, d2, K, F, C, P, d3, d4⟩ := m2
    have d0' : S2.1 p = some (.inr (5, [.ref t, .int (nI N), .int (nI m), .ref (p + 1), .int (nI (a + 1)), .int df, .int dc, .int eq])) := d0
    have d3' : xe_at S2 (p + 1) N (ps_n y) (ps_w y) K F C P V := d3
    have d3'' := d3'
    obtain ⟨q0, q1, q2, q3, q4, q5, q6, q7⟩ := d3'
    have es : nI o * 26 + c32 c - 65 = nI sy := by rw [c1, hsy]; exact sy_i32 ho hc'.1 hc'.2
    refine px_P.sn 8 (f1 := (35, [(0, .ref p), (1, .int (nI o)), (2, .int (nI pl)), (3, .int (c32 c)), (4, .int ((((nI o) * 26) + (c32 c)) - 65))], [])) (S1 := S2) rfl ?_
    rw [es]
    show px_P _ _ (35, [(0, .ref p), (1, .int (nI o)), (2, .int (nI pl)), (3, .int (c32 c)), (4, .int (nI sy))], []) S2 _
    refine px_P.sn 1 (f1 := (36, [(0, .ref p), (1, .int (nI o)), (2, .int (nI pl)), (3, .int (c32 c)), (4, .int (nI sy))], [.ref p])) (S1 := S2) rfl ?_
    refine px_P.gf rfl rfl (by assumption) (v := .ref (p + 1)) rfl ?_
    refine px_P.gf rfl rfl (by assumption) (v := .ref (p + 1 + 1)) rfl ?_
    refine px_P.sn 1 (f1 := (44, [(0, .ref p), (1, .int (nI o)), (2, .int (nI pl)), (3, .int (c32 c)), (4, .int (nI sy))], [.int (nI sy), .ref (p + 1 + 1)])) (S1 := S2) rfl ?_
    refine px_P.cv rfl rfl rfl (by assumption) rfl ?_
    show px_M _ px_m_SymbolSet_add [.ref (p + 1 + 1), .int (nI sy)] S2 _
    refine pm_ss_add (by omega) q1 q2 hs (fun S3 u3 => ?_)
    have d0'' : S3.1 p = _ := u3.n d0' (by omega)
    have x3 : xe_at S3 (p + 1) N (ps_n y) (ss_put (ps_w y) sy) K F C P V := ⟨u3.n q0 (by omega), u3.n q1 (by omega), u3.s, u3.n q3 (by omega), u3.n q4 (by omega), u3.n q5 (by omega), u3.n q6 (by omega), u3.n q7 (by omega)⟩
    have x30 := x3.1
    show px_P _ _ (47, [(0, .ref p), (1, .int (nI o)), (2, .int (nI pl)), (3, .int (c32 c)), (4, .int (nI sy))], []) S3 _
    refine px_P.sn 1 (f1 := (48, [(0, .ref p), (1, .int (nI o)), (2, .int (nI pl)), (3, .int (c32 c)), (4, .int (nI sy))], [.ref p])) (S1 := S3) rfl ?_
    refine px_P.gf rfl rfl (by assumption) (v := .ref (p + 1)) rfl ?_
    refine px_P.sn 4 (f1 := (56, [(0, .ref p), (1, .int (nI o)), (2, .int (nI pl)), (3, .int (c32 c)), (4, .int (nI sy))], [.int (nI pl), .int 0, .int (nI sy), .int 1, .ref (p + 1)])) (S1 := S3) rfl ?_
    refine px_P.cv rfl rfl rfl (by assumption) rfl ?_
    show px_M _ px_m_Expression_add [.ref (p + 1), .int 1, .int (nI sy), .int 0, .int (nI pl)] S3 _
    refine pm_exprAdd (n := ps_n y) (by omega) (by omega) (by omega) x3 (fun S4 g1 g2 g3 => ?_)
    show px_P _ _ (59, [(0, .ref p), (1, .int (nI o)), (2, .int (nI pl)), (3, .int (c32 c)), (4, .int (nI sy))], [.int (nI (ps_n y))]) S4 _
    refine px_P.ret rfl ?_
    exact k S4 (pa.add (y := y) (q := (1, sy, 0, pl)) d0'' (u3.n d1 (by omega)) d2 d4 ⟨by show 1 < 8; omega, fun q => absurd q (by simp), fun _ => hs, fun q => absurd q (by simp), fun q => absurd q (by simp), fun q => absurd q (by simp)⟩ g1 g2) (fun q hq => by rw [g2 q (by omega), u3.o (by omega), u2.o (by omega)]; exact e2 q hq) (by rw [g3, u3.t, u2.t, e3])
theorem pc_readAtom {d p t N m dep : Nat} {f V : Nat → Int32} {tx : Nat → Nat} {df dc eq : Int32} {I : Option (ps → pr)} (hd : 3 ≤ d) (ht : tok f tx N) (hm : m < 8) (hdep : dep ≤ 12) (hI : ∀ J, I = some J → dep < 12 ∧ pg N J ∧ pc (d - 1) p t N m f V df dc eq px_m_Parser_readSum (dep + 1) J) (hI0 : I = none → dep = 12) : pc d p t N m f V df dc eq px_m_Parser_readAtom dep (pz_atom tx N m I) := by
  intro S Q y hpa hyN hyn k
  have tN := ht.2.2
  have c0 := hpa.1
  have hb := nx_le (tx := tx) (a := ps_a y) hyN
  obtain ⟨a, ha⟩ : ∃ a, a = nx tx N (ps_a y) := ⟨_, rfl⟩
  obtain ⟨c, hcc⟩ : ∃ c, c = cn tx N a := ⟨_, rfl⟩
  have c255 : c ≤ 255 := by rw [hcc]; exact ht.cn a
  refine px_M.go (by omega) (Nat.le_of_ble_eq_true rfl) ?_
  refine px_P.sn 1 (f1 := (1, [(0, .ref p), (1, .int (nI dep))], [.ref p])) (S1 := S) rfl ?_
  refine px_P.cv rfl rfl rfl (by assumption) rfl ?_
  show px_M _ px_m_Parser_next [.ref p] S _
  refine pm_paNext (by omega) ht hyN hpa (fun S1 e1 e2 e3 => ?_)
  rw [← ha] at e1 hb ⊢
  rw [← hcc]
  have b0 : S1.1 p = some (.inr (5, [.ref t, .int (nI N), .int (nI m), .ref (p + 1), .int (nI a), .int df, .int dc, .int eq])) := e1.1
  show px_P _ _ (4, [(0, .ref p), (1, .int (nI dep))], [.int (c32 c)]) S1 _
  refine px_P.sn 2 (f1 := (6, [(0, .ref p), (1, .int (nI dep)), (2, .int (c32 c))], [.ref p])) (S1 := S1) rfl ?_
  refine px_P.gf rfl rfl (by assumption) (v := .int (nI a)) rfl ?_
  refine px_P.sn 2 (f1 := (11, [(0, .ref p), (1, .int (nI dep)), (2, .int (c32 c)), (3, .int (nI a))], [.int (c32 c)])) (S1 := S1) rfl ?_
  refine px_P.call rfl ?_
  show px_M _ px_m_Forms_letterOf [.int (c32 c)] S1 _
  refine pm_letterOf (by omega) ?_
  rw [lt_c32 c (by omega)]
  cases hl : lt c with
  | some l =>
    have hlt : a < N := cn_lt (tx := tx) (by rw [← hcc]; exact lt_nz hl)
    have l5 := lt_5 hl
    have pe : pz_atom tx N m I y = (some (ps_n y), ps_add y (a + 1) (0, l, 0, a)) := by
      unfold pz_atom
      dsimp only
      rw [← ha, ← hcc, hl]
    rw [pe] at k
    show px_P _ _ (14, [(0, .ref p), (1, .int (nI dep)), (2, .int (c32 c)), (3, .int (nI a))], [.int (nI l)]) S1 _
    refine px_P.sn 3 (f1 := (19, [(0, .ref p), (1, .int (nI dep)), (2, .int (c32 c)), (3, .int (nI a)), (4, .int (nI l))], [.int (-1), .int (nI l)])) (S1 := S1) rfl ?_
    refine px_P.ic_eq rfl rfl (fun h => absurd h (nI_neg (by omega))) (fun _ => ?_)
    refine px_P.sn 2 (f1 := (24, [(0, .ref p), (1, .int (nI dep)), (2, .int (c32 c)), (3, .int (nI a)), (4, .int (nI l))], [.ref p, .ref p])) (S1 := S1) rfl ?_
    refine px_P.gf rfl rfl (by assumption) (v := .int (nI a)) rfl ?_
    refine px_P.sn 2 (f1 := (29, [(0, .ref p), (1, .int (nI dep)), (2, .int (c32 c)), (3, .int (nI a)), (4, .int (nI l))], [.int ((nI a) + 1), .ref p])) (S1 := S1) rfl ?_
    refine px_P.pf rfl rfl (by assumption) rfl (fun S2 u2 => ?_)
    have u2' : px_Up S1 S2 p (.inr (5, [.ref t, .int (nI N), .int (nI m), .ref (p + 1), .int (nI (a + 1)), .int df, .int dc, .int eq])) := by rw [← nI_1]; exact u2
    have m2 : pa S2 p t N m f df dc eq V (ps_at y (a + 1)) := e1.cell u2'
    obtain ⟨d0, d1, d2, K, F, C, P, d3, d4⟩ := m2
    have d0' : S2.1 p = some (.inr (5, [.ref t, .int (nI N), .int (nI m), .ref (p + 1), .int (nI (a + 1)), .int df, .int dc, .int eq])) := d0
    have d3e := d3.1
    refine px_P.sn 1 (f1 := (33, [(0, .ref p), (1, .int (nI dep)), (2, .int (c32 c)), (3, .int (nI a)), (4, .int (nI l))], [.ref p])) (S1 := S2) rfl ?_
    refine px_P.gf rfl rfl (by assumption) (v := .ref (p + 1)) rfl ?_
    refine px_P.sn 4 (f1 := (41, [(0, .ref p), (1, .int (nI dep)), (2, .int (c32 c)), (3, .int (nI a)), (4, .int (nI l))], [.int (nI a), .int 0, .int (nI l), .int 0, .ref (p + 1)])) (S1 := S2) rfl ?_
    refine px_P.cv rfl rfl rfl (by assumption) rfl ?_
    show px_M _ px_m_Expression_add [.ref (p + 1), .int 0, .int (nI l), .int 0, .int (nI a)] S2 _
    refine pm_exprAdd (n := ps_n y) (by omega) (by omega) (by omega) d3 (fun S4 g1 g2 g3 => ?_)
    show px_P _ _ (44, [(0, .ref p), (1, .int (nI dep)), (2, .int (c32 c)), (3, .int (nI a)), (4, .int (nI l))], [.int (nI (ps_n y))]) S4 _
    refine px_P.ret rfl ?_
    exact k S4 (pa.add (y := y) (q := (0, l, 0, a)) d0' d1 d2 d4 ⟨by show 0 < 8; omega, fun _ => l5, fun q => absurd q (by simp), fun q => absurd q (by simp), fun q => absurd q (by simp), fun q => absurd q (by simp)⟩ g1 g2) (fun q hq => by rw [g2 q (by omega), u2.o (by omega)]; exact e2 q hq) (by rw [g3, u2.t, e3])
  | none =>
    show px_P _ _ (14, [(0, .ref p), (1, .int (nI dep)), (2, .int (c32 c)), (3, .int (nI a))], [.int (-1)]) S1 _
    refine px_P.sn 3 (f1 := (19, [(0, .ref p), (1, .int (nI dep)), (2, .int (c32 c)), (3, .int (nI a)), (4, .int (-1))], [.int (-1), .int (-1)])) (S1 := S1) rfl ?_
    refine px_P.ic_eq rfl rfl (fun _ => ?_) (fun h => absurd (rfl) h)
    refine px_P.sn 1 (f1 := (46, [(0, .ref p), (1, .int (nI dep)), (2, .int (c32 c)), (3, .int (nI a)), (4, .int (-1))], [.int (c32 c)])) (S1 := S1) rfl ?_
    refine px_P.call rfl ?_
    show px_M _ px_m_Parser_isName [.int (c32 c)] S1 _
    refine pm_paIsName (by omega) c255 ?_
    cases hN2 : isN c with
    | true =>
      have pe : pz_atom tx N m I y = pz_name tx N m a (ps_at y a) := by
        unfold pz_atom
        dsimp only
        rw [← ha, ← hcc, hl]
        dsimp only
        rw [if_pos hN2]
      rw [pe] at k
      show px_P _ _ (49, [(0, .ref p), (1, .int (nI dep)), (2, .int (c32 c)), (3, .int (nI a)), (4, .int (-1))], [.int 1]) S1 _
      refine px_P.if_eq rfl rfl (fun h => absurd h ((by decide))) (fun _ => ?_)
      refine px_P.sn 2 (f1 := (54, [(0, .ref p), (1, .int (nI dep)), (2, .int (c32 c)), (3, .int (nI a)), (4, .int (-1))], [.ref p, .ref p])) (S1 := S1) rfl ?_
      refine px_P.gf rfl rfl (by assumption) (v := .int (nI m)) rfl ?_
      refine px_P.sn 1 (f1 := (58, [(0, .ref p), (1, .int (nI dep)), (2, .int (c32 c)), (3, .int (nI a)), (4, .int (-1))], [.int (nI a), .int (nI m), .ref p])) (S1 := S1) rfl ?_
      refine px_P.cv rfl rfl rfl (by assumption) rfl ?_
      show px_M _ px_m_Parser_readName [.ref p, .int (nI m), .int (nI a)] S1 _
      refine pm_paName (by omega) ht (y := ps_at y a) hb.2 (by show ps_n y ≤ a; omega) hm e1 (fun S2 f1 f2 f3 => ?_)
      generalize pz_name tx N m a (ps_at y a) = x at k f1 ⊢
      obtain ⟨r, w⟩ := x
      show px_P _ _ (61, [(0, .ref p), (1, .int (nI dep)), (2, .int (c32 c)), (3, .int (nI a)), (4, .int (-1))], [.int (rv r)]) S2 _
      refine px_P.ret rfl ?_
      exact k S2 f1 (fun q hq => by rw [f2 q hq]; exact e2 q hq) (by rw [f3, e3])
    | false =>
      show px_P _ _ (49, [(0, .ref p), (1, .int (nI dep)), (2, .int (c32 c)), (3, .int (nI a)), (4, .int (-1))], [.int 0]) S1 _
      refine px_P.if_eq rfl rfl (fun _ => ?_) (fun h => absurd (rfl) h)
      refine px_P.sn 2 (f1 := (65, [(0, .ref p), (1, .int (nI dep)), (2, .int (c32 c)), (3, .int (nI a)), (4, .int (-1))], [.int 48, .int (c32 c)])) (S1 := S1) rfl ?_
      have hdg := dg_c32 c (by omega)
      have noDigit : ¬ (48 ≤ c ∧ c < 56) → px_P (d - 1) px_m_Parser_readAtom (107, [(0, .ref p), (1, .int (nI dep)), (2, .int (c32 c)), (3, .int (nI a)), (4, .int (-1))], []) S1 Q := by
        intro hnd
        have pe0 : pz_atom tx N m I y = (if c = 91 ∨ c = 40 then (match I with
            | none => (none, ps_at y a)
            | some J => (match J (ps_at y (a + 1)) with
              | (none, z) => (none, z)
              | (some r, z) => if cn tx N (nx tx N (ps_a z)) = (if c = 91 then 93 else 41) then (if c = 91 then (some (ps_n z), ps_add z (nx tx N (ps_a z) + 1) (2, r, 0, a)) else (some r, ps_at z (nx tx N (ps_a z) + 1))) else (none, ps_at z (nx tx N (ps_a z)))))
          else (none, ps_at y a)) := by
          unfold pz_atom
          dsimp only
          rw [← ha, ← hcc, hl]
          dsimp only
          rw [if_neg (by rw [hN2]; decide), if_neg hnd]
          rfl
        -- a bracket: b tells whether it is a list's
        have brk : ∀ b : Bool, (c = if b then 91 else 40) → px_P (d - 1) px_m_Parser_readAtom (131, [(0, .ref p), (1, .int (nI dep)), (2, .int (c32 c)), (3, .int (nI a)), (4, .int (-1)), (5, .int (bif b then 1 else 0))], []) S1 Q := by
          intro b hcb
          have hc2 : c = 91 ∨ c = 40 := by cases b <;> simp at hcb <;> omega
          have hlt : a < N := cn_lt (tx := tx) (by rw [← hcc]; omega)
          rw [if_pos hc2] at pe0
          refine px_P.sn 2 (f1 := (134, [(0, .ref p), (1, .int (nI dep)), (2, .int (c32 c)), (3, .int (nI a)), (4, .int (-1)), (5, .int (bif b then 1 else 0))], [.int 12, .int (nI dep)])) (S1 := S1) rfl ?_
          cases hII : I with
          | none =>
            have hdp := hI0 hII
            rw [hII] at pe0
            dsimp only at pe0
            rw [hII, pe0] at k
            refine px_P.ic_lt rfl rfl (fun h => absurd h (nI_nlt (b := 12) (by omega) (by omega))) (fun _ => ?_)
            refine px_P.sn 1 (f1 := (138, [(0, .ref p), (1, .int (nI dep)), (2, .int (c32 c)), (3, .int (nI a)), (4, .int (-1)), (5, .int (bif b then 1 else 0))], [.int (-1)])) (S1 := S1) rfl ?_
            refine px_P.ret rfl ?_
            exact k S1 e1 e2 e3
          | some J =>
            obtain ⟨hd12, hJg, hJ⟩ := hI J hII
            rw [hII] at pe0
            dsimp only at pe0
            rw [hII] at k
            refine px_P.ic_lt rfl rfl (fun _ => ?_) (fun h => absurd (nI_lt (b := 12) hd12 (by decide)) h)
            refine px_P.sn 2 (f1 := (141, [(0, .ref p), (1, .int (nI dep)), (2, .int (c32 c)), (3, .int (nI a)), (4, .int (-1)), (5, .int (bif b then 1 else 0))], [.ref p, .ref p])) (S1 := S1) rfl ?_
            refine px_P.gf rfl rfl (by assumption) (v := .int (nI a)) rfl ?_
            refine px_P.sn 2 (f1 := (146, [(0, .ref p), (1, .int (nI dep)), (2, .int (c32 c)), (3, .int (nI a)), (4, .int (-1)), (5, .int (bif b then 1 else 0))], [.int ((nI a) + 1), .ref p])) (S1 := S1) rfl ?_
            refine px_P.pf rfl rfl (by assumption) rfl (fun S2 u2 => ?_)
            have u2' : px_Up S1 S2 p (.inr (5, [.ref t, .int (nI N), .int (nI m), .ref (p + 1), .int (nI (a + 1)), .int df, .int dc, .int eq])) := by rw [← nI_1]; exact u2
            have m2 : pa S2 p t N m f df dc eq V (ps_at y (a + 1)) := e1.cell u2'
            have d0 := m2.1
            have fr2 : ∀ q, (q < p ∨ p + 9 ≤ q) → S2.1 q = S.1 q := fun q hq => by rw [u2.o (by omega)]; exact e2 q hq
            have t2 : S2.2 = S.2 := by rw [u2.t, e3]
            refine px_P.sn 4 (f1 := (153, [(0, .ref p), (1, .int (nI dep)), (2, .int (c32 c)), (3, .int (nI a)), (4, .int (-1)), (5, .int (bif b then 1 else 0))], [.int ((nI dep) + 1), .ref p])) (S1 := S2) rfl ?_
            rw [nI_1]
            refine px_P.cv rfl rfl rfl (by assumption) rfl ?_
            show px_M _ px_m_Parser_readSum [.ref p, .int (nI (dep + 1))] S2 _
            have hpq := hJg (ps_at y (a + 1)) (by show a + 1 ≤ N; omega)
            refine hJ S2 _ (ps_at y (a + 1)) m2 (by show a + 1 ≤ N; omega) (by show ps_n y ≤ a + 1; omega) (fun S3 m3 f3 t3 => ?_)
            generalize J (ps_at y (a + 1)) = x at hpq m3 pe0 ⊢
            obtain ⟨r, w⟩ := x
            have fr3 : ∀ q, (q < p ∨ p + 9 ≤ q) → S3.1 q = S.1 q := fun q hq => by rw [f3 q hq]; exact fr2 q hq
            have t3' : S3.2 = S.2 := by rw [t3, t2]
            cases r with
            | none =>
              dsimp only at pe0 m3
              rw [pe0] at k
              show px_P _ _ (156, [(0, .ref p), (1, .int (nI dep)), (2, .int (c32 c)), (3, .int (nI a)), (4, .int (-1)), (5, .int (bif b then 1 else 0))], [.int (-1)]) S3 _
              refine px_P.sn 3 (f1 := (161, [(0, .ref p), (1, .int (nI dep)), (2, .int (c32 c)), (3, .int (nI a)), (4, .int (-1)), (5, .int (bif b then 1 else 0)), (6, .int (-1))], [.int (-1), .int (-1)])) (S1 := S3) rfl ?_
              refine px_P.ic_eq rfl rfl (fun _ => ?_) (fun h => absurd (rfl) h)
              refine px_P.sn 1 (f1 := (184, [(0, .ref p), (1, .int (nI dep)), (2, .int (c32 c)), (3, .int (nI a)), (4, .int (-1)), (5, .int (bif b then 1 else 0)), (6, .int (-1))], [.int (-1)])) (S1 := S3) rfl ?_
              refine px_P.ret rfl ?_
              exact k S3 m3 fr3 t3'
            | some r =>
              dsimp only at pe0 m3
              have w1 : r + 1 = ps_n w := (hpq.2.2.2.2.2.2.2.2 r rfl).1
              have w2 : ps_a w ≤ N := hpq.2.1
              have w3 : ps_n y ≤ ps_n w := hpq.2.2.1
              have w4 : ps_n w + (a + 1) ≤ ps_a w + ps_n y := hpq.2.2.2.1
              have hn3 := nx_le (tx := tx) (a := ps_a w) w2
              have cw := m3.1
              show px_P _ _ (156, [(0, .ref p), (1, .int (nI dep)), (2, .int (c32 c)), (3, .int (nI a)), (4, .int (-1)), (5, .int (bif b then 1 else 0))], [.int (nI r)]) S3 _
              refine px_P.sn 3 (f1 := (161, [(0, .ref p), (1, .int (nI dep)), (2, .int (c32 c)), (3, .int (nI a)), (4, .int (-1)), (5, .int (bif b then 1 else 0)), (6, .int (nI r))], [.int (-1), .int (nI r)])) (S1 := S3) rfl ?_
              refine px_P.ic_eq rfl rfl (fun h => absurd h (nI_neg (by omega))) (fun _ => ?_)
              refine px_P.sn 2 (f1 := (167, [(0, .ref p), (1, .int (nI dep)), (2, .int (c32 c)), (3, .int (nI a)), (4, .int (-1)), (5, .int (bif b then 1 else 0)), (6, .int (nI r))], [.int (bif b then 1 else 0), .ref p])) (S1 := S3) rfl ?_
              cases b with
              | true =>
                have h91 : c = 91 := hcb
                simp only [if_pos h91] at pe0
                show px_P _ _ (167, [(0, .ref p), (1, .int (nI dep)), (2, .int (c32 c)), (3, .int (nI a)), (4, .int (-1)), (5, .int 1), (6, .int (nI r))], [.int 1, .ref p]) S3 _
                refine px_P.if_eq rfl rfl (fun h => absurd h ((by decide))) (fun _ => ?_)
                refine px_P.sn 2 (f1 := (177, [(0, .ref p), (1, .int (nI dep)), (2, .int (c32 c)), (3, .int (nI a)), (4, .int (-1)), (5, .int 1), (6, .int (nI r))], [.int 93, .ref p])) (S1 := S3) rfl ?_
                refine px_P.cv rfl rfl rfl (by assumption) rfl ?_
                show px_M _ px_m_Parser_take [.ref p, .int 93] S3 _
                refine pm_paTake (c := 93) (by omega) ht w2 (by decide) m3 (fun v S4 g1 g2 g3 => ?_) (fun v S4 g1 g2 g3 => ?_)
                · have hlt3 := cn_lt (tx := tx) (N := N) (a := nx tx N (ps_a w)) (by rw [v]; decide)
                  rw [if_pos v] at pe0
                  rw [pe0] at k
                  obtain ⟨d0, d1, d2, K, F, C, P, d3, d4⟩ := g1
                  have d0' : S4.1 p = some (.inr (5, [.ref t, .int (nI N), .int (nI m), .ref (p + 1), .int (nI (nx tx N (ps_a w) + 1)), .int df, .int dc, .int eq])) := d0
                  have d3e := d3.1
                  show px_P _ _ (180, [(0, .ref p), (1, .int (nI dep)), (2, .int (c32 c)), (3, .int (nI a)), (4, .int (-1)), (5, .int 1), (6, .int (nI r))], [.int 1]) S4 _
                  refine px_P.if_ne rfl rfl (fun _ => ?_) (fun h => absurd h ((by decide)))
                  refine px_P.sn 1 (f1 := (187, [(0, .ref p), (1, .int (nI dep)), (2, .int (c32 c)), (3, .int (nI a)), (4, .int (-1)), (5, .int 1), (6, .int (nI r))], [.int 1])) (S1 := S4) rfl ?_
                  refine px_P.if_eq rfl rfl (fun h => absurd h ((by decide))) (fun _ => ?_)
                  refine px_P.sn 1 (f1 := (191, [(0, .ref p), (1, .int (nI dep)), (2, .int (c32 c)), (3, .int (nI a)), (4, .int (-1)), (5, .int 1), (6, .int (nI r))], [.ref p])) (S1 := S4) rfl ?_
                  refine px_P.gf rfl rfl (by assumption) (v := .ref (p + 1)) rfl ?_
                  refine px_P.sn 4 (f1 := (199, [(0, .ref p), (1, .int (nI dep)), (2, .int (c32 c)), (3, .int (nI a)), (4, .int (-1)), (5, .int 1), (6, .int (nI r))], [.int (nI a), .int 0, .int (nI r), .int 2, .ref (p + 1)])) (S1 := S4) rfl ?_
                  refine px_P.cv rfl rfl rfl (by assumption) rfl ?_
                  show px_M _ px_m_Expression_add [.ref (p + 1), .int 2, .int (nI r), .int 0, .int (nI a)] S4 _
                  refine pm_exprAdd (n := ps_n w) (by omega) (by omega) (by omega) d3 (fun S5 i1 i2 i3 => ?_)
                  show px_P _ _ (202, [(0, .ref p), (1, .int (nI dep)), (2, .int (c32 c)), (3, .int (nI a)), (4, .int (-1)), (5, .int 1), (6, .int (nI r))], [.int (nI (ps_n w))]) S5 _
                  refine px_P.sn 1 (f1 := (207, [(0, .ref p), (1, .int (nI dep)), (2, .int (c32 c)), (3, .int (nI a)), (4, .int (-1)), (5, .int 1), (6, .int (nI r))], [.int (nI (ps_n w))])) (S1 := S5) rfl ?_
                  refine px_P.ret rfl ?_
                  exact k S5 (pa.add (y := w) (q := (2, r, 0, a)) d0' d1 d2 d4 ⟨by show 2 < 8; omega, fun q => absurd q (by simp), fun q => absurd q (by simp), fun _ => by show r < ps_n w; omega, fun q => absurd q (by simp), fun q => absurd q (by simp)⟩ i1 i2) (fun q hq => by rw [i2 q (by omega), g2 q hq]; exact fr3 q hq) (by rw [i3, g3, t3'])
                · rw [if_neg v] at pe0
                  rw [pe0] at k
                  show px_P _ _ (180, [(0, .ref p), (1, .int (nI dep)), (2, .int (c32 c)), (3, .int (nI a)), (4, .int (-1)), (5, .int 1), (6, .int (nI r))], [.int 0]) S4 _
                  refine px_P.if_ne rfl rfl (fun h => absurd (rfl) h) (fun _ => ?_)
                  refine px_P.sn 1 (f1 := (184, [(0, .ref p), (1, .int (nI dep)), (2, .int (c32 c)), (3, .int (nI a)), (4, .int (-1)), (5, .int 1), (6, .int (nI r))], [.int (-1)])) (S1 := S4) rfl ?_
                  refine px_P.ret rfl ?_
                  exact k S4 g1 (fun q hq => by rw [g2 q hq]; exact fr3 q hq) (by rw [g3, t3'])
              | false =>
                have h40 : c = 40 := hcb
                simp only [if_neg (show ¬ c = 91 by omega)] at pe0
                show px_P _ _ (167, [(0, .ref p), (1, .int (nI dep)), (2, .int (c32 c)), (3, .int (nI a)), (4, .int (-1)), (5, .int 0), (6, .int (nI r))], [.int 0, .ref p]) S3 _
                refine px_P.if_eq rfl rfl (fun _ => ?_) (fun h => absurd (rfl) h)
                refine px_P.sn 1 (f1 := (177, [(0, .ref p), (1, .int (nI dep)), (2, .int (c32 c)), (3, .int (nI a)), (4, .int (-1)), (5, .int 0), (6, .int (nI r))], [.int 41, .ref p])) (S1 := S3) rfl ?_
                refine px_P.cv rfl rfl rfl (by assumption) rfl ?_
                show px_M _ px_m_Parser_take [.ref p, .int 41] S3 _
                refine pm_paTake (c := 41) (by omega) ht w2 (by decide) m3 (fun v S4 g1 g2 g3 => ?_) (fun v S4 g1 g2 g3 => ?_)
                · rw [if_pos v] at pe0
                  rw [pe0] at k
                  show px_P _ _ (180, [(0, .ref p), (1, .int (nI dep)), (2, .int (c32 c)), (3, .int (nI a)), (4, .int (-1)), (5, .int 0), (6, .int (nI r))], [.int 1]) S4 _
                  refine px_P.if_ne rfl rfl (fun _ => ?_) (fun h => absurd h ((by decide)))
                  refine px_P.sn 1 (f1 := (187, [(0, .ref p), (1, .int (nI dep)), (2, .int (c32 c)), (3, .int (nI a)), (4, .int (-1)), (5, .int 0), (6, .int (nI r))], [.int 0])) (S1 := S4) rfl ?_
                  refine px_P.if_eq rfl rfl (fun _ => ?_) (fun h => absurd (rfl) h)
                  refine px_P.sn 1 (f1 := (207, [(0, .ref p), (1, .int (nI dep)), (2, .int (c32 c)), (3, .int (nI a)), (4, .int (-1)), (5, .int 0), (6, .int (nI r))], [.int (nI r)])) (S1 := S4) rfl ?_
                  refine px_P.ret rfl ?_
                  exact k S4 g1 (fun q hq => by rw [g2 q hq]; exact fr3 q hq) (by rw [g3, t3'])
                · rw [if_neg v] at pe0
                  rw [pe0] at k
                  show px_P _ _ (180, [(0, .ref p), (1, .int (nI dep)), (2, .int (c32 c)), (3, .int (nI a)), (4, .int (-1)), (5, .int 0), (6, .int (nI r))], [.int 0]) S4 _
                  refine px_P.if_ne rfl rfl (fun h => absurd (rfl) h) (fun _ => ?_)
                  refine px_P.sn 1 (f1 := (184, [(0, .ref p), (1, .int (nI dep)), (2, .int (c32 c)), (3, .int (nI a)), (4, .int (-1)), (5, .int 0), (6, .int (nI r))], [.int (-1)])) (S1 := S4) rfl ?_
                  refine px_P.ret rfl ?_
                  exact k S4 g1 (fun q hq => by rw [g2 q hq]; exact fr3 q hq) (by rw [g3, t3'])
        refine px_P.sn 2 (f1 := (110, [(0, .ref p), (1, .int (nI dep)), (2, .int (c32 c)), (3, .int (nI a)), (4, .int (-1))], [.int 91, .int (c32 c)])) (S1 := S1) rfl ?_
        refine px_P.ic_ne rfl rfl (fun q1 => ?_) (fun q1 => ?_)
        · have n91 : ¬ c = 91 := fun w => q1 ((c32_eq c255 (by decide) (by decide)).mpr w)
          refine px_P.sn 3 (f1 := (122, [(0, .ref p), (1, .int (nI dep)), (2, .int (c32 c)), (3, .int (nI a)), (4, .int (-1)), (5, .int 0)], [.int 0])) (S1 := S1) rfl ?_
          refine px_P.if_ne rfl rfl (fun h => absurd (rfl) h) (fun _ => ?_)
          refine px_P.sn 2 (f1 := (128, [(0, .ref p), (1, .int (nI dep)), (2, .int (c32 c)), (3, .int (nI a)), (4, .int (-1)), (5, .int 0)], [.int 40, .int (c32 c)])) (S1 := S1) rfl ?_
          refine px_P.ic_ne rfl rfl (fun q2 => ?_) (fun q2 => ?_)
          · have n40 : ¬ c = 40 := fun w => q2 ((c32_eq c255 (by decide) (by decide)).mpr w)
            rw [if_neg (by omega)] at pe0
            rw [pe0] at k
            refine px_P.sn 1 (f1 := (138, [(0, .ref p), (1, .int (nI dep)), (2, .int (c32 c)), (3, .int (nI a)), (4, .int (-1)), (5, .int 0)], [.int (-1)])) (S1 := S1) rfl ?_
            refine px_P.ret rfl ?_
            exact k S1 e1 e2 e3
          · exact brk false ((c32_eq c255 (by decide) (by decide)).mp q2)
        · refine px_P.sn 4 (f1 := (122, [(0, .ref p), (1, .int (nI dep)), (2, .int (c32 c)), (3, .int (nI a)), (4, .int (-1)), (5, .int 1)], [.int 1])) (S1 := S1) rfl ?_
          refine px_P.if_ne rfl rfl (fun _ => ?_) (fun h => absurd h ((by decide)))
          exact brk true ((c32_eq c255 (by decide) (by decide)).mp q1)
      refine px_P.ic_lt rfl rfl (fun q1 => ?_) (fun q1 => ?_)
      · exact noDigit (fun w => absurd (hdg.mp w).1 (Int32.not_le.mpr q1))
      · refine px_P.sn 2 (f1 := (71, [(0, .ref p), (1, .int (nI dep)), (2, .int (c32 c)), (3, .int (nI a)), (4, .int (-1))], [.int 56, .int (c32 c)])) (S1 := S1) rfl ?_
        refine px_P.ic_ge rfl rfl (fun q2 => ?_) (fun q2 => ?_)
        · exact noDigit (fun w => absurd (hdg.mp w).2 (Int32.not_lt.mpr q2))
        · have hdd := hdg.mpr ⟨Int32.not_lt.mp q1, Int32.not_le.mp q2⟩
          have hlt : a < N := cn_lt (tx := tx) (by rw [← hcc]; omega)
          have hn2 := nx_le (tx := tx) (a := a + 1) (N := N) (by omega)
          have pe : pz_atom tx N m I y = (if cn tx N (nx tx N (a + 1)) = 46 then pz_name tx N (c - 48) a (ps_at y (nx tx N (a + 1) + 1)) else (none, ps_at y (nx tx N (a + 1)))) := by
            unfold pz_atom
            dsimp only
            rw [← ha, ← hcc, hl]
            dsimp only
            rw [if_neg (by rw [hN2]; decide), if_pos hdd]
          refine px_P.sn 2 (f1 := (76, [(0, .ref p), (1, .int (nI dep)), (2, .int (c32 c)), (3, .int (nI a)), (4, .int (-1))], [.ref p, .ref p])) (S1 := S1) rfl ?_
          refine px_P.gf rfl rfl (by assumption) (v := .int (nI a)) rfl ?_
          refine px_P.sn 2 (f1 := (81, [(0, .ref p), (1, .int (nI dep)), (2, .int (c32 c)), (3, .int (nI a)), (4, .int (-1))], [.int ((nI a) + 1), .ref p])) (S1 := S1) rfl ?_
          refine px_P.pf rfl rfl (by assumption) rfl (fun S2 u2 => ?_)
          have u2' : px_Up S1 S2 p (.inr (5, [.ref t, .int (nI N), .int (nI m), .ref (p + 1), .int (nI (a + 1)), .int df, .int dc, .int eq])) := by rw [← nI_1]; exact u2
          have m2 : pa S2 p t N m f df dc eq V (ps_at y (a + 1)) := e1.cell u2'
          have d0 := m2.1
          have fr2 : ∀ q, (q < p ∨ p + 9 ≤ q) → S2.1 q = S.1 q := fun q hq => by rw [u2.o (by omega)]; exact e2 q hq
          have t2 : S2.2 = S.2 := by rw [u2.t, e3]
          refine px_P.sn 2 (f1 := (87, [(0, .ref p), (1, .int (nI dep)), (2, .int (c32 c)), (3, .int (nI a)), (4, .int (-1))], [.int 46, .ref p])) (S1 := S2) rfl ?_
          refine px_P.cv rfl rfl rfl (by assumption) rfl ?_
          show px_M _ px_m_Parser_take [.ref p, .int 46] S2 _
          refine pm_paTake (c := 46) (by omega) ht (y := ps_at y (a + 1)) (by show a + 1 ≤ N; omega) (by decide) m2 (fun v S3 g1 g2 g3 => ?_) (fun v S3 g1 g2 g3 => ?_)
          · have v' : cn tx N (nx tx N (a + 1)) = 46 := v
            have hlt3 := cn_lt (tx := tx) (N := N) (a := nx tx N (a + 1)) (by rw [v']; decide)
            rw [if_pos v'] at pe
            rw [pe] at k
            have g1' : pa S3 p t N m f df dc eq V (ps_at y (nx tx N (a + 1) + 1)) := g1
            have gc := g1'.1
            have ec : c32 c - 48 = nI (c - 48) := by
              obtain ⟨j, hj⟩ : ∃ j, c = j + 48 := ⟨c - 48, by omega⟩
              rw [hj, show c32 (j + 48) = nI (j + 48) from if_neg (by omega), ← nI_add, show j + 48 - 48 = j by omega]
              exact Int32.add_sub_cancel _ _
            show px_P _ _ (90, [(0, .ref p), (1, .int (nI dep)), (2, .int (c32 c)), (3, .int (nI a)), (4, .int (-1))], [.int 1]) S3 _
            refine px_P.if_eq rfl rfl (fun h => absurd h ((by decide))) (fun _ => ?_)
            refine px_P.sn 4 (f1 := (98, [(0, .ref p), (1, .int (nI dep)), (2, .int (c32 c)), (3, .int (nI a)), (4, .int (-1))], [.int ((c32 c) - 48), .ref p])) (S1 := S3) rfl ?_
            rw [ec]
            refine px_P.sn 1 (f1 := (99, [(0, .ref p), (1, .int (nI dep)), (2, .int (c32 c)), (3, .int (nI a)), (4, .int (-1))], [.int (nI a), .int (nI (c - 48)), .ref p])) (S1 := S3) rfl ?_
            show px_P _ _ (99, [(0, .ref p), (1, .int (nI dep)), (2, .int (c32 c)), (3, .int (nI a)), (4, .int (-1))], [.int (nI a), .int (nI (c - 48)), .ref p]) S3 _
            refine px_P.cv rfl rfl rfl (by assumption) rfl ?_
            show px_M _ px_m_Parser_readName [.ref p, .int (nI (c - 48)), .int (nI a)] S3 _
            refine pm_paName (by omega) ht (y := ps_at y (nx tx N (a + 1) + 1)) (by show nx tx N (a + 1) + 1 ≤ N; omega) (by show ps_n y ≤ nx tx N (a + 1) + 1; omega) (by omega) g1' (fun S4 f1 f2 f3 => ?_)
            generalize pz_name tx N (c - 48) a (ps_at y (nx tx N (a + 1) + 1)) = x at k f1 ⊢
            obtain ⟨r, w⟩ := x
            show px_P _ _ (102, [(0, .ref p), (1, .int (nI dep)), (2, .int (c32 c)), (3, .int (nI a)), (4, .int (-1))], [.int (rv r)]) S4 _
            refine px_P.sn 1 (f1 := (106, [(0, .ref p), (1, .int (nI dep)), (2, .int (c32 c)), (3, .int (nI a)), (4, .int (-1))], [.int (rv r)])) (S1 := S4) rfl ?_
            refine px_P.ret rfl ?_
            exact k S4 f1 (fun q hq => by rw [f2 q hq, g2 q hq]; exact fr2 q hq) (by rw [f3, g3, t2])
          · have v' : ¬ cn tx N (nx tx N (a + 1)) = 46 := v
            rw [if_neg v'] at pe
            rw [pe] at k
            show px_P _ _ (90, [(0, .ref p), (1, .int (nI dep)), (2, .int (c32 c)), (3, .int (nI a)), (4, .int (-1))], [.int 0]) S3 _
            refine px_P.if_eq rfl rfl (fun _ => ?_) (fun h => absurd (rfl) h)
            refine px_P.sn 1 (f1 := (106, [(0, .ref p), (1, .int (nI dep)), (2, .int (c32 c)), (3, .int (nI a)), (4, .int (-1))], [.int (-1)])) (S1 := S3) rfl ?_
            refine px_P.ret rfl ?_
            exact k S3 g1 (fun q hq => by rw [g2 q hq]; exact fr2 q hq) (by rw [g3, t2])
theorem pc_sum {p t N m : Nat} {f V : Nat → Int32} {tx : Nat → Nat} {df dc eq : Int32} (ht : tok f tx N) (hm : m < 8) : ∀ (D dep : Nat), dep + D = 12 → pc (4 * D + 6) p t N m f V df dc eq px_m_Parser_readSum dep (pz_sum tx N m D)
  | 0, dep, h => by
    have hg : pg N (pz_atom tx N m none) := pg_atom hm (fun J hJ => by cases hJ)
    exact pc_readSum (d := 5) (by omega) ht hg (pc_readOr (d := 4) (by omega) ht hg (pc_readPart (d := 3) (by omega) ht hg (pc_readAtom (by omega) ht hm (by omega) (fun J hJ => by cases hJ) (fun _ => by omega))))
  | D + 1, dep, h => by
    have hg : pg N (pz_atom tx N m (some (pz_sum tx N m D))) := pg_atom hm (fun J hJ => by cases hJ; exact pg_sum hm D)
    have := pc_sum (p := p) (t := t) (V := V) (df := df) (dc := dc) (eq := eq) ht hm D (dep + 1) (by omega)
    rw [show 4 * (D + 1) + 6 = 4 * D + 7 + 1 + 1 + 1 by omega]
    exact pc_readSum (by omega) ht hg (pc_readOr (by omega) ht hg (pc_readPart (by omega) ht hg (pc_readAtom (by omega) ht hm (by omega) (fun J hJ => by cases hJ; exact ⟨by omega, pg_sum hm D, this⟩) (fun h => by cases h))))
