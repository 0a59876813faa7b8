/-! ===== Parser: type words, the head, the whole line ===== -/
theorem pm_paWord {d p t N m : Nat} {f V : Nat → Int32} {tx : Nat → Nat} {df dc eq : Int32} {y : ps} {S : px_S} {Q : Option Value → px_S → Prop} (hd : 3 ≤ d) (ht : tok f tx N) (hN : ps_a y ≤ N) (h : pa S p t N m f df dc eq V y)
    (k1 : ∀ w a, pz_wd tx N 60 0 (ps_a y) = (some w, a) → ∀ S', pa S' p t N m f df w eq V (ps_at y a) → (∀ q, (q < p ∨ p + 9 ≤ q) → S'.1 q = S.1 q) → S'.2 = S.2 → Q (some (.int 1)) S')
    (k0 : ∀ a, pz_wd tx N 60 0 (ps_a y) = (none, a) → ∀ S' w, pa S' p t N m f df w eq V (ps_at y a) → (∀ q, (q < p ∨ p + 9 ≤ q) → S'.1 q = S.1 q) → S'.2 = S.2 → Q (some (.int 0)) S') : px_M d px_m_Parser_readTypeWord [.ref p] S Q := by
  have tN := ht.2.2
  have lp : ∀ (j i : Nat), i + j = 60 → ∀ (w : Int32) (a : Nat) (S1 : px_S), a ≤ N → pa S1 p t N m f df w eq V (ps_at y a) → pz_wd tx N 60 0 (ps_a y) = pz_wd tx N j w a → (∀ q, (q < p ∨ p + 9 ≤ q) → S1.1 q = S.1 q) → S1.2 = S.2 → px_P (d - 1) px_m_Parser_readTypeWord (7, [(0, .ref p), (1, .int (nI i))], []) S1 Q := by
    intro j
    induction j with
    | zero =>
      intro i hi w a S1 ha h1 h3 h4 h5
      refine px_P.sn 2 (f1 := (10, [(0, .ref p), (1, .int (nI i))], [.int 60, .int (nI i)])) (S1 := S1) rfl ?_
      refine px_P.ic_ge rfl rfl (fun _ => ?_) (fun h => absurd (nI_le (a := 60) (by omega) (by omega)) h)
      refine px_P.sn 1 (f1 := (104, [(0, .ref p), (1, .int (nI i))], [.int 0])) (S1 := S1) rfl ?_
      refine px_P.ret rfl ?_
      exact k0 a h3 S1 w h1 h4 h5
    | succ j ih =>
      intro i hi w a S1 ha h1 h3 h4 h5
      have c0 := h1.1
      have hn := nx_le (tx := tx) (a := a) ha
      obtain ⟨b, hb⟩ : ∃ b, b = nx tx N a := ⟨_, rfl⟩
      refine px_P.sn 2 (f1 := (10, [(0, .ref p), (1, .int (nI i))], [.int 60, .int (nI i)])) (S1 := S1) rfl ?_
      refine px_P.ic_ge rfl rfl (fun h => absurd h (nI_ge (b := 60) (by omega) (by decide))) (fun _ => ?_)
      refine px_P.sn 1 (f1 := (14, [(0, .ref p), (1, .int (nI i))], [.ref p])) (S1 := S1) rfl ?_
      refine px_P.cv rfl rfl rfl (by assumption) rfl ?_
      show px_M _ px_m_Parser_next [.ref p] S1 _
      refine pm_paNext (by omega) ht (y := ps_at y a) ha h1 (fun S2 e1 e2 e3 => ?_)
      have e1' : pa S2 p t N m f df w eq V (ps_at y b) := by rw [hb]; exact e1
      have hcn : cn tx N (nx tx N (ps_a (ps_at y a))) = cn tx N b := by rw [hb]; rfl
      rw [hcn]
      have fr2 : ∀ q, (q < p ∨ p + 9 ≤ q) → S2.1 q = S.1 q := fun q hq => by rw [e2 q hq]; exact h4 q hq
      have t2 : S2.2 = S.2 := by rw [e3, h5]
      show px_P _ _ (17, [(0, .ref p), (1, .int (nI i))], [.int (c32 (cn tx N b))]) S2 _
      refine px_P.call rfl ?_
      show px_M _ px_m_Forms_letterOf [.int (c32 (cn tx N b))] S2 _
      refine pm_letterOf (by omega) ?_
      rw [lt_c32 _ (by have := ht.cn b; omega)]
      cases hl : lt (cn tx N b) with
      | none =>
        have e9 : pz_wd tx N 60 0 (ps_a y) = (none, b) := by
          rw [h3]
          unfold pz_wd
          rw [← hb, hl]
        show px_P _ _ (20, [(0, .ref p), (1, .int (nI i))], [.int (-1)]) S2 _
        refine px_P.sn 3 (f1 := (23, [(0, .ref p), (1, .int (nI i)), (2, .int (-1))], [.int (-1), .int (-1)])) (S1 := S2) rfl ?_
        refine px_P.ic_ne rfl rfl (fun h => absurd (rfl) h) (fun _ => ?_)
        refine px_P.sn 1 (f1 := (27, [(0, .ref p), (1, .int (nI i)), (2, .int (-1))], [.int 0])) (S1 := S2) rfl ?_
        refine px_P.ret rfl ?_
        exact k0 b e9 S2 w e1' fr2 t2
      | some l =>
        have l5 := lt_5 hl
        have hlt := cn_lt (lt_nz hl)
        have e9 : pz_wd tx N 60 0 (ps_a y) = (match pz_br tx N 3 0 (b + 1) with
          | (none, x) => (none, x)
          | (some u, x) => if cn tx N (nx tx N x) = 124 then pz_wd tx N j (w ||| (1 <<< (nI (l + 5 * u) &&& 31))) (nx tx N x + 1) else (some (w ||| (1 <<< (nI (l + 5 * u) &&& 31))), nx tx N x)) := by
          have e8 : pz_wd tx N (j + 1) w a = (match lt (cn tx N (nx tx N a)) with
            | none => (none, nx tx N a)
            | some l => (match pz_br tx N 3 0 (nx tx N a + 1) with
              | (none, x) => (none, x)
              | (some u, x) => if cn tx N (nx tx N x) = 124 then pz_wd tx N j (w ||| (1 <<< (nI (l + 5 * u) &&& 31))) (nx tx N x + 1) else (some (w ||| (1 <<< (nI (l + 5 * u) &&& 31))), nx tx N x))) := rfl
          rw [← hb, hl] at e8
          exact h3.trans e8
        have b0 : S2.1 p = some (.inr (5, [.ref t, .int (nI N), .int (nI m), .ref (p + 1), .int (nI b), .int df, .int w, .int eq])) := e1'.1
        show px_P _ _ (20, [(0, .ref p), (1, .int (nI i))], [.int (nI l)]) S2 _
        refine px_P.sn 3 (f1 := (23, [(0, .ref p), (1, .int (nI i)), (2, .int (nI l))], [.int (-1), .int (nI l)])) (S1 := S2) rfl ?_
        refine px_P.ic_ne rfl rfl (fun _ => ?_) (fun h => absurd h (nI_neg (by omega)))
        refine px_P.sn 2 (f1 := (30, [(0, .ref p), (1, .int (nI i)), (2, .int (nI l))], [.ref p, .ref p])) (S1 := S2) rfl ?_
        refine px_P.gf rfl rfl (by assumption) (v := .int (nI b)) rfl ?_
        refine px_P.sn 2 (f1 := (35, [(0, .ref p), (1, .int (nI i)), (2, .int (nI l))], [.int ((nI b) + 1), .ref p])) (S1 := S2) rfl ?_
        refine px_P.pf rfl rfl (by assumption) rfl (fun S3 u3 => ?_)
        have u3' : px_Up S2 S3 p (.inr (5, [.ref t, .int (nI N), .int (nI m), .ref (p + 1), .int (nI (b + 1)), .int df, .int w, .int eq])) := by rw [← nI_1]; exact u3
        have m3 : pa S3 p t N m f df w eq V (ps_at y (b + 1)) := e1'.cell u3'
        have fr3 : ∀ q, (q < p ∨ p + 9 ≤ q) → S3.1 q = S.1 q := fun q hq => by rw [u3.o (by omega)]; exact fr2 q hq
        have t3 : S3.2 = S.2 := by rw [u3.t, t2]
        -- behind the brackets
        have behind : ∀ (u x vv : Nat) (S4 : px_S), u ≤ 3 → x ≤ N → pz_br tx N 3 0 (b + 1) = pz_br tx N 0 u x → pa S4 p t N m f df w eq V (ps_at y x) → (∀ q, (q < p ∨ p + 9 ≤ q) → S4.1 q = S.1 q) → S4.2 = S.2 → px_P (d - 1) px_m_Parser_readTypeWord (74, [(0, .ref p), (1, .int (nI i)), (2, .int (nI (l + 5 * u))), (3, .int (nI vv))], []) S4 Q := by
          intro u x vv S4 hu hx e4 m4 f4 t4
          rw [show pz_br tx N 0 u x = (some u, x) from rfl] at e4
          rw [e4] at e9
          dsimp only at e9
          have d0 : S4.1 p = some (.inr (5, [.ref t, .int (nI N), .int (nI m), .ref (p + 1), .int (nI x), .int df, .int w, .int eq])) := m4.1
          refine px_P.sn 2 (f1 := (76, [(0, .ref p), (1, .int (nI i)), (2, .int (nI (l + 5 * u))), (3, .int (nI vv))], [.ref p, .ref p])) (S1 := S4) rfl ?_
          refine px_P.gf rfl rfl (by assumption) (v := .int w) rfl ?_
          refine px_P.sn 4 (f1 := (83, [(0, .ref p), (1, .int (nI i)), (2, .int (nI (l + 5 * u))), (3, .int (nI vv))], [.int (w ||| (1 <<< ((nI (l + 5 * u)) &&& 31))), .ref p])) (S1 := S4) rfl ?_
          refine px_P.pf rfl rfl (by assumption) rfl (fun S5 u5 => ?_)
          have m5 : pa S5 p t N m f df (w ||| (1 <<< (nI (l + 5 * u) &&& 31))) eq V (ps_at y x) := m4.cell u5
          have g0 := m5.1
          have fr5 : ∀ q, (q < p ∨ p + 9 ≤ q) → S5.1 q = S.1 q := fun q hq => by rw [u5.o (by omega)]; exact f4 q hq
          have t5 : S5.2 = S.2 := by rw [u5.t, t4]
          refine px_P.sn 2 (f1 := (89, [(0, .ref p), (1, .int (nI i)), (2, .int (nI (l + 5 * u))), (3, .int (nI vv))], [.int 124, .ref p])) (S1 := S5) rfl ?_
          refine px_P.cv rfl rfl rfl (by assumption) rfl ?_
          show px_M _ px_m_Parser_take [.ref p, .int 124] S5 _
          refine pm_paTake (c := 124) (by omega) ht (y := ps_at y x) hx (by decide) m5 (fun v S6 i1 i2 i3 => ?_) (fun v S6 i1 i2 i3 => ?_)
          · have v' : cn tx N (nx tx N x) = 124 := v
            have hlt2 := cn_lt (tx := tx) (N := N) (a := nx tx N x) (by rw [v']; decide)
            rw [if_pos v'] at e9
            show px_P _ _ (92, [(0, .ref p), (1, .int (nI i)), (2, .int (nI (l + 5 * u))), (3, .int (nI vv))], [.int 1]) S6 _
            refine px_P.if_ne rfl rfl (fun _ => ?_) (fun h => absurd h ((by decide)))
            refine px_P.sn 2 (f1 := (7, [(0, .ref p), (1, .int ((nI i) + 1)), (2, .int (nI (l + 5 * u))), (3, .int (nI vv))], [])) (S1 := S6) rfl ?_
            show px_P _ _ (7, [(0, .ref p), (1, .int ((nI i) + 1)), (2, .int (nI (l + 5 * u))), (3, .int (nI vv))], []) S6 _
            refine px_P.wk (ls := [(0, .ref p), (1, .int ((nI i) + 1))]) rfl (.cons_cons _ (.cons_cons _ (.cons _ (.cons _ .slnil)))) ?_
            rw [nI_1]
            exact ih (i + 1) (by omega) _ (nx tx N x + 1) S6 (by omega) i1 e9 (fun q hq => by rw [i2 q hq]; exact fr5 q hq) (by rw [i3, t5])
          · have v' : ¬ cn tx N (nx tx N x) = 124 := v
            rw [if_neg v'] at e9
            show px_P _ _ (92, [(0, .ref p), (1, .int (nI i)), (2, .int (nI (l + 5 * u))), (3, .int (nI vv))], [.int 0]) S6 _
            refine px_P.if_ne rfl rfl (fun h => absurd (rfl) h) (fun _ => ?_)
            refine px_P.sn 1 (f1 := (96, [(0, .ref p), (1, .int (nI i)), (2, .int (nI (l + 5 * u))), (3, .int (nI vv))], [.int 1])) (S1 := S6) rfl ?_
            refine px_P.ret rfl ?_
            exact k1 _ _ e9 S6 i1 (fun q hq => by rw [i2 q hq]; exact fr5 q hq) (by rw [i3, t5])
        have brk : ∀ (r u : Nat), u + r = 3 → ∀ (x : Nat) (S4 : px_S), x ≤ N → pz_br tx N 3 0 (b + 1) = pz_br tx N r u x → pa S4 p t N m f df w eq V (ps_at y x) → (∀ q, (q < p ∨ p + 9 ≤ q) → S4.1 q = S.1 q) → S4.2 = S.2 → px_P (d - 1) px_m_Parser_readTypeWord (40, [(0, .ref p), (1, .int (nI i)), (2, .int (nI (l + 5 * u))), (3, .int (nI u))], []) S4 Q := by
          intro r
          induction r with
          | zero =>
            intro u hu x S4 hx e4 m4 f4 t4
            refine px_P.sn 2 (f1 := (42, [(0, .ref p), (1, .int (nI i)), (2, .int (nI (l + 5 * u))), (3, .int (nI u))], [.int 3, .int (nI u)])) (S1 := S4) rfl ?_
            refine px_P.ic_ge rfl rfl (fun _ => ?_) (fun h => absurd (nI_le (a := 3) (by omega) (by omega)) h)
            exact behind u x u S4 (by omega) hx e4 m4 f4 t4
          | succ r ih3 =>
            intro u hu x S4 hx e4 m4 f4 t4
            have hnx := nx_le (tx := tx) (a := x) hx
            have d0 := m4.1
            refine px_P.sn 2 (f1 := (42, [(0, .ref p), (1, .int (nI i)), (2, .int (nI (l + 5 * u))), (3, .int (nI u))], [.int 3, .int (nI u)])) (S1 := S4) rfl ?_
            refine px_P.ic_ge rfl rfl (fun h => absurd h (nI_ge (b := 3) (by omega) (by decide))) (fun _ => ?_)
            refine px_P.sn 2 (f1 := (48, [(0, .ref p), (1, .int (nI i)), (2, .int (nI (l + 5 * u))), (3, .int (nI u))], [.int 91, .ref p])) (S1 := S4) rfl ?_
            refine px_P.cv rfl rfl rfl (by assumption) rfl ?_
            show px_M _ px_m_Parser_take [.ref p, .int 91] S4 _
            refine pm_paTake (c := 91) (by omega) ht (y := ps_at y x) hx (by decide) m4 (fun v S5 g1 g2 g3 => ?_) (fun v S5 g1 g2 g3 => ?_)
            · have v' : cn tx N (nx tx N x) = 91 := v
              have hlt2 := cn_lt (tx := tx) (N := N) (a := nx tx N x) (by rw [v']; decide)
              have hn2 := nx_le (tx := tx) (a := nx tx N x + 1) (N := N) (by omega)
              have e5 : pz_br tx N 3 0 (b + 1) = (if cn tx N (nx tx N (nx tx N x + 1)) = 93 then pz_br tx N r (u + 1) (nx tx N (nx tx N x + 1) + 1) else (none, nx tx N (nx tx N x + 1))) := e4.trans (if_pos v')
              have g1' : pa S5 p t N m f df w eq V (ps_at y (nx tx N x + 1)) := g1
              have g0 := g1'.1
              show px_P _ _ (51, [(0, .ref p), (1, .int (nI i)), (2, .int (nI (l + 5 * u))), (3, .int (nI u))], [.int 1]) S5 _
              refine px_P.if_eq rfl rfl (fun h => absurd h ((by decide))) (fun _ => ?_)
              refine px_P.sn 2 (f1 := (57, [(0, .ref p), (1, .int (nI i)), (2, .int (nI (l + 5 * u))), (3, .int (nI u))], [.int 93, .ref p])) (S1 := S5) rfl ?_
              refine px_P.cv rfl rfl rfl (by assumption) rfl ?_
              show px_M _ px_m_Parser_take [.ref p, .int 93] S5 _
              refine pm_paTake (c := 93) (by omega) ht (y := ps_at y (nx tx N x + 1)) (by show nx tx N x + 1 ≤ N; omega) (by decide) g1' (fun v2 S6 i1 i2 i3 => ?_) (fun v2 S6 i1 i2 i3 => ?_)
              · have v2' : cn tx N (nx tx N (nx tx N x + 1)) = 93 := v2
                have hlt3 := cn_lt (tx := tx) (N := N) (a := nx tx N (nx tx N x + 1)) (by rw [v2']; decide)
                rw [if_pos v2'] at e5
                show px_P _ _ (60, [(0, .ref p), (1, .int (nI i)), (2, .int (nI (l + 5 * u))), (3, .int (nI u))], [.int 1]) S6 _
                refine px_P.if_ne rfl rfl (fun _ => ?_) (fun h => absurd h ((by decide)))
                refine px_P.sn 3 (f1 := (40, [(0, .ref p), (1, .int (nI i)), (2, .int ((nI (l + 5 * u)) + 5)), (3, .int ((nI u) + 1))], [])) (S1 := S6) rfl ?_
                have e10 : nI (l + 5 * u) + 5 = nI (l + 5 * (u + 1)) := by rw [show (5 : Int32) = nI 5 from rfl, nI_add]; rfl
                rw [e10, nI_1]
                exact ih3 (u + 1) (by omega) _ S6 (by omega) e5 i1 (fun q hq => by rw [i2 q hq, g2 q hq]; exact f4 q hq) (by rw [i3, g3, t4])
              · have v2' : ¬ cn tx N (nx tx N (nx tx N x + 1)) = 93 := v2
                rw [if_neg v2'] at e5
                rw [e5] at e9
                show px_P _ _ (60, [(0, .ref p), (1, .int (nI i)), (2, .int (nI (l + 5 * u))), (3, .int (nI u))], [.int 0]) S6 _
                refine px_P.if_ne rfl rfl (fun h => absurd (rfl) h) (fun _ => ?_)
                refine px_P.sn 1 (f1 := (64, [(0, .ref p), (1, .int (nI i)), (2, .int (nI (l + 5 * u))), (3, .int (nI u))], [.int 0])) (S1 := S6) rfl ?_
                refine px_P.ret rfl ?_
                exact k0 _ e9 S6 w i1 (fun q hq => by rw [i2 q hq, g2 q hq]; exact f4 q hq) (by rw [i3, g3, t4])
            · have v' : ¬ cn tx N (nx tx N x) = 91 := v
              have e5 : pz_br tx N 3 0 (b + 1) = pz_br tx N 0 u (nx tx N x) := e4.trans (if_neg v')
              show px_P _ _ (51, [(0, .ref p), (1, .int (nI i)), (2, .int (nI (l + 5 * u))), (3, .int (nI u))], [.int 0]) S5 _
              refine px_P.if_eq rfl rfl (fun _ => ?_) (fun h => absurd (rfl) h)
              exact behind u (nx tx N x) u S5 (by omega) hnx.2 e5 g1 (fun q hq => by rw [g2 q hq]; exact f4 q hq) (by rw [g3, t4])
        refine px_P.sn 2 (f1 := (40, [(0, .ref p), (1, .int (nI i)), (2, .int (nI l)), (3, .int 0)], [])) (S1 := S3) rfl ?_
        exact brk 3 0 rfl (b + 1) S3 (by omega) rfl m3 fr3 t3
  have c0 : S.1 p = some (.inr (5, [.ref t, .int (nI N), .int (nI m), .ref (p + 1), .int (nI (ps_a y)), .int df, .int dc, .int eq])) := h.1
  refine px_M.go (by omega) (Nat.le_of_ble_eq_true rfl) ?_
  refine px_P.sn 2 (f1 := (2, [(0, .ref p)], [.int 0, .ref p])) (S1 := S) rfl ?_
  refine px_P.pf rfl rfl (by assumption) rfl (fun S1 u1 => ?_)
  have m1 : pa S1 p t N m f df 0 eq V (ps_at y (ps_a y)) := h.cell u1
  refine px_P.sn 2 (f1 := (7, [(0, .ref p), (1, .int 0)], [])) (S1 := S1) rfl ?_
  exact lp 60 0 rfl 0 (ps_a y) S1 hN m1 rfl (fun q hq => u1.o (by omega)) u1.t
theorem pm_paHead {d p t N m : Nat} {f V : Nat → Int32} {tx : Nat → Nat} {y : ps} {S : px_S} {Q : Option Value → px_S → Prop} (hd : 4 ≤ d) (ht : tok f tx N) (hm : m < 8) (hy : ps_a y = 0) (h : pa S p t N m f (-1) (-1) (-1) V y)
    (k1 : ∀ df dc q a, pz_hd tx N m = (some (df, dc, q), a) → ∀ S', pa S' p t N m f df dc (nI q) V (ps_at y a) → (∀ q, (q < p ∨ p + 9 ≤ q) → S'.1 q = S.1 q) → S'.2 = S.2 → Q (some (.int 1)) S')
    (k0 : ∀ a, pz_hd tx N m = (none, a) → ∀ S' df dc eq, pa S' p t N m f df dc eq V (ps_at y a) → (∀ q, (q < p ∨ p + 9 ≤ q) → S'.1 q = S.1 q) → S'.2 = S.2 → Q (some (.int 0)) S') : px_M d px_m_Parser_readHead [.ref p] S Q := by
  have tN := ht.2.2
  have c0 := h.1
  have hn := nx_le (tx := tx) (a := 0) (N := N) (by omega)
  obtain ⟨a, ha⟩ : ∃ a, a = nx tx N 0 := ⟨_, rfl⟩
  obtain ⟨c, hcc⟩ : ∃ c, c = cn tx N a := ⟨_, rfl⟩
  have c255 : c ≤ 255 := by rw [hcc]; exact ht.cn a
  rw [← ha] at hn
  -- from the = on
  have tail : ∀ (S1 : px_S) (df dc : Int32) (b : Nat), b ≤ N → pa S1 p t N m f df dc (-1) V (ps_at y b) → pz_hd tx N m = (if cn tx N (nx tx N b) = 61 then (some (df, dc, nx tx N b), nx tx N b + 1) else (none, nx tx N b)) → (∀ q, (q < p ∨ p + 9 ≤ q) → S1.1 q = S.1 q) → S1.2 = S.2 → px_P (d - 1) px_m_Parser_readHead (56, [(0, .ref p), (1, .int (c32 c))], []) S1 Q := by
    intro S1 df dc b hb h1 h2 h3 h4
    have d0 := h1.1
    refine px_P.sn 2 (f1 := (59, [(0, .ref p), (1, .int (c32 c))], [.int 61, .ref p])) (S1 := S1) rfl ?_
    refine px_P.cv rfl rfl rfl (by assumption) rfl ?_
    show px_M _ px_m_Parser_take [.ref p, .int 61] S1 _
    refine pm_paTake (c := 61) (by omega) ht (y := ps_at y b) hb (by decide) h1 (fun v S2 i1 i2 i3 => ?_) (fun v S2 i1 i2 i3 => ?_)
    · have v' : cn tx N (nx tx N b) = 61 := v
      rw [if_pos v'] at h2
      have g0 : S2.1 p = some (.inr (5, [.ref t, .int (nI N), .int (nI m), .ref (p + 1), .int (nI (nx tx N b + 1)), .int df, .int dc, .int (-1)])) := i1.1
      show px_P _ _ (62, [(0, .ref p), (1, .int (c32 c))], [.int 1]) S2 _
      refine px_P.sn 3 (f1 := (65, [(0, .ref p), (1, .int (c32 c)), (2, .int 1)], [.ref p, .ref p])) (S1 := S2) rfl ?_
      refine px_P.gf rfl rfl (by assumption) (v := .int (nI (nx tx N b + 1))) rfl ?_
      refine px_P.sn 2 (f1 := (70, [(0, .ref p), (1, .int (c32 c)), (2, .int 1)], [.int ((nI (nx tx N b + 1)) - 1), .ref p])) (S1 := S2) rfl ?_
      refine px_P.pf rfl rfl (by assumption) rfl (fun S3 u3 => ?_)
      have u3' : px_Up S2 S3 p (.inr (5, [.ref t, .int (nI N), .int (nI m), .ref (p + 1), .int (nI (nx tx N b + 1)), .int df, .int dc, .int (nI (nx tx N b))])) := by rw [← nI_pred (nx tx N b)]; exact u3
      refine px_P.sn 1 (f1 := (74, [(0, .ref p), (1, .int (c32 c)), (2, .int 1)], [.int 1])) (S1 := S3) rfl ?_
      refine px_P.ret rfl ?_
      exact k1 _ _ _ _ h2 S3 (i1.cell u3') (fun q hq => by rw [u3.o (by omega), i2 q hq]; exact h3 q hq) (by rw [u3.t, i3, h4])
    · have v' : ¬ cn tx N (nx tx N b) = 61 := v
      rw [if_neg v'] at h2
      have g0 : S2.1 p = some (.inr (5, [.ref t, .int (nI N), .int (nI m), .ref (p + 1), .int (nI (nx tx N b)), .int df, .int dc, .int (-1)])) := i1.1
      show px_P _ _ (62, [(0, .ref p), (1, .int (c32 c))], [.int 0]) S2 _
      refine px_P.sn 3 (f1 := (65, [(0, .ref p), (1, .int (c32 c)), (2, .int 0)], [.ref p, .ref p])) (S1 := S2) rfl ?_
      refine px_P.gf rfl rfl (by assumption) (v := .int (nI (nx tx N b))) rfl ?_
      refine px_P.sn 2 (f1 := (70, [(0, .ref p), (1, .int (c32 c)), (2, .int 0)], [.int ((nI (nx tx N b)) - 1), .ref p])) (S1 := S2) rfl ?_
      refine px_P.pf rfl rfl (by assumption) rfl (fun S3 u3 => ?_)
      refine px_P.sn 1 (f1 := (74, [(0, .ref p), (1, .int (c32 c)), (2, .int 0)], [.int 0])) (S1 := S3) rfl ?_
      refine px_P.ret rfl ?_
      exact k0 _ h2 S3 _ _ _ (i1.cell u3) (fun q hq => by rw [u3.o (by omega), i2 q hq]; exact h3 q hq) (by rw [u3.t, i3, h4])
  refine px_M.go (by omega) (Nat.le_of_ble_eq_true rfl) ?_
  refine px_P.sn 1 (f1 := (1, [(0, .ref p)], [.ref p])) (S1 := S) rfl ?_
  refine px_P.cv rfl rfl rfl (by assumption) rfl ?_
  show px_M _ px_m_Parser_next [.ref p] S _
  refine pm_paNext (by omega) ht (by omega) h (fun S1 e1 e2 e3 => ?_)
  rw [hy, ← ha] at e1
  rw [hy, ← ha, ← hcc]
  have b0 : S1.1 p = some (.inr (5, [.ref t, .int (nI N), .int (nI m), .ref (p + 1), .int (nI a), .int (-1), .int (-1), .int (-1)])) := e1.1
  show px_P _ _ (4, [(0, .ref p)], [.int (c32 c)]) S1 _
  refine px_P.sn 2 (f1 := (6, [(0, .ref p), (1, .int (c32 c))], [.int (c32 c)])) (S1 := S1) rfl ?_
  refine px_P.call rfl ?_
  show px_M _ px_m_Parser_isName [.int (c32 c)] S1 _
  refine pm_paIsName (by omega) c255 ?_
  cases hN2 : isN c with
  | false =>
    have pe : pz_hd tx N m = (if cn tx N (nx tx N a) = 61 then (some (-1, -1, nx tx N a), nx tx N a + 1) else (none, nx tx N a)) := by
      unfold pz_hd
      dsimp only
      rw [← ha, ← hcc, if_neg (by rw [hN2]; decide)]
    show px_P _ _ (9, [(0, .ref p), (1, .int (c32 c))], [.int 0]) S1 _
    refine px_P.if_eq rfl rfl (fun _ => ?_) (fun h => absurd (rfl) h)
    exact tail S1 (-1) (-1) a hn.2 e1 pe e2 e3
  | true =>
    have hc' : (decide (65 ≤ c) && decide (c ≤ 90)) = true := hN2
    rw [Bool.and_eq_true, decide_eq_true_iff, decide_eq_true_iff] at hc'
    have hlt : a < N := cn_lt (tx := tx) (by rw [← hcc]; omega)
    have hn2 := nx_le (tx := tx) (a := a + 1) (N := N) (by omega)
    have c1 : c32 c = nI c := if_neg (by omega)
    obtain ⟨sy, hsy⟩ : ∃ sy, sy = 26 * m + (c - 65) := ⟨_, rfl⟩
    have es : nI m * 26 + c32 c - 65 = nI sy := by rw [c1, hsy]; exact sy_i32 hm hc'.1 hc'.2
    show px_P _ _ (9, [(0, .ref p), (1, .int (c32 c))], [.int 1]) S1 _
    refine px_P.if_eq rfl rfl (fun h => absurd h ((by decide))) (fun _ => ?_)
    refine px_P.sn 2 (f1 := (14, [(0, .ref p), (1, .int (c32 c))], [.ref p, .ref p])) (S1 := S1) rfl ?_
    refine px_P.gf rfl rfl (by assumption) (v := .int (nI a)) rfl ?_
    refine px_P.sn 2 (f1 := (19, [(0, .ref p), (1, .int (c32 c))], [.int ((nI a) + 1), .ref p])) (S1 := S1) rfl ?_
    refine px_P.pf rfl rfl (by assumption) rfl (fun S2 u2 => ?_)
    have u2' : px_Up S1 S2 p (.inr (5, [.ref t, .int (nI N), .int (nI m), .ref (p + 1), .int (nI (a + 1)), .int (-1), .int (-1), .int (-1)])) := by rw [← nI_1]; exact u2
    have m2 : pa S2 p t N m f (-1) (-1) (-1) V (ps_at y (a + 1)) := e1.cell u2'
    have d0 : S2.1 p = some (.inr (5, [.ref t, .int (nI N), .int (nI m), .ref (p + 1), .int (nI (a + 1)), .int (-1), .int (-1), .int (-1)])) := m2.1
    refine px_P.sn 2 (f1 := (24, [(0, .ref p), (1, .int (c32 c))], [.ref p, .ref p])) (S1 := S2) rfl ?_
    refine px_P.gf rfl rfl (by assumption) (v := .int (nI m)) rfl ?_
    refine px_P.sn 6 (f1 := (35, [(0, .ref p), (1, .int (c32 c))], [.int ((((nI m) * 26) + (c32 c)) - 65), .ref p])) (S1 := S2) rfl ?_
    rw [es]
    refine px_P.pf rfl rfl (by assumption) rfl (fun S3 u3 => ?_)
    have m3 : pa S3 p t N m f (nI sy) (-1) (-1) V (ps_at y (a + 1)) := m2.cell u3
    have d03 := m3.1
    have fr3 : ∀ q, (q < p ∨ p + 9 ≤ q) → S3.1 q = S.1 q := fun q hq => by rw [u3.o (by omega), u2.o (by omega)]; exact e2 q hq
    have t3 : S3.2 = S.2 := by rw [u3.t, u2.t, e3]
    refine px_P.sn 2 (f1 := (41, [(0, .ref p), (1, .int (c32 c))], [.int 58, .ref p])) (S1 := S3) rfl ?_
    refine px_P.cv rfl rfl rfl (by assumption) rfl ?_
    show px_M _ px_m_Parser_take [.ref p, .int 58] S3 _
    refine pm_paTake (c := 58) (by omega) ht (y := ps_at y (a + 1)) (by show a + 1 ≤ N; omega) (by decide) m3 (fun v S4 i1 i2 i3 => ?_) (fun v S4 i1 i2 i3 => ?_)
    · have v' : cn tx N (nx tx N (a + 1)) = 58 := v
      have hlt2 := cn_lt (tx := tx) (N := N) (a := nx tx N (a + 1)) (by rw [v']; decide)
      have pe : pz_hd tx N m = (match pz_wd tx N 60 0 (nx tx N (a + 1) + 1) with
          | (none, b) => (none, b)
          | (some w, b) => (if cn tx N (nx tx N b) = 61 then (some (nI sy, w, nx tx N b), nx tx N b + 1) else (none, nx tx N b))) := by
        unfold pz_hd
        dsimp only
        rw [← ha, ← hcc, if_pos hN2, if_pos v', ← hsy]
        rfl
      have i1' : pa S4 p t N m f (nI sy) (-1) (-1) V (ps_at y (nx tx N (a + 1) + 1)) := i1
      have g0 := i1'.1
      have fr4 : ∀ q, (q < p ∨ p + 9 ≤ q) → S4.1 q = S.1 q := fun q hq => by rw [i2 q hq]; exact fr3 q hq
      have t4 : S4.2 = S.2 := by rw [i3, t3]
      show px_P _ _ (44, [(0, .ref p), (1, .int (c32 c))], [.int 1]) S4 _
      refine px_P.if_eq rfl rfl (fun h => absurd h ((by decide))) (fun _ => ?_)
      refine px_P.sn 1 (f1 := (48, [(0, .ref p), (1, .int (c32 c))], [.ref p])) (S1 := S4) rfl ?_
      refine px_P.cv rfl rfl rfl (by assumption) rfl ?_
      show px_M _ px_m_Parser_readTypeWord [.ref p] S4 _
      refine pm_paWord (by omega) ht (y := ps_at y (nx tx N (a + 1) + 1)) (by show nx tx N (a + 1) + 1 ≤ N; omega) i1' (fun w b eb S5 j1 j2 j3 => ?_) (fun b eb S5 w j1 j2 j3 => ?_)
      · have eb' : pz_wd tx N 60 0 (nx tx N (a + 1) + 1) = (some w, b) := eb
        rw [eb'] at pe
        have hb : b ≤ N := by
          have := (pz_wd_le (tx := tx) (N := N) (k := 60) (w := 0) (a := nx tx N (a + 1) + 1) (by omega) (le32.z _)).2.1
          rw [eb'] at this
          exact this
        show px_P _ _ (51, [(0, .ref p), (1, .int (c32 c))], [.int 1]) S5 _
        refine px_P.if_ne rfl rfl (fun _ => ?_) (fun h => absurd h ((by decide)))
        exact tail S5 (nI sy) w b hb j1 pe (fun q hq => by rw [j2 q hq]; exact fr4 q hq) (by rw [j3, t4])
      · have eb' : pz_wd tx N 60 0 (nx tx N (a + 1) + 1) = (none, b) := eb
        rw [eb'] at pe
        show px_P _ _ (51, [(0, .ref p), (1, .int (c32 c))], [.int 0]) S5 _
        refine px_P.if_ne rfl rfl (fun h => absurd (rfl) h) (fun _ => ?_)
        refine px_P.sn 1 (f1 := (55, [(0, .ref p), (1, .int (c32 c))], [.int 0])) (S1 := S5) rfl ?_
        refine px_P.ret rfl ?_
        exact k0 b pe S5 _ _ _ j1 (fun q hq => by rw [j2 q hq]; exact fr4 q hq) (by rw [j3, t4])
    · have v' : ¬ cn tx N (nx tx N (a + 1)) = 58 := v
      have pe : pz_hd tx N m = (if cn tx N (nx tx N (nx tx N (a + 1))) = 61 then (some (nI sy, -1, nx tx N (nx tx N (a + 1))), nx tx N (nx tx N (a + 1)) + 1) else (none, nx tx N (nx tx N (a + 1)))) := by
        unfold pz_hd
        dsimp only
        rw [← ha, ← hcc, if_pos hN2, if_neg v', ← hsy]
      show px_P _ _ (44, [(0, .ref p), (1, .int (c32 c))], [.int 0]) S4 _
      refine px_P.if_eq rfl rfl (fun _ => ?_) (fun h => absurd (rfl) h)
      exact tail S4 (nI sy) (-1) (nx tx N (a + 1)) hn2.2 i1 pe (fun q hq => by rw [i2 q hq]; exact fr3 q hq) (by rw [i3, t3])
theorem pm_mathMin {d a b : Nat} {S : px_S} {Q : Option Value → px_S → Prop} (hd : 1 ≤ d) (hab : a ≤ b) (hb : b < 2 ^ 31) (k : Q (some (.int (nI a))) S) : px_M d px_m_Math_min [.int (nI a), .int (nI b)] S Q := by
  refine px_M.go (by omega) (Nat.le_of_ble_eq_true rfl) ?_
  refine px_P.sn 2 (f1 := (2, [(0, .int (nI a)), (1, .int (nI b))], [.int (nI b), .int (nI a)])) (S1 := S) rfl ?_
  refine px_P.ic_gt rfl rfl (fun h => absurd h (nI_nlt hab hb)) (fun _ => ?_)
  refine px_P.sn 2 (f1 := (10, [(0, .int (nI a)), (1, .int (nI b))], [.int (nI a)])) (S1 := S) rfl ?_
  refine px_P.ret rfl ?_
  exact k
theorem pm_mathMax {d a : Nat} {S : px_S} {Q : Option Value → px_S → Prop} (hd : 1 ≤ d) (ha : a < 2 ^ 31) (k : Q (some (.int (nI a))) S) : px_M d px_m_Math_max [.int 0, .int (nI a)] S Q := by
  refine px_M.go (by omega) (Nat.le_of_ble_eq_true rfl) ?_
  refine px_P.sn 2 (f1 := (2, [(0, .int 0), (1, .int (nI a))], [.int (nI a), .int 0])) (S1 := S) rfl ?_
  refine px_P.ic_lt rfl rfl (fun h => ?_) (fun h => ?_)
  · refine px_P.sn 1 (f1 := (10, [(0, .int 0), (1, .int (nI a))], [.int (nI a)])) (S1 := S) rfl ?_
    refine px_P.ret rfl ?_
    exact k
  · refine px_P.sn 2 (f1 := (10, [(0, .int 0), (1, .int (nI a))], [.int 0])) (S1 := S) rfl ?_
    refine px_P.ret rfl ?_
    have e : a = 0 := by
      apply Classical.byContradiction
      intro hn
      exact h (nI_lt (a := 0) (by omega) ha)
    rw [e] at k
    exact k
theorem pm_paInit {d p t N m : Nat} {f : Nat → Int32} {S : px_S} {Q : Option Value → px_S → Prop} (hd : 3 ≤ d) (hN : N ≤ 60) (hp : S.1 p = some (.inr (5, [.null, .int 0, .int 0, .null, .int 0, .int 0, .int 0, .int 0]))) (hS : S.2.1 = p + 1) (htx : S.1 t = some (.inl (0, 60, .inl f))) (htp : t < p)
    (k : ∀ S', pa S' p t N m f (-1) (-1) (-1) (fun _ => 0) (ps_0 0) → (∀ q, q < p → S'.1 q = S.1 q) → S'.2 = (p + 9, S.2.2 + (12 + 5 * N)) → Q none S') : px_M d px_m_Parser_init [.ref p, .ref t, .int (nI N), .int (nI m)] S Q := by
  refine px_M.go (by omega) (Nat.le_of_ble_eq_true rfl) ?_
  refine px_P.sn 4 (f1 := (6, [(0, .ref p), (1, .ref t), (2, .int (nI N)), (3, .int (nI m))], [.int 0, .ref p])) (S1 := S) rfl ?_
  refine px_P.pf rfl rfl (by assumption) rfl (fun S1 u1 => ?_)
  have c1 := u1.s
  refine px_P.sn 2 (f1 := (11, [(0, .ref p), (1, .ref t), (2, .int (nI N)), (3, .int (nI m))], [.int (-1), .ref p])) (S1 := S1) rfl ?_
  refine px_P.pf rfl rfl (by assumption) rfl (fun S2 u2 => ?_)
  have c2 := u2.s
  refine px_P.sn 2 (f1 := (16, [(0, .ref p), (1, .ref t), (2, .int (nI N)), (3, .int (nI m))], [.int (-1), .ref p])) (S1 := S2) rfl ?_
  refine px_P.pf rfl rfl (by assumption) rfl (fun S3 u3 => ?_)
  have c3 := u3.s
  refine px_P.sn 2 (f1 := (21, [(0, .ref p), (1, .ref t), (2, .int (nI N)), (3, .int (nI m))], [.int (-1), .ref p])) (S1 := S3) rfl ?_
  refine px_P.pf rfl rfl (by assumption) rfl (fun S4 u4 => ?_)
  have c4 := u4.s
  refine px_P.sn 2 (f1 := (26, [(0, .ref p), (1, .ref t), (2, .int (nI N)), (3, .int (nI m))], [.ref t, .ref p])) (S1 := S4) rfl ?_
  refine px_P.pf rfl rfl (by assumption) rfl (fun S5 u5 => ?_)
  have c5 := u5.s
  have x5 : S5.1 t = some (.inl (0, 60, .inl f)) := by rw [u5.o (by omega), u4.o (by omega), u3.o (by omega), u2.o (by omega), u1.o (by omega)]; exact htx
  refine px_P.sn 4 (f1 := (33, [(0, .ref p), (1, .ref t), (2, .int (nI N)), (3, .int (nI m))], [.ref t, .int (nI N), .int 0, .ref p])) (S1 := S5) rfl ?_
  refine px_P.alen rfl (by assumption) rfl ?_
  refine px_P.call rfl ?_
  show px_M _ px_m_Math_min [.int (nI N), .int (nI 60)] S5 _
  refine pm_mathMin (by omega) hN (by decide) ?_
  show px_P _ _ (37, [(0, .ref p), (1, .ref t), (2, .int (nI N)), (3, .int (nI m))], [.int (nI N), .int 0, .ref p]) S5 _
  refine px_P.call rfl ?_
  show px_M _ px_m_Math_max [.int 0, .int (nI N)] S5 _
  refine pm_mathMax (by omega) (by omega) ?_
  show px_P _ _ (40, [(0, .ref p), (1, .ref t), (2, .int (nI N)), (3, .int (nI m))], [.int (nI N), .ref p]) S5 _
  refine px_P.pf rfl rfl (by assumption) rfl (fun S6 u6 => ?_)
  have c6 := u6.s
  refine px_P.sn 2 (f1 := (45, [(0, .ref p), (1, .ref t), (2, .int (nI N)), (3, .int (nI m))], [.int (nI m), .ref p])) (S1 := S6) rfl ?_
  refine px_P.pf rfl rfl (by assumption) rfl (fun S7 u7 => ?_)
  have c7 := u7.s
  have t7 : S7.2 = S.2 := by rw [u7.t, u6.t, u5.t, u4.t, u3.t, u2.t, u1.t]
  have z7 : S7.2.1 = p + 1 := by rw [t7, hS]
  refine px_P.sn 1 (f1 := (49, [(0, .ref p), (1, .ref t), (2, .int (nI N)), (3, .int (nI m))], [.ref p])) (S1 := S7) rfl ?_
  refine px_P.nw rfl rfl (fun S8 u8 => ?_)
  have s8 := u8.s
  rw [z7] at s8
  have t8 : S8.2 = (p + 2, S.2.2 + 7) := by rw [u8.t, t7, hS]; rfl
  have c8 := u8.n c7 (by omega)
  rw [z7]
  show px_P _ _ (52, [(0, .ref p), (1, .ref t), (2, .int (nI N)), (3, .int (nI m))], [.ref (p + 1), .ref p]) S8 _
  refine px_P.sn 2 (f1 := (54, [(0, .ref p), (1, .ref t), (2, .int (nI N)), (3, .int (nI m))], [.ref p, .ref (p + 1), .ref (p + 1), .ref p])) (S1 := S8) rfl ?_
  refine px_P.gf rfl rfl (by assumption) (v := .int (nI N)) rfl ?_
  refine px_P.call rfl ?_
  show px_M _ px_m_Expression_init [.ref (p + 1), .int (nI N)] S8 _
  refine pm_exprInit (by omega) (by omega) s8 (by rw [t8]) (fun S9 e1 e2 e3 => ?_)
  have c9 := (e2 p (by omega)).trans c8
  have fr9 : ∀ q, q < p → S9.1 q = S.1 q := fun q hq => by rw [e2 q (by omega), u8.o (by omega), u7.o (by omega), u6.o (by omega), u5.o (by omega), u4.o (by omega), u3.o (by omega), u2.o (by omega), u1.o (by omega)]
  show px_P _ _ (60, [(0, .ref p), (1, .ref t), (2, .int (nI N)), (3, .int (nI m))], [.ref (p + 1), .ref p]) S9 _
  refine px_P.pf rfl rfl (by assumption) rfl (fun S10 u10 => ?_)
  refine px_P.ret rfl ?_
  obtain ⟨q0, q1, q2, q3, q4, q5, q6, q7⟩ := e1
  refine k S10 ⟨u10.s, ?_, htp, _, _, _, _, ⟨u10.n q0 (by omega), u10.n q1 (by omega), u10.n q2 (by omega), u10.n q3 (by omega), u10.n q4 (by omega), u10.n q5 (by omega), u10.n q6 (by omega), u10.n q7 (by omega)⟩, fun j hj => absurd hj (by show ¬ j < 0; omega)⟩ (fun q hq => by rw [u10.o (by omega)]; exact fr9 q hq) ?_
  · rw [u10.o (by omega), fr9 t htp]; exact htx
  · rw [u10.t, e3, t8]
    exact Prod.ext rfl (by show S.2.2 + 7 + (5 + 5 * N) = S.2.2 + (12 + 5 * N); omega)
theorem pm_paRead {d p t N m : Nat} {f V : Nat → Int32} {tx : Nat → Nat} {S : px_S} {Q : Option Value → px_S → Prop} (hd : 56 ≤ d) (ht : tok f tx N) (hm : m < 8) (hp1 : 1 ≤ p) (h : pa S p t N m f (-1) (-1) (-1) V (ps_0 0)) (hS : S.2.1 = p + 9)
    (k : ∀ S' E, ln_at S' (p + 9) (pz tx N m) E → (∀ q, q < p → S'.1 q = S.1 q) → (∀ q, ln_own (p + 9) (pz tx N m) q → p ≤ q ∧ q < S'.2.1) → p + 9 < S'.2.1 → S'.2.1 ≤ p + 20 → S'.2.2 ≤ S.2.2 + 83 → Q (some (.ref (p + 9))) S') : px_M d px_m_Parser_read [.ref p] S Q := by
  have tN := ht.2.2
  have c0 := h.1
  -- a line that cannot be read
  have bad : ∀ (S1 : px_S) (df dc eq : Int32) (z : ps), pa S1 p t N m f df dc eq V z → ps_a z ≤ N → pz tx N m = pz_bad N (ps_a z) → (∀ q, (q < p ∨ p + 9 ≤ q) → S1.1 q = S.1 q) → S1.2 = S.2 → px_P (d - 1) px_m_Parser_read (28, [(0, .ref p)], []) S1 Q := by
    intro S1 df dc eq z h1 h2 h3 h4 h5
    have d0 : S1.1 p = some (.inr (5, [.ref t, .int (nI N), .int (nI m), .ref (p + 1), .int (nI (ps_a z)), .int df, .int dc, .int eq])) := h1.1
    refine px_P.sn 3 (f1 := (31, [(0, .ref p), (1, .int 0)], [.int 0])) (S1 := S1) rfl ?_
    refine px_P.if_eq rfl rfl (fun _ => ?_) (fun h => absurd (rfl) h)
    have z1 : S1.2.1 = p + 9 := by rw [h5, hS]
    refine px_P.nw rfl rfl (fun S2 u2 => ?_)
    have s2 := u2.s
    rw [z1] at s2
    have t2 : S2.2 = (p + 10, S.2.2 + 8) := by rw [u2.t, h5, hS]; rfl
    have d2 := u2.n d0 (by omega)
    rw [z1]
    show px_P _ _ (67, [(0, .ref p), (1, .int 0)], [.ref (p + 9)]) S2 _
    refine px_P.sn 2 (f1 := (69, [(0, .ref p), (1, .int 0)], [.ref p, .ref (p + 9), .ref (p + 9)])) (S1 := S2) rfl ?_
    refine px_P.gf rfl rfl (by assumption) (v := .int (nI N)) rfl ?_
    refine px_P.sn 1 (f1 := (73, [(0, .ref p), (1, .int 0)], [.ref p, .int (nI N), .ref (p + 9), .ref (p + 9)])) (S1 := S2) rfl ?_
    refine px_P.gf rfl rfl (by assumption) (v := .int (nI (ps_a z))) rfl ?_
    refine px_P.call rfl ?_
    show px_M _ px_m_Line_init1 [.ref (p + 9), .int (nI N), .int (nI (ps_a z))] S2 _
    refine pm_lnInit1 (by omega) tN (by omega) (by omega) s2 (by rw [t2]) (fun S3 e1 e2 e3 => ?_)
    show px_P _ _ (79, [(0, .ref p), (1, .int 0)], [.ref (p + 9)]) S3 _
    refine px_P.ret rfl ?_
    have hwr : ¬ ln_wr (pz_bad N (ps_a z)) = -1 := nI_neg (by omega)
    refine k S3 _ (by rw [h3]; exact e1) (fun q hq => by rw [e2 q (by omega), u2.o (by omega)]; exact h4 q (by omega)) (fun q hq => ?_) (by rw [e3]; show p + 9 < p + 9 + 11; omega) (by rw [e3]; show p + 9 + 11 ≤ p + 20; omega) (by rw [e3, t2]; show S.2.2 + 8 + (N + 15) ≤ S.2.2 + 83; omega)
    rw [h3] at hq
    obtain ⟨o1, o2 | o2⟩ := hq
    · exact absurd o2.1 hwr
    · rw [e3]
      exact ⟨by omega, by show q < p + 9 + 11; omega⟩
  refine px_M.go (by omega) (Nat.le_of_ble_eq_true rfl) ?_
  refine px_P.sn 1 (f1 := (1, [(0, .ref p)], [.ref p])) (S1 := S) rfl ?_
  refine px_P.cv rfl rfl rfl (by assumption) rfl ?_
  show px_M _ px_m_Parser_readHead [.ref p] S _
  refine pm_paHead (by omega) ht hm rfl h (fun df dc q a ea S1 e1 e2 e3 => ?_) (fun a ea S1 df dc eq e1 e2 e3 => ?_)
  · have hh := pz_hd_ok (tx := tx) (N := N) hm
    rw [ea] at hh
    have ha : a ≤ N := hh.1
    have hq1 : q + 1 = a := (hh.2 df dc q rfl).2.2
    have e1' : pa S1 p t N m f df dc (nI q) V (ps_0 a) := e1
    have d1 := e1'.1
    show px_P _ _ (4, [(0, .ref p)], [.int 1]) S1 _
    refine px_P.if_eq rfl rfl (fun h => absurd h ((by decide))) (fun _ => ?_)
    refine px_P.sn 2 (f1 := (9, [(0, .ref p)], [.int 0, .ref p])) (S1 := S1) rfl ?_
    refine px_P.cv rfl rfl rfl (by assumption) rfl ?_
    show px_M _ px_m_Parser_readSum [.ref p, .int 0] S1 _
    have hpc := (pc_sum (p := p) (t := t) (V := V) (df := df) (dc := dc) (eq := nI q) ht hm 12 0 rfl)
    have hpg := pg_sum (tx := tx) (N := N) hm 12 (ps_0 a) ha
    refine px_M.le (d := 4 * 12 + 6) (by omega) (hpc S1 _ (ps_0 a) e1' ha (Nat.zero_le _) (fun S2 f1 f2 f3 => ?_))
    have pe : pz tx N m = (match pz_sum tx N m 12 (ps_0 a) with
      | (none, z) => pz_bad N (ps_a z)
      | (some _, z) => if cn tx N (nx tx N (ps_a z)) = 0 then (N, df, dc, nI q, -1, ps_n z, ps_s z, ps_w z) else pz_bad N (nx tx N (ps_a z))) := by
      unfold pz
      rw [ea]
      rfl
    generalize pz_sum tx N m 12 (ps_0 a) = x at hpg f1 pe ⊢
    obtain ⟨r, w⟩ := x
    have w2 : ps_a w ≤ N := hpg.2.1
    have fr2 : ∀ q, (q < p ∨ p + 9 ≤ q) → S2.1 q = S.1 q := fun q hq => by rw [f2 q hq]; exact e2 q hq
    have t2 : S2.2 = S.2 := by rw [f3, e3]
    cases r with
    | none =>
      show px_P _ _ (12, [(0, .ref p)], [.int (-1)]) S2 _
      refine px_P.sn 1 (f1 := (13, [(0, .ref p)], [.int (-1), .int (-1)])) (S1 := S2) rfl ?_
      refine px_P.ic_eq rfl rfl (fun _ => ?_) (fun h => absurd (rfl) h)
      exact bad S2 df dc (nI q) w f1 w2 pe fr2 t2
    | some s =>
      dsimp only at pe f1
      have w1 : s + 1 = ps_n w := (hpg.2.2.2.2.2.2.2.2 s rfl).1
      have w4 : ps_n w + a ≤ ps_a w + 0 := hpg.2.2.2.1
      have hn := nx_le (tx := tx) (a := ps_a w) w2
      have d2 := f1.1
      show px_P _ _ (12, [(0, .ref p)], [.int (nI s)]) S2 _
      refine px_P.sn 1 (f1 := (13, [(0, .ref p)], [.int (-1), .int (nI s)])) (S1 := S2) rfl ?_
      refine px_P.ic_eq rfl rfl (fun h => absurd h (nI_neg (by omega))) (fun _ => ?_)
      refine px_P.sn 1 (f1 := (17, [(0, .ref p)], [.ref p])) (S1 := S2) rfl ?_
      refine px_P.cv rfl rfl rfl (by assumption) rfl ?_
      show px_M _ px_m_Parser_next [.ref p] S2 _
      refine pm_paNext (by omega) ht w2 f1 (fun S3 g1 g2 g3 => ?_)
      have fr3 : ∀ q, (q < p ∨ p + 9 ≤ q) → S3.1 q = S.1 q := fun q hq => by rw [g2 q hq]; exact fr2 q hq
      have t3 : S3.2 = S.2 := by rw [g3, t2]
      show px_P _ _ (20, [(0, .ref p)], [.int (c32 (cn tx N (nx tx N (ps_a w))))]) S3 _
      refine px_P.sn 1 (f1 := (21, [(0, .ref p)], [.int (-1), .int (c32 (cn tx N (nx tx N (ps_a w))))])) (S1 := S3) rfl ?_
      refine px_P.ic_ne rfl rfl (fun hq => ?_) (fun hq => ?_)
      · have hne : ¬ cn tx N (nx tx N (ps_a w)) = 0 := fun v => hq ((c32_m (ht.cn _)).mpr v)
        rw [if_neg hne] at pe
        exact bad S3 df dc (nI q) (ps_at w (nx tx N (ps_a w))) g1 hn.2 pe fr3 t3
      · have he : cn tx N (nx tx N (ps_a w)) = 0 := (c32_m (ht.cn _)).mp hq
        rw [if_pos he] at pe
        have d3 : S3.1 p = some (.inr (5, [.ref t, .int (nI N), .int (nI m), .ref (p + 1), .int (nI (nx tx N (ps_a w))), .int df, .int dc, .int (nI q)])) := g1.1
        have z3 : S3.2.1 = p + 9 := by rw [t3, hS]
        refine px_P.sn 4 (f1 := (31, [(0, .ref p), (1, .int 1)], [.int 1])) (S1 := S3) rfl ?_
        refine px_P.if_eq rfl rfl (fun h => absurd h ((by decide))) (fun _ => ?_)
        refine px_P.nw rfl rfl (fun S4 u4 => ?_)
        have s4 := u4.s
        rw [z3] at s4
        have t4 : S4.2 = (p + 10, S.2.2 + 8) := by rw [u4.t, t3, hS]; rfl
        have d4 := u4.n d3 (by omega)
        rw [z3]
        show px_P _ _ (37, [(0, .ref p), (1, .int 1)], [.ref (p + 9)]) S4 _
        obtain ⟨_, _, _, K, F, C, P, ⟨q0, q1, q2, q3, q4, q5, q6, q7⟩, b4⟩ := g1
        have x4 : xe_at S4 (p + 1) N (ps_n w) (ps_w w) K F C P V := ⟨u4.n q0 (by omega), u4.n q1 (by omega), u4.n q2 (by omega), u4.n q3 (by omega), u4.n q4 (by omega), u4.n q5 (by omega), u4.n q6 (by omega), u4.n q7 (by omega)⟩
        refine px_P.sn 2 (f1 := (39, [(0, .ref p), (1, .int 1)], [.ref p, .ref (p + 9), .ref (p + 9)])) (S1 := S4) rfl ?_
        refine px_P.gf rfl rfl (by assumption) (v := .int (nI N)) rfl ?_
        refine px_P.sn 1 (f1 := (43, [(0, .ref p), (1, .int 1)], [.ref p, .int (nI N), .ref (p + 9), .ref (p + 9)])) (S1 := S4) rfl ?_
        refine px_P.gf rfl rfl (by assumption) (v := .int df) rfl ?_
        refine px_P.sn 1 (f1 := (47, [(0, .ref p), (1, .int 1)], [.ref p, .int df, .int (nI N), .ref (p + 9), .ref (p + 9)])) (S1 := S4) rfl ?_
        refine px_P.gf rfl rfl (by assumption) (v := .int dc) rfl ?_
        refine px_P.sn 1 (f1 := (51, [(0, .ref p), (1, .int 1)], [.ref p, .int dc, .int df, .int (nI N), .ref (p + 9), .ref (p + 9)])) (S1 := S4) rfl ?_
        refine px_P.gf rfl rfl (by assumption) (v := .int (nI q)) rfl ?_
        refine px_P.sn 1 (f1 := (55, [(0, .ref p), (1, .int 1)], [.ref p, .int (nI q), .int dc, .int df, .int (nI N), .ref (p + 9), .ref (p + 9)])) (S1 := S4) rfl ?_
        refine px_P.gf rfl rfl (by assumption) (v := .ref (p + 1)) rfl ?_
        refine px_P.call rfl ?_
        show px_M _ px_m_Line_init0 [.ref (p + 9), .int (nI N), .int df, .int dc, .int (nI q), .ref (p + 1)] S4 _
        refine pm_lnInit0 (st := ps_s w) (by omega) tN tN (by omega) (by omega) (by omega) s4 (by rw [t4]) x4 b4 (fun S5 i1 i2 i3 => ?_)
        show px_P _ _ (61, [(0, .ref p), (1, .int 1)], [.ref (p + 9)]) S5 _
        refine px_P.sn 1 (f1 := (79, [(0, .ref p), (1, .int 1)], [.ref (p + 9)])) (S1 := S5) rfl ?_
        refine px_P.ret rfl ?_
        refine k S5 _ (by rw [pe]; exact i1) (fun q hq => by rw [i2 q (by omega), u4.o (by omega)]; exact fr3 q (by omega)) (fun q hq => ?_) (by rw [i3]; show p + 9 < p + 9 + 3; omega) (by rw [i3]; show p + 9 + 3 ≤ p + 20; omega) (by rw [i3, t4]; show S.2.2 + 8 + (N + 3) ≤ S.2.2 + 83; omega)
        rw [pe] at hq
        obtain ⟨o1, o2 | o2⟩ := hq
        · rw [i3]
          exact ⟨by omega, by show q < p + 9 + 3; omega⟩
        · exact absurd rfl o2.1
  · have pe : pz tx N m = pz_bad N a := by
      unfold pz
      rw [ea]
    have hh := pz_hd_ok (tx := tx) (N := N) hm
    rw [ea] at hh
    show px_P _ _ (4, [(0, .ref p)], [.int 0]) S1 _
    refine px_P.if_eq rfl rfl (fun _ => ?_) (fun h => absurd (rfl) h)
    exact bad S1 df dc eq (ps_0 a) e1 hh.1 pe e2 e3
