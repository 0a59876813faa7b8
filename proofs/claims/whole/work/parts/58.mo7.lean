/-! ===== the model: an expression ===== -/
theorem jn_len (all : Bool) : ∀ (O : List Nat) (n : Nat) (st : xe_T), (jn all O n st).1 + (jn all O n st).2.2.length = n + O.length
  | [], n, st => rfl
  | o :: O, n, st => by
    by_cases h : o % 100 = 7 ∨ (all = true ∧ o % 100 = 8)
    · have e : jn all (o :: O) n st = jn all O (n + 1) (va_up st n (o % 100 - 1, 0, 0, o / 100)) := by
        show (if _ then _ else _) = _
        rw [if_pos h]
      rw [e, jn_len all O, List.length_cons]
      omega
    · have e : jn all (o :: O) n st = (n, st, o :: O) := by
        show (if _ then _ else _) = _
        rw [if_neg h]
      rw [e]
theorem jn_top (all : Bool) : ∀ (O : List Nat) (n : Nat) (st : xe_T), tp all (jn all O n st).2.2
  | [], n, st => fun o O' e => by cases e
  | o :: O, n, st => by
    by_cases h : o % 100 = 7 ∨ (all = true ∧ o % 100 = 8)
    · have e : jn all (o :: O) n st = jn all O (n + 1) (va_up st n (o % 100 - 1, 0, 0, o / 100)) := by
        show (if _ then _ else _) = _
        rw [if_pos h]
      rw [e]
      exact jn_top all O _ _
    · have e : jn all (o :: O) n st = (n, st, o :: O) := by
        show (if _ then _ else _) = _
        rw [if_neg h]
      rw [e]
      exact fun o' O' e z => by cases e; exact h z
theorem stm.ev {S0 S : px_S} {m p : Nat} {q0 : Nat → Int32} {A0 A : Nat → Nat → Int32} {y z : ps} {O : List Nat} (e : eqv y z) (h : stm S0 S m p q0 A0 A (ps_a z) (ps_n z) (ps_s z) O) : stm S0 S m p q0 A0 A (ps_a y) (ps_n y) (ps_s y) O := by
  obtain ⟨h1, h2, h3, h4, h5⟩ := h
  obtain ⟨e1, e2, e3⟩ := e
  rw [e1]
  refine ⟨h1, h2, h3, ⟨by rw [e2]; exact h4.1, fun k hk => ?_⟩, h5⟩
  obtain ⟨f1, f2, f3⟩ := e3 k hk
  obtain ⟨g1, g2, g3⟩ := h4.2 k (by omega)
  exact ⟨by rw [f1]; exact g1, by rw [f2]; exact g2, fun z => by rw [f3 z]; exact g3 (by rw [← f1]; exact z)⟩
theorem stm.push {S0 S S' S'' : px_S} {m p a n o : Nat} {q0 : Nat → Int32} {A0 A : Nat → Nat → Int32} {st : xe_T} {O : List Nat} (h : stm S0 S m p q0 A0 A a n st O) (ho : o ≤ 6100) (u : px_Up S S' (m + 24) (.inl (0, 64, .inl (upd (A 24) O.length (nI o))))) (u' : px_Up S' S'' m (.inr (10, mo_ob m (mq q0 (nI a) (nI p) (nI (O.length + 1)))))) : stm S0 S'' m p q0 A0 (va_up A 24 (upd (A 24) O.length (nI o))) a n st (o :: O) := by
  have g2 := h.1.ar (i := 24) (by decide) (by decide) u
  refine ⟨g2.ob u', (h.2.1.tr (mF.u (by omega) (by omega) u)).tr (mF.u (Nat.le_refl _) (by omega) u'), ⟨fun i e8 e9 e10 e11 e24 => ?_, h.2.2.1.2.1, ?_⟩, ⟨h.2.2.2.1.1, h.2.2.2.1.2⟩, h.2.2.2.2.co ho rfl⟩
  · simp only [va_up, if_neg e24]
    exact h.2.2.1.1 i e8 e9 e10 e11 e24
  · intro i j i1 i2 hj
    simp only [va_up, if_neg (show ¬ i = 24 by omega)]
    exact h.2.2.1.2.2 i j i1 i2 hj
def xK (d m p N : Nat) (q0 : Nat → Int32) (A0 : Nat → Nat → Int32) (S0 : px_S) (Q : Option Value → px_S → Prop) (pc : Nat) (w : Int32) (y : ps) (O : List Nat) : Prop :=
  ps_n y + O.length ≤ ps_a y → ps_a y ≤ N → ∀ S A, stm S0 S m p q0 A0 A (ps_a y) (ps_n y) (ps_s y) O → px_P d px_m_Model_readExpression (pc, [(0, .ref m), (1, .int w)], []) S Q
def xW (m p : Nat) (q0 : Nat → Int32) (A0 : Nat → Nat → Int32) (S0 : px_S) (Q : Option Value → px_S → Prop) (a : Nat) : Prop :=
  ∀ S A n st O S', stm S0 S m p q0 A0 A a n st O → px_Up S S' (m + 4) (.inl (0, 96, .inl (upd (A 4) p (nI a)))) → Q (some (.int 0)) S'
theorem xK.ev {d m p N pc : Nat} {q0 : Nat → Int32} {A0 : Nat → Nat → Int32} {S0 : px_S} {Q : Option Value → px_S → Prop} {w : Int32} {y z : ps} {O : List Nat} (e : eqv y z) (h : xK d m p N q0 A0 S0 Q pc w y O) : xK d m p N q0 A0 S0 Q pc w z O := by
  intro h1 h2 S A h3
  exact h (by rw [e.1, e.2.1]; exact h1) (by rw [e.1]; exact h2) S A (h3.ev e)
theorem xK_atom {d m p N : Nat} {tx : Nat → Nat} {q0 : Nat → Int32} {A0 : Nat → Nat → Int32} {S0 : px_S} {Q : Option Value → px_S → Prop} {y : ps} {O : List Nat} (hd : 3 ≤ d) (ht : mt A0 p tx N)
    (kB : (cn tx N (nx tx N (ps_a y)) = 91 ∨ cn tx N (nx tx N (ps_a y)) = 40) → brk O < 12 → xK d m p N q0 A0 S0 Q 7 1 (ps_at y (nx tx N (ps_a y) + 1)) (cn tx N (nx tx N (ps_a y)) :: O))
    (kS : ∀ s z, pz_atom tx N (p / 12) none y = (some s, z) → xK d m p N q0 A0 S0 Q 39 0 z O)
    (kN : ∀ z, ¬ ((cn tx N (nx tx N (ps_a y)) = 91 ∨ cn tx N (nx tx N (ps_a y)) = 40) ∧ brk O < 12) → pz_atom tx N (p / 12) none y = (none, z) → xW m p q0 A0 S0 Q (ps_a z)) : xK d m p N q0 A0 S0 Q 7 1 y O := by
  intro h1 h2 S A h
  have hp : p < 96 := ht.2.2.2.2
  have c0 := h.1.1
  have n1 := nx_le (tx := tx) h2
  refine px_P.sn 1 (f1 := (8, [(0, .ref m), (1, .int 1)], [.int 1])) (S1 := S) rfl ?_
  refine px_P.if_eq rfl rfl (fun h => absurd h ((by decide))) (fun _ => ?_)
  refine px_P.sn 1 (f1 := (12, [(0, .ref m), (1, .int 1)], [.ref m])) (S1 := S) rfl ?_
  refine px_P.cv rfl rfl rfl (by assumption) rfl ?_
  show px_M _ px_m_Model_readAtom [.ref m] S _
  refine pm_moAtom hd ht h h1 h2 (fun b1 b2 S1 A1 g hl => ?_) (fun s z hz S1 A1 g => ?_) (fun z nb hz S1 A1 g => ?_)
  · show px_P _ _ (15, [(0, .ref m), (1, .int 1)], [.int 0]) S1 _
    refine px_P.sn 2 (f1 := (17, [(0, .ref m), (1, .int 1), (2, .int 0)], [.int 0])) (S1 := S1) rfl ?_
    refine px_P.if_ge rfl rfl (fun _ => ?_) (fun h => absurd ((by decide)) h)
    refine px_P.sn 1 (f1 := (26, [(0, .ref m), (1, .int 1), (2, .int 0)], [.int 0])) (S1 := S1) rfl ?_
    refine px_P.if_ne rfl rfl (fun h => absurd ((by decide)) h) (fun _ => ?_)
    refine px_P.sn 4 (f1 := (36, [(0, .ref m), (1, .int 1), (2, .int 0)], [.int 1])) (S1 := S1) rfl ?_
    refine px_P.if_ne rfl rfl (fun _ => ?_) (fun h => absurd h ((by decide)))
    show px_P _ _ (7, [(0, .ref m), (1, .int 1), (2, .int 0)], []) S1 _
    refine px_P.wk (ls := [(0, .ref m), (1, .int 1)]) rfl (.cons_cons _ (.cons_cons _ (.cons _ .slnil))) ?_
    exact kB b1 b2 (by show ps_n y + (O.length + 1) ≤ nx tx N (ps_a y) + 1; omega) (by show nx tx N (ps_a y) + 1 ≤ N; omega) S1 A1 g
  · have q := pg_atom (tx := tx) (N := N) (m := p / 12) (I := none) (by omega) (fun J e => by cases e) y h2
    rw [hz] at q
    have q1 := q.2.1
    have q2 := q.2.2.2.1
    simp only at q1 q2
    show px_P _ _ (15, [(0, .ref m), (1, .int 1)], [.int 1]) S1 _
    refine px_P.sn 2 (f1 := (17, [(0, .ref m), (1, .int 1), (2, .int 1)], [.int 1])) (S1 := S1) rfl ?_
    refine px_P.if_ge rfl rfl (fun _ => ?_) (fun h => absurd ((by decide)) h)
    refine px_P.sn 1 (f1 := (26, [(0, .ref m), (1, .int 1), (2, .int 1)], [.int 1])) (S1 := S1) rfl ?_
    refine px_P.if_ne rfl rfl (fun _ => ?_) (fun h => absurd h ((by decide)))
    refine px_P.sn 3 (f1 := (36, [(0, .ref m), (1, .int 0), (2, .int 1)], [.int 0])) (S1 := S1) rfl ?_
    refine px_P.if_ne rfl rfl (fun h => absurd ((by decide)) h) (fun _ => ?_)
    show px_P _ _ (39, [(0, .ref m), (1, .int 0), (2, .int 1)], []) S1 _
    refine px_P.wk (ls := [(0, .ref m), (1, .int 0)]) rfl (.cons_cons _ (.cons_cons _ (.cons _ .slnil))) ?_
    exact kS s z hz (by omega) q1 S1 A1 g
  · have cg := g.1.1
    show px_P _ _ (15, [(0, .ref m), (1, .int 1)], [.int (-1)]) S1 _
    refine px_P.sn 2 (f1 := (17, [(0, .ref m), (1, .int 1), (2, .int (-1))], [.int (-1)])) (S1 := S1) rfl ?_
    refine px_P.if_ge rfl rfl (fun h => absurd h ((by decide))) (fun _ => ?_)
    refine px_P.sn 1 (f1 := (21, [(0, .ref m), (1, .int 1), (2, .int (-1))], [.ref m])) (S1 := S1) rfl ?_
    refine px_P.cv rfl rfl rfl (by assumption) rfl ?_
    show px_M _ px_m_Model_wrong [.ref m] S1 _
    refine pm_moWrong (by omega) hp g (fun S2 u2 => ?_)
    show px_P _ _ (24, [(0, .ref m), (1, .int 1), (2, .int (-1))], [.int 0]) S2 _
    refine px_P.ret rfl ?_
    exact kN z nb hz S1 A1 _ _ O S2 g u2
theorem xK_behind {d m p N s : Nat} {tx : Nat → Nat} {q0 : Nat → Int32} {A0 : Nat → Nat → Int32} {S0 : px_S} {Q : Option Value → px_S → Prop} {y : ps} {O : List Nat} (hd : 3 ≤ d) (ht : mt A0 p tx N)
    (kT : ∀ r z, pz_endL tx N 60 s y = (some r, z) → nx tx N (ps_a z) = ps_a z → ps_a z ≤ N → xK d m p N q0 A0 S0 Q 51 0 z O)
    (kF : ∀ z, pz_endL tx N 60 s y = (none, z) → xW m p q0 A0 S0 Q (ps_a z)) : xK d m p N q0 A0 S0 Q 39 0 y O := by
  intro h1 h2 S A h
  have hp : p < 96 := ht.2.2.2.2
  have c0 := h.1.1
  refine px_P.sn 1 (f1 := (40, [(0, .ref m), (1, .int 0)], [.ref m])) (S1 := S) rfl ?_
  refine px_P.cv rfl rfl rfl (by assumption) rfl ?_
  show px_M _ px_m_Model_readBehind [.ref m] S _
  refine pm_moBehind (s := s) hd ht h h1 h2 (fun r z hz hn hl hlN S1 A1 g => ?_) (fun z hz S1 A1 n' st' g => ?_)
  · show px_P _ _ (43, [(0, .ref m), (1, .int 0)], [.int 1]) S1 _
    refine px_P.if_ne rfl rfl (fun _ => ?_) (fun h => absurd h ((by decide)))
    exact kT r z hz hn hlN hl hlN S1 A1 g
  · have cg := g.1.1
    show px_P _ _ (43, [(0, .ref m), (1, .int 0)], [.int 0]) S1 _
    refine px_P.if_ne rfl rfl (fun h => absurd ((by decide)) h) (fun _ => ?_)
    refine px_P.sn 1 (f1 := (47, [(0, .ref m), (1, .int 0)], [.ref m])) (S1 := S1) rfl ?_
    refine px_P.cv rfl rfl rfl (by assumption) rfl ?_
    show px_M _ px_m_Model_wrong [.ref m] S1 _
    refine pm_moWrong (by omega) hp g (fun S2 u2 => ?_)
    show px_P _ _ (50, [(0, .ref m), (1, .int 0)], [.int 0]) S2 _
    refine px_P.ret rfl ?_
    exact kF z hz S1 A1 _ _ O S2 g u2
set_option maxRecDepth 20000 in
/-- the tail of an operator: it is opened -/
theorem xK_op {d m p N i : Nat} {c : Int32} {tx : Nat → Nat} {q0 : Nat → Int32} {A0 A : Nat → Nat → Int32} {S0 S : px_S} {Q : Option Value → px_S → Prop} {y : ps} {O : List Nat} (ht : mt A0 p tx N) (hi : (c = 124 ∧ i = 7) ∨ (c = 43 ∧ i = 8)) (h1 : ps_n y + O.length ≤ ps_a y) (h2 : ps_a y < N) (h : stm S0 S m p q0 A0 A (ps_a y) (ps_n y) (ps_s y) O)
    (k : xK d m p N q0 A0 S0 Q 7 1 (ps_at y (ps_a y + 1)) ((100 * ps_a y + i) :: O)) : px_P d px_m_Model_readExpression (94, [(0, .ref m), (1, .int 0), (2, .int c)], []) S Q := by
  have hN : N ≤ 60 := ht.2.2.2.1
  have c0 := h.1.1
  generalize ea : ps_a y = a at *
  have fin : ∀ x : Int32, x = nI i → px_P d px_m_Model_readExpression (122, [(0, .ref m), (1, .int 0), (2, .int c)], [.int x, .int (100 * nI a), .int (nI O.length), .ref (m + 24)]) S Q := by
    intro x hx
    subst hx
    have r24 : S.1 (m + 24) = some (.inl (0, 64, .inl (A 24))) := h.1.2 24 (by decide) (by decide)
    refine px_P.sn 1 (f1 := (123, [(0, .ref m), (1, .int 0), (2, .int c)], [.int ((100 * nI a) + (nI i)), .int (nI O.length), .ref (m + 24)])) (S1 := S) rfl ?_
    rw [show (100 : Int32) * nI a + nI i = nI (100 * a + i) by rw [show (100 : Int32) = nI 100 from rfl, pk_mul, nI_add]]
    refine px_P.iastj (j := O.length) rfl (by assumption) rfl (by omega) (by decide) (fun S1 u1 => ?_)
    have g1 := h.1.ar (i := 24) (by decide) (by decide) u1
    have c1 := g1.1
    refine px_P.sn 2 (f1 := (126, [(0, .ref m), (1, .int 0), (2, .int c)], [.ref m, .ref m])) (S1 := S1) rfl ?_
    refine px_P.gf rfl rfl (by assumption) (v := .int (nI O.length)) rfl ?_
    refine px_P.sn 2 (f1 := (131, [(0, .ref m), (1, .int 0), (2, .int c)], [.int ((nI O.length) + 1), .ref m])) (S1 := S1) rfl ?_
    rw [nI_1]
    refine px_P.pf rfl rfl (by assumption) rfl (fun S2 u2 => ?_)
    have h3 := h.push (o := 100 * a + i) (by omega) u1 u2
    have c2 := h3.1.1
    refine px_P.sn 2 (f1 := (136, [(0, .ref m), (1, .int 0), (2, .int c)], [.ref m, .ref m])) (S1 := S2) rfl ?_
    refine px_P.gf rfl rfl (by assumption) (v := .int (nI a)) rfl ?_
    refine px_P.sn 2 (f1 := (141, [(0, .ref m), (1, .int 0), (2, .int c)], [.int ((nI a) + 1), .ref m])) (S1 := S2) rfl ?_
    rw [nI_1]
    refine px_P.pf rfl rfl (by assumption) rfl (fun S3 u3 => ?_)
    have h4 := h3.pl (a' := a + 1) u3
    refine px_P.sn 4 (f1 := (7, [(0, .ref m), (1, .int 1), (2, .int c)], [])) (S1 := S3) rfl ?_
    show px_P _ _ (7, [(0, .ref m), (1, .int 1), (2, .int c)], []) S3 _
    refine px_P.wk (ls := [(0, .ref m), (1, .int 1)]) rfl (.cons_cons _ (.cons_cons _ (.cons _ .slnil))) ?_
    exact k (by show ps_n y + (O.length + 1) ≤ a + 1; omega) (by show a + 1 ≤ N; omega) S3 _ h4
  refine px_P.sn 1 (f1 := (95, [(0, .ref m), (1, .int 0), (2, .int c)], [.ref m])) (S1 := S) rfl ?_
  refine px_P.gf rfl rfl (by assumption) (v := .ref (m + 24)) rfl ?_
  refine px_P.sn 1 (f1 := (99, [(0, .ref m), (1, .int 0), (2, .int c)], [.ref m, .ref (m + 24)])) (S1 := S) rfl ?_
  refine px_P.gf rfl rfl (by assumption) (v := .int (nI O.length)) rfl ?_
  refine px_P.sn 2 (f1 := (105, [(0, .ref m), (1, .int 0), (2, .int c)], [.ref m, .int 100, .int (nI O.length), .ref (m + 24)])) (S1 := S) rfl ?_
  refine px_P.gf rfl rfl (by assumption) (v := .int (nI a)) rfl ?_
  refine px_P.sn 3 (f1 := (112, [(0, .ref m), (1, .int 0), (2, .int c)], [.int 124, .int c, .int (100 * (nI a)), .int (nI O.length), .ref (m + 24)])) (S1 := S) rfl ?_
  rcases hi with ⟨e1, e2⟩ | ⟨e1, e2⟩
  · refine px_P.ic_ne rfl rfl (fun h => absurd (e1) h) (fun _ => ?_)
    refine px_P.sn 2 (f1 := (122, [(0, .ref m), (1, .int 0), (2, .int c)], [.int 7, .int (100 * (nI a)), .int (nI O.length), .ref (m + 24)])) (S1 := S) rfl ?_
    exact fin 7 (by rw [e2]; rfl)
  · refine px_P.ic_ne rfl rfl (fun _ => ?_) (fun h => absurd h ((show ¬ c = 124 by rw [e1]; decide)))
    refine px_P.sn 1 (f1 := (122, [(0, .ref m), (1, .int 0), (2, .int c)], [.int 8, .int (100 * nI a), .int (nI O.length), .ref (m + 24)])) (S1 := S) rfl ?_
    exact fin 8 (by rw [e2]; rfl)
theorem xK_or {d m p N : Nat} {tx : Nat → Nat} {q0 : Nat → Int32} {A0 : Nat → Nat → Int32} {S0 : px_S} {Q : Option Value → px_S → Prop} {y : ps} {O : List Nat} (hd : 3 ≤ d) (ht : mt A0 p tx N) (hn : nx tx N (ps_a y) = ps_a y) (hc : cn tx N (ps_a y) = 124)
    (k : xK d m p N q0 A0 S0 Q 7 1 (ps_a y + 1, (jn false O (ps_n y) (ps_s y)).1, (jn false O (ps_n y) (ps_s y)).2.1, ps_w y) ((100 * ps_a y + 7) :: (jn false O (ps_n y) (ps_s y)).2.2)) : xK d m p N q0 A0 S0 Q 51 0 y O := by
  intro h1 h2 S A h
  have hN : N ≤ 60 := ht.2.2.2.1
  have hp : p < 96 := ht.2.2.2.2
  have c0 := h.1.1
  have haN : ps_a y < N := cn_lt (tx := tx) (by omega)
  have jl := jn_len false O (ps_n y) (ps_s y)
  refine px_P.sn 1 (f1 := (52, [(0, .ref m), (1, .int 0)], [.ref m])) (S1 := S) rfl ?_
  refine px_P.cv rfl rfl rfl (by assumption) rfl ?_
  show px_M _ px_m_Model_look [.ref m] S _
  refine pm_stLook (by omega) ht h h2 (fun S1 g1 => ?_)
  rw [hn] at g1 ⊢
  rw [hc]
  have c1 := g1.1.1
  show px_P _ _ (55, [(0, .ref m), (1, .int 0)], [.int 124]) S1 _
  show px_P _ _ (55, [(0, .ref m), (1, .int 0)], [.int 124]) S1 _
  refine px_P.sn 3 (f1 := (59, [(0, .ref m), (1, .int 0), (2, .int 124)], [.int 124, .int 124])) (S1 := S1) rfl ?_
  refine px_P.ic_eq rfl rfl (fun _ => ?_) (fun h => absurd ((by decide)) h)
  refine px_P.sn 3 (f1 := (72, [(0, .ref m), (1, .int 0), (2, .int 124)], [.int 43, .int 124, .ref m])) (S1 := S1) rfl ?_
  refine px_P.ic_ne rfl rfl (fun _ => ?_) (fun h => absurd h ((by decide)))
  refine px_P.sn 1 (f1 := (80, [(0, .ref m), (1, .int 0), (2, .int 124)], [.int 0, .ref m])) (S1 := S1) rfl ?_
  refine px_P.cv rfl rfl rfl (by assumption) rfl ?_
  show px_M _ px_m_Model_join [.ref m, .int 0] S1 _
  show px_M _ px_m_Model_join [.ref m, .int (bif false then 1 else 0)] S1 _
  refine pm_moJoin (by omega) hp (by omega) g1 (fun S2 A2 g2 => ?_)
  have c2 := g2.1.1
  show px_P _ _ (83, [(0, .ref m), (1, .int 0), (2, .int 124)], []) S2 _
  refine px_P.sn 2 (f1 := (86, [(0, .ref m), (1, .int 0), (2, .int 124)], [.int 124, .int 124])) (S1 := S2) rfl ?_
  refine px_P.ic_ne rfl rfl (fun h => absurd ((by decide)) h) (fun _ => ?_)
  refine px_P.sn 2 (f1 := (91, [(0, .ref m), (1, .int 0), (2, .int 124)], [.int 0, .ref m])) (S1 := S2) rfl ?_
  refine px_P.cv rfl rfl rfl (by assumption) rfl ?_
  show px_M _ px_m_Model_join [.ref m, .int 0] S2 _
  show px_M _ px_m_Model_join [.ref m, .int (bif false then 1 else 0)] S2 _
  refine pm_moJoin (by omega) hp (by omega) g2 (fun S3 A3 g3 => ?_)
  rw [jn_tp (jn_top false O _ _)] at g3
  show px_P _ _ (94, [(0, .ref m), (1, .int 0), (2, .int 124)], []) S3 _
  exact xK_op (y := (ps_a y, (jn false O (ps_n y) (ps_s y)).1, (jn false O (ps_n y) (ps_s y)).2.1, ps_w y)) (i := 7) (O := (jn false O (ps_n y) (ps_s y)).2.2) (tx := tx) ht (Or.inl ⟨rfl, rfl⟩) (by show (jn false O (ps_n y) (ps_s y)).1 + _ ≤ ps_a y; omega) haN g3 k
theorem xK_plus {d m p N : Nat} {tx : Nat → Nat} {q0 : Nat → Int32} {A0 : Nat → Nat → Int32} {S0 : px_S} {Q : Option Value → px_S → Prop} {y : ps} {O : List Nat} (hd : 3 ≤ d) (ht : mt A0 p tx N) (hn : nx tx N (ps_a y) = ps_a y) (hc : cn tx N (ps_a y) = 43)
    (k : xK d m p N q0 A0 S0 Q 7 1 (ps_a y + 1, (jn true O (ps_n y) (ps_s y)).1, (jn true O (ps_n y) (ps_s y)).2.1, ps_w y) ((100 * ps_a y + 8) :: (jn true O (ps_n y) (ps_s y)).2.2)) : xK d m p N q0 A0 S0 Q 51 0 y O := by
  intro h1 h2 S A h
  have hN : N ≤ 60 := ht.2.2.2.1
  have hp : p < 96 := ht.2.2.2.2
  have c0 := h.1.1
  have haN : ps_a y < N := cn_lt (tx := tx) (by omega)
  have jl := jn_len true O (ps_n y) (ps_s y)
  refine px_P.sn 1 (f1 := (52, [(0, .ref m), (1, .int 0)], [.ref m])) (S1 := S) rfl ?_
  refine px_P.cv rfl rfl rfl (by assumption) rfl ?_
  show px_M _ px_m_Model_look [.ref m] S _
  refine pm_stLook (by omega) ht h h2 (fun S1 g1 => ?_)
  rw [hn] at g1 ⊢
  rw [hc]
  have c1 := g1.1.1
  show px_P _ _ (55, [(0, .ref m), (1, .int 0)], [.int 43]) S1 _
  show px_P _ _ (55, [(0, .ref m), (1, .int 0)], [.int 43]) S1 _
  refine px_P.sn 3 (f1 := (59, [(0, .ref m), (1, .int 0), (2, .int 43)], [.int 124, .int 43])) (S1 := S1) rfl ?_
  refine px_P.ic_eq rfl rfl (fun h => absurd h ((by decide))) (fun _ => ?_)
  refine px_P.sn 2 (f1 := (65, [(0, .ref m), (1, .int 0), (2, .int 43)], [.int 43, .int 43])) (S1 := S1) rfl ?_
  refine px_P.ic_ne rfl rfl (fun h => absurd ((by decide)) h) (fun _ => ?_)
  refine px_P.sn 3 (f1 := (72, [(0, .ref m), (1, .int 0), (2, .int 43)], [.int 43, .int 43, .ref m])) (S1 := S1) rfl ?_
  refine px_P.ic_ne rfl rfl (fun h => absurd ((by decide)) h) (fun _ => ?_)
  refine px_P.sn 2 (f1 := (80, [(0, .ref m), (1, .int 0), (2, .int 43)], [.int 1, .ref m])) (S1 := S1) rfl ?_
  refine px_P.cv rfl rfl rfl (by assumption) rfl ?_
  show px_M _ px_m_Model_join [.ref m, .int 1] S1 _
  show px_M _ px_m_Model_join [.ref m, .int (bif true then 1 else 0)] S1 _
  refine pm_moJoin (by omega) hp (by omega) g1 (fun S2 A2 g2 => ?_)
  have c2 := g2.1.1
  show px_P _ _ (83, [(0, .ref m), (1, .int 0), (2, .int 43)], []) S2 _
  refine px_P.sn 2 (f1 := (86, [(0, .ref m), (1, .int 0), (2, .int 43)], [.int 124, .int 43])) (S1 := S2) rfl ?_
  refine px_P.ic_ne rfl rfl (fun _ => ?_) (fun h => absurd h ((by decide)))
  exact xK_op (y := (ps_a y, (jn true O (ps_n y) (ps_s y)).1, (jn true O (ps_n y) (ps_s y)).2.1, ps_w y)) (i := 8) (O := (jn true O (ps_n y) (ps_s y)).2.2) (tx := tx) ht (Or.inr ⟨rfl, rfl⟩) (by show (jn true O (ps_n y) (ps_s y)).1 + _ ≤ ps_a y; omega) haN g2 k
