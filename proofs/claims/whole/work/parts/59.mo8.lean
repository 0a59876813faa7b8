/-! ===== the model: a bracket is closed; the end of an expression ===== -/
/-- behind an atom with its endings, at neither | nor +: what is open is joined -/
theorem xK_all {d m p N : Nat} {tx : Nat → Nat} {q0 : Nat → Int32} {A0 : Nat → Nat → Int32} {S0 : px_S} {Q : Option Value → px_S → Prop} {y : ps} {O : List Nat} (hd : 3 ≤ d) (ht : mt A0 p tx N) (hn : nx tx N (ps_a y) = ps_a y) (hc1 : ¬ cn tx N (ps_a y) = 124) (hc2 : ¬ cn tx N (ps_a y) = 43)
    (k : ps_n y + O.length ≤ ps_a y → ps_a y ≤ N → ∀ S A, stm S0 S m p q0 A0 A (ps_a y) (jn true O (ps_n y) (ps_s y)).1 (jn true O (ps_n y) (ps_s y)).2.1 (jn true O (ps_n y) (ps_s y)).2.2 → px_P d px_m_Model_readExpression (154, [(0, .ref m), (1, .int 0), (2, .int (nI (cn tx N (ps_a y))))], []) S Q) : xK d m p N q0 A0 S0 Q 51 0 y O := by
  intro h1 h2 S A h
  have hN : N ≤ 60 := ht.2.2.2.1
  have hp : p < 96 := ht.2.2.2.2
  have c0 := h.1.1
  have hk := k h1 h2
  have h255 : cn tx N (ps_a y) ≤ 255 := ht.cn _
  refine px_P.sn 1 (f1 := (52, [(0, .ref m), (1, .int 0)], [.ref m])) (S1 := S) rfl ?_
  refine px_P.cv rfl rfl rfl (by assumption) rfl ?_
  show px_M _ px_m_Model_look [.ref m] S _
  refine pm_stLook (by omega) ht h h2 (fun S1 g1 => ?_)
  rw [hn] at g1 ⊢
  generalize cn tx N (ps_a y) = c at *
  have c1 := g1.1.1
  show px_P _ _ (55, [(0, .ref m), (1, .int 0)], [.int (nI c)]) S1 _
  refine px_P.sn 3 (f1 := (59, [(0, .ref m), (1, .int 0), (2, .int (nI c))], [.int 124, .int (nI c)])) (S1 := S1) rfl ?_
  refine px_P.ic_eq rfl rfl (fun h => absurd h ((fun z => hc1 ((nI_eq (b := 124) (by omega) (by decide)).mp z)))) (fun _ => ?_)
  refine px_P.sn 2 (f1 := (65, [(0, .ref m), (1, .int 0), (2, .int (nI c))], [.int 43, .int (nI c)])) (S1 := S1) rfl ?_
  refine px_P.ic_ne rfl rfl (fun _ => ?_) (fun h => absurd h ((fun z => hc2 ((nI_eq (b := 43) (by omega) (by decide)).mp z))))
  refine px_P.sn 2 (f1 := (151, [(0, .ref m), (1, .int 0), (2, .int (nI c))], [.int 1, .ref m])) (S1 := S1) rfl ?_
  refine px_P.cv rfl rfl rfl (by assumption) rfl ?_
  show px_M _ px_m_Model_join [.ref m, .int 1] S1 _
  show px_M _ px_m_Model_join [.ref m, .int (bif true then 1 else 0)] S1 _
  refine pm_moJoin (by omega) hp (by omega) g1 (fun S2 A2 g2 => ?_)
  show px_P _ _ (154, [(0, .ref m), (1, .int 0), (2, .int (nI c))], []) S2 _
  exact hk S2 A2 g2
set_option maxRecDepth 20000 in
theorem xK_close {d m p N b : Nat} {tx : Nat → Nat} {q0 : Nat → Int32} {A0 : Nat → Nat → Int32} {S0 : px_S} {Q : Option Value → px_S → Prop} {y : ps} {O O' : List Nat} (hd : 3 ≤ d) (ht : mt A0 p tx N) (hn : nx tx N (ps_a y) = ps_a y) (hc1 : ¬ cn tx N (ps_a y) = 124) (hc2 : ¬ cn tx N (ps_a y) = 43) (hO : (jn true O (ps_n y) (ps_s y)).2.2 = b :: O')
    (kW : ¬ cn tx N (ps_a y) = (if b = 91 then 93 else 41) → xW m p q0 A0 S0 Q (ps_a y))
    (k : cn tx N (ps_a y) = (if b = 91 then 93 else 41) → xK d m p N q0 A0 S0 Q 39 0 (if b = 91 then (ps_a y + 1, (jn true O (ps_n y) (ps_s y)).1 + 1, va_up (jn true O (ps_n y) (ps_s y)).2.1 (jn true O (ps_n y) (ps_s y)).1 (2, 0, 0, ps_a y), ps_w y) else (ps_a y + 1, (jn true O (ps_n y) (ps_s y)).1, (jn true O (ps_n y) (ps_s y)).2.1, ps_w y)) O') : xK d m p N q0 A0 S0 Q 51 0 y O := by
  refine xK_all hd ht hn hc1 hc2 (fun h1 h2 S A h => ?_)
  have hN : N ≤ 60 := ht.2.2.2.1
  have hp : p < 96 := ht.2.2.2.2
  have jl := jn_len true O (ps_n y) (ps_s y)
  rw [hO] at h jl
  simp only [List.length_cons] at jl
  have h255 : cn tx N (ps_a y) ≤ 255 := ht.cn _
  have haN : cn tx N (ps_a y) = (if b = 91 then 93 else 41) → ps_a y < N := fun z => cn_lt (tx := tx) (by rw [z]; split <;> decide)
  generalize cn tx N (ps_a y) = c at *
  generalize (jn true O (ps_n y) (ps_s y)).1 = n at *
  generalize (jn true O (ps_n y) (ps_s y)).2.1 = st at *
  generalize ps_a y = a at *
  have c0 : S.1 m = some (.inr (10, mo_ob m (mq q0 (nI a) (nI p) (nI (O'.length + 1))))) := h.1.1
  obtain ⟨t1, t2, t3⟩ := h.2.2.2.2.tl
  have no : ¬ c = (if b = 91 then 93 else 41) → px_P d px_m_Model_readExpression (221, [(0, .ref m), (1, .int 0), (2, .int (nI c))], []) S Q := by
    intro z
    refine px_P.sn 1 (f1 := (222, [(0, .ref m), (1, .int 0), (2, .int (nI c))], [.ref m])) (S1 := S) rfl ?_
    refine px_P.cv rfl rfl rfl (by assumption) rfl ?_
    show px_M _ px_m_Model_wrong [.ref m] S _
    refine pm_moWrong (by omega) hp h (fun S2 u2 => ?_)
    show px_P _ _ (225, [(0, .ref m), (1, .int 0), (2, .int (nI c))], [.int 0]) S2 _
    refine px_P.ret rfl ?_
    exact kW z S A _ _ _ S2 h u2
  have yes : c = (if b = 91 then 93 else 41) → px_P d px_m_Model_readExpression (226, [(0, .ref m), (1, .int 0), (2, .int (nI c))], []) S Q := by
    intro z
    have kk := k z
    have haN' := haN z
    have fin : ∀ (S1 : px_S) (A1 : Nat → Nat → Int32) (y1 : ps), stm S0 S1 m p q0 A0 A1 a (ps_n y1) (ps_s y1) O' → ps_a y1 = a + 1 → ps_n y1 + O'.length ≤ a + 1 → xK d m p N q0 A0 S0 Q 39 0 y1 O' → px_P d px_m_Model_readExpression (260, [(0, .ref m), (1, .int 0), (2, .int (nI c))], []) S1 Q := by
      intro S1 A1 y1 g1 g2 g3 g4
      have c1 := g1.1.1
      refine px_P.sn 2 (f1 := (262, [(0, .ref m), (1, .int 0), (2, .int (nI c))], [.ref m, .ref m])) (S1 := S1) rfl ?_
      refine px_P.gf rfl rfl (by assumption) (v := .int (nI a)) rfl ?_
      refine px_P.sn 2 (f1 := (267, [(0, .ref m), (1, .int 0), (2, .int (nI c))], [.int ((nI a) + 1), .ref m])) (S1 := S1) rfl ?_
      rw [nI_1]
      refine px_P.pf rfl rfl (by assumption) rfl (fun S2 u2 => ?_)
      have g5 := g1.pl (a' := a + 1) u2
      refine px_P.sn 1 (f1 := (7, [(0, .ref m), (1, .int 0), (2, .int (nI c))], [])) (S1 := S2) rfl ?_
      refine px_P.sn 1 (f1 := (8, [(0, .ref m), (1, .int 0), (2, .int (nI c))], [.int 0])) (S1 := S2) rfl ?_
      refine px_P.if_eq rfl rfl (fun _ => ?_) (fun h => absurd ((by decide)) h)
      refine px_P.sn 1 (f1 := (36, [(0, .ref m), (1, .int 0), (2, .int (nI c))], [.int 0])) (S1 := S2) rfl ?_
      refine px_P.if_ne rfl rfl (fun h => absurd ((by decide)) h) (fun _ => ?_)
      show px_P _ _ (39, [(0, .ref m), (1, .int 0), (2, .int (nI c))], []) S2 _
      refine px_P.wk (ls := [(0, .ref m), (1, .int 0)]) rfl (.cons_cons _ (.cons_cons _ (.cons _ .slnil))) ?_
      exact g4 (by omega) (by omega) S2 A1 (by rw [g2]; exact g5)
    refine px_P.sn 2 (f1 := (228, [(0, .ref m), (1, .int 0), (2, .int (nI c))], [.ref m, .ref m])) (S1 := S) rfl ?_
    refine px_P.gf rfl rfl (by assumption) (v := .int (nI (O'.length + 1))) rfl ?_
    refine px_P.sn 2 (f1 := (233, [(0, .ref m), (1, .int 0), (2, .int (nI c))], [.int ((nI (O'.length + 1)) - 1), .ref m])) (S1 := S) rfl ?_
    rw [nI_pred]
    refine px_P.pf rfl rfl (by assumption) rfl (fun S1 u1 => ?_)
    have h3 : stm S0 S1 m p q0 A0 A a n st O' := ⟨h.1.ob u1, h.2.1.tr (mF.u (Nat.le_refl _) (by omega) u1), h.2.2.1, h.2.2.2.1, t1⟩
    have c1 := h3.1.1
    have r24 : S1.1 (m + 24) = some (.inl (0, 64, .inl (A 24))) := h3.1.2 24 (by decide) (by decide)
    refine px_P.sn 1 (f1 := (237, [(0, .ref m), (1, .int 0), (2, .int (nI c))], [.ref m])) (S1 := S1) rfl ?_
    refine px_P.gf rfl rfl (by assumption) (v := .ref (m + 24)) rfl ?_
    refine px_P.sn 1 (f1 := (241, [(0, .ref m), (1, .int 0), (2, .int (nI c))], [.ref m, .ref (m + 24)])) (S1 := S1) rfl ?_
    refine px_P.gf rfl rfl (by assumption) (v := .int (nI O'.length)) rfl ?_
    refine px_P.ialdj (j := O'.length) rfl (by assumption) rfl (by omega) (by decide) ?_
    rw [t2]
    refine px_P.sn 1 (f1 := (247, [(0, .ref m), (1, .int 0), (2, .int (nI c))], [.int 91, .int (nI b)])) (S1 := S1) rfl ?_
    refine px_P.ic_ne rfl rfl (fun q => ?_) (fun q => ?_)
    · rw [if_neg (fun z => q (by rw [z]; rfl))] at kk
      exact fin S1 A _ h3 rfl (by show n + O'.length ≤ a + 1; omega) kk
    · rw [if_pos ((nI_eq (b := 91) (by omega) (by decide)).mp q)] at kk
      refine px_P.sn 4 (f1 := (254, [(0, .ref m), (1, .int 0), (2, .int (nI c))], [.ref m, .int 0, .int 3, .ref m])) (S1 := S1) rfl ?_
      refine px_P.gf rfl rfl (by assumption) (v := .int (nI a)) rfl ?_
      refine px_P.cv rfl rfl rfl (by assumption) rfl ?_
      show px_M _ px_m_Model_step [.ref m, .int 3, .int 0, .int (nI a)] S1 _
      show px_M _ px_m_Model_step [.ref m, .int (nI 3), .int (nI 0), .int (nI a)] S1 _
      refine pm_moStep (q4 := (2, 0, 0, a)) (by omega) hp (by omega) h3 rfl rfl (fun _ => rfl) (fun S2 A2 h4 => ?_)
      show px_P _ _ (260, [(0, .ref m), (1, .int 0), (2, .int (nI c))], []) S2 _
      exact fin S2 A2 _ h4 rfl (by show n + 1 + O'.length ≤ a + 1; omega) kk
  have r24 : S.1 (m + 24) = some (.inl (0, 64, .inl (A 24))) := h.1.2 24 (by decide) (by decide)
  refine px_P.sn 1 (f1 := (155, [(0, .ref m), (1, .int 0), (2, .int (nI c))], [.ref m])) (S1 := S) rfl ?_
  refine px_P.gf rfl rfl (by assumption) (v := .int (nI (O'.length + 1))) rfl ?_
  refine px_P.if_ne rfl rfl (fun _ => ?_) (fun h => absurd h ((nI_ne0 (by omega) (by omega))))
  refine px_P.sn 2 (f1 := (196, [(0, .ref m), (1, .int 0), (2, .int (nI c))], [.ref m, .int (nI c)])) (S1 := S) rfl ?_
  refine px_P.gf rfl rfl (by assumption) (v := .ref (m + 24)) rfl ?_
  refine px_P.sn 1 (f1 := (200, [(0, .ref m), (1, .int 0), (2, .int (nI c))], [.ref m, .ref (m + 24), .int (nI c)])) (S1 := S) rfl ?_
  refine px_P.gf rfl rfl (by assumption) (v := .int (nI (O'.length + 1))) rfl ?_
  refine px_P.sn 2 (f1 := (205, [(0, .ref m), (1, .int 0), (2, .int (nI c))], [.int ((nI (O'.length + 1)) - 1), .ref (m + 24), .int (nI c)])) (S1 := S) rfl ?_
  rw [nI_pred]
  show px_P _ _ (205, [(0, .ref m), (1, .int 0), (2, .int (nI c))], [.int (nI O'.length), .ref (m + 24), .int (nI c)]) S _
  refine px_P.ialdj (j := O'.length) rfl (by assumption) rfl (by omega) (by decide) ?_
  rw [t2]
  refine px_P.sn 1 (f1 := (208, [(0, .ref m), (1, .int 0), (2, .int (nI c))], [.int 91, .int (nI b), .int (nI c)])) (S1 := S) rfl ?_
  refine px_P.ic_ne rfl rfl (fun q => ?_) (fun q => ?_)
  · have e : (if b = 91 then 93 else 41) = 41 := if_neg (fun z => q (by rw [z]; rfl))
    rw [e] at no yes
    refine px_P.sn 1 (f1 := (218, [(0, .ref m), (1, .int 0), (2, .int (nI c))], [.int 41, .int (nI c)])) (S1 := S) rfl ?_
    refine px_P.ic_eq rfl rfl (fun q2 => ?_) (fun q2 => ?_)
    · exact yes ((nI_eq (b := 41) (by omega) (by decide)).mp q2)
    · exact no (fun z => q2 (by rw [z]; rfl))
  · have e : (if b = 91 then 93 else 41) = 93 := if_pos ((nI_eq (b := 91) (by omega) (by decide)).mp q)
    rw [e] at no yes
    refine px_P.sn 2 (f1 := (218, [(0, .ref m), (1, .int 0), (2, .int (nI c))], [.int 93, .int (nI c)])) (S1 := S) rfl ?_
    refine px_P.ic_eq rfl rfl (fun q2 => ?_) (fun q2 => ?_)
    · exact yes ((nI_eq (b := 93) (by omega) (by decide)).mp q2)
    · exact no (fun z => q2 (by rw [z]; rfl))
theorem xK_end {d m p N : Nat} {tx : Nat → Nat} {q0 : Nat → Int32} {A0 : Nat → Nat → Int32} {S0 : px_S} {Q : Option Value → px_S → Prop} {y : ps} {O : List Nat} (hd : 3 ≤ d) (ht : mt A0 p tx N) (hn : nx tx N (ps_a y) = ps_a y) (hc1 : ¬ cn tx N (ps_a y) = 124) (hc2 : ¬ cn tx N (ps_a y) = 43) (hO : (jn true O (ps_n y) (ps_s y)).2.2 = [])
    (kW : ¬ cn tx N (ps_a y) = 0 → xW m p q0 A0 S0 Q (ps_a y))
    (k : cn tx N (ps_a y) = 0 → ∀ S A, stm S0 S m p q0 A0 A (ps_a y) (jn true O (ps_n y) (ps_s y)).1 (jn true O (ps_n y) (ps_s y)).2.1 [] → Q (some (.int 1)) S) : xK d m p N q0 A0 S0 Q 51 0 y O := by
  refine xK_all hd ht hn hc1 hc2 (fun h1 h2 S A h => ?_)
  have hN : N ≤ 60 := ht.2.2.2.1
  have hp : p < 96 := ht.2.2.2.2
  rw [hO] at h
  have h255 : cn tx N (ps_a y) ≤ 255 := ht.cn _
  have haN : cn tx N (ps_a y) = 0 → ps_a y = N := by
    intro z
    by_cases e : ps_a y < N
    · rw [show cn tx N (ps_a y) = tx (ps_a y) from if_pos e] at z
      have := (ht.2.2.1 _ e).1
      omega
    · omega
  have hsz : A 2 p = nI N := by rw [h.2.2.1.1 2 (by decide) (by decide) (by decide) (by decide) (by decide)]; exact ht.1
  generalize cn tx N (ps_a y) = c at *
  generalize (jn true O (ps_n y) (ps_s y)).1 = n at *
  generalize (jn true O (ps_n y) (ps_s y)).2.1 = st at *
  generalize ps_a y = a at *
  have c0 : S.1 m = some (.inr (10, mo_ob m (mq q0 (nI a) (nI p) (nI 0)))) := h.1.1
  have r2 : S.1 (m + 2) = some (.inl (0, 96, .inl (A 2))) := h.1.2 2 (by decide) (by decide)
  refine px_P.sn 1 (f1 := (155, [(0, .ref m), (1, .int 0), (2, .int (nI c))], [.ref m])) (S1 := S) rfl ?_
  refine px_P.gf rfl rfl (by assumption) (v := .int (nI 0)) rfl ?_
  refine px_P.if_ne rfl rfl (fun h => absurd ((by decide)) h) (fun _ => ?_)
  refine px_P.sn 1 (f1 := (162, [(0, .ref m), (1, .int 0), (2, .int (nI c))], [.int (nI c)])) (S1 := S) rfl ?_
  refine px_P.if_ne rfl rfl (fun q => ?_) (fun q => ?_)
  · refine px_P.sn 1 (f1 := (182, [(0, .ref m), (1, .int 0), (2, .int (nI c))], [.ref m])) (S1 := S) rfl ?_
    refine px_P.cv rfl rfl rfl (by assumption) rfl ?_
    show px_M _ px_m_Model_wrong [.ref m] S _
    refine pm_moWrong (by omega) hp h (fun S2 u2 => ?_)
    show px_P _ _ (185, [(0, .ref m), (1, .int 0), (2, .int (nI c))], [.int 0]) S2 _
    refine px_P.if_eq rfl rfl (fun _ => ?_) (fun h => absurd ((by decide)) h)
    refine px_P.sn 1 (f1 := (193, [(0, .ref m), (1, .int 0), (2, .int (nI c))], [.int 0])) (S1 := S2) rfl ?_
    refine px_P.ret rfl ?_
    exact kW (fun z => q (by rw [z]; rfl)) S A _ _ _ S2 h u2
  · have hc : c = 0 := (nI_eq (b := 0) (by omega) (by decide)).mp q
    refine px_P.sn 1 (f1 := (166, [(0, .ref m), (1, .int 0), (2, .int (nI c))], [.ref m])) (S1 := S) rfl ?_
    refine px_P.gf rfl rfl (by assumption) (v := .int (nI a)) rfl ?_
    refine px_P.sn 1 (f1 := (170, [(0, .ref m), (1, .int 0), (2, .int (nI c))], [.ref m, .int (nI a)])) (S1 := S) rfl ?_
    refine px_P.gf rfl rfl (by assumption) (v := .ref (m + 2)) rfl ?_
    refine px_P.sn 1 (f1 := (174, [(0, .ref m), (1, .int 0), (2, .int (nI c))], [.ref m, .ref (m + 2), .int (nI a)])) (S1 := S) rfl ?_
    refine px_P.gf rfl rfl (by assumption) (v := .int (nI p)) rfl ?_
    refine px_P.ialdj (j := p) rfl (by assumption) rfl (by omega) (by decide) ?_
    rw [hsz]
    show px_P _ _ (178, [(0, .ref m), (1, .int 0), (2, .int (nI c))], [.int (nI N), .int (nI a)]) S _
    refine px_P.ic_eq rfl rfl (fun _ => ?_) (fun h => absurd ((by rw [haN hc])) h)
    refine px_P.sn 2 (f1 := (193, [(0, .ref m), (1, .int 0), (2, .int (nI c))], [.int 1])) (S1 := S) rfl ?_
    refine px_P.ret rfl ?_
    exact k hc S A h
theorem xK_H {d m p N : Nat} {tx : Nat → Nat} {q0 : Nat → Int32} {A0 : Nat → Nat → Int32} {S0 : px_S} {Q : Option Value → px_S → Prop} (hd : 3 ≤ d) (ht : mt A0 p tx N) : mxH tx N (p / 12) (xK d m p N q0 A0 S0 Q 7 1) (xK d m p N q0 A0 S0 Q 39 0) (xK d m p N q0 A0 S0 Q 51 0) (xW m p q0 A0 S0 Q) := by
  refine ⟨fun y z O e => ⟨xK.ev e, xK.ev e⟩, fun y O ha nb k1 k2 => xK_atom hd ht (fun b1 b2 => absurd ⟨b1, b2⟩ nb) k1 (fun z _ => k2 z), fun y O ha b1 b2 k => xK_atom hd ht (fun _ _ => k) (fun s z hz => ?_) (fun z nb _ => absurd ⟨b1, b2⟩ nb), fun y O s ha k1 k2 => xK_behind hd ht k1 k2, fun y O ha hn hc k => xK_or hd ht hn hc k, fun y O ha hn hc k => xK_plus hd ht hn hc k, fun y O b O' ha hn c1 c2 hO kW k => xK_close hd ht hn c1 c2 hO kW k⟩
  unfold pz_atom at hz
  have l0 : lt (cn tx N (nx tx N (ps_a y))) = none := by rcases b1 with z | z <;> rw [z] <;> rfl
  have l1 : ¬ isN (cn tx N (nx tx N (ps_a y))) = true := by rcases b1 with z | z <;> rw [z] <;> decide
  have l2 : ¬ (48 ≤ cn tx N (nx tx N (ps_a y)) ∧ cn tx N (nx tx N (ps_a y)) < 56) := by omega
  simp only [l0, if_neg l1, if_neg l2, if_pos b1] at hz
  cases hz
theorem pm_moExpr {d m p N a : Nat} {tx : Nat → Nat} {v : Int32} {q0 : Nat → Int32} {A0 A : Nat → Nat → Int32} {S0 S : px_S} {Q : Option Value → px_S → Prop} (hd : 4 ≤ d) (ht : mt A0 p tx N) (ha : a ≤ N) (h1 : mo_at S m (mq q0 (nI a) (nI p) v) A) (h2 : mF S0 S m) (h3 : sth A0 A p) (h4 : A 8 p = nI 0)
    (kW : ∀ z, pz_sum tx N (p / 12) 12 (ps_0 a) = (none, z) → xW m p q0 A0 S0 Q (ps_a z))
    (kW2 : ∀ r z, pz_sum tx N (p / 12) 12 (ps_0 a) = (some r, z) → ¬ cn tx N (nx tx N (ps_a z)) = 0 → xW m p q0 A0 S0 Q (nx tx N (ps_a z)))
    (k : ∀ r z, pz_sum tx N (p / 12) 12 (ps_0 a) = (some r, z) → cn tx N (nx tx N (ps_a z)) = 0 → ∀ S A, stm S0 S m p q0 A0 A (ps_a z) (ps_n z) (ps_s z) [] → Q (some (.int 1)) S) : px_M d px_m_Model_readExpression [.ref m] S Q := by
  have hp : p < 96 := ht.2.2.2.2
  have c0 := h1.1
  refine px_M.go (by omega) (Nat.le_of_ble_eq_true rfl) ?_
  refine px_P.sn 2 (f1 := (2, [(0, .ref m)], [.int 0, .ref m])) (S1 := S) rfl ?_
  refine px_P.pf rfl rfl (by assumption) rfl (fun S1 u1 => ?_)
  have g1 : stm S0 S1 m p q0 A0 A a 0 (ps_s (ps_0 a)) [] := ⟨h1.ob u1, h2.tr (mF.u (Nat.le_refl _) (by omega) u1), h3, ⟨h4, fun k hk => absurd hk (by omega)⟩, ⟨fun j hj => absurd hj (by simp), fun o ho => by cases ho⟩⟩
  refine px_P.sn 2 (f1 := (7, [(0, .ref m), (1, .int 1)], [])) (S1 := S1) rfl ?_
  refine mx_sum ht.2.2.2.1 (by omega) (xK_H (q0 := q0) (S0 := S0) (Q := Q) (m := m) (d := d - 1) (by omega) ht) 12 0 rfl (ps_0 a) [] rfl (fun o O' e => by cases e) ha (fun r z hz hn hl c1 c2 y' O' hj => ?_) kW (by show 0 + 0 ≤ a; omega) ha S1 A g1
  obtain ⟨j1, j2, j3, j4⟩ := hj
  have kW2' := kW2 r z hz
  have k' := k r z hz
  rw [hn] at kW2' k'
  refine xK_end (by omega) ht (by rw [j1]; exact hn) (by rw [j1]; exact c1) (by rw [j1]; exact c2) j3 (by rw [j1]; exact kW2') (fun e S A g => ?_)
  rw [j1] at e g
  refine k' e S A ?_
  have := g.ev (y := z) (z := (ps_a z, (jn true O' (ps_n y') (ps_s y')).1, (jn true O' (ps_n y') (ps_s y')).2.1, ps_w z)) ⟨rfl, j2.symm, fun i hi => ?_⟩
  · exact this
  · obtain ⟨e1, e2, e3⟩ := j4 i hi
    exact ⟨e1.symm, e2.symm, fun z => (e3 (by rw [e1]; exact z)).symm⟩
