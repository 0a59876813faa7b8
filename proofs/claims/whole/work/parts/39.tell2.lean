/-! ===== Workspace: circles when asked for; tellSymbol, howMany; makers ===== -/
def cI (L : Nat → Option ln_S) (D : Nat → Int32) (H : Nat → Nat → Int64) (ls : Nat → Int32) (cc sc : Nat) : Prop := tc_is (rd L) (hr H) ∧ ci_ok H ls cc sc (fun s => decide (0 < D s))
theorem pm_wsFresh {d w tz lo ds cc sc : Nat} {la : Nat → Option Nat} {T D lk wt to : Nat → Int32} {tW : Nat → Int64} {old : Int32} {G : ln_G} {H : Nat → Nat → Int64} {ls df : Nat → Int32} {S : px_S} {Q : Option Value → px_S → Prop} (hd : 5 ≤ d) (h : ws_at S w la T D lk wt tW to tz old) (hc : ci_at S (w + 10) H ls df ds cc sc) (hlo : lo_at S lo G) (hI : wsI la G T D) (hwl : w + 430 ≤ lo) (hcI : old = 0 → cI (sp la G) D H ls cc sc)
    (k : ∀ S' H' ls' df' ds' cc' sc', ws_at S' w la T D lk wt tW to tz 0 → ci_at S' (w + 10) H' ls' df' ds' cc' sc' → cI (sp la G) D H' ls' cc' sc' → (∀ q, (q < w ∨ w + 430 ≤ q) → S'.1 q = S.1 q) → S'.2 = S.2 → Q (some (.ref (w + 10))) S') :
    px_M d px_m_Workspace_freshCircles [.ref w] S Q := by
  have h' := h
  obtain ⟨h0, h1, h2, h3, h4, h5, h6, h7, h8, h9⟩ := h
  refine px_M.go (by omega) (Nat.le_of_ble_eq_true rfl) ?_
  refine px_P.sn 1 (f1 := (1, [(0, .ref w)], [.ref w])) (S1 := S) rfl ?_
  refine px_P.gf rfl rfl (by assumption) (v := .int old) rfl ?_
  refine px_P.if_eq rfl rfl (fun hq => ?_) (fun hq => ?_)
  · refine px_P.sn 1 (f1 := (28, [(0, .ref w)], [.ref w])) (S1 := S) rfl ?_
    refine px_P.gf rfl rfl (by assumption) (v := .ref (w + 10)) rfl ?_
    refine px_P.ret rfl ?_
    rw [hq] at h'
    exact k S H ls df ds cc sc h' hc (hcI hq) (fun _ _ => rfl) rfl
  · have hc0 := hc.1
    refine px_P.sn 1 (f1 := (8, [(0, .ref w)], [.ref w])) (S1 := S) rfl ?_
    refine px_P.gf rfl rfl (by assumption) (v := .ref (w + 10)) rfl ?_
    refine px_P.sn 1 (f1 := (12, [(0, .ref w)], [.ref w, .ref (w + 10)])) (S1 := S) rfl ?_
    refine px_P.gf rfl rfl (by assumption) (v := .ref (w + 1)) rfl ?_
    refine px_P.sn 1 (f1 := (16, [(0, .ref w)], [.ref w, .ref (w + 1), .ref (w + 10)])) (S1 := S) rfl ?_
    refine px_P.gf rfl rfl (by assumption) (v := .ref (w + 2)) rfl ?_
    refine px_P.cv rfl rfl rfl (by assumption) rfl ?_
    show px_M _ px_m_Circles_find [.ref (w + 10), .ref (w + 1), .ref (w + 2)] S _
    refine pm_ciFind (by omega) hc h1 h2 h4 (by omega) (by omega) hlo hI.1 (by omega) (by omega) (fun s t hr => ?_) (fun S1 H1 l1 d1 n1 c1 s1 e1 e2 e3 e4 e5 => ?_)
    · obtain ⟨hs, ht, p, hp, z, hz, hdf, _⟩ := hr
      rw [hI.2.1 s hs]
      have : ¬ dc (sp la G) s = 0 := fun q => dc_no.mp q p z hp hz hdf
      have := dc_le (sp la G) s
      exact nI_lt (a := 0) (by omega) (by omega)
    · have m1 : ws_at S1 w la T D lk wt tW to tz old := h'.keep (fun q q1 q2 => e4 q (by omega))
      have k0 := m1.1
      show px_P _ _ (22, [(0, .ref w)], []) S1 _
      refine px_P.sn 2 (f1 := (24, [(0, .ref w)], [.int 0, .ref w])) (S1 := S1) rfl ?_
      refine px_P.pf rfl rfl (by assumption) rfl (fun S2 u2 => ?_)
      have m2 := m1.u0 u2
      have k02 := m2.1
      refine px_P.sn 1 (f1 := (28, [(0, .ref w)], [.ref w])) (S1 := S2) rfl ?_
      refine px_P.gf rfl rfl (by assumption) (v := .ref (w + 10)) rfl ?_
      refine px_P.ret rfl ?_
      exact k S2 H1 l1 d1 n1 c1 s1 m2 (e1.keep (fun q q1 q2 => u2.o (by omega))) ⟨e2, e3⟩ (fun q hq => by rw [u2.o (by omega), e4 q (by omega)]) (by rw [u2.t, e5])
/-- one way for all that may find circles anew -/
def wsQ (S : px_S) (w : Nat) (la : Nat → Option Nat) (T D lk wt : Nat → Int32) (tW : Nat → Int64) (to : Nat → Int32) (tz : Nat) (G : ln_G) (Q : Option Value → px_S → Prop) (v : (Nat → Nat → Int64) → (Nat → Int32) → Nat → Nat → Int32) : Prop :=
  ∀ S' H' ls' df' ds' cc' sc', ws_at S' w la T D lk wt tW to tz 0 → ci_at S' (w + 10) H' ls' df' ds' cc' sc' → cI (sp la G) D H' ls' cc' sc' → (∀ q, (q < w ∨ w + 430 ≤ q) → S'.1 q = S.1 q) → S'.2 = S.2 → Q (some (.int (v H' ls' cc' sc'))) S'
theorem pm_wsTellSymbol {d w tz lo ds cc sc s x : Nat} {la : Nat → Option Nat} {T D lk wt to : Nat → Int32} {tW : Nat → Int64} {old : Int32} {G : ln_G} {H : Nat → Nat → Int64} {ls df : Nat → Int32} {S : px_S} {Q : Option Value → px_S → Prop} (hd : 6 ≤ d) (h : ws_at S w la T D lk wt tW to tz old) (hc : ci_at S (w + 10) H ls df ds cc sc) (hlo : lo_at S lo G) (hI : wsI la G T D) (hwl : w + 430 ≤ lo) (hcI : old = 0 → cI (sp la G) D H ls cc sc) (hs : s < 208) (hx : x < 4)
    (k0 : x = 0 → D s = 0 → Q (some (.int (-1))) S) (k0' : x = 0 → ¬ D s = 0 → Q (some (.int (T s))) S) (k1 : x = 1 → Q (some (.int (D s))) S) (k2 : x = 2 → Q (some (.int (nI (ct (rdb (sp la G) s) 96)))) S) (k3 : x = 3 → D s = 0 → Q (some (.int (-1))) S) (k3' : x = 3 → ¬ D s = 0 → wsQ S w la T D lk wt tW to tz G Q (fun _ ls' _ _ => ls' s)) :
    px_M d px_m_Workspace_tellSymbol [.ref w, .int (nI s), .int (nI x)] S Q := by
  have h' := h
  obtain ⟨h0, h1, h2, h3, h4, h5, h6, h7, h8, h9⟩ := h
  refine px_M.go (by omega) (Nat.le_of_ble_eq_true rfl) ?_
  refine px_P.sn 1 (f1 := (1, [(0, .ref w), (1, .int (nI s)), (2, .int (nI x))], [.ref w])) (S1 := S) rfl ?_
  refine px_P.gf rfl rfl (by assumption) (v := .ref (w + 2)) rfl ?_
  refine px_P.sn 1 (f1 := (5, [(0, .ref w), (1, .int (nI s)), (2, .int (nI x))], [.int (nI s), .ref (w + 2)])) (S1 := S) rfl ?_
  refine px_P.cv rfl rfl rfl (by assumption) rfl ?_
  show px_M _ px_m_Symbols_definersOf [.ref (w + 2), .int (nI s)] S _
  refine pm_definersOf (by omega) h2 h4 hs ?_
  show px_P _ _ (8, [(0, .ref w), (1, .int (nI s)), (2, .int (nI x))], [.int (D s)]) S _
  refine px_P.sn 2 (f1 := (10, [(0, .ref w), (1, .int (nI s)), (2, .int (nI x)), (3, .int (D s))], [.int (nI x)])) (S1 := S) rfl ?_
  rcases (show x = 0 ∨ x = 1 ∨ x = 2 ∨ x = 3 by omega) with rfl | rfl | rfl | rfl
  · refine px_P.sn 1 (f1 := (36, [(0, .ref w), (1, .int (nI s)), (2, .int (nI 0)), (3, .int (D s))], [])) (S1 := S) rfl ?_
    refine px_P.sn 1 (f1 := (37, [(0, .ref w), (1, .int (nI s)), (2, .int (nI 0)), (3, .int (D s))], [.int (D s)])) (S1 := S) rfl ?_
    refine px_P.if_ne rfl rfl (fun hq => ?_) (fun hq => ?_)
    · refine px_P.sn 1 (f1 := (45, [(0, .ref w), (1, .int (nI s)), (2, .int (nI 0)), (3, .int (D s))], [.ref w])) (S1 := S) rfl ?_
      refine px_P.gf rfl rfl (by assumption) (v := .ref (w + 2)) rfl ?_
      refine px_P.sn 1 (f1 := (49, [(0, .ref w), (1, .int (nI s)), (2, .int (nI 0)), (3, .int (D s))], [.int (nI s), .ref (w + 2)])) (S1 := S) rfl ?_
      refine px_P.cv rfl rfl rfl (by assumption) rfl ?_
      show px_M _ px_m_Symbols_typeOf [.ref (w + 2), .int (nI s)] S _
      refine pm_typeOf (by omega) h2 h3 hs ?_
      show px_P _ _ (52, [(0, .ref w), (1, .int (nI s)), (2, .int (nI 0)), (3, .int (D s))], [.int (T s)]) S _
      refine px_P.ret rfl ?_
      exact k0' rfl hq
    · refine px_P.sn 2 (f1 := (52, [(0, .ref w), (1, .int (nI s)), (2, .int (nI 0)), (3, .int (D s))], [.int (-1)])) (S1 := S) rfl ?_
      refine px_P.ret rfl ?_
      exact k0 rfl hq
  · refine px_P.sn 1 (f1 := (53, [(0, .ref w), (1, .int (nI s)), (2, .int (nI 1)), (3, .int (D s))], [])) (S1 := S) rfl ?_
    refine px_P.sn 1 (f1 := (54, [(0, .ref w), (1, .int (nI s)), (2, .int (nI 1)), (3, .int (D s))], [.int (D s)])) (S1 := S) rfl ?_
    refine px_P.ret rfl ?_
    exact k1 rfl
  · refine px_P.sn 1 (f1 := (55, [(0, .ref w), (1, .int (nI s)), (2, .int (nI 2)), (3, .int (D s))], [])) (S1 := S) rfl ?_
    refine px_P.sn 2 (f1 := (57, [(0, .ref w), (1, .int (nI s)), (2, .int (nI 2)), (3, .int (D s))], [.int (nI s), .ref w])) (S1 := S) rfl ?_
    refine px_P.cv rfl rfl rfl (by assumption) rfl ?_
    show px_M _ px_m_Workspace_readersOf [.ref w, .int (nI s)] S _
    refine pm_wsReaders (by omega) h' hlo hI.1 hs ?_
    show px_P _ _ (60, [(0, .ref w), (1, .int (nI s)), (2, .int (nI 2)), (3, .int (D s))], [.int (nI (ct (rdb (sp la G) s) 96))]) S _
    refine px_P.ret rfl ?_
    exact k2 rfl
  · refine px_P.sn 1 (f1 := (61, [(0, .ref w), (1, .int (nI s)), (2, .int (nI 3)), (3, .int (D s))], [])) (S1 := S) rfl ?_
    refine px_P.sn 1 (f1 := (62, [(0, .ref w), (1, .int (nI s)), (2, .int (nI 3)), (3, .int (D s))], [.int (D s)])) (S1 := S) rfl ?_
    refine px_P.if_ne rfl rfl (fun hq => ?_) (fun hq => ?_)
    · refine px_P.sn 1 (f1 := (70, [(0, .ref w), (1, .int (nI s)), (2, .int (nI 3)), (3, .int (D s))], [.ref w])) (S1 := S) rfl ?_
      refine px_P.cv rfl rfl rfl (by assumption) rfl ?_
      show px_M _ px_m_Workspace_freshCircles [.ref w] S _
      refine pm_wsFresh (by omega) h' hc hlo hI hwl hcI (fun S1 H1 l1 d1 n1 c1 s1 e1 e2 e3 e4 e5 => ?_)
      have c0 := e2.1
      show px_P _ _ (73, [(0, .ref w), (1, .int (nI s)), (2, .int (nI 3)), (3, .int (D s))], [.ref (w + 10)]) S1 _
      refine px_P.sn 1 (f1 := (74, [(0, .ref w), (1, .int (nI s)), (2, .int (nI 3)), (3, .int (D s))], [.int (nI s), .ref (w + 10)])) (S1 := S1) rfl ?_
      refine px_P.cv rfl rfl rfl (by assumption) rfl ?_
      show px_M _ px_m_Circles_leastOf [.ref (w + 10), .int (nI s)] S1 _
      refine pm_ciLeastOf (by omega) e2 hs ?_
      show px_P _ _ (77, [(0, .ref w), (1, .int (nI s)), (2, .int (nI 3)), (3, .int (D s))], [.int (l1 s)]) S1 _
      refine px_P.ret rfl ?_
      exact k3' rfl hq S1 H1 l1 d1 n1 c1 s1 e1 e2 e3 e4 e5
    · refine px_P.sn 2 (f1 := (77, [(0, .ref w), (1, .int (nI s)), (2, .int (nI 3)), (3, .int (D s))], [.int (-1)])) (S1 := S) rfl ?_
      refine px_P.ret rfl ?_
      exact k3 rfl hq
theorem pm_wsHowMany {d w tz lo ds cc sc x : Nat} {la : Nat → Option Nat} {T D lk wt to : Nat → Int32} {tW : Nat → Int64} {old : Int32} {G : ln_G} {H : Nat → Nat → Int64} {ls df : Nat → Int32} {S : px_S} {Q : Option Value → px_S → Prop} (hd : 6 ≤ d) (h : ws_at S w la T D lk wt tW to tz old) (hc : ci_at S (w + 10) H ls df ds cc sc) (hlo : lo_at S lo G) (hI : wsI la G T D) (hwl : w + 430 ≤ lo) (hcI : old = 0 → cI (sp la G) D H ls cc sc) (hx : x < 5)
    (k0 : x = 0 → Q (some (.int (nI (sm (fzp (sp la G) T D) 96)))) S) (k1 : x = 1 → Q (some (.int (nI (ct (fun i => decide (0 < D i)) 208)))) S) (k2 : x = 2 → wsQ S w la T D lk wt tW to tz G Q (fun _ _ cc' _ => nI cc')) (k3 : x = 3 → wsQ S w la T D lk wt tW to tz G Q (fun _ _ _ sc' => nI sc')) (k4 : x = 4 → Q (some (.int (nI (ct (lcb la) 96)))) S) :
    px_M d px_m_Workspace_howMany [.ref w, .int (nI x)] S Q := by
  have h' := h
  obtain ⟨h0, h1, h2, h3, h4, h5, h6, h7, h8, h9⟩ := h
  refine px_M.go (by omega) (Nat.le_of_ble_eq_true rfl) ?_
  refine px_P.sn 1 (f1 := (1, [(0, .ref w), (1, .int (nI x))], [.int (nI x)])) (S1 := S) rfl ?_
  rcases (show x = 0 ∨ x = 1 ∨ x = 2 ∨ x = 3 ∨ x = 4 by omega) with rfl | rfl | rfl | rfl | rfl
  · refine px_P.sn 1 (f1 := (32, [(0, .ref w), (1, .int (nI 0))], [])) (S1 := S) rfl ?_
    refine px_P.sn 1 (f1 := (33, [(0, .ref w), (1, .int (nI 0))], [.ref w])) (S1 := S) rfl ?_
    refine px_P.cv rfl rfl rfl (by assumption) rfl ?_
    show px_M _ px_m_Workspace_faultCount [.ref w] S _
    refine pm_wsFaultCount (by omega) h' hlo hI ?_
    show px_P _ _ (36, [(0, .ref w), (1, .int (nI 0))], [.int (nI (sm (fzp (sp la G) T D) 96))]) S _
    refine px_P.ret rfl ?_
    exact k0 rfl
  · refine px_P.sn 1 (f1 := (37, [(0, .ref w), (1, .int (nI 1))], [])) (S1 := S) rfl ?_
    refine px_P.sn 1 (f1 := (38, [(0, .ref w), (1, .int (nI 1))], [.ref w])) (S1 := S) rfl ?_
    refine px_P.gf rfl rfl (by assumption) (v := .ref (w + 2)) rfl ?_
    refine px_P.cv rfl rfl rfl (by assumption) rfl ?_
    show px_M _ px_m_Symbols_definedCount [.ref (w + 2)] S _
    refine pm_definedCount (by omega) h2 h4 ?_
    show px_P _ _ (44, [(0, .ref w), (1, .int (nI 1))], [.int (nI (ct (fun i => decide (0 < D i)) 208))]) S _
    refine px_P.ret rfl ?_
    exact k1 rfl
  · refine px_P.sn 1 (f1 := (45, [(0, .ref w), (1, .int (nI 2))], [])) (S1 := S) rfl ?_
    refine px_P.sn 1 (f1 := (46, [(0, .ref w), (1, .int (nI 2))], [.ref w])) (S1 := S) rfl ?_
    refine px_P.cv rfl rfl rfl (by assumption) rfl ?_
    show px_M _ px_m_Workspace_freshCircles [.ref w] S _
    refine pm_wsFresh (by omega) h' hc hlo hI hwl hcI (fun S1 H1 l1 d1 n1 c1 s1 e1 e2 e3 e4 e5 => ?_)
    have c0 := e2.1
    show px_P _ _ (49, [(0, .ref w), (1, .int (nI 2))], [.ref (w + 10)]) S1 _
    refine px_P.cv rfl rfl rfl (by assumption) rfl ?_
    show px_M _ px_m_Circles_circleCount [.ref (w + 10)] S1 _
    refine pm_ciCircles (by omega) e2 ?_
    show px_P _ _ (52, [(0, .ref w), (1, .int (nI 2))], [.int (nI c1)]) S1 _
    refine px_P.ret rfl ?_
    exact k2 rfl S1 H1 l1 d1 n1 c1 s1 e1 e2 e3 e4 e5
  · refine px_P.sn 1 (f1 := (53, [(0, .ref w), (1, .int (nI 3))], [])) (S1 := S) rfl ?_
    refine px_P.sn 1 (f1 := (54, [(0, .ref w), (1, .int (nI 3))], [.ref w])) (S1 := S) rfl ?_
    refine px_P.cv rfl rfl rfl (by assumption) rfl ?_
    show px_M _ px_m_Workspace_freshCircles [.ref w] S _
    refine pm_wsFresh (by omega) h' hc hlo hI hwl hcI (fun S1 H1 l1 d1 n1 c1 s1 e1 e2 e3 e4 e5 => ?_)
    have c0 := e2.1
    show px_P _ _ (57, [(0, .ref w), (1, .int (nI 3))], [.ref (w + 10)]) S1 _
    refine px_P.cv rfl rfl rfl (by assumption) rfl ?_
    show px_M _ px_m_Circles_selfCount [.ref (w + 10)] S1 _
    refine pm_ciSelf (by omega) e2 ?_
    show px_P _ _ (60, [(0, .ref w), (1, .int (nI 3))], [.int (nI s1)]) S1 _
    refine px_P.ret rfl ?_
    exact k3 rfl S1 H1 l1 d1 n1 c1 s1 e1 e2 e3 e4 e5
  · refine px_P.sn 1 (f1 := (61, [(0, .ref w), (1, .int (nI 4))], [])) (S1 := S) rfl ?_
    refine px_P.sn 1 (f1 := (62, [(0, .ref w), (1, .int (nI 4))], [.ref w])) (S1 := S) rfl ?_
    refine px_P.cv rfl rfl rfl (by assumption) rfl ?_
    show px_M _ px_m_Workspace_lineCount [.ref w] S _
    refine pm_wsLineCount (by omega) h' ?_
    show px_P _ _ (65, [(0, .ref w), (1, .int (nI 4))], [.int (nI (ct (lcb la) 96))]) S _
    refine px_P.ret rfl ?_
    exact k4 rfl
theorem pm_syInit {d y : Nat} {S : px_S} {Q : Option Value → px_S → Prop} (hd : 1 ≤ d) (hy : S.1 y = some (.inr (7, [.null, .null]))) (hS : S.2.1 = y + 1)
    (k : ∀ S' T', S'.1 y = some (.inr (7, [.ref (y + 1), .ref (y + 2)])) → S'.1 (y + 1) = some (.inl (0, 208, .inl T')) → (∀ t, t < 208 → T' t = 16) → S'.1 (y + 2) = some (.inl (0, 208, .inl (fun _ => 0))) → (∀ q, q < y → S'.1 q = S.1 q) → S'.2 = (y + 3, S.2.2 + 416) → Q none S') :
    px_M d px_m_Symbols_init [.ref y] S Q := by
  have lp := px_for (d := d - 1) (mi := px_m_Symbols_init) (Q := Q) (X := Nat → Int32) 208 (fun i _ => (24, [(0, .ref y), (1, .int (nI i))], []))
    (fun i T1 S1 => S1.1 y = some (.inr (7, [.ref (y + 1), .ref (y + 2)])) ∧ S1.1 (y + 1) = some (.inl (0, 208, .inl T1)) ∧ (∀ t, t < i → T1 t = 16) ∧ S1.1 (y + 2) = some (.inl (0, 208, .inl (fun _ => 0))) ∧ (∀ q, q < y → S1.1 q = S.1 q) ∧ S1.2 = (y + 3, S.2.2 + 416))
    (by
      intro i hi T1 S1 ⟨h1, h2, h3, h4, h5, h6⟩ ih
      refine px_P.sn 2 (f1 := (28, [(0, .ref y), (1, .int (nI i))], [.int 208, .int (nI i)])) (S1 := S1) rfl ?_
      refine px_P.ic_ge rfl rfl (fun h => absurd h (nI_ge (b := 208) hi (by decide))) (fun _ => ?_)
      refine px_P.sn 1 (f1 := (32, [(0, .ref y), (1, .int (nI i))], [.ref y])) (S1 := S1) rfl ?_
      refine px_P.gf rfl rfl (by assumption) (v := .ref (y + 1)) rfl ?_
      refine px_P.sn 2 (f1 := (38, [(0, .ref y), (1, .int (nI i))], [.int 16, .int (nI i), .ref (y + 1)])) (S1 := S1) rfl ?_
      refine px_P.iastj (j := i) rfl (by assumption) rfl (by omega) (by decide) (fun S2 u2 => ?_)
      refine px_P.sn 2 (f1 := (24, [(0, .ref y), (1, .int ((nI i) + 1))], [])) (S1 := S2) rfl ?_
      rw [nI_1]
      refine ih _ S2 ⟨u2.n h1 (by omega), u2.s, fun t ht => ?_, u2.n h4 (by omega), fun q hq => by rw [u2.o (by omega)]; exact h5 q hq, by rw [u2.t, h6]⟩
      by_cases e : t = i
      · subst e; exact pk_us
      · rw [pk_un e]; exact h3 t (by omega))
    (by
      intro T1 S1 ⟨h1, h2, h3, h4, h5, h6⟩
      refine px_P.sn 2 (f1 := (28, [(0, .ref y), (1, .int (nI 208))], [.int 208, .int (nI 208)])) (S1 := S1) rfl ?_
      refine px_P.ic_ge rfl rfl (fun _ => ?_) (fun h => absurd (nI_le (a := 208) (by omega) (by omega)) h)
      refine px_P.ret rfl ?_
      exact k S1 T1 h1 h2 h3 h4 h5 h6)
  refine px_M.go (by omega) (Nat.le_of_ble_eq_true rfl) ?_
  refine px_P.sn 4 (f1 := (8, [(0, .ref y)], [.int 208, .ref y])) (S1 := S) rfl ?_
  refine px_P.newI rfl (by decide) (fun S1 u1 => ?_)
  have t1 : S1.2 = (y + 2, S.2.2 + 208) := by rw [u1.t, hS]; rfl
  have s1 := u1.s
  rw [hS] at s1
  rw [hS]
  show px_P _ _ (10, [(0, .ref y)], [.ref (y + 1), .ref y]) S1 _
  have c1 := u1.n hy (by omega)
  refine px_P.pf rfl rfl (by assumption) rfl (fun S2 u2 => ?_)
  have c2 := u2.s
  have t2 : S2.2 = (y + 2, S.2.2 + 208) := by rw [u2.t, t1]
  refine px_P.sn 2 (f1 := (17, [(0, .ref y)], [.int 208, .ref y])) (S1 := S2) rfl ?_
  refine px_P.newI rfl (by decide) (fun S3 u3 => ?_)
  have z2 : S2.2.1 = y + 2 := by rw [t2]
  have s3 := u3.s
  rw [z2] at s3
  have t3 : S3.2 = (y + 3, S.2.2 + 416) := by rw [u3.t, t2]; rfl
  rw [z2]
  show px_P _ _ (19, [(0, .ref y)], [.ref (y + 2), .ref y]) S3 _
  have c3 := u3.n c2 (by omega)
  refine px_P.pf rfl rfl (by assumption) rfl (fun S4 u4 => ?_)
  refine px_P.sn 2 (f1 := (24, [(0, .ref y), (1, .int 0)], [])) (S1 := S4) rfl ?_
  refine lp 208 0 rfl (fun _ => 0) S4 ⟨u4.s, ?_, fun t ht => absurd ht (by omega), u4.n s3 (by omega), fun q hq => by rw [u4.o (by omega), u3.o (by omega), u2.o (by omega), u1.o (by omega)], by rw [u4.t, t3]⟩
  rw [u4.o (by omega), u3.o (by omega), u2.o (by omega)]; exact s1
theorem pm_wsInit {d w : Nat} {S : px_S} {Q : Option Value → px_S → Prop} (hd : 3 ≤ d) (hw : S.1 w = some (.inr (8, [.null, .null, .null, .null, .null, .null, .int 0, .null, .int 0]))) (hS : S.2.1 = w + 1)
    (k : ∀ S' T', ws_at S' w (fun _ => none) T' (fun _ => 0) (fun _ => 0) (fun _ => 0) (fun _ => 0) (fun _ => 0) 0 0 → (∀ t, t < 208 → T' t = 16) → ci_at S' (w + 10) (fun _ _ => 0) (fun _ => 0) (fun _ => 0) 0 0 0 → (∀ q, q < w → S'.1 q = S.1 q) → S'.2 = (w + 430, S.2.2 + 2589) → Q none S') :
    px_M d px_m_Workspace_init [.ref w] S Q := by
  refine px_M.go (by omega) (Nat.le_of_ble_eq_true rfl) ?_
  refine px_P.sn 4 (f1 := (7, [(0, .ref w)], [.int 96, .ref w])) (S1 := S) rfl ?_
  refine px_P.newA rfl rfl (by decide) (fun S1 u1 => ?_)
  have t1 : S1.2 = (w + 2, S.2.2 + 96) := by rw [u1.t, hS]; rfl
  have s1 := u1.s
  rw [hS] at s1
  rw [hS]
  show px_P _ _ (10, [(0, .ref w)], [.ref (w + 1), .ref w]) S1 _
  have c1 := u1.n hw (by omega)
  refine px_P.pf rfl rfl (by assumption) rfl (fun S2 u2 => ?_)
  have c2 := u2.s
  have t2 : S2.2 = (w + 2, S.2.2 + 96) := by rw [u2.t, t1]
  have f1 := u2.n s1 (by omega)
  refine px_P.sn 1 (f1 := (14, [(0, .ref w)], [.ref w])) (S1 := S2) rfl ?_
  refine px_P.nw rfl rfl (fun S3 u3 => ?_)
  have z2 : S2.2.1 = w + 2 := by rw [t2]
  have s3 := u3.s
  rw [z2] at s3
  have t3 : S3.2 = (w + 3, S.2.2 + 98) := by rw [u3.t, t2]; rfl
  have c3 := u3.n c2 (by omega)
  have f13 := u3.n f1 (by omega)
  have o3 : ∀ q, q < w → S3.1 q = S.1 q := fun q hq => by rw [u3.o (by omega), u2.o (by omega), u1.o (by omega)]
  rw [z2]
  show px_P _ _ (17, [(0, .ref w)], [.ref (w + 2), .ref w]) S3 _
  refine px_P.sn 1 (f1 := (18, [(0, .ref w)], [.ref (w + 2), .ref (w + 2), .ref w])) (S1 := S3) rfl ?_
  refine px_P.call rfl ?_
  show px_M _ px_m_Symbols_init [.ref (w + 2)] S3 _
  refine pm_syInit (by omega) s3 (by rw [t3]) (fun S4 T4 e1 e2 e3 e4 e5 e6 => ?_)
  have c4 := (e5 w (by omega)).trans c3
  have t4 : S4.2 = (w + 5, S.2.2 + 514) := by rw [e6, t3]
  show px_P _ _ (21, [(0, .ref w)], [.ref (w + 2), .ref w]) S4 _
  refine px_P.pf rfl rfl (by assumption) rfl (fun S5 u5 => ?_)
  have c5 := u5.s
  have t5 : S5.2 = (w + 5, S.2.2 + 514) := by rw [u5.t, t4]
  refine px_P.sn 2 (f1 := (27, [(0, .ref w)], [.int 96, .ref w])) (S1 := S5) rfl ?_
  refine px_P.newZ rfl (by decide) (fun S6 u6 => ?_)
  have z5 : S5.2.1 = w + 5 := by rw [t5]
  have s6 := u6.s
  rw [z5] at s6
  have t6 : S6.2 = (w + 6, S.2.2 + 610) := by rw [u6.t, t5]; rfl
  have c6 := u6.n c5 (by omega)
  rw [z5]
  show px_P _ _ (29, [(0, .ref w)], [.ref (w + 5), .ref w]) S6 _
  refine px_P.pf rfl rfl (by assumption) rfl (fun S7 u7 => ?_)
  have c7 := u7.s
  have t7 : S7.2 = (w + 6, S.2.2 + 610) := by rw [u7.t, t6]
  refine px_P.sn 2 (f1 := (35, [(0, .ref w)], [.int 96, .ref w])) (S1 := S7) rfl ?_
  refine px_P.newZ rfl (by decide) (fun S8 u8 => ?_)
  have z7 : S7.2.1 = w + 6 := by rw [t7]
  have s8 := u8.s
  rw [z7] at s8
  have t8 : S8.2 = (w + 7, S.2.2 + 706) := by rw [u8.t, t7]; rfl
  have c8 := u8.n c7 (by omega)
  rw [z7]
  show px_P _ _ (37, [(0, .ref w)], [.ref (w + 6), .ref w]) S8 _
  refine px_P.pf rfl rfl (by assumption) rfl (fun S9 u9 => ?_)
  have c9 := u9.s
  have t9 : S9.2 = (w + 7, S.2.2 + 706) := by rw [u9.t, t8]
  refine px_P.sn 1 (f1 := (41, [(0, .ref w)], [.ref w])) (S1 := S9) rfl ?_
  refine px_P.nw rfl rfl (fun S10 u10 => ?_)
  have z9 : S9.2.1 = w + 7 := by rw [t9]
  have s10 := u10.s
  rw [z9] at s10
  have t10 : S10.2 = (w + 8, S.2.2 + 707) := by rw [u10.t, t9]; rfl
  have c10 := u10.n c9 (by omega)
  rw [z9]
  show px_P _ _ (44, [(0, .ref w)], [.ref (w + 7), .ref w]) S10 _
  refine px_P.sn 1 (f1 := (45, [(0, .ref w)], [.ref (w + 7), .ref (w + 7), .ref w])) (S1 := S10) rfl ?_
  refine px_P.call rfl ?_
  show px_M _ px_m_SymbolSet_init [.ref (w + 7)] S10 _
  refine pm_ssInit (by omega) s10 (by rw [t10]; show w + 7 < w + 8; omega) (fun S11 g1 g2 g3 g4 => ?_)
  rw [t10] at g1 g2 g4
  have z10 : S10.2.1 = w + 8 := by rw [t10]
  rw [z10] at g3
  have c11 := (g3 w (by omega) (by omega)).trans c10
  show px_P _ _ (48, [(0, .ref w)], [.ref (w + 7), .ref w]) S11 _
  refine px_P.pf rfl rfl (by assumption) rfl (fun S12 u12 => ?_)
  have c12 := u12.s
  have t12 : S12.2 = (w + 9, S.2.2 + 711) := by rw [u12.t, g4]
  refine px_P.sn 2 (f1 := (55, [(0, .ref w)], [.int 208, .ref w])) (S1 := S12) rfl ?_
  refine px_P.newI rfl (by decide) (fun S13 u13 => ?_)
  have z12 : S12.2.1 = w + 9 := by rw [t12]
  have s13 := u13.s
  rw [z12] at s13
  have t13 : S13.2 = (w + 10, S.2.2 + 919) := by rw [u13.t, t12]; rfl
  have c13 := u13.n c12 (by omega)
  rw [z12]
  show px_P _ _ (57, [(0, .ref w)], [.ref (w + 9), .ref w]) S13 _
  refine px_P.pf rfl rfl (by assumption) rfl (fun S14 u14 => ?_)
  have c14 := u14.s
  refine px_P.sn 2 (f1 := (62, [(0, .ref w)], [.int 0, .ref w])) (S1 := S14) rfl ?_
  refine px_P.pf rfl rfl (by assumption) rfl (fun S15 u15 => ?_)
  have c15 := u15.s
  have t15 : S15.2 = (w + 10, S.2.2 + 919) := by rw [u15.t, u14.t, t13]
  refine px_P.sn 1 (f1 := (66, [(0, .ref w)], [.ref w])) (S1 := S15) rfl ?_
  refine px_P.nw rfl rfl (fun S16 u16 => ?_)
  have z15 : S15.2.1 = w + 10 := by rw [t15]
  have s16 := u16.s
  rw [z15] at s16
  have t16 : S16.2 = (w + 11, S.2.2 + 925) := by rw [u16.t, t15]; rfl
  have c16 := u16.n c15 (by omega)
  rw [z15]
  show px_P _ _ (69, [(0, .ref w)], [.ref (w + 10), .ref w]) S16 _
  refine px_P.sn 1 (f1 := (70, [(0, .ref w)], [.ref (w + 10), .ref (w + 10), .ref w])) (S1 := S16) rfl ?_
  refine px_P.call rfl ?_
  show px_M _ px_m_Circles_init [.ref (w + 10)] S16 _
  refine pm_ciInit (by omega) s16 (by rw [t16]) (fun S17 m1 m2 m3 => ?_)
  have c17 := (m2 w (by omega)).trans c16
  show px_P _ _ (73, [(0, .ref w)], [.ref (w + 10), .ref w]) S17 _
  refine px_P.pf rfl rfl (by assumption) rfl (fun S18 u18 => ?_)
  have c18 := u18.s
  refine px_P.sn 2 (f1 := (78, [(0, .ref w)], [.int 0, .ref w])) (S1 := S18) rfl ?_
  refine px_P.pf rfl rfl (by assumption) rfl (fun S19 u19 => ?_)
  refine px_P.ret rfl ?_
  -- what each of the cells holds at the end
  have b16 : ∀ q, q < w + 10 → q ≠ w → S19.1 q = S15.1 q := fun q h1 h2 => by rw [u19.o h2, u18.o h2, m2 q h1, u16.o (by omega)]
  have b13 : ∀ q, q < w + 9 → q ≠ w → S19.1 q = S11.1 q := fun q h1 h2 => by rw [b16 q (by omega) h2, u15.o h2, u14.o h2, u13.o (by omega), u12.o h2]
  have b9 : ∀ q, q < w + 7 → q ≠ w → S19.1 q = S9.1 q := fun q h1 h2 => by rw [b13 q (by omega) h2, g3 q (by omega) (by omega), u10.o (by omega)]
  have b4 : ∀ q, q < w + 5 → q ≠ w → S19.1 q = S4.1 q := fun q h1 h2 => by rw [b9 q (by omega) h2, u9.o h2, u8.o (by omega), u7.o h2, u6.o (by omega), u5.o h2]
  refine k S19 T4 ⟨u19.s, ?_, ?_, ?_, ?_, ?_, ?_, ?_, ?_, ?_⟩ e3 (m1.keep (fun q q1 q2 => by rw [u19.o (by omega), u18.o (by omega)])) (fun q hq => ?_) ?_
  · rw [b4 _ (by omega) (by omega), e5 _ (by omega)]; exact f13
  · rw [b4 _ (by omega) (by omega)]; exact e1
  · rw [b4 _ (by omega) (by omega)]; exact e2
  · rw [b4 _ (by omega) (by omega)]; exact e4
  · rw [b9 _ (by omega) (by omega), u9.o (by omega), u8.o (by omega), u7.o (by omega)]; exact s6
  · rw [b9 _ (by omega) (by omega), u9.o (by omega)]; exact s8
  · rw [b13 _ (by omega) (by omega)]; exact g1
  · rw [b13 _ (by omega) (by omega)]; exact g2
  · rw [b16 _ (by omega) (by omega), u15.o (by omega), u14.o (by omega)]; exact s13
  · rw [b4 q (by omega) (by omega), e5 q (by omega)]; exact o3 q hq
  · rw [u19.t, u18.t, m3, t16]
