/-! ===== CheckDaemon: the state between the calls; edits ===== -/
def sx (l : List Nat) (m : Nat) : Option ln_S := if l = [] then none else some (pz (tf l) l.length m)
def sL (tt : Nat → List Nat) (p : Nat) : Option ln_S := sx (tt p) (p / 12)
def ttO (tt : Nat → List Nat) : Prop := (∀ p, tyo (tt p)) ∧ ∀ p, 96 ≤ p → tt p = []
def hg (hh : List (Nat × List Nat)) (j : Nat) : Nat × List Nat := hh.getD j (0, [])
def hiO (hh : List (Nat × List Nat)) (hp : Nat → Int32) (hl : Nat → Option Nat) (G : ln_G) : Prop := hh.length ≤ 16 ∧ la_ok hl G 16 ∧ ∀ j, j < hh.length → hp j = nI (hg hh j).1 ∧ (hg hh j).1 < 96 ∧ tyo (hg hh j).2 ∧ sp hl G j = sx (hg hh j).2 ((hg hh j).1 / 12)
def dI (S : px_S) (x lo : Nat) (ty : List Nat) (tt : Nat → List Nat) (hh : List (Nat × List Nat)) : Prop := ∃ (f T D lk wt to ls df hp : Nat → Int32) (la hl : Nat → Option Nat) (tW : Nat → Int64) (H : Nat → Nat → Int64) (tz ds cc sc : Nat) (old : Int32) (G : ln_G),
  dt_at S x f ty.length ∧ tyo ty ∧ tya f ty ∧ ws_at S (x + 2) la T D lk wt tW to tz old ∧ ci_at S (x + 12) H ls df ds cc sc ∧ hi_at S (x + 432) hh.length hp hl ∧ lo_at S lo G ∧ lo ≤ S.2.1 ∧ x + 435 ≤ lo ∧ wsI la G T D ∧ sp la G = sL tt ∧ (ttO tt ∧ ∀ p, 96 ≤ p → la p = none) ∧ (old = 0 → cI (sL tt) D H ls cc sc) ∧ hiO hh hp hl G
theorem dI.keep {S S' : px_S} {x lo : Nat} {ty : List Nat} {tt : Nat → List Nat} {hh : List (Nat × List Nat)} (h : dI S x lo ty tt hh) (h1 : ∀ q, x ≤ q → q < x + 435 → S'.1 q = S.1 q) (h2 : ∀ q, lo ≤ q → q < S.2.1 → S'.1 q = S.1 q) (h3 : S.2.1 ≤ S'.2.1) : dI S' x lo ty tt hh := by
  obtain ⟨f, T, D, lk, wt, to, ls, df, hp, la, hl, tW, H, tz, ds, cc, sc, old, G, ⟨a1, a1'⟩, a2, a3, a4, a5, a6, a7, a8, a9, a10, a11, a12, a13, a14⟩ := h
  exact ⟨f, T, D, lk, wt, to, ls, df, hp, la, hl, tW, H, tz, ds, cc, sc, old, G, ⟨(h1 _ (by omega) (by omega)).trans a1, (h1 _ (by omega) (by omega)).trans a1'⟩, a2, a3, a4.keep (fun q q1 q2 => h1 q (by omega) (by omega)), a5.keep (fun q q1 q2 => h1 q (by omega) (by omega)), a6.keep (fun q q1 q2 => h1 q (by omega) (by omega)), a7.keep h2 h3, by omega, a9, a10, a11, a12, a13, a14⟩
theorem pm_dmInit {d x : Nat} {S : px_S} {Q : Option Value → px_S → Prop} (hd : 4 ≤ d) (hx : S.1 x = some (.inr (9, [.null, .int 0, .null, .null]))) (hS : S.2.1 = x + 1)
    (k : ∀ S', (∀ (S'' : px_S) (lo : Nat), x + 435 ≤ lo → lo ≤ S''.2.1 → (∀ q, x ≤ q → q < x + 435 → S''.1 q = S'.1 q) → dI S'' x lo [] (fun _ => []) []) → (∀ q, q < x → S'.1 q = S.1 q) → S'.2 = (x + 435, S.2.2 + 2693) → Q none S') : px_M d px_m_Daemon_init [.ref x] S Q := by
  refine px_M.go (by omega) (Nat.le_of_ble_eq_true rfl) ?_
  refine px_P.sn 4 (f1 := (7, [(0, .ref x)], [.int 60, .ref x])) (S1 := S) rfl ?_
  refine px_P.newI rfl (by decide) (fun S1 u1 => ?_)
  have t1 : S1.2 = (x + 2, S.2.2 + 60) := by rw [u1.t, hS]; rfl
  have s1 := u1.s
  rw [hS] at s1
  rw [hS]
  show px_P _ _ (9, [(0, .ref x)], [.ref (x + 1), .ref x]) S1 _
  have c1 := u1.n hx (by omega)
  refine px_P.pf rfl rfl (by assumption) rfl (fun S2 u2 => ?_)
  have c2 := u2.s
  refine px_P.sn 2 (f1 := (14, [(0, .ref x)], [.int 0, .ref x])) (S1 := S2) rfl ?_
  refine px_P.pf rfl rfl (by assumption) rfl (fun S3 u3 => ?_)
  have c3 := u3.s
  have t3 : S3.2 = (x + 2, S.2.2 + 60) := by rw [u3.t, u2.t, t1]
  have z3 : S3.2.1 = x + 2 := by rw [t3]
  refine px_P.sn 1 (f1 := (18, [(0, .ref x)], [.ref x])) (S1 := S3) rfl ?_
  refine px_P.nw rfl rfl (fun S4 u4 => ?_)
  have s4 := u4.s
  rw [z3] at s4
  have t4 : S4.2 = (x + 3, S.2.2 + 69) := by rw [u4.t, t3]; rfl
  have c4 := u4.n c3 (by omega)
  rw [z3]
  show px_P _ _ (21, [(0, .ref x)], [.ref (x + 2), .ref x]) S4 _
  refine px_P.sn 1 (f1 := (22, [(0, .ref x)], [.ref (x + 2), .ref (x + 2), .ref x])) (S1 := S4) rfl ?_
  refine px_P.call rfl ?_
  show px_M _ px_m_Workspace_init [.ref (x + 2)] S4 _
  refine pm_wsInit (by omega) s4 (by rw [t4]) (fun S5 T5 e1 e2 e3 e4 e5 => ?_)
  have c5 := (e4 x (by omega)).trans c4
  have t5 : S5.2 = (x + 432, S.2.2 + 2658) := by rw [e5, t4]
  show px_P _ _ (25, [(0, .ref x)], [.ref (x + 2), .ref x]) S5 _
  refine px_P.pf rfl rfl (by assumption) rfl (fun S6 u6 => ?_)
  have c6 := u6.s
  have t6 : S6.2 = (x + 432, S.2.2 + 2658) := by rw [u6.t, t5]
  have z6 : S6.2.1 = x + 432 := by rw [t6]
  refine px_P.sn 1 (f1 := (29, [(0, .ref x)], [.ref x])) (S1 := S6) rfl ?_
  refine px_P.nw rfl rfl (fun S7 u7 => ?_)
  have s7 := u7.s
  rw [z6] at s7
  have t7 : S7.2 = (x + 433, S.2.2 + 2661) := by rw [u7.t, t6]; rfl
  have c7 := u7.n c6 (by omega)
  rw [z6]
  show px_P _ _ (32, [(0, .ref x)], [.ref (x + 432), .ref x]) S7 _
  refine px_P.sn 1 (f1 := (33, [(0, .ref x)], [.ref (x + 432), .ref (x + 432), .ref x])) (S1 := S7) rfl ?_
  refine px_P.call rfl ?_
  show px_M _ px_m_History_init [.ref (x + 432)] S7 _
  refine pm_hiInit (by omega) s7 (by rw [t7]) (fun S8 f1 f2 f3 => ?_)
  have c8 := (f2 x (by omega)).trans c7
  show px_P _ _ (36, [(0, .ref x)], [.ref (x + 432), .ref x]) S8 _
  refine px_P.pf rfl rfl (by assumption) rfl (fun S9 u9 => ?_)
  refine px_P.ret rfl ?_
  have fr : ∀ q, q < x + 432 → q ≠ x → S9.1 q = S5.1 q := fun q h1 h2 => by rw [u9.o h2, f2 q h1, u7.o (by omega), u6.o h2]
  refine k S9 (fun S'' lo hlo hlo2 hk => ?_) (fun q hq => by rw [fr q (by omega) (by omega), e4 q (by omega), u4.o (by omega), u3.o (by omega), u2.o (by omega), u1.o (by omega)]) (by rw [u9.t, f3, t7])
  have hemp : sL (fun _ => []) = fun _ => none := rfl
  have hsp : sp (fun _ => none) (fun _ => none) = sL (fun _ => []) := rfl
  have noD : ∀ t, dc (sL (fun _ => [])) t = 0 := fun t => dc_no.mpr (fun p z _ hz => by cases hz)
  refine ⟨fun _ => 0, T5, fun _ => 0, fun _ => 0, fun _ => 0, fun _ => 0, fun _ => 0, fun _ => 0, fun _ => 0, fun _ => none, fun _ => none, fun _ => 0, fun _ _ => 0, 0, 0, 0, 0, 0, fun _ => none, ⟨(hk x (by omega) (by omega)).trans u9.s, ?_⟩, ⟨by show 0 ≤ 60; omega, fun c hc => by cases hc⟩, fun j hj => absurd hj (by show ¬ j < 0; omega), ?_, ?_, ?_, ⟨fun a s D h => (by cases h), fun a b s D s' D' q _ h => (by cases h)⟩, hlo2, hlo, ?_, hsp, ⟨⟨fun p => ⟨by show 0 ≤ 60; omega, fun c hc => by cases hc⟩, fun _ _ => rfl⟩, fun _ _ => rfl⟩, fun _ => ?_, ⟨by show 0 ≤ 16; omega, fun p a _ h => (by cases h), fun j hj => absurd hj (by show ¬ j < 0; omega)⟩⟩
  · rw [hk _ (by omega) (by omega), fr _ (by omega) (by omega), e4 _ (by omega), u4.o (by omega), u3.o (by omega), u2.o (by omega)]; exact s1
  · exact e1.keep (fun q q1 q2 => by rw [hk q (by omega) (by omega), fr q (by omega) (by omega)])
  · exact e3.keep (fun q q1 q2 => by rw [hk q (by omega) (by omega), fr q (by omega) (by omega)])
  · exact f1.keep (fun q q1 q2 => by rw [hk q (by omega) (by omega), u9.o (by omega)])
  · refine ⟨fun p a _ h => (by cases h), fun t ht => ?_, ?_, fun p a s E _ h => (by cases h)⟩
    · rw [hsp, noD t]; rfl
    · rw [hsp]
      refine ⟨fun t ht => by rw [e2 t ht]; exact lF16, fun p z t _ hz => (by cases hz), fun t ht _ => by rw [e2 t ht]; exact le32.rf _, fun X _ _ x3 t ht => ?_⟩
      rw [e2 t ht]
      exact x3 t ht (fun p z _ hz => by cases hz)
  · refine ⟨⟨fun s t h => ?_, fun s t u h => ?_, fun h' _ _ s t h => ?_⟩, fun s t h => ?_, fun s hs hp => (by cases hp), ?_, ?_⟩
    · obtain ⟨_, _, p, _, z, hz, _⟩ := h
      cases hz
    · have : ss_in (fun _ => (0 : Int64)) t = true := h.2.2
      unfold ss_in at this; simp at this
    · have : ss_in (fun _ => (0 : Int64)) t = true := h.2.2
      unfold ss_in at this; simp at this
    · have : ss_in (fun _ => (0 : Int64)) t = true := h.2.2
      unfold ss_in at this; simp at this
    · have e : ∀ s, ct (bo (fun _ _ => 0) s) s = 0 := fun s => ct_zero.mpr (fun i _ => by unfold bo ss_in; simp)
      rw [ct_zero.mpr (fun i _ => by unfold ciC; rw [e i]; rfl)]
    · rw [ct_zero.mpr (fun i _ => by unfold ss_in; simp)]
theorem pm_dmErase {d x lo : Nat} {ty : List Nat} {tt : Nat → List Nat} {hh : List (Nat × List Nat)} {S : px_S} {Q : Option Value → px_S → Prop} (hd : 1 ≤ d) (h : dI S x lo ty tt hh)
    (k : ∀ S', dI S' x lo [] tt hh → (∀ q, q < lo → (q < x ∨ x + 435 ≤ q) → S'.1 q = S.1 q) → S'.2 = S.2 → Q (some (.int (nI ty.length))) S') : px_M d px_m_Daemon_erase [.ref x] S Q := by
  obtain ⟨f, T, D, lk, wt, to, ls, df, hp, la, hl, tW, H, tz, ds, cc, sc, old, G, ⟨a1, a1'⟩, a2, a3, a4, a5, a6, a7, a8, a9, a10, a11, a12, a13, a14⟩ := h
  refine px_M.go (by omega) (Nat.le_of_ble_eq_true rfl) ?_
  refine px_P.sn 1 (f1 := (1, [(0, .ref x)], [.ref x])) (S1 := S) rfl ?_
  refine px_P.gf rfl rfl (by assumption) (v := .int (nI ty.length)) rfl ?_
  refine px_P.sn 3 (f1 := (7, [(0, .ref x), (1, .int (nI ty.length))], [.int 0, .ref x])) (S1 := S) rfl ?_
  refine px_P.pf rfl rfl (by assumption) rfl (fun S1 u1 => ?_)
  refine px_P.sn 1 (f1 := (11, [(0, .ref x), (1, .int (nI ty.length))], [.int (nI ty.length)])) (S1 := S1) rfl ?_
  refine px_P.ret rfl ?_
  exact k S1 ⟨f, T, D, lk, wt, to, ls, df, hp, la, hl, tW, H, tz, ds, cc, sc, old, G, ⟨u1.s, u1.n a1' (by omega)⟩, ⟨by show 0 ≤ 60; omega, fun c hc => by cases hc⟩, fun j hj => absurd hj (by show ¬ j < 0; omega), a4.keep (fun q q1 q2 => u1.o (by omega)), a5.keep (fun q q1 q2 => u1.o (by omega)), a6.keep (fun q q1 q2 => u1.o (by omega)), a7.keep (fun q q1 q2 => u1.o (by omega)) (by rw [u1.t]; exact Nat.le_refl _), by rw [u1.t]; exact a8, a9, a10, a11, a12, a13, a14⟩ (fun q q1 q2 => u1.o (by omega)) u1.t
def typ (a b c d e : Int32) : List Nat := ch4 a ++ (ch4 b ++ (ch4 c ++ (ch4 d ++ ch4 e)))
theorem pm_dmType {d x lo : Nat} {ty : List Nat} {tt : Nat → List Nat} {hh : List (Nat × List Nat)} {v1 v2 v3 v4 v5 : Int32} {S : px_S} {Q : Option Value → px_S → Prop} (hd : 2 ≤ d) (h : dI S x lo ty tt hh) (hlen : ty.length + (typ v1 v2 v3 v4 v5).length ≤ 60)
    (k : ∀ S', dI S' x lo (ty ++ typ v1 v2 v3 v4 v5) tt hh → (∀ q, q < lo → (q < x ∨ x + 435 ≤ q) → S'.1 q = S.1 q) → S'.2 = S.2 → Q (some (.int (nI (ty ++ typ v1 v2 v3 v4 v5).length))) S') : px_M d px_m_Daemon_type [.ref x, .int v1, .int v2, .int v3, .int v4, .int v5] S Q := by
  obtain ⟨f, T, D, lk, wt, to, ls, df, hp, la, hl, tW, H, tz, ds, cc, sc, old, G, a1, a2, a3, a4, a5, a6, a7, a8, a9, a10, a11, a12, a13, a14⟩ := h
  have hl5 : (typ v1 v2 v3 v4 v5).length = (ch4 v1).length + ((ch4 v2).length + ((ch4 v3).length + ((ch4 v4).length + (ch4 v5).length))) := by
    unfold typ
    simp only [List.length_append]
  have c0 := a1.1
  have hsum : nI (ch4 v1).length + nI (ch4 v2).length + nI (ch4 v3).length + nI (ch4 v4).length + nI (ch4 v5).length = nI (typ v1 v2 v3 v4 v5).length := by
    rw [nI_add, nI_add, nI_add, nI_add, hl5]
    refine congrArg nI ?_
    omega
  refine px_M.go (by omega) (Nat.le_of_ble_eq_true rfl) ?_
  refine px_P.sn 1 (f1 := (1, [(0, .ref x), (1, .int v1), (2, .int v2), (3, .int v3), (4, .int v4), (5, .int v5)], [.int v1])) (S1 := S) rfl ?_
  refine px_P.call rfl ?_
  show px_M _ px_m_Daemon_charactersIn [.int v1] S _
  refine pm_dmChars (by omega) ?_
  show px_P _ _ (4, [(0, .ref x), (1, .int v1), (2, .int v2), (3, .int v3), (4, .int v4), (5, .int v5)], [.int (nI (ch4 v1).length)]) S _
  refine px_P.sn 1 (f1 := (5, [(0, .ref x), (1, .int v1), (2, .int v2), (3, .int v3), (4, .int v4), (5, .int v5)], [.int v2, .int (nI (ch4 v1).length)])) (S1 := S) rfl ?_
  refine px_P.call rfl ?_
  show px_M _ px_m_Daemon_charactersIn [.int v2] S _
  refine pm_dmChars (by omega) ?_
  show px_P _ _ (8, [(0, .ref x), (1, .int v1), (2, .int v2), (3, .int v3), (4, .int v4), (5, .int v5)], [.int (nI (ch4 v2).length), .int (nI (ch4 v1).length)]) S _
  refine px_P.sn 2 (f1 := (10, [(0, .ref x), (1, .int v1), (2, .int v2), (3, .int v3), (4, .int v4), (5, .int v5)], [.int v3, .int ((nI (ch4 v1).length) + (nI (ch4 v2).length))])) (S1 := S) rfl ?_
  refine px_P.call rfl ?_
  show px_M _ px_m_Daemon_charactersIn [.int v3] S _
  refine pm_dmChars (by omega) ?_
  show px_P _ _ (13, [(0, .ref x), (1, .int v1), (2, .int v2), (3, .int v3), (4, .int v4), (5, .int v5)], [.int (nI (ch4 v3).length), .int ((nI (ch4 v1).length) + (nI (ch4 v2).length))]) S _
  refine px_P.sn 2 (f1 := (16, [(0, .ref x), (1, .int v1), (2, .int v2), (3, .int v3), (4, .int v4), (5, .int v5)], [.int v4, .int (((nI (ch4 v1).length) + (nI (ch4 v2).length)) + (nI (ch4 v3).length))])) (S1 := S) rfl ?_
  refine px_P.call rfl ?_
  show px_M _ px_m_Daemon_charactersIn [.int v4] S _
  refine pm_dmChars (by omega) ?_
  show px_P _ _ (19, [(0, .ref x), (1, .int v1), (2, .int v2), (3, .int v3), (4, .int v4), (5, .int v5)], [.int (nI (ch4 v4).length), .int (((nI (ch4 v1).length) + (nI (ch4 v2).length)) + (nI (ch4 v3).length))]) S _
  refine px_P.sn 2 (f1 := (22, [(0, .ref x), (1, .int v1), (2, .int v2), (3, .int v3), (4, .int v4), (5, .int v5)], [.int v5, .int ((((nI (ch4 v1).length) + (nI (ch4 v2).length)) + (nI (ch4 v3).length)) + (nI (ch4 v4).length))])) (S1 := S) rfl ?_
  refine px_P.call rfl ?_
  show px_M _ px_m_Daemon_charactersIn [.int v5] S _
  refine pm_dmChars (by omega) ?_
  show px_P _ _ (25, [(0, .ref x), (1, .int v1), (2, .int v2), (3, .int v3), (4, .int v4), (5, .int v5)], [.int (nI (ch4 v5).length), .int ((((nI (ch4 v1).length) + (nI (ch4 v2).length)) + (nI (ch4 v3).length)) + (nI (ch4 v4).length))]) S _
  refine px_P.sn 2 (f1 := (28, [(0, .ref x), (1, .int v1), (2, .int v2), (3, .int v3), (4, .int v4), (5, .int v5), (6, .int (((((nI (ch4 v1).length) + (nI (ch4 v2).length)) + (nI (ch4 v3).length)) + (nI (ch4 v4).length)) + (nI (ch4 v5).length)))], [])) (S1 := S) rfl ?_
  rw [hsum]
  refine px_P.sn 1 (f1 := (29, [(0, .ref x), (1, .int v1), (2, .int v2), (3, .int v3), (4, .int v4), (5, .int v5), (6, .int (nI (typ v1 v2 v3 v4 v5).length))], [.ref x])) (S1 := S) rfl ?_
  refine px_P.gf rfl rfl (by assumption) (v := .int (nI ty.length)) rfl ?_
  refine px_P.sn 3 (f1 := (37, [(0, .ref x), (1, .int v1), (2, .int v2), (3, .int v3), (4, .int v4), (5, .int v5), (6, .int (nI (typ v1 v2 v3 v4 v5).length))], [.int 60, .int ((nI ty.length) + (nI (typ v1 v2 v3 v4 v5).length))])) (S1 := S) rfl ?_
  rw [nI_add]
  refine px_P.ic_le rfl rfl (fun _ => ?_) (fun h => absurd (nI_le (b := 60) hlen (by decide)) h)
  refine px_P.sn 2 (f1 := (52, [(0, .ref x), (1, .int v1), (2, .int v2), (3, .int v3), (4, .int v4), (5, .int v5), (6, .int (nI (typ v1 v2 v3 v4 v5).length))], [.int v1, .ref x])) (S1 := S) rfl ?_
  refine px_P.cv rfl rfl rfl (by assumption) rfl ?_
  show px_M _ px_m_Daemon_append [.ref x, .int v1] S _
  refine pm_dmAppend (l := ty) (by omega) a1 a3 (by omega) (fun S1 f1 b1 b2 b3 b4 => ?_)
  have d1 := b1.1
  have l1 : (ty ++ ch4 v1).length = ty.length + (ch4 v1).length := List.length_append
  show px_P _ _ (55, [(0, .ref x), (1, .int v1), (2, .int v2), (3, .int v3), (4, .int v4), (5, .int v5), (6, .int (nI (typ v1 v2 v3 v4 v5).length))], []) S1 _
  refine px_P.sn 2 (f1 := (57, [(0, .ref x), (1, .int v1), (2, .int v2), (3, .int v3), (4, .int v4), (5, .int v5), (6, .int (nI (typ v1 v2 v3 v4 v5).length))], [.int v2, .ref x])) (S1 := S1) rfl ?_
  refine px_P.cv rfl rfl rfl (by assumption) rfl ?_
  show px_M _ px_m_Daemon_append [.ref x, .int v2] S1 _
  refine pm_dmAppend (l := ty ++ ch4 v1) (by omega) b1 b2 (by omega) (fun S2 f2 b5 b6 b7 b8 => ?_)
  have d2 := b5.1
  have l2 : (ty ++ ch4 v1 ++ ch4 v2).length = (ty ++ ch4 v1).length + (ch4 v2).length := List.length_append
  show px_P _ _ (60, [(0, .ref x), (1, .int v1), (2, .int v2), (3, .int v3), (4, .int v4), (5, .int v5), (6, .int (nI (typ v1 v2 v3 v4 v5).length))], []) S2 _
  refine px_P.sn 2 (f1 := (62, [(0, .ref x), (1, .int v1), (2, .int v2), (3, .int v3), (4, .int v4), (5, .int v5), (6, .int (nI (typ v1 v2 v3 v4 v5).length))], [.int v3, .ref x])) (S1 := S2) rfl ?_
  refine px_P.cv rfl rfl rfl (by assumption) rfl ?_
  show px_M _ px_m_Daemon_append [.ref x, .int v3] S2 _
  refine pm_dmAppend (l := ty ++ ch4 v1 ++ ch4 v2) (by omega) b5 b6 (by omega) (fun S3 f3 b9 b10 b11 b12 => ?_)
  have d3 := b9.1
  have l3 : (ty ++ ch4 v1 ++ ch4 v2 ++ ch4 v3).length = (ty ++ ch4 v1 ++ ch4 v2).length + (ch4 v3).length := List.length_append
  show px_P _ _ (65, [(0, .ref x), (1, .int v1), (2, .int v2), (3, .int v3), (4, .int v4), (5, .int v5), (6, .int (nI (typ v1 v2 v3 v4 v5).length))], []) S3 _
  refine px_P.sn 2 (f1 := (68, [(0, .ref x), (1, .int v1), (2, .int v2), (3, .int v3), (4, .int v4), (5, .int v5), (6, .int (nI (typ v1 v2 v3 v4 v5).length))], [.int v4, .ref x])) (S1 := S3) rfl ?_
  refine px_P.cv rfl rfl rfl (by assumption) rfl ?_
  show px_M _ px_m_Daemon_append [.ref x, .int v4] S3 _
  refine pm_dmAppend (l := ty ++ ch4 v1 ++ ch4 v2 ++ ch4 v3) (by omega) b9 b10 (by omega) (fun S4 f4 b13 b14 b15 b16 => ?_)
  have d4 := b13.1
  have l4 : (ty ++ ch4 v1 ++ ch4 v2 ++ ch4 v3 ++ ch4 v4).length = (ty ++ ch4 v1 ++ ch4 v2 ++ ch4 v3).length + (ch4 v4).length := List.length_append
  show px_P _ _ (71, [(0, .ref x), (1, .int v1), (2, .int v2), (3, .int v3), (4, .int v4), (5, .int v5), (6, .int (nI (typ v1 v2 v3 v4 v5).length))], []) S4 _
  refine px_P.sn 2 (f1 := (74, [(0, .ref x), (1, .int v1), (2, .int v2), (3, .int v3), (4, .int v4), (5, .int v5), (6, .int (nI (typ v1 v2 v3 v4 v5).length))], [.int v5, .ref x])) (S1 := S4) rfl ?_
  refine px_P.cv rfl rfl rfl (by assumption) rfl ?_
  show px_M _ px_m_Daemon_append [.ref x, .int v5] S4 _
  refine pm_dmAppend (l := ty ++ ch4 v1 ++ ch4 v2 ++ ch4 v3 ++ ch4 v4) (by omega) b13 b14 (by omega) (fun S5 f5 b17 b18 b19 b20 => ?_)
  have el : ty ++ ch4 v1 ++ ch4 v2 ++ ch4 v3 ++ ch4 v4 ++ ch4 v5 = ty ++ typ v1 v2 v3 v4 v5 := by
    unfold typ
    simp only [List.append_assoc]
  rw [el] at b17 b18
  have d5 := b17.1
  show px_P _ _ (77, [(0, .ref x), (1, .int v1), (2, .int v2), (3, .int v3), (4, .int v4), (5, .int v5), (6, .int (nI (typ v1 v2 v3 v4 v5).length))], []) S5 _
  refine px_P.sn 1 (f1 := (78, [(0, .ref x), (1, .int v1), (2, .int v2), (3, .int v3), (4, .int v4), (5, .int v5), (6, .int (nI (typ v1 v2 v3 v4 v5).length))], [.ref x])) (S1 := S5) rfl ?_
  refine px_P.gf rfl rfl (by assumption) (v := .int (nI (ty ++ typ v1 v2 v3 v4 v5).length)) rfl ?_
  refine px_P.ret rfl ?_
  have fr : ∀ q, (q < x ∨ x + 2 ≤ q) → S5.1 q = S.1 q := fun q hq => by rw [b19 q hq, b15 q hq, b11 q hq, b7 q hq, b3 q hq]
  have tt5 : S5.2 = S.2 := by rw [b20, b16, b12, b8, b4]
  refine k S5 ⟨f5, T, D, lk, wt, to, ls, df, hp, la, hl, tW, H, tz, ds, cc, sc, old, G, b17, ⟨by rw [List.length_append]; exact hlen, fun c hc => ?_⟩, b18, a4.keep (fun q q1 q2 => fr q (by omega)), a5.keep (fun q q1 q2 => fr q (by omega)), a6.keep (fun q q1 q2 => fr q (by omega)), a7.keep (fun q q1 q2 => fr q (by omega)) (by rw [tt5]; exact Nat.le_refl _), by rw [tt5]; exact a8, a9, a10, a11, a12, a13, a14⟩ (fun q q1 q2 => fr q (by omega)) tt5
  rcases List.mem_append.mp hc with e | e
  · exact a2.2 c e
  · unfold typ at e
    rcases List.mem_append.mp e with e | e
    · exact ch4_ok _ c e
    rcases List.mem_append.mp e with e | e
    · exact ch4_ok _ c e
    rcases List.mem_append.mp e with e | e
    · exact ch4_ok _ c e
    rcases List.mem_append.mp e with e | e
    · exact ch4_ok _ c e
    · exact ch4_ok _ c e
