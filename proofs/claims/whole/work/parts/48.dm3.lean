/-! ===== CheckDaemon: put, undo, drop ===== -/
theorem lo_at.new {S S' : px_S} {lo b : Nat} {G : ln_G} {s : ln_S} {E : ln_D} (h : lo_at S lo G) (hlo : lo ≤ S.2.1) (hk : ∀ q, q < S.2.1 → S'.1 q = S.1 q) (hn : S.2.1 ≤ S'.2.1) (ha : ln_at S' b s E) (hw : ln_wf s) (ho : ∀ q, ln_own b s q → S.2.1 ≤ q ∧ q < S'.2.1) : lo_at S' lo (va_up G b (some (s, E))) := by
  have key : ∀ a s1 E1, va_up G b (some (s, E)) a = some (s1, E1) → (a = b ∧ s1 = s ∧ E1 = E) ∨ (a ≠ b ∧ G a = some (s1, E1)) := by
    intro a s1 E1 hh
    by_cases e : a = b
    · subst e; simp only [va_up, if_true] at hh; cases hh; exact Or.inl ⟨rfl, rfl, rfl⟩
    · simp only [va_up, if_neg e] at hh; exact Or.inr ⟨e, hh⟩
  refine ⟨fun a s1 E1 hh => ?_, fun a c s1 E1 s2 E2 q hne hh hh2 hq => ?_⟩
  · rcases key a s1 E1 hh with ⟨e1, e2, e3⟩ | ⟨e1, e2⟩
    · subst e1 e2 e3
      exact ⟨ha, hw, fun q hq => ⟨by have := (ho q hq).1; omega, (ho q hq).2⟩⟩
    · obtain ⟨q1, q2, q3⟩ := h.1 a s1 E1 e2
      exact ⟨q1.keep (fun q hq => hk q (q3 q hq).2), q2, fun q hq => ⟨(q3 q hq).1, by have := (q3 q hq).2; omega⟩⟩
  · rcases key a s1 E1 hh with ⟨e1, e2, e3⟩ | ⟨e1, e2⟩
    · subst e1 e2 e3
      rcases key c s2 E2 hh2 with ⟨f1, f2, f3⟩ | ⟨f1, f2⟩
      · exact absurd f1.symm hne
      · intro z
        have := ((h.1 c s2 E2 f2).2.2 q z).2
        have := (ho q hq).1
        omega
    · rcases key c s2 E2 hh2 with ⟨f1, f2, f3⟩ | ⟨f1, f2⟩
      · subst f1 f2 f3
        intro z
        have := ((h.1 a s1 E1 e2).2.2 q hq).2
        have := (ho q z).1
        omega
      · exact h.2 a c s1 E1 s2 E2 q hne e2 f2 hq
theorem ln_own_b {b : Nat} (s : ln_S) : ln_own b s b := by
  refine ⟨by omega, ?_⟩
  by_cases e : ln_wr s = -1
  · exact Or.inl ⟨e, by omega⟩
  · exact Or.inr ⟨e, by omega, by omega⟩
theorem lo_lt {S : px_S} {lo a : Nat} {G : ln_G} {s : ln_S} {E : ln_D} (h : lo_at S lo G) (hg : G a = some (s, E)) : a < S.2.1 := ((h.1 a s E hg).2.2 a (ln_own_b s)).2
theorem sp_new {la : Nat → Option Nat} {G : ln_G} {b : Nat} {y : ln_S × ln_D} (h : ∀ p a, la p = some a → a ≠ b) : sp la (va_up G b (some y)) = sp la G := by
  funext p
  unfold sp
  cases hl : la p with
  | none => rfl
  | some a =>
    have := h p a hl
    simp [va_up, this]
def blk (l : List Nat) : Bool := l.all (fun c => decide (c = 32))
theorem blank_tf {l : List Nat} : blk l = true ↔ ∀ j, j < l.length → tf l j = 32 := by
  unfold blk
  rw [List.all_eq_true]
  constructor
  · intro h j hj
    exact of_decide_eq_true (h _ (tf_mem hj))
  · intro h c hc
    obtain ⟨j, hj, e⟩ := List.getElem_of_mem hc
    have := h j hj
    unfold tf at this
    rw [List.getD_eq_getElem?_getD, List.getElem?_eq_getElem hj] at this
    rw [← e]
    exact decide_eq_true this
theorem pm_dmBlank {d x : Nat} {f : Nat → Int32} {ty : List Nat} {S : px_S} {Q : Option Value → px_S → Prop} (hd : 1 ≤ d) (h : dt_at S x f ty.length) (ho : tyo ty) (ha : tya f ty) (k : Q (some (.int (bif blk ty then 1 else 0))) S) : px_M d px_m_Daemon_isBlank [.ref x] S Q := by
  obtain ⟨h0, h1⟩ := h
  have hl := ho.1
  have lp : ∀ (m i : Nat), i + m = ty.length → (∀ j, j < i → tf ty j = 32) → px_P (d - 1) px_m_Daemon_isBlank (2, [(0, .ref x), (1, .int (nI i))], []) S Q := by
    intro m
    induction m with
    | zero =>
      intro i hi hj
      refine px_P.sn 2 (f1 := (4, [(0, .ref x), (1, .int (nI i))], [.ref x, .int (nI i)])) (S1 := S) rfl ?_
      refine px_P.gf rfl rfl (by assumption) (v := .int (nI ty.length)) rfl ?_
      refine px_P.ic_ge rfl rfl (fun _ => ?_) (fun h => absurd (nI_le (by omega) (by omega)) h)
      refine px_P.sn 1 (f1 := (39, [(0, .ref x), (1, .int (nI i))], [.int 1])) (S1 := S) rfl ?_
      refine px_P.ret rfl ?_
      rw [blank_tf.mpr (fun j h => hj j (by omega))] at k
      exact k
    | succ m ih =>
      intro i hi hj
      have h255 := ho.2 _ (tf_mem (show i < ty.length by omega))
      refine px_P.sn 2 (f1 := (4, [(0, .ref x), (1, .int (nI i))], [.ref x, .int (nI i)])) (S1 := S) rfl ?_
      refine px_P.gf rfl rfl (by assumption) (v := .int (nI ty.length)) rfl ?_
      refine px_P.ic_ge rfl rfl (fun h => absurd h (nI_ge (show i < ty.length by omega) (by omega))) (fun _ => ?_)
      refine px_P.sn 2 (f1 := (12, [(0, .ref x), (1, .int (nI i))], [.ref x, .int (nI i)])) (S1 := S) rfl ?_
      refine px_P.gf rfl rfl (by assumption) (v := .ref (x + 1)) rfl ?_
      refine px_P.alen rfl (by assumption) rfl ?_
      refine px_P.ic_ge rfl rfl (fun h => absurd h (nI_ge (b := 60) (by omega) (by decide))) (fun _ => ?_)
      refine px_P.sn 1 (f1 := (20, [(0, .ref x), (1, .int (nI i))], [.ref x])) (S1 := S) rfl ?_
      refine px_P.gf rfl rfl (by assumption) (v := .ref (x + 1)) rfl ?_
      refine px_P.sn 1 (f1 := (24, [(0, .ref x), (1, .int (nI i))], [.int (nI i), .ref (x + 1)])) (S1 := S) rfl ?_
      refine px_P.ialdj (j := i) rfl (by assumption) rfl (by omega) (by decide) ?_
      rw [ha i (by omega)]
      show px_P _ _ (25, [(0, .ref x), (1, .int (nI i))], [.int (nI (tf ty i))]) S _
      refine px_P.sn 1 (f1 := (27, [(0, .ref x), (1, .int (nI i))], [.int 32, .int (nI (tf ty i))])) (S1 := S) rfl ?_
      refine px_P.ic_eq rfl rfl (fun hq => ?_) (fun hq => ?_)
      · have e : tf ty i = 32 := (nI_eq (b := 32) (by omega) (by decide)).mp hq
        refine px_P.sn 2 (f1 := (2, [(0, .ref x), (1, .int ((nI i) + 1))], [])) (S1 := S) rfl ?_
        rw [nI_1]
        refine ih (i + 1) (by omega) (fun j h => ?_)
        by_cases z : j = i
        · rw [z]; exact e
        · exact hj j (by omega)
      · refine px_P.sn 1 (f1 := (31, [(0, .ref x), (1, .int (nI i))], [.int 0])) (S1 := S) rfl ?_
        refine px_P.ret rfl ?_
        have e : blk ty = false := by
          cases hb : blk ty with
          | false => rfl
          | true => exact absurd (show nI (tf ty i) = 32 by rw [blank_tf.mp hb i (by omega)]; rfl) hq
        rw [e] at k
        exact k
  refine px_M.go (by omega) (Nat.le_of_ble_eq_true rfl) ?_
  refine px_P.sn 2 (f1 := (2, [(0, .ref x), (1, .int 0)], [])) (S1 := S) rfl ?_
  exact lp ty.length 0 (by omega) (fun j hj => absurd hj (by omega))
theorem pm_dmPlace {d m l : Nat} {S : px_S} {Q : Option Value → px_S → Prop} (hd : 1 ≤ d) (hm : m < 8) (hl : l < 12) (k : Q (some (.int 1)) S) : px_M d px_m_Daemon_isPlace [.int (nI m), .int (nI l)] S Q := by
  refine px_M.go (by omega) (Nat.le_of_ble_eq_true rfl) ?_
  refine px_P.sn 1 (f1 := (1, [(0, .int (nI m)), (1, .int (nI l))], [.int (nI m)])) (S1 := S) rfl ?_
  refine px_P.if_lt rfl rfl (fun h => absurd h (nI_pos (by omega))) (fun _ => ?_)
  refine px_P.sn 2 (f1 := (7, [(0, .int (nI m)), (1, .int (nI l))], [.int 8, .int (nI m)])) (S1 := S) rfl ?_
  refine px_P.ic_ge rfl rfl (fun h => absurd h (nI_ge (b := 8) hm (by decide))) (fun _ => ?_)
  refine px_P.sn 1 (f1 := (11, [(0, .int (nI m)), (1, .int (nI l))], [.int (nI l)])) (S1 := S) rfl ?_
  refine px_P.if_lt rfl rfl (fun h => absurd h (nI_pos (by omega))) (fun _ => ?_)
  refine px_P.sn 2 (f1 := (17, [(0, .int (nI m)), (1, .int (nI l))], [.int 12, .int (nI l)])) (S1 := S) rfl ?_
  refine px_P.ic_ge rfl rfl (fun h => absurd h (nI_ge (b := 12) hl (by decide))) (fun _ => ?_)
  refine px_P.sn 2 (f1 := (25, [(0, .int (nI m)), (1, .int (nI l))], [.int 1])) (S1 := S) rfl ?_
  refine px_P.ret rfl ?_
  exact k
theorem nI_mul {a b : Nat} (h : a * b < 2 ^ 31) (ha : a < 2 ^ 31) (hb : b < 2 ^ 31) : nI a * nI b = nI (a * b) := by
  apply Int32.toInt_inj.mp
  rw [Int32.toInt_mul, nI_toInt ha, nI_toInt hb, nI_toInt h, show ((a : Nat) : Int) * (b : Int) = ((a * b : Nat) : Int) by rw [Int.natCast_mul]]
  generalize a * b = c at h ⊢
  exact Int.bmod_eq_of_le (by omega) (by omega)
theorem pl_i32 {m l : Nat} (hm : m < 8) (hl : l < 12) : nI m * 12 + nI l = nI (12 * m + l) := by
  rw [show (12 : Int32) = nI 12 from rfl, nI_mul (by omega) (by omega) (by omega), nI_add, Nat.mul_comm]
/-- what is kept for undoing, with one more -/
def hK (hh : List (Nat × List Nat)) (e : Nat × List Nat) : List (Nat × List Nat) := (if hh.length < 16 then hh else hh.drop 1) ++ [e]
theorem hK_len {hh : List (Nat × List Nat)} {e : Nat × List Nat} (h : hh.length ≤ 16) : (hK hh e).length = (if hh.length < 16 then hh.length else 15) + 1 := by
  unfold hK
  split
  · simp
  · simp; omega
theorem hK_at {hh : List (Nat × List Nat)} {e : Nat × List Nat} (h : hh.length ≤ 16) {j : Nat} (hj : j < (if hh.length < 16 then hh.length else 15)) : hg (hK hh e) j = hg hh (j + (hh.length - (if hh.length < 16 then hh.length else 15))) := by
  unfold hg hK
  split at hj
  · rename_i hl
    rw [if_pos hl, if_pos hl, Nat.sub_self, Nat.add_zero, List.getD_eq_getElem?_getD, List.getD_eq_getElem?_getD, List.getElem?_append_left hj]
  · rename_i hl
    have e16 : hh.length = 16 := by omega
    rw [if_neg hl, if_neg hl, e16, List.getD_eq_getElem?_getD, List.getD_eq_getElem?_getD, List.getElem?_append_left (by rw [List.length_drop]; omega), List.getElem?_drop]
    congr 2
    omega
theorem hK_last {hh : List (Nat × List Nat)} {e : Nat × List Nat} (h : hh.length ≤ 16) : hg (hK hh e) (if hh.length < 16 then hh.length else 15) = e := by
  unfold hg hK
  split
  · simp [List.getD_eq_getElem?_getD]
  · rw [List.getD_eq_getElem?_getD, List.getElem?_append_right (by rw [List.length_drop]; omega)]
    have : 15 - (hh.drop 1).length = 0 := by rw [List.length_drop]; omega
    rw [this]
    rfl
theorem gsm_fst_sp {G G' : ln_G} (h : gsm Prod.fst G G') (la : Nat → Option Nat) : sp la G = sp la G' := by
  funext p
  unfold sp
  cases la p with
  | none => rfl
  | some a => exact h a
theorem gsm_fst_la {G G' : ln_G} (h : gsm Prod.fst G G') {la : Nat → Option Nat} {n : Nat} (hl : la_ok la G n) : la_ok la G' n := by
  intro p a hp ha
  obtain ⟨s, E, hg⟩ := hl p a hp ha
  obtain ⟨y, h1, _⟩ := h.get hg
  exact ⟨y.1, y.2, h1⟩
theorem la_none {la : Nat → Option Nat} {G : ln_G} {tt : Nat → List Nat} (h1 : la_ok la G 96) (h2 : sp la G = sL tt) {p : Nat} (hp : p < 96) : la p = none ↔ tt p = [] := by
  have e := congrFun h2 p
  constructor
  · intro h
    rw [sp_n h] at e
    unfold sL sx at e
    split at e
    · assumption
    · cases e
  · intro h
    cases hl : la p with
    | none => rfl
    | some a =>
      obtain ⟨s, E, hg⟩ := h1 p a hp hl
      rw [sp_s hl hg] at e
      unfold sL sx at e
      rw [if_pos h] at e
      cases e
/-- what a call leaves of the rest of the world -/
def dF (S S' : px_S) (x lo c n : Nat) : Prop := (∀ q, q < lo → (q < x ∨ x + 435 ≤ q) → S'.1 q = S.1 q) ∧ S.2.1 ≤ S'.2.1 ∧ S'.2.1 ≤ S.2.1 + c ∧ S'.2.2 ≤ S.2.2 + n
theorem pm_dmPut {d x lo m l : Nat} {ty : List Nat} {tt : Nat → List Nat} {hh : List (Nat × List Nat)} {S : px_S} {Q : Option Value → px_S → Prop} (hd : 58 ≤ d) (h : dI S x lo ty tt hh) (hm : m < 8) (hl : l < 12)
    (k : ∀ S' (P : Nat → Bool) R, dI S' x lo [] (va_up tt (12 * m + l) (if blk ty then [] else ty)) (hK hh (12 * m + l, tt (12 * m + l))) → lk_is (sL (va_up tt (12 * m + l) (if blk ty then [] else ty))) (12 * m + l) (fun t => dfb (sL tt) (12 * m + l) t = true) (fun p => P p = true) R → dF S S' x lo 20 403 → Q (some (.int (nI (ct P 96)))) S') :
    px_M d px_m_Daemon_put [.ref x, .int (nI m), .int (nI l)] S Q := by
  obtain ⟨f, T, D, lk, wt, to, ls, df, hp, la, hi, tW, H, tz, ds, cc, sc, old, G, a1, a2, a3, a4, a5, a6, a7, a8, a9, a10, a11, a12, a13, a14, a15, a16⟩ := h
  obtain ⟨p0, hp0⟩ : ∃ p0, p0 = 12 * m + l := ⟨_, rfl⟩
  obtain ⟨nt, hnt⟩ : ∃ nt, nt = (if blk ty = true then ([] : List Nat) else ty) := ⟨_, rfl⟩
  rw [← hp0, ← hnt] at k
  have hp96 : p0 < 96 := by omega
  have hdiv : p0 / 12 = m := by omega
  -- behind the reading
  have rest : ∀ (S1 : px_S) (G1 : ln_G) (o : Option Nat), (∀ q, q < S.2.1 → S1.1 q = S.1 q) → S.2.1 ≤ S1.2.1 → S1.2.1 ≤ S.2.1 + 20 → S1.2.2 ≤ S.2.2 + 403 → lo_at S1 lo G1 → sp la G1 = sp la G → (∀ j, j < 16 → sp hi G1 j = sp hi G j) → la_ok la G1 96 → la_ok hi G1 16 → wsI la G1 T D → (∀ a, o = some a → ∃ s E, G1 a = some (s, E)) → sp (fun _ => o) G1 0 = sx nt m →
      px_P (d - 1) px_m_Daemon_put (55, [(0, .ref x), (1, .int (nI m)), (2, .int (nI l)), (3, .int (nI p0))], [va_rf o]) S1 Q := by
    intro S1 G1 o b1 b2 b3 b4 b5 b6 b7 b8 b9 b10 b11 b12
    have d0 : S1.1 x = _ := (b1 x (by omega)).trans a1.1
    have w1 : ws_at S1 (x + 2) la T D lk wt tW to tz old := a4.keep (fun q q1 q2 => b1 q (by omega))
    have h1 : hi_at S1 (x + 432) hh.length hp hi := a6.keep (fun q q1 q2 => b1 q (by omega))
    have c1 : ci_at S1 (x + 12) H ls df ds cc sc := a5.keep (fun q q1 q2 => b1 q (by omega))
    have cellO : ∀ (la' : Nat → Option Nat) n, la_ok la' G1 n → ∀ j a, j < n → la' j = some a → ∃ fs, S1.1 a = some (.inr (4, fs)) := by
      intro la' n hla j a hj ha
      obtain ⟨s, E, hg⟩ := hla j a hj ha
      exact b5.cell hg
    -- the call of edit, once the history is kept
    have ed : ∀ (LS : px_L) (S2 : px_S), dt_at S2 x f 0 → ws_at S2 (x + 2) la T D lk wt tW to tz old → ci_at S2 (x + 12) H ls df ds cc sc → lo_at S2 lo G1 → (∃ hp' hi', hi_at S2 (x + 432) (hK hh (p0, tt p0)).length hp' hi' ∧ hiO (hK hh (p0, tt p0)) hp' hi' G1) → (∀ q, q < lo → (q < x ∨ x + 435 ≤ q) → S2.1 q = S1.1 q) → S2.2 = S1.2 →
        px_M (d - 1) px_m_Workspace_edit [.ref (x + 2), .int (nI p0), va_rf o] S2 (fun v S3 => px_P (d - 1) px_m_Daemon_put (85 + 3, LS, v.toList ++ []) S3 Q) := by
      intro LS S2 e1 e2 e3 e4 ⟨hp', hi', e5, e6⟩ e7 e8
      refine pm_wsEdit (by omega) e2 e4 (by omega) b10 hp96 b11 (fun S3 T' D' lk' wt' tW' to' tz' G' R f1 f2 f3 f4 f5 f6 f7 => ?_)
      have hsp : sp (va_up la p0 o) G1 = sL (va_up tt p0 nt) := by
        funext p
        by_cases e : p = p0
        · subst e
          have : sp (va_up la p o) G1 p = sp (fun _ => o) G1 0 := by simp [sp, va_up]
          rw [this, b12]
          simp [sL, va_up, hdiv]
        · rw [sp_up p e, b6, a11]
          simp [sL, va_up, e]
      rw [hsp, b6, a11] at f5
      refine px_P.ret rfl ?_
      refine k S3 (bz lk') R ⟨f, T', D', lk', wt', to', ls, df, hp', va_up la p0 o, hi', tW', H, tz', ds, cc, sc, 1, G', ⟨(f6 x (by omega) (by omega)).trans e1.1, (f6 _ (by omega) (by omega)).trans e1.2⟩, ⟨by show 0 ≤ 60; omega, fun c hc => by cases hc⟩, fun j hj => absurd hj (by show ¬ j < 0; omega), f1, e3.keep (fun q q1 q2 => f6 q (by omega) (by omega)), e5.keep (fun q q1 q2 => f6 q (by omega) (by omega)), f2, by rw [f7, e8]; omega, a9, f4, by rw [← gsm_fst_sp f3]; exact hsp, ⟨⟨fun p => ?_, fun p hp => ?_⟩, fun p hp => by simp only [va_up, if_neg (show ¬ p = p0 by omega)]; exact a12.2 p hp⟩, fun z => absurd z (by decide), ⟨e6.1, gsm_fst_la f3 e6.2.1, fun j hj => ?_⟩⟩ f5 ⟨fun q q1 q2 => ?_, by rw [f7, e8]; exact b2, by rw [f7, e8]; exact b3, by rw [f7, e8]; exact b4⟩
      · by_cases e : p = p0
        · subst e
          simp only [va_up, if_true]
          rw [hnt]
          split
          · exact ⟨by show 0 ≤ 60; omega, fun c hc => by cases hc⟩
          · exact a2
        · simp only [va_up, if_neg e]; exact a12.1.1 p
      · have e : p ≠ p0 := by omega
        simp only [va_up, if_neg e]; exact a12.1.2 p hp
      · rw [← gsm_fst_sp f3]; exact e6.2.2 j hj
      · rw [f6 q q1 (by omega), e7 q q1 q2]; exact b1 q (by omega)
    have tail : ∀ S2 : px_S, (∃ (z' : Nat) (p' : Nat → Int32) (l' : Nat → Option Nat), hi_at S2 (x + 432) (z' + 1) p' l' ∧ z' = (if hh.length < 16 then hh.length else 15) ∧ p' z' = nI p0 ∧ l' z' = la p0 ∧ (∀ j, j < z' → p' j = hp (j + (hh.length - z')) ∧ l' j = hi (j + (hh.length - z'))) ∧ ∀ j, z' < j → l' j = hi j) → (∀ q, (q < x + 432 ∨ x + 432 + 3 ≤ q) → S2.1 q = S1.1 q) → S2.2 = S1.2 →
        px_P (d - 1) px_m_Daemon_put (73, [(0, .ref x), (1, .int (nI m)), (2, .int (nI l)), (3, .int (nI p0)), (4, va_rf o)], []) S2 Q := by
      intro S2 ⟨z', p', l', g1, g2, g3, g4, g5, g5'⟩ g6 g7
      have d2 := (g6 x (by omega)).trans d0
      have lo2 : lo_at S2 lo G1 := b5.keep (fun q hq _ => g6 q (by omega)) (by rw [g7]; exact Nat.le_refl _)
      have hlen : (hK hh (p0, tt p0)).length = z' + 1 := by rw [hK_len a14, g2]
      have hz : (hh.length < 16 ∧ z' = hh.length) ∨ (hh.length = 16 ∧ z' = 15) := by
        by_cases e : hh.length < 16
        · rw [if_pos e] at g2; exact Or.inl ⟨e, g2⟩
        · rw [if_neg e] at g2; exact Or.inr ⟨by omega, g2⟩
      have hio : hiO (hK hh (p0, tt p0)) p' l' G1 := by
        refine ⟨by rw [hlen, g2]; split <;> omega, ?_, fun j hj => ?_⟩
        · intro j a hj ha
          rcases Nat.lt_or_ge j z' with e | e
          · rw [(g5 j e).2] at ha
            exact b9 _ a (by omega) ha
          · rcases Nat.lt_or_ge z' j with e2 | e2
            · rw [g5' j e2] at ha
              exact b9 j a hj ha
            · have : j = z' := by omega
              rw [this, g4] at ha
              exact b8 p0 a hp96 ha
        · rw [hlen] at hj
          by_cases e : j = z'
          · rw [e, g2, hK_last a14, ← g2]
            refine ⟨g3, hp96, a12.1.1 p0, ?_⟩
            have : sp l' G1 z' = sp la G1 p0 := by simp [sp, g4]
            rw [this, b6, a11]
            rfl
          · have hjz : j < z' := by omega
            have hjz' : j < (if hh.length < 16 then hh.length else 15) := by rw [← g2]; exact hjz
            rw [hK_at a14 hjz', ← g2]
            obtain ⟨q1, q2⟩ := g5 j hjz
            have hb : j + (hh.length - z') < hh.length := by omega
            obtain ⟨r1, r2, r3, r4⟩ := a16 _ hb
            refine ⟨q1.trans r1, r2, r3, ?_⟩
            have : sp l' G1 j = sp hi G1 (j + (hh.length - z')) := by simp [sp, q2]
            rw [this, b7 _ (by omega)]
            exact r4
      refine px_P.sn 2 (f1 := (75, [(0, .ref x), (1, .int (nI m)), (2, .int (nI l)), (3, .int (nI p0)), (4, va_rf o)], [.int 0, .ref x])) (S1 := S2) rfl ?_
      refine px_P.pf rfl rfl (by assumption) rfl (fun S3 u3 => ?_)
      have d3 := u3.s
      have w3 : ws_at S3 (x + 2) la T D lk wt tW to tz old := w1.keep (fun q q1 q2 => by rw [u3.o (by omega), g6 q (by omega)])
      have w30 := w3.1
      have e3 := ed [(0, .ref x), (1, .int (nI m)), (2, .int (nI l)), (3, .int (nI p0)), (4, va_rf o)] S3 ⟨u3.s, by rw [u3.o (by omega), g6 _ (by omega), b1 _ (by omega)]; exact a1.2⟩ w3 (c1.keep (fun q q1 q2 => by rw [u3.o (by omega), g6 q (by omega)])) (lo2.keep (fun q hq _ => u3.o (by omega)) (by rw [u3.t]; exact Nat.le_refl _)) ⟨p', l', by rw [hlen]; exact g1.keep (fun q q1 q2 => u3.o (by omega)), hio⟩ (fun q q1 q2 => by rw [u3.o (by omega), g6 q (by omega)]) (by rw [u3.t, g7])
      refine px_P.sn 1 (f1 := (79, [(0, .ref x), (1, .int (nI m)), (2, .int (nI l)), (3, .int (nI p0)), (4, va_rf o)], [.ref x])) (S1 := S3) rfl ?_
      refine px_P.gf rfl rfl (by assumption) (v := .ref (x + 2)) rfl ?_
      refine px_P.sn 1 (f1 := (83, [(0, .ref x), (1, .int (nI m)), (2, .int (nI l)), (3, .int (nI p0)), (4, va_rf o)], [.int (nI p0), .ref (x + 2)])) (S1 := S3) rfl ?_
      refine px_P.sn 1 (f1 := (85, [(0, .ref x), (1, .int (nI m)), (2, .int (nI l)), (3, .int (nI p0)), (4, va_rf o)], [va_rf o, .int (nI p0), .ref (x + 2)])) (S1 := S3) (by cases o <;> rfl) ?_
      refine px_P.cv rfl rfl rfl w30 rfl ?_
      exact e3
    refine px_P.sn 1 (f1 := (57, [(0, .ref x), (1, .int (nI m)), (2, .int (nI l)), (3, .int (nI p0)), (4, va_rf o)], [])) (S1 := S1) (by cases o <;> rfl) ?_
    have w10 := w1.1
    refine px_P.sn 1 (f1 := (58, [(0, .ref x), (1, .int (nI m)), (2, .int (nI l)), (3, .int (nI p0)), (4, va_rf o)], [.ref x])) (S1 := S1) rfl ?_
    refine px_P.gf rfl rfl (by assumption) (v := .ref (x + 432)) rfl ?_
    refine px_P.sn 2 (f1 := (63, [(0, .ref x), (1, .int (nI m)), (2, .int (nI l)), (3, .int (nI p0)), (4, va_rf o)], [.ref x, .int (nI p0), .ref (x + 432)])) (S1 := S1) rfl ?_
    refine px_P.gf rfl rfl (by assumption) (v := .ref (x + 2)) rfl ?_
    refine px_P.sn 1 (f1 := (67, [(0, .ref x), (1, .int (nI m)), (2, .int (nI l)), (3, .int (nI p0)), (4, va_rf o)], [.int (nI p0), .ref (x + 2), .int (nI p0), .ref (x + 432)])) (S1 := S1) rfl ?_
    refine px_P.cv rfl rfl rfl (by assumption) rfl ?_
    show px_M _ px_m_Workspace_lineAt [.ref (x + 2), .int (nI p0)] S1 _
    refine pm_wsLineAt (by omega) w1 hp96 ?_
    show px_P _ _ (70, [(0, .ref x), (1, .int (nI m)), (2, .int (nI l)), (3, .int (nI p0)), (4, va_rf o)], [va_rf (la p0), .int (nI p0), .ref (x + 432)]) S1 _
    have h10 := h1.1
    refine px_P.cv rfl rfl rfl (by assumption) rfl ?_
    show px_M _ px_m_History_keep [.ref (x + 432), .int (nI p0), va_rf (la p0)] S1 _
    refine pm_hiKeep2 (by omega) a14 h1 (cellO hi 16 b9) (fun a ha => cellO la 96 b8 p0 a hp96 ha) (fun S2 z' p' l' g1 g2 g3 g4 g5 g5' g6 g7 => ?_)
    exact tail S2 ⟨z', p', l', g1, g2, g3, g4, g5, g5'⟩ g6 g7
  have hd0 := a1.1
  refine px_M.go (by omega) (Nat.le_of_ble_eq_true rfl) ?_
  refine px_P.sn 2 (f1 := (2, [(0, .ref x), (1, .int (nI m)), (2, .int (nI l))], [.int (nI l), .int (nI m)])) (S1 := S) rfl ?_
  refine px_P.call rfl ?_
  show px_M _ px_m_Daemon_isPlace [.int (nI m), .int (nI l)] S _
  refine pm_dmPlace (by omega) hm hl ?_
  show px_P _ _ (5, [(0, .ref x), (1, .int (nI m)), (2, .int (nI l))], [.int 1]) S _
  refine px_P.if_ne rfl rfl (fun _ => ?_) (fun h => absurd h ((by decide)))
  refine px_P.sn 6 (f1 := (25, [(0, .ref x), (1, .int (nI m)), (2, .int (nI l)), (3, .int (((nI m) * 12) + (nI l)))], [])) (S1 := S) rfl ?_
  rw [pl_i32 hm hl, ← hp0]
  refine px_P.sn 1 (f1 := (26, [(0, .ref x), (1, .int (nI m)), (2, .int (nI l)), (3, .int (nI p0))], [.ref x])) (S1 := S) rfl ?_
  refine px_P.cv rfl rfl rfl (by assumption) rfl ?_
  show px_M _ px_m_Daemon_isBlank [.ref x] S _
  refine pm_dmBlank (by omega) a1 a2 a3 ?_
  cases hb : blk ty with
  | true =>
    rw [hb] at hnt
    have hnt' : nt = [] := hnt
    show px_P _ _ (29, [(0, .ref x), (1, .int (nI m)), (2, .int (nI l)), (3, .int (nI p0))], [.int 1]) S _
    refine px_P.if_eq rfl rfl (fun h => absurd h ((by decide))) (fun _ => ?_)
    refine px_P.sn 2 (f1 := (55, [(0, .ref x), (1, .int (nI m)), (2, .int (nI l)), (3, .int (nI p0))], [.null])) (S1 := S) rfl ?_
    exact rest S G none (fun _ _ => rfl) (Nat.le_refl _) (by omega) (by omega) a7 rfl (fun _ _ => rfl) a10.1 a15 a10 (fun a ha => by cases ha) (by rw [hnt']; rfl)
  | false =>
    rw [hb] at hnt
    have hnt' : nt = ty := hnt
    have hne : ¬ ty = [] := fun z => by rw [z] at hb; cases hb
    obtain ⟨pp, hpp⟩ : ∃ pp, pp = S.2.1 := ⟨_, rfl⟩
    show px_P _ _ (29, [(0, .ref x), (1, .int (nI m)), (2, .int (nI l)), (3, .int (nI p0))], [.int 0]) S _
    refine px_P.if_eq rfl rfl (fun _ => ?_) (fun h => absurd (rfl) h)
    refine px_P.nw rfl rfl (fun S1 u1 => ?_)
    have s1 := u1.s
    rw [← hpp] at s1 ⊢
    have t1 : S1.2 = (pp + 1, S.2.2 + 8) := by rw [u1.t, ← hpp]; rfl
    have d1 := u1.n hd0 (by omega)
    have x1 := u1.n a1.2 (by omega)
    show px_P _ _ (39, [(0, .ref x), (1, .int (nI m)), (2, .int (nI l)), (3, .int (nI p0))], [.ref pp]) S1 _
    refine px_P.sn 2 (f1 := (41, [(0, .ref x), (1, .int (nI m)), (2, .int (nI l)), (3, .int (nI p0))], [.ref x, .ref pp, .ref pp])) (S1 := S1) rfl ?_
    refine px_P.gf rfl rfl (by assumption) (v := .ref (x + 1)) rfl ?_
    refine px_P.sn 1 (f1 := (45, [(0, .ref x), (1, .int (nI m)), (2, .int (nI l)), (3, .int (nI p0))], [.ref x, .ref (x + 1), .ref pp, .ref pp])) (S1 := S1) rfl ?_
    refine px_P.gf rfl rfl (by assumption) (v := .int (nI ty.length)) rfl ?_
    refine px_P.sn 1 (f1 := (49, [(0, .ref x), (1, .int (nI m)), (2, .int (nI l)), (3, .int (nI p0))], [.int (nI m), .int (nI ty.length), .ref (x + 1), .ref pp, .ref pp])) (S1 := S1) rfl ?_
    refine px_P.call rfl ?_
    show px_M _ px_m_Parser_init [.ref pp, .ref (x + 1), .int (nI ty.length), .int (nI m)] S1 _
    refine pm_paInit (by omega) a2.1 s1 (by rw [t1]) x1 (by omega) (fun S2 e1 e2 e3 => ?_)
    have e3' : S2.2 = (pp + 9, S.2.2 + (20 + 5 * ty.length)) := by
      rw [e3, t1]
      exact Prod.ext rfl (by show S.2.2 + 8 + (12 + 5 * ty.length) = _; omega)
    have p2 := e1.1
    show px_P _ _ (52, [(0, .ref x), (1, .int (nI m)), (2, .int (nI l)), (3, .int (nI p0))], [.ref pp]) S2 _
    refine px_P.cv rfl rfl rfl (by assumption) rfl ?_
    show px_M _ px_m_Parser_read [.ref pp] S2 _
    refine pm_paRead (by omega) (tok_of a2 a3) hm (by omega) e1 (by rw [e3']) (fun S3 E f1 f2 f3 f4 f5 f6 => ?_)
    have hl60 := a2.1
    have fr : ∀ q, q < S.2.1 → S3.1 q = S.1 q := fun q hq => by rw [f2 q (by omega), e2 q (by omega), u1.o (by omega)]
    have wf := (pz_wf (tx := tf ty) (N := ty.length) hm a2.1).1
    have lo3 : lo_at S3 lo (va_up G (pp + 9) (some (pz (tf ty) ty.length m, E))) := a7.new a8 fr (by omega) f1 wf (fun q hq => by rw [← hpp]; exact f3 q hq)
    have nla : ∀ p a, la p = some a → a ≠ pp + 9 := by
      intro p a ha z
      rcases Nat.lt_or_ge p 96 with e | e
      · obtain ⟨s, E', hg⟩ := a10.1 p a e ha
        have := lo_lt a7 hg
        omega
      · rw [a12.2 p e] at ha; cases ha
    have nhi : ∀ j a, j < 16 → hi j = some a → a ≠ pp + 9 := by
      intro j a hj ha z
      obtain ⟨s, E', hg⟩ := a15 j a hj ha
      have := lo_lt a7 hg
      omega
    have esp : sp la (va_up G (pp + 9) (some (pz (tf ty) ty.length m, E))) = sp la G := sp_new nla
    have old1 : ∀ a s E', a ≠ pp + 9 → G a = some (s, E') → va_up G (pp + 9) (some (pz (tf ty) ty.length m, E)) a = some (s, E') := fun a s E' hne hg => by simp only [va_up, if_neg hne]; exact hg
    show px_P _ _ (55, [(0, .ref x), (1, .int (nI m)), (2, .int (nI l)), (3, .int (nI p0))], [.ref (pp + 9)]) S3 _
    refine rest S3 (va_up G (pp + 9) (some (pz (tf ty) ty.length m, E))) (some (pp + 9)) fr (by omega) (by omega) (by rw [e3'] at f6; have h6 : S3.2.2 ≤ S.2.2 + (20 + 5 * ty.length) + 83 := f6; omega) lo3 esp (fun j hj => ?_) (fun p a hp ha => ?_) (fun p a hp ha => ?_) ⟨fun p a hp ha => ?_, ?_, ?_, fun p a s E' hp ha hg => ?_⟩ (fun a ha => ?_) ?_
    · unfold sp
      cases hq : hi j with
      | none => rfl
      | some a =>
        have := nhi j a hj hq
        simp [va_up, this]
    · obtain ⟨s, E', hg⟩ := a10.1 p a hp ha
      exact ⟨s, E', old1 a s E' (nla p a ha) hg⟩
    · obtain ⟨s, E', hg⟩ := a15 p a hp ha
      exact ⟨s, E', old1 a s E' (nhi p a hp ha) hg⟩
    · obtain ⟨s, E', hg⟩ := a10.1 p a hp ha
      exact ⟨s, E', old1 a s E' (nla p a ha) hg⟩
    · rw [esp]; exact a10.2.1
    · rw [esp]; exact a10.2.2.1
    · have hne := nla p a ha
      simp only [va_up, if_neg hne] at hg
      exact a10.2.2.2 p a s E' hp ha hg
    · cases ha
      exact ⟨pz (tf ty) ty.length m, E, by simp only [va_up, if_true]⟩
    · rw [hnt']
      unfold sx
      rw [if_neg hne]
      simp [sp, va_up]
