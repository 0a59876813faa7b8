/-! ===== CheckDaemon: its state; typing ===== -/
def byt (x : Int32) (k : Nat) : Nat := x.toBitVec.toNat / 2 ^ k % 256
theorem byt_u (x s : Int32) (k : Nat) (hs : ((s.toUInt32 &&& Int32.toUInt32 31).toBitVec % 32).toNat = k) : (x.toUInt32 >>> (s.toUInt32 &&& Int32.toUInt32 31)).toInt32 &&& 255 = nI (byt x k) := by
  rw [pk_and _ (m := 255) 8 (by decide), pk_ushr x s k hs]
  rfl
def ch4 (x : Int32) : List Nat := [byt x 24, byt x 16, byt x 8, byt x 0].filter (fun c => decide (¬ c = 0))
def b1 (c : Nat) : List Nat := if c = 0 then [] else [c]
theorem ch4_b (x : Int32) : ch4 x = b1 (byt x 24) ++ (b1 (byt x 16) ++ (b1 (byt x 8) ++ (b1 (byt x 0) ++ []))) := by
  unfold ch4 b1
  simp only [List.filter_cons, List.filter_nil]
  repeat' split
  all_goals simp_all
theorem ch4_ok (x : Int32) : ∀ c, c ∈ ch4 x → 1 ≤ c ∧ c ≤ 255 := by
  intro c hc
  unfold ch4 at hc
  rw [List.mem_filter] at hc
  obtain ⟨h1, h2⟩ := hc
  have h3 := of_decide_eq_true h2
  have : c < 256 := by
    simp only [List.mem_cons, List.not_mem_nil, or_false] at h1
    rcases h1 with e | e | e | e <;> rw [e] <;> unfold byt <;> omega
  omega
theorem b1_len (c : Nat) : (b1 c).length ≤ 1 := by unfold b1; split <;> simp
theorem ch4_len (x : Int32) : (ch4 x).length ≤ 4 := by
  rw [ch4_b]
  simp only [List.length_append, List.length_nil]
  have h1 := b1_len (byt x 24)
  have h2 := b1_len (byt x 16)
  have h3 := b1_len (byt x 8)
  have h4 := b1_len (byt x 0)
  omega
theorem pm_dmChars {d : Nat} {x : Int32} {S : px_S} {Q : Option Value → px_S → Prop} (hd : 1 ≤ d) (k : Q (some (.int (nI (ch4 x).length))) S) : px_M d px_m_Daemon_charactersIn [.int x] S Q := by
  have turn : ∀ (s : Int32) (kk n : Nat), 0 ≤ s → ((s.toUInt32 &&& Int32.toUInt32 31).toBitVec % 32).toNat = kk → px_P (d - 1) px_m_Daemon_charactersIn (5, [(0, .int x), (1, .int (nI (n + (b1 (byt x kk)).length))), (2, .int (s + (-8)))], []) S Q → px_P (d - 1) px_m_Daemon_charactersIn (5, [(0, .int x), (1, .int (nI n)), (2, .int s)], []) S Q := by
    intro s kk n hs hk hgo
    refine px_P.sn 1 (f1 := (6, [(0, .int x), (1, .int (nI n)), (2, .int s)], [.int s])) (S1 := S) rfl ?_
    refine px_P.if_lt rfl rfl (fun h => absurd h (Int32.not_lt.mpr hs)) (fun _ => ?_)
    refine px_P.sn 5 (f1 := (16, [(0, .int x), (1, .int (nI n)), (2, .int s)], [.int (((x.toUInt32 >>> (s.toUInt32 &&& Int32.toUInt32 31)).toInt32) &&& 255)])) (S1 := S) rfl ?_
    rw [byt_u x s kk hk]
    have hb : byt x kk < 256 := Nat.mod_lt _ (by decide)
    refine px_P.if_eq rfl rfl (fun h0 => ?_) (fun h0 => ?_)
    · have e : byt x kk = 0 := (nI_eq (b := 0) (by omega) (by decide)).mp h0
      rw [show (b1 (byt x kk)).length = 0 by rw [e]; rfl] at hgo
      refine px_P.sn 2 (f1 := (5, [(0, .int x), (1, .int (nI n)), (2, .int (s + (-8)))], [])) (S1 := S) rfl ?_
      exact hgo
    · have e : ¬ byt x kk = 0 := fun z => h0 (by rw [z]; rfl)
      rw [show (b1 (byt x kk)).length = 1 by unfold b1; rw [if_neg e]; rfl, ← nI_1] at hgo
      refine px_P.sn 3 (f1 := (5, [(0, .int x), (1, .int ((nI n) + 1)), (2, .int (s + (-8)))], [])) (S1 := S) rfl ?_
      exact hgo
  refine px_M.go (by omega) (Nat.le_of_ble_eq_true rfl) ?_
  refine px_P.sn 4 (f1 := (5, [(0, .int x), (1, .int 0), (2, .int 24)], [])) (S1 := S) rfl ?_
  refine turn 24 24 0 (by decide) (by decide) ?_
  refine turn 16 16 _ (by decide) (by decide) ?_
  refine turn 8 8 _ (by decide) (by decide) ?_
  refine turn 0 0 _ (by decide) (by decide) ?_
  have e : 0 + (b1 (byt x 24)).length + (b1 (byt x 16)).length + (b1 (byt x 8)).length + (b1 (byt x 0)).length = (ch4 x).length := by
    rw [ch4_b]
    simp only [List.length_append, List.length_nil]
    omega
  rw [e]
  show px_P _ _ (5, [(0, .int x), (1, .int (nI (ch4 x).length)), (2, .int (-8))], []) S _
  refine px_P.sn 1 (f1 := (6, [(0, .int x), (1, .int (nI (ch4 x).length)), (2, .int (-8))], [.int (-8)])) (S1 := S) rfl ?_
  refine px_P.if_lt rfl rfl (fun _ => ?_) (fun h => absurd ((by decide)) h)
  refine px_P.sn 1 (f1 := (29, [(0, .int x), (1, .int (nI (ch4 x).length)), (2, .int (-8))], [.int (nI (ch4 x).length)])) (S1 := S) rfl ?_
  refine px_P.ret rfl ?_
  exact k
def tf (l : List Nat) (j : Nat) : Nat := l.getD j 0
/-- a text as it can be typed -/
def tyo (l : List Nat) : Prop := l.length ≤ 60 ∧ ∀ c, c ∈ l → 1 ≤ c ∧ c ≤ 255
def tya (f : Nat → Int32) (l : List Nat) : Prop := ∀ j, j < l.length → f j = nI (tf l j)
theorem tf_mem {l : List Nat} {j : Nat} (h : j < l.length) : tf l j ∈ l := by
  unfold tf
  rw [List.getD_eq_getElem?_getD, List.getElem?_eq_getElem h]
  exact List.getElem_mem h
theorem tf_app {l r : List Nat} {j : Nat} (h : j < l.length) : tf (l ++ r) j = tf l j := by
  unfold tf
  rw [List.getD_eq_getElem?_getD, List.getD_eq_getElem?_getD, List.getElem?_append_left h]
theorem tf_last {l : List Nat} {c : Nat} : tf (l ++ [c]) l.length = c := by
  unfold tf
  simp
theorem tok_of {f : Nat → Int32} {l : List Nat} (h : tyo l) (ha : tya f l) : tok f (tf l) l.length := ⟨ha, fun j hj => h.2 _ (tf_mem hj), h.1⟩
theorem tya_add {f : Nat → Int32} {l : List Nat} {c : Nat} (h : tya f l) : tya (upd f l.length (nI c)) (l ++ [c]) := by
  intro j hj
  rw [List.length_append] at hj
  have hj' : j < l.length + 1 := hj
  by_cases e : j = l.length
  · subst e; rw [pk_us, tf_last]
  · rw [pk_un e, tf_app (by omega)]; exact h j (by omega)
/-- the cells of a daemon that typing reaches -/
def dt_at (S : px_S) (x : Nat) (f : Nat → Int32) (n : Nat) : Prop := S.1 x = some (.inr (9, [.ref (x + 1), .int (nI n), .ref (x + 2), .ref (x + 432)])) ∧ S.1 (x + 1) = some (.inl (0, 60, .inl f))
theorem pm_dmAppend {d x : Nat} {f : Nat → Int32} {l : List Nat} {v : Int32} {S : px_S} {Q : Option Value → px_S → Prop} (hd : 1 ≤ d) (h : dt_at S x f l.length) (ha : tya f l) (hl : l.length + (ch4 v).length ≤ 60)
    (k : ∀ S' f', dt_at S' x f' (l ++ ch4 v).length → tya f' (l ++ ch4 v) → (∀ q, (q < x ∨ x + 2 ≤ q) → S'.1 q = S.1 q) → S'.2 = S.2 → Q none S') : px_M d px_m_Daemon_append [.ref x, .int v] S Q := by
  have turn : ∀ (s : Int32) (kk : Nat) (rest : List Nat), 0 ≤ s → ((s.toUInt32 &&& Int32.toUInt32 31).toBitVec % 32).toNat = kk → ∀ (l1 : List Nat), l1 ++ (b1 (byt v kk) ++ rest) = l ++ ch4 v →
      (∀ (S1 : px_S) (f1 : Nat → Int32) (l2 : List Nat), l2 ++ rest = l ++ ch4 v → dt_at S1 x f1 l2.length → tya f1 l2 → (∀ q, (q < x ∨ x + 2 ≤ q) → S1.1 q = S.1 q) → S1.2 = S.2 → px_P (d - 1) px_m_Daemon_append (3, [(0, .ref x), (1, .int v), (2, .int (s + (-8)))], []) S1 Q) →
      ∀ (S1 : px_S) (f1 : Nat → Int32), dt_at S1 x f1 l1.length → tya f1 l1 → (∀ q, (q < x ∨ x + 2 ≤ q) → S1.1 q = S.1 q) → S1.2 = S.2 → px_P (d - 1) px_m_Daemon_append (3, [(0, .ref x), (1, .int v), (2, .int s)], []) S1 Q := by
    intro s kk rest hs hk l1 hl1 hgo S1 f1 h1 h2 h3 h4
    obtain ⟨c0, c1⟩ := h1
    have hb : byt v kk < 256 := Nat.mod_lt _ (by decide)
    have hlen := congrArg List.length hl1
    simp only [List.length_append] at hlen
    refine px_P.sn 1 (f1 := (4, [(0, .ref x), (1, .int v), (2, .int s)], [.int s])) (S1 := S1) rfl ?_
    refine px_P.if_lt rfl rfl (fun h => absurd h (Int32.not_lt.mpr hs)) (fun _ => ?_)
    refine px_P.sn 5 (f1 := (14, [(0, .ref x), (1, .int v), (2, .int s)], [.int (((v.toUInt32 >>> (s.toUInt32 &&& Int32.toUInt32 31)).toInt32) &&& 255)])) (S1 := S1) rfl ?_
    rw [byt_u v s kk hk]
    refine px_P.sn 2 (f1 := (16, [(0, .ref x), (1, .int v), (2, .int s), (3, .int (nI (byt v kk)))], [.int (nI (byt v kk))])) (S1 := S1) rfl ?_
    refine px_P.if_eq rfl rfl (fun h0 => ?_) (fun h0 => ?_)
    · have e : byt v kk = 0 := (nI_eq (b := 0) (by omega) (by decide)).mp h0
      rw [show b1 (byt v kk) = [] by rw [e]; rfl, List.nil_append] at hl1
      refine px_P.sn 2 (f1 := (3, [(0, .ref x), (1, .int v), (2, .int (s + (-8))), (3, .int (nI (byt v kk)))], [])) (S1 := S1) rfl ?_
      show px_P _ _ (3, [(0, .ref x), (1, .int v), (2, .int (s + (-8))), (3, .int (nI (byt v kk)))], []) S1 _
      refine px_P.wk (ls := [(0, .ref x), (1, .int v), (2, .int (s + (-8)))]) rfl (.cons_cons _ (.cons_cons _ (.cons_cons _ (.cons _ .slnil)))) ?_
      exact hgo S1 f1 l1 hl1 ⟨c0, c1⟩ h2 h3 h4
    · have e : ¬ byt v kk = 0 := fun z => h0 (by rw [z]; rfl)
      have eb : b1 (byt v kk) = [byt v kk] := by unfold b1; rw [if_neg e]
      rw [eb] at hl1 hlen
      simp only [List.length_cons, List.length_nil] at hlen
      refine px_P.sn 1 (f1 := (20, [(0, .ref x), (1, .int v), (2, .int s), (3, .int (nI (byt v kk)))], [.ref x])) (S1 := S1) rfl ?_
      refine px_P.gf rfl rfl (by assumption) (v := .int (nI l1.length)) rfl ?_
      refine px_P.sn 1 (f1 := (24, [(0, .ref x), (1, .int v), (2, .int s), (3, .int (nI (byt v kk)))], [.ref x, .int (nI l1.length)])) (S1 := S1) rfl ?_
      refine px_P.gf rfl rfl (by assumption) (v := .ref (x + 1)) rfl ?_
      refine px_P.alen rfl (by assumption) rfl ?_
      refine px_P.ic_ge rfl rfl (fun h => absurd h (nI_ge (b := 60) (show l1.length < 60 by omega) (by decide))) (fun _ => ?_)
      refine px_P.sn 1 (f1 := (32, [(0, .ref x), (1, .int v), (2, .int s), (3, .int (nI (byt v kk)))], [.ref x])) (S1 := S1) rfl ?_
      refine px_P.gf rfl rfl (by assumption) (v := .ref (x + 1)) rfl ?_
      refine px_P.sn 1 (f1 := (36, [(0, .ref x), (1, .int v), (2, .int s), (3, .int (nI (byt v kk)))], [.ref x, .ref (x + 1)])) (S1 := S1) rfl ?_
      refine px_P.gf rfl rfl (by assumption) (v := .int (nI l1.length)) rfl ?_
      refine px_P.sn 1 (f1 := (40, [(0, .ref x), (1, .int v), (2, .int s), (3, .int (nI (byt v kk)))], [.int (nI (byt v kk)), .int (nI l1.length), .ref (x + 1)])) (S1 := S1) rfl ?_
      refine px_P.iastj (j := l1.length) rfl (by assumption) rfl (by omega) (by decide) (fun S2 u2 => ?_)
      have d0 := u2.n c0 (by omega)
      refine px_P.sn 2 (f1 := (43, [(0, .ref x), (1, .int v), (2, .int s), (3, .int (nI (byt v kk)))], [.ref x, .ref x])) (S1 := S2) rfl ?_
      refine px_P.gf rfl rfl (by assumption) (v := .int (nI l1.length)) rfl ?_
      refine px_P.sn 2 (f1 := (48, [(0, .ref x), (1, .int v), (2, .int s), (3, .int (nI (byt v kk)))], [.int ((nI l1.length) + 1), .ref x])) (S1 := S2) rfl ?_
      refine px_P.pf rfl rfl (by assumption) rfl (fun S3 u3 => ?_)
      refine px_P.sn 2 (f1 := (3, [(0, .ref x), (1, .int v), (2, .int (s + (-8))), (3, .int (nI (byt v kk)))], [])) (S1 := S3) rfl ?_
      show px_P _ _ (3, [(0, .ref x), (1, .int v), (2, .int (s + (-8))), (3, .int (nI (byt v kk)))], []) S3 _
      refine px_P.wk (ls := [(0, .ref x), (1, .int v), (2, .int (s + (-8)))]) rfl (.cons_cons _ (.cons_cons _ (.cons_cons _ (.cons _ .slnil)))) ?_
      have e3 := u3.s
      rw [nI_1] at e3
      refine hgo S3 (upd f1 l1.length (nI (byt v kk))) (l1 ++ [byt v kk]) (by rw [List.append_assoc]; exact hl1) ⟨?_, u3.n u2.s (by omega)⟩ (tya_add h2) (fun q hq => by rw [u3.o (by omega), u2.o (by omega)]; exact h3 q hq) (by rw [u3.t, u2.t, h4])
      rw [List.length_append]
      exact e3
  refine px_M.go (by omega) (Nat.le_of_ble_eq_true rfl) ?_
  refine px_P.sn 2 (f1 := (3, [(0, .ref x), (1, .int v), (2, .int 24)], [])) (S1 := S) rfl ?_
  rw [ch4_b] at hl k
  have tt := turn
  rw [ch4_b] at tt
  refine tt 24 24 _ (by decide) (by decide) l rfl ?_ S f h ha (fun _ _ => rfl) rfl
  intro S1 f1 l1 q1 q2 q3 q4 q5
  refine tt 16 16 _ (by decide) (by decide) l1 q1 ?_ S1 f1 q2 q3 q4 q5
  intro S2 f2 l2 r1 r2 r3 r4 r5
  refine tt 8 8 _ (by decide) (by decide) l2 r1 ?_ S2 f2 r2 r3 r4 r5
  intro S3 f3 l3 s1 s2 s3 s4 s5
  refine tt 0 0 _ (by decide) (by decide) l3 s1 ?_ S3 f3 s2 s3 s4 s5
  intro S4 f4 l4 t1 t2 t3 t4 t5
  rw [List.append_nil] at t1
  rw [t1] at t2 t3
  show px_P _ _ (3, [(0, .ref x), (1, .int v), (2, .int (-8))], []) S4 _
  refine px_P.sn 1 (f1 := (4, [(0, .ref x), (1, .int v), (2, .int (-8))], [.int (-8)])) (S1 := S4) rfl ?_
  refine px_P.if_lt rfl rfl (fun _ => ?_) (fun h => absurd ((by decide)) h)
  refine px_P.ret rfl ?_
  exact k S4 f4 t2 t3 t4 t5
