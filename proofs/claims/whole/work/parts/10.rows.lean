/-! rows for the pure machine -/
/-- a cell has changed, or is new -/
def px_Up (S S1 : px_S) (a : Nat) (x : px_E) : Prop := S1 = (va_up S.1 a (some x), S.2)
def px_Nw (S S1 : px_S) (x : px_E) (n : Nat) : Prop := S1 = (va_up S.1 S.2.1 (some x), S.2.1 + 1, S.2.2 + n)
theorem px_Up.s {S S1 : px_S} {a : Nat} {x : px_E} (h : px_Up S S1 a x) : S1.1 a = some x := by rw [h]; simp [va_up]
theorem px_Up.n {S S1 : px_S} {a b : Nat} {x : px_E} {y : Option px_E} (h : px_Up S S1 a x) (hy : S.1 b = y) (hb : b ≠ a) : S1.1 b = y := by rw [h, ← hy]; simp [va_up, hb]
theorem px_Up.o {S S1 : px_S} {a b : Nat} {x : px_E} (h : px_Up S S1 a x) (hb : b ≠ a) : S1.1 b = S.1 b := by rw [h]; simp [va_up, hb]
theorem px_Up.t {S S1 : px_S} {a : Nat} {x : px_E} (h : px_Up S S1 a x) : S1.2 = S.2 := by rw [h]
theorem px_Up.u {S S1 S2 : px_S} {a : Nat} {x y : px_E} (h : px_Up S S1 a x) (k : px_Up S1 S2 a y) : px_Up S S2 a y := by
  unfold px_Up at *
  rw [k, h]
  simp only [bx_uu]
theorem px_Up.rf {S : px_S} {a : Nat} {x : px_E} (h : S.1 a = some x) : px_Up S S a x := by
  have e : va_up S.1 a (some x) = S.1 := by
    funext b
    by_cases hb : b = a
    · subst hb; simp [va_up, h]
    · simp [va_up, hb]
  unfold px_Up
  rw [e]
theorem px_Nw.s {S S1 : px_S} {x : px_E} {n : Nat} (h : px_Nw S S1 x n) : S1.1 S.2.1 = some x := by rw [h]; simp [va_up]
theorem px_Nw.n {S S1 : px_S} {b n : Nat} {x : px_E} {y : Option px_E} (h : px_Nw S S1 x n) (hy : S.1 b = y) (hb : b ≠ S.2.1) : S1.1 b = y := by rw [h, ← hy]; simp [va_up, hb]
theorem px_Nw.o {S S1 : px_S} {b n : Nat} {x : px_E} (h : px_Nw S S1 x n) (hb : b ≠ S.2.1) : S1.1 b = S.1 b := by rw [h]; simp [va_up, hb]
theorem px_Nw.t {S S1 : px_S} {x : px_E} {n : Nat} (h : px_Nw S S1 x n) : S1.2 = (S.2.1 + 1, S.2.2 + n) := by rw [h]
theorem px_M.go {d mi : Nat} {As : List Value} {S : px_S} {Q : Option Value → px_S → Prop} (hd : 1 ≤ d) (h : (lg_sl As).length ≤ px_ml mi) (k : px_P (d - 1) mi (px_ent As) S Q) : px_M d mi As S Q := by
  obtain ⟨d', rfl⟩ : ∃ d', d = d' + 1 := ⟨d - 1, by omega⟩
  exact px_M.of h k
theorem px_in_t {i : Int32} {n : Nat} (h : vp_in i n) : px_in i n = true := by
  have h1 : ¬ (i < 0 ∨ n ≤ i.toNatClampNeg) := h
  exact decide_eq_true h1
theorem px_P.gf {d mi pc : Nat} {ls : px_L} {S : px_S} {Q : Option Value → px_S → Prop} {ix a ci k : Nat} {r fs : List Value} {v : Value} (hat : px_at mi pc = some (.getfield ix)) (hf : px_fl (px_cn mi) ix = some (ci, k)) (hw : S.1 a = some (.inr (ci, fs))) (hv : fs[k]? = some v) (kk : px_P d mi (pc + 3, ls, v :: r) S Q) : px_P d mi (pc, ls, .ref a :: r) S Q := by
  refine px_P.step ?_ kk
  simp only [px_step, hat, px_do, px_get, hf, hw, hv, Nat.beq_refl, cond_true]
theorem px_P.pf {d mi pc : Nat} {ls : px_L} {S : px_S} {Q : Option Value → px_S → Prop} {ix a ci k : Nat} {r fs : List Value} {v : Value} (hat : px_at mi pc = some (.putfield ix)) (hf : px_fl (px_cn mi) ix = some (ci, k)) (hw : S.1 a = some (.inr (ci, fs))) (hc : (Nat.blt k fs.length && (px_fit (px_ft ci k) v && px_may mi ci k)) = true) (kk : ∀ S1, px_Up S S1 a (.inr (ci, fs.set k v)) → px_P d mi (pc + 3, ls, r) S1 Q) : px_P d mi (pc, ls, v :: .ref a :: r) S Q := by
  refine px_P.step ?_ (kk _ rfl)
  simp only [px_step, hat, px_do, px_put, hf, hw, hc, Nat.beq_refl, Bool.true_and, cond_true]
theorem px_P.iald {d mi pc : Nat} {ls : px_L} {S : px_S} {Q : Option Value → px_S → Prop} {a n : Nat} {i : Int32} {r : List Value} {f : Nat → Int32} (hat : px_at mi pc = some (.iaload)) (hw : S.1 a = some (.inl (0, n, .inl f))) (hi : vp_in i n) (kk : px_P d mi (pc + 1, ls, .int (f i.toNatClampNeg) :: r) S Q) : px_P d mi (pc, ls, .int i :: .ref a :: r) S Q := by
  refine px_P.step ?_ kk
  simp only [px_step, hat, px_do, px_ali, hw, px_in_t hi, Nat.beq_refl, Bool.and_true, cond_true]
theorem px_P.zald {d mi pc : Nat} {ls : px_L} {S : px_S} {Q : Option Value → px_S → Prop} {a n : Nat} {i : Int32} {r : List Value} {f : Nat → Int32} (hat : px_at mi pc = some (.baload)) (hw : S.1 a = some (.inl (2, n, .inl f))) (hi : vp_in i n) (kk : px_P d mi (pc + 1, ls, .int (f i.toNatClampNeg) :: r) S Q) : px_P d mi (pc, ls, .int i :: .ref a :: r) S Q := by
  refine px_P.step ?_ kk
  simp only [px_step, hat, px_do, px_ali, hw, px_in_t hi, Nat.beq_refl, Bool.and_true, cond_true]
theorem px_P.cald {d mi pc : Nat} {ls : px_L} {S : px_S} {Q : Option Value → px_S → Prop} {a n : Nat} {i : Int32} {r : List Value} {f : Nat → Int32} (hat : px_at mi pc = some (.caload)) (hw : S.1 a = some (.inl (3, n, .inl f))) (hi : vp_in i n) (kk : px_P d mi (pc + 1, ls, .int (f i.toNatClampNeg) :: r) S Q) : px_P d mi (pc, ls, .int i :: .ref a :: r) S Q := by
  refine px_P.step ?_ kk
  simp only [px_step, hat, px_do, px_ali, hw, px_in_t hi, Nat.beq_refl, Bool.and_true, cond_true]
theorem px_P.lald {d mi pc : Nat} {ls : px_L} {S : px_S} {Q : Option Value → px_S → Prop} {a n : Nat} {i : Int32} {r : List Value} {f : Nat → Int64} (hat : px_at mi pc = some (.laload)) (hw : S.1 a = some (.inl (1, n, .inr (.inl f)))) (hi : vp_in i n) (kk : px_P d mi (pc + 1, ls, .long (f i.toNatClampNeg) :: r) S Q) : px_P d mi (pc, ls, .int i :: .ref a :: r) S Q := by
  refine px_P.step ?_ kk
  simp only [px_step, hat, px_do, px_all, hw, px_in_t hi, Nat.beq_refl, Bool.and_true, cond_true]
theorem px_P.aald {d mi pc : Nat} {ls : px_L} {S : px_S} {Q : Option Value → px_S → Prop} {a n t : Nat} {i : Int32} {r : List Value} {f : Nat → Option Nat} (hat : px_at mi pc = some (.aaload)) (hw : S.1 a = some (.inl (t, n, .inr (.inr (.inr (.inr f)))))) (ht : px_tr t = true) (hi : vp_in i n) (kk : px_P d mi (pc + 1, ls, va_rf (f i.toNatClampNeg) :: r) S Q) : px_P d mi (pc, ls, .int i :: .ref a :: r) S Q := by
  refine px_P.step ?_ kk
  simp only [px_step, hat, px_do, px_ala, hw, ht, px_in_t hi, Bool.and_true, cond_true]
theorem px_P.iast {d mi pc : Nat} {ls : px_L} {S : px_S} {Q : Option Value → px_S → Prop} {a n : Nat} {i x : Int32} {r : List Value} {f : Nat → Int32} (hat : px_at mi pc = some (.iastore)) (hw : S.1 a = some (.inl (0, n, .inl f))) (hi : vp_in i n) (kk : ∀ S1, px_Up S S1 a (.inl (0, n, .inl (upd f i.toNatClampNeg x))) → px_P d mi (pc + 1, ls, r) S1 Q) : px_P d mi (pc, ls, .int x :: .int i :: .ref a :: r) S Q := by
  refine px_P.step ?_ (kk _ rfl)
  simp only [px_step, hat, px_do, px_asi, hw, px_in_t hi, Nat.beq_refl, Bool.true_and, px_ty0, px_fit, cond_true]
theorem px_P.zast {d mi pc : Nat} {ls : px_L} {S : px_S} {Q : Option Value → px_S → Prop} {a n : Nat} {i x : Int32} {r : List Value} {f : Nat → Int32} (hat : px_at mi pc = some (.bastore)) (hw : S.1 a = some (.inl (2, n, .inl f))) (hi : vp_in i n) (hx : (x == 0 || x == 1) = true) (kk : ∀ S1, px_Up S S1 a (.inl (2, n, .inl (upd f i.toNatClampNeg x))) → px_P d mi (pc + 1, ls, r) S1 Q) : px_P d mi (pc, ls, .int x :: .int i :: .ref a :: r) S Q := by
  refine px_P.step ?_ (kk _ rfl)
  simp only [px_step, hat, px_do, px_asi, hw, px_in_t hi, Nat.beq_refl, Bool.true_and, px_ty2, px_fit, hx, cond_true]
theorem px_P.cast {d mi pc : Nat} {ls : px_L} {S : px_S} {Q : Option Value → px_S → Prop} {a n : Nat} {i x : Int32} {r : List Value} {f : Nat → Int32} (hat : px_at mi pc = some (.castore)) (hw : S.1 a = some (.inl (3, n, .inl f))) (hi : vp_in i n) (hx : (decide (0 ≤ x) && decide (x ≤ 65535)) = true) (kk : ∀ S1, px_Up S S1 a (.inl (3, n, .inl (upd f i.toNatClampNeg x))) → px_P d mi (pc + 1, ls, r) S1 Q) : px_P d mi (pc, ls, .int x :: .int i :: .ref a :: r) S Q := by
  refine px_P.step ?_ (kk _ rfl)
  simp only [px_step, hat, px_do, px_asi, hw, px_in_t hi, Nat.beq_refl, Bool.true_and, px_ty3, px_fit, hx, cond_true]
theorem px_P.idiv {d mi pc : Nat} {ls : px_L} {S : px_S} {Q : Option Value → px_S → Prop} {x y : Int32} {r : List Value} (hat : px_at mi pc = some (.idiv)) (hy : ¬ y = 0) (kk : px_P d mi (pc + 1, ls, .int (x / y) :: r) S Q) : px_P d mi (pc, ls, .int y :: .int x :: r) S Q := by
  refine px_P.step ?_ kk
  simp only [px_step, hat, px_do, px_dv, hy, decide_false, cond_false]
theorem px_P.irem {d mi pc : Nat} {ls : px_L} {S : px_S} {Q : Option Value → px_S → Prop} {x y : Int32} {r : List Value} (hat : px_at mi pc = some (.irem)) (hy : ¬ y = 0) (kk : px_P d mi (pc + 1, ls, .int (x - x / y * y) :: r) S Q) : px_P d mi (pc, ls, .int y :: .int x :: r) S Q := by
  refine px_P.step ?_ kk
  simp only [px_step, hat, px_do, px_dv, hy, decide_false, cond_false]
theorem px_P.last {d mi pc : Nat} {ls : px_L} {S : px_S} {Q : Option Value → px_S → Prop} {a n : Nat} {i : Int32} {x : Int64} {r : List Value} {f : Nat → Int64} (hat : px_at mi pc = some (.lastore)) (hw : S.1 a = some (.inl (1, n, .inr (.inl f)))) (hi : vp_in i n) (kk : ∀ S1, px_Up S S1 a (.inl (1, n, .inr (.inl (vp_updL f i.toNatClampNeg x)))) → px_P d mi (pc + 1, ls, r) S1 Q) : px_P d mi (pc, ls, .long x :: .int i :: .ref a :: r) S Q := by
  refine px_P.step ?_ (kk _ rfl)
  simp only [px_step, hat, px_do, px_asl, hw, px_in_t hi, Nat.beq_refl, Bool.and_true, cond_true]
theorem px_P.aast {d mi pc : Nat} {ls : px_L} {S : px_S} {Q : Option Value → px_S → Prop} {a n t v ci : Nat} {fs : List Value} {i : Int32} {r : List Value} {f : Nat → Option Nat} (hat : px_at mi pc = some (.aastore)) (hw : S.1 a = some (.inl (t, n, .inr (.inr (.inr (.inr f)))))) (hv : S.1 v = some (.inr (ci, fs))) (ht : px_tr t = true) (htc : px_tc t ci = true) (hi : vp_in i n) (kk : ∀ S1, px_Up S S1 a (.inl (t, n, .inr (.inr (.inr (.inr (va_up f i.toNatClampNeg (some v))))))) → px_P d mi (pc + 1, ls, r) S1 Q) : px_P d mi (pc, ls, .ref v :: .int i :: .ref a :: r) S Q := by
  refine px_P.step ?_ (kk _ rfl)
  simp only [px_step, hat, px_do, px_asa, hw, hv, ht, htc, px_in_t hi, Bool.and_true, cond_true]
theorem px_P.aastN {d mi pc : Nat} {ls : px_L} {S : px_S} {Q : Option Value → px_S → Prop} {a n t : Nat} {i : Int32} {r : List Value} {f : Nat → Option Nat} (hat : px_at mi pc = some (.aastore)) (hw : S.1 a = some (.inl (t, n, .inr (.inr (.inr (.inr f)))))) (ht : px_tr t = true) (hi : vp_in i n) (kk : ∀ S1, px_Up S S1 a (.inl (t, n, .inr (.inr (.inr (.inr (va_up f i.toNatClampNeg none)))))) → px_P d mi (pc + 1, ls, r) S1 Q) : px_P d mi (pc, ls, .null :: .int i :: .ref a :: r) S Q := by
  refine px_P.step ?_ (kk _ rfl)
  simp only [px_step, hat, px_do, px_asa, hw, ht, px_in_t hi, Bool.and_true, cond_true]
theorem px_P.alen {d mi pc : Nat} {ls : px_L} {S : px_S} {Q : Option Value → px_S → Prop} {a t : Nat} {x : vp_A} {r : List Value} (hat : px_at mi pc = some (.arraylength)) (hw : S.1 a = some (.inl (t, x))) (ht : Nat.blt t px_nty = true) (kk : px_P d mi (pc + 1, ls, .int (Int32.ofNat x.1) :: r) S Q) : px_P d mi (pc, ls, .ref a :: r) S Q := by
  refine px_P.step ?_ kk
  simp only [px_step, hat, px_do, px_len, hw, ht, cond_true]
theorem px_P.newI {d mi pc : Nat} {ls : px_L} {S : px_S} {Q : Option Value → px_S → Prop} {n : Int32} {r : List Value} (hat : px_at mi pc = some (.newarray .int)) (hn : decide (n < 0 ∨ 67108864 < n.toNatClampNeg) = false) (kk : ∀ S1, px_Nw S S1 (.inl (0, n.toNatClampNeg, .inl (fun _ => 0))) (n.toNatClampNeg) → px_P d mi (pc + 2, ls, .ref S.2.1 :: r) S1 Q) : px_P d mi (pc, ls, .int n :: r) S Q := by
  refine px_P.step ?_ (kk _ rfl)
  simp only [px_step, hat, px_do, px_nwa, hn, cond_false]
theorem px_P.newL {d mi pc : Nat} {ls : px_L} {S : px_S} {Q : Option Value → px_S → Prop} {n : Int32} {r : List Value} (hat : px_at mi pc = some (.newarray .long)) (hn : decide (n < 0 ∨ 67108864 < n.toNatClampNeg) = false) (kk : ∀ S1, px_Nw S S1 (.inl (1, n.toNatClampNeg, .inr (.inl (fun _ => 0)))) (n.toNatClampNeg) → px_P d mi (pc + 2, ls, .ref S.2.1 :: r) S1 Q) : px_P d mi (pc, ls, .int n :: r) S Q := by
  refine px_P.step ?_ (kk _ rfl)
  simp only [px_step, hat, px_do, px_nwa, hn, cond_false]
theorem px_P.newZ {d mi pc : Nat} {ls : px_L} {S : px_S} {Q : Option Value → px_S → Prop} {n : Int32} {r : List Value} (hat : px_at mi pc = some (.newarray .boolean)) (hn : decide (n < 0 ∨ 67108864 < n.toNatClampNeg) = false) (kk : ∀ S1, px_Nw S S1 (.inl (2, n.toNatClampNeg, .inl (fun _ => 0))) (n.toNatClampNeg) → px_P d mi (pc + 2, ls, .ref S.2.1 :: r) S1 Q) : px_P d mi (pc, ls, .int n :: r) S Q := by
  refine px_P.step ?_ (kk _ rfl)
  simp only [px_step, hat, px_do, px_nwa, hn, cond_false]
theorem px_P.newC {d mi pc : Nat} {ls : px_L} {S : px_S} {Q : Option Value → px_S → Prop} {n : Int32} {r : List Value} (hat : px_at mi pc = some (.newarray .char)) (hn : decide (n < 0 ∨ 67108864 < n.toNatClampNeg) = false) (kk : ∀ S1, px_Nw S S1 (.inl (3, n.toNatClampNeg, .inl (fun _ => 0))) (n.toNatClampNeg) → px_P d mi (pc + 2, ls, .ref S.2.1 :: r) S1 Q) : px_P d mi (pc, ls, .int n :: r) S Q := by
  refine px_P.step ?_ (kk _ rfl)
  simp only [px_step, hat, px_do, px_nwa, hn, cond_false]
theorem px_P.newA {d mi pc : Nat} {ls : px_L} {S : px_S} {Q : Option Value → px_S → Prop} {ix t : Nat} {n : Int32} {r : List Value} (hat : px_at mi pc = some (.anewarray ix)) (ha : px_an (px_cn mi) ix = some t) (hn : decide (n < 0 ∨ 67108864 < n.toNatClampNeg) = false) (kk : ∀ S1, px_Nw S S1 (.inl (t, n.toNatClampNeg, .inr (.inr (.inr (.inr (fun _ => none)))))) (n.toNatClampNeg) → px_P d mi (pc + 3, ls, .ref S.2.1 :: r) S1 Q) : px_P d mi (pc, ls, .int n :: r) S Q := by
  refine px_P.step ?_ (kk _ rfl)
  simp only [px_step, hat, px_do, ha, Option.map_some, Option.getD_some, px_nwa, hn, cond_false]
theorem px_P.nw {d mi pc : Nat} {ls : px_L} {S : px_S} {Q : Option Value → px_S → Prop} {ix ci : Nat} {r : List Value} (hat : px_at mi pc = some (.new ix)) (hn : px_nc (px_cn mi) ix = some ci) (kk : ∀ S1, px_Nw S S1 (.inr (ci, px_def ci)) (px_nf ci) → px_P d mi (pc + 3, ls, .ref S.2.1 :: r) S1 Q) : px_P d mi (pc, ls, r) S Q := by
  refine px_P.step ?_ (kk _ rfl)
  simp only [px_step, hat, px_do, px_new, hn]
theorem px_P.if_eq {d mi pc : Nat} {ls : px_L} {S : px_S} {Q : Option Value → px_S → Prop} {off : Int} {t : Nat} {x : Int32} {r : List Value} (hat : px_at mi pc = some (.ifCond .eq off)) (hj : px_jmp pc off = some t) (kt : x = 0 → px_P d mi (t, ls, r) S Q) (kf : ¬ x = 0 → px_P d mi (pc + 3, ls, r) S Q) : px_P d mi (pc, ls, .int x :: r) S Q := by
  by_cases h : x = 0
  · refine px_P.step ?_ (kt h)
    simp only [px_step, hat, px_do, px_if0, hj, px_c0, h, decide_true, cond_true]
  · refine px_P.step ?_ (kf h)
    simp only [px_step, hat, px_do, px_if0, hj, px_c0, h, decide_false, cond_false]
theorem px_P.if_ne {d mi pc : Nat} {ls : px_L} {S : px_S} {Q : Option Value → px_S → Prop} {off : Int} {t : Nat} {x : Int32} {r : List Value} (hat : px_at mi pc = some (.ifCond .ne off)) (hj : px_jmp pc off = some t) (kt : ¬ x = 0 → px_P d mi (t, ls, r) S Q) (kf : x = 0 → px_P d mi (pc + 3, ls, r) S Q) : px_P d mi (pc, ls, .int x :: r) S Q := by
  by_cases h : ¬ x = 0
  · refine px_P.step ?_ (kt h)
    simp only [px_step, hat, px_do, px_if0, hj, px_c0, h, not_false_eq_true, decide_true, cond_true]
  · refine px_P.step ?_ (kf (Classical.not_not.mp h))
    simp only [px_step, hat, px_do, px_if0, hj, px_c0, h, decide_false, cond_false]
theorem px_P.if_lt {d mi pc : Nat} {ls : px_L} {S : px_S} {Q : Option Value → px_S → Prop} {off : Int} {t : Nat} {x : Int32} {r : List Value} (hat : px_at mi pc = some (.ifCond .lt off)) (hj : px_jmp pc off = some t) (kt : x < 0 → px_P d mi (t, ls, r) S Q) (kf : ¬ x < 0 → px_P d mi (pc + 3, ls, r) S Q) : px_P d mi (pc, ls, .int x :: r) S Q := by
  by_cases h : x < 0
  · refine px_P.step ?_ (kt h)
    simp only [px_step, hat, px_do, px_if0, hj, px_c0, h, decide_true, cond_true]
  · refine px_P.step ?_ (kf h)
    simp only [px_step, hat, px_do, px_if0, hj, px_c0, h, decide_false, cond_false]
theorem px_P.if_ge {d mi pc : Nat} {ls : px_L} {S : px_S} {Q : Option Value → px_S → Prop} {off : Int} {t : Nat} {x : Int32} {r : List Value} (hat : px_at mi pc = some (.ifCond .ge off)) (hj : px_jmp pc off = some t) (kt : 0 ≤ x → px_P d mi (t, ls, r) S Q) (kf : ¬ 0 ≤ x → px_P d mi (pc + 3, ls, r) S Q) : px_P d mi (pc, ls, .int x :: r) S Q := by
  by_cases h : 0 ≤ x
  · refine px_P.step ?_ (kt h)
    simp only [px_step, hat, px_do, px_if0, hj, px_c0, h, decide_true, cond_true]
  · refine px_P.step ?_ (kf h)
    simp only [px_step, hat, px_do, px_if0, hj, px_c0, h, decide_false, cond_false]
theorem px_P.if_gt {d mi pc : Nat} {ls : px_L} {S : px_S} {Q : Option Value → px_S → Prop} {off : Int} {t : Nat} {x : Int32} {r : List Value} (hat : px_at mi pc = some (.ifCond .gt off)) (hj : px_jmp pc off = some t) (kt : 0 < x → px_P d mi (t, ls, r) S Q) (kf : ¬ 0 < x → px_P d mi (pc + 3, ls, r) S Q) : px_P d mi (pc, ls, .int x :: r) S Q := by
  by_cases h : 0 < x
  · refine px_P.step ?_ (kt h)
    simp only [px_step, hat, px_do, px_if0, hj, px_c0, h, decide_true, cond_true]
  · refine px_P.step ?_ (kf h)
    simp only [px_step, hat, px_do, px_if0, hj, px_c0, h, decide_false, cond_false]
theorem px_P.if_le {d mi pc : Nat} {ls : px_L} {S : px_S} {Q : Option Value → px_S → Prop} {off : Int} {t : Nat} {x : Int32} {r : List Value} (hat : px_at mi pc = some (.ifCond .le off)) (hj : px_jmp pc off = some t) (kt : x ≤ 0 → px_P d mi (t, ls, r) S Q) (kf : ¬ x ≤ 0 → px_P d mi (pc + 3, ls, r) S Q) : px_P d mi (pc, ls, .int x :: r) S Q := by
  by_cases h : x ≤ 0
  · refine px_P.step ?_ (kt h)
    simp only [px_step, hat, px_do, px_if0, hj, px_c0, h, decide_true, cond_true]
  · refine px_P.step ?_ (kf h)
    simp only [px_step, hat, px_do, px_if0, hj, px_c0, h, decide_false, cond_false]
theorem px_P.ic_eq {d mi pc : Nat} {ls : px_L} {S : px_S} {Q : Option Value → px_S → Prop} {off : Int} {t : Nat} {x y : Int32} {r : List Value} (hat : px_at mi pc = some (.if_icmp .eq off)) (hj : px_jmp pc off = some t) (kt : x = y → px_P d mi (t, ls, r) S Q) (kf : ¬ x = y → px_P d mi (pc + 3, ls, r) S Q) : px_P d mi (pc, ls, .int y :: .int x :: r) S Q := by
  by_cases h : x = y
  · refine px_P.step ?_ (kt h)
    simp only [px_step, hat, px_do, px_if2, hj, px_c2, h, decide_true, cond_true]
  · refine px_P.step ?_ (kf h)
    simp only [px_step, hat, px_do, px_if2, hj, px_c2, h, decide_false, cond_false]
theorem px_P.ic_ne {d mi pc : Nat} {ls : px_L} {S : px_S} {Q : Option Value → px_S → Prop} {off : Int} {t : Nat} {x y : Int32} {r : List Value} (hat : px_at mi pc = some (.if_icmp .ne off)) (hj : px_jmp pc off = some t) (kt : ¬ x = y → px_P d mi (t, ls, r) S Q) (kf : x = y → px_P d mi (pc + 3, ls, r) S Q) : px_P d mi (pc, ls, .int y :: .int x :: r) S Q := by
  by_cases h : ¬ x = y
  · refine px_P.step ?_ (kt h)
    simp only [px_step, hat, px_do, px_if2, hj, px_c2, h, not_false_eq_true, decide_true, cond_true]
  · refine px_P.step ?_ (kf (Classical.not_not.mp h))
    simp only [px_step, hat, px_do, px_if2, hj, px_c2, h, decide_false, cond_false]
theorem px_P.ic_lt {d mi pc : Nat} {ls : px_L} {S : px_S} {Q : Option Value → px_S → Prop} {off : Int} {t : Nat} {x y : Int32} {r : List Value} (hat : px_at mi pc = some (.if_icmp .lt off)) (hj : px_jmp pc off = some t) (kt : x < y → px_P d mi (t, ls, r) S Q) (kf : ¬ x < y → px_P d mi (pc + 3, ls, r) S Q) : px_P d mi (pc, ls, .int y :: .int x :: r) S Q := by
  by_cases h : x < y
  · refine px_P.step ?_ (kt h)
    simp only [px_step, hat, px_do, px_if2, hj, px_c2, h, decide_true, cond_true]
  · refine px_P.step ?_ (kf h)
    simp only [px_step, hat, px_do, px_if2, hj, px_c2, h, decide_false, cond_false]
theorem px_P.ic_ge {d mi pc : Nat} {ls : px_L} {S : px_S} {Q : Option Value → px_S → Prop} {off : Int} {t : Nat} {x y : Int32} {r : List Value} (hat : px_at mi pc = some (.if_icmp .ge off)) (hj : px_jmp pc off = some t) (kt : y ≤ x → px_P d mi (t, ls, r) S Q) (kf : ¬ y ≤ x → px_P d mi (pc + 3, ls, r) S Q) : px_P d mi (pc, ls, .int y :: .int x :: r) S Q := by
  by_cases h : y ≤ x
  · refine px_P.step ?_ (kt h)
    simp only [px_step, hat, px_do, px_if2, hj, px_c2, h, decide_true, cond_true]
  · refine px_P.step ?_ (kf h)
    simp only [px_step, hat, px_do, px_if2, hj, px_c2, h, decide_false, cond_false]
theorem px_P.ic_gt {d mi pc : Nat} {ls : px_L} {S : px_S} {Q : Option Value → px_S → Prop} {off : Int} {t : Nat} {x y : Int32} {r : List Value} (hat : px_at mi pc = some (.if_icmp .gt off)) (hj : px_jmp pc off = some t) (kt : y < x → px_P d mi (t, ls, r) S Q) (kf : ¬ y < x → px_P d mi (pc + 3, ls, r) S Q) : px_P d mi (pc, ls, .int y :: .int x :: r) S Q := by
  by_cases h : y < x
  · refine px_P.step ?_ (kt h)
    simp only [px_step, hat, px_do, px_if2, hj, px_c2, h, decide_true, cond_true]
  · refine px_P.step ?_ (kf h)
    simp only [px_step, hat, px_do, px_if2, hj, px_c2, h, decide_false, cond_false]
theorem px_P.ic_le {d mi pc : Nat} {ls : px_L} {S : px_S} {Q : Option Value → px_S → Prop} {off : Int} {t : Nat} {x y : Int32} {r : List Value} (hat : px_at mi pc = some (.if_icmp .le off)) (hj : px_jmp pc off = some t) (kt : x ≤ y → px_P d mi (t, ls, r) S Q) (kf : ¬ x ≤ y → px_P d mi (pc + 3, ls, r) S Q) : px_P d mi (pc, ls, .int y :: .int x :: r) S Q := by
  by_cases h : x ≤ y
  · refine px_P.step ?_ (kt h)
    simp only [px_step, hat, px_do, px_if2, hj, px_c2, h, decide_true, cond_true]
  · refine px_P.step ?_ (kf h)
    simp only [px_step, hat, px_do, px_if2, hj, px_c2, h, decide_false, cond_false]
theorem px_P.cv {d mi pc : Nat} {ls : px_L} {S : px_S} {Q : Option Value → px_S → Prop} {ix mj n b ci : Nat} {st r fs : List Value} (hat : px_at mi pc = some (.invokevirtual ix)) (hca : px_ca (px_cn mi) ix = some (1, mj, n)) (hdr : st.drop n = .ref b :: r) (hw : S.1 b = some (.inr (ci, fs)))
    (hc : (Nat.beq ci (px_yc mj) && (Nat.ble n st.length && Nat.ble ((r.map fun v => v.category).sum) 8)) = true) (kk : px_M d mj (.ref b :: (st.take n).reverse) S (fun v S1 => px_P d mi (pc + 3, ls, v.toList ++ r) S1 Q)) : px_P d mi (pc, ls, st) S Q := by
  refine px_P.call (mj := mj) (As := .ref b :: (st.take n).reverse) (r := r) ?_ kk
  simp only [px_call, hat, px_cv, hca, hdr, hw, hc, cond_true]
theorem px_P.lsw {d mi pc : Nat} {ls : px_L} {S : px_S} {Q : Option Value → px_S → Prop} {dflt off : Int} {ps : Array (Int × Int)} {t : Nat} {x : Int32} {r : List Value} (hat : px_at mi pc = some (.lookupswitch dflt ps)) (hp : (ps.toList.zip (ps.toList.drop 1)).all (fun (a, next) => a.1 < next.1) = true) (ho : Op.lookupswitch.offset ps.toList dflt x.toInt = off) (hj : px_jmp pc off = some t) (kk : px_P d mi (t, ls, r) S Q) : px_P d mi (pc, ls, .int x :: r) S Q := by
  refine px_P.step ?_ kk
  subst ho
  simp only [px_step, hat, px_do, px_lsw, hj, hp, cond_true]
theorem px_P.tsO {d mi pc : Nat} {ls : px_L} {S : px_S} {Q : Option Value → px_S → Prop} {dflt lo hi : Int} {offs : Array Int} {t : Nat} {x : Int32} {r : List Value} (hat : px_at mi pc = some (.tableswitch dflt lo hi offs)) (h : x.toInt < lo ∨ hi < x.toInt) (hj : px_jmp pc dflt = some t) (kk : px_P d mi (t, ls, r) S Q) : px_P d mi (pc, ls, .int x :: r) S Q := by
  refine px_P.step ?_ kk
  simp only [px_step, hat, px_do, px_tsw, h, hj, decide_true, cond_true]
theorem px_P.tsI {d mi pc : Nat} {ls : px_L} {S : px_S} {Q : Option Value → px_S → Prop} {dflt lo hi off : Int} {offs : Array Int} {t : Nat} {x : Int32} {r : List Value} (hat : px_at mi pc = some (.tableswitch dflt lo hi offs)) (h : ¬ (x.toInt < lo ∨ hi < x.toInt)) (ho : offs[(x.toInt - lo).toNat]? = some off) (hj : px_jmp pc off = some t) (kk : px_P d mi (t, ls, r) S Q) : px_P d mi (pc, ls, .int x :: r) S Q := by
  refine px_P.step ?_ kk
  simp only [px_step, hat, px_do, px_tsw, h, ho, hj, decide_false, cond_false]
theorem px_P.ialdj {d mi pc : Nat} {ls : px_L} {S : px_S} {Q : Option Value → px_S → Prop} {a n j : Nat} {i : Int32} {r : List Value} {f : Nat → Int32} (hat : px_at mi pc = some (.iaload)) (hw : S.1 a = some (.inl (0, n, .inl f))) (hi : i = nI j) (hj : j < n) (hn : n < 2 ^ 31) (kk : px_P d mi (pc + 1, ls, .int (f j) :: r) S Q) : px_P d mi (pc, ls, .int i :: .ref a :: r) S Q := by
  subst hi
  refine px_P.iald hat hw (vp_in_nI hj hn) ?_
  rw [nI_clamp (by omega)]
  exact kk
theorem px_P.zaldj {d mi pc : Nat} {ls : px_L} {S : px_S} {Q : Option Value → px_S → Prop} {a n j : Nat} {i : Int32} {r : List Value} {f : Nat → Int32} (hat : px_at mi pc = some (.baload)) (hw : S.1 a = some (.inl (2, n, .inl f))) (hi : i = nI j) (hj : j < n) (hn : n < 2 ^ 31) (kk : px_P d mi (pc + 1, ls, .int (f j) :: r) S Q) : px_P d mi (pc, ls, .int i :: .ref a :: r) S Q := by
  subst hi
  refine px_P.zald hat hw (vp_in_nI hj hn) ?_
  rw [nI_clamp (by omega)]
  exact kk
theorem px_P.caldj {d mi pc : Nat} {ls : px_L} {S : px_S} {Q : Option Value → px_S → Prop} {a n j : Nat} {i : Int32} {r : List Value} {f : Nat → Int32} (hat : px_at mi pc = some (.caload)) (hw : S.1 a = some (.inl (3, n, .inl f))) (hi : i = nI j) (hj : j < n) (hn : n < 2 ^ 31) (kk : px_P d mi (pc + 1, ls, .int (f j) :: r) S Q) : px_P d mi (pc, ls, .int i :: .ref a :: r) S Q := by
  subst hi
  refine px_P.cald hat hw (vp_in_nI hj hn) ?_
  rw [nI_clamp (by omega)]
  exact kk
theorem px_P.laldj {d mi pc : Nat} {ls : px_L} {S : px_S} {Q : Option Value → px_S → Prop} {a n j : Nat} {i : Int32} {r : List Value} {f : Nat → Int64} (hat : px_at mi pc = some (.laload)) (hw : S.1 a = some (.inl (1, n, .inr (.inl f)))) (hi : i = nI j) (hj : j < n) (hn : n < 2 ^ 31) (kk : px_P d mi (pc + 1, ls, .long (f j) :: r) S Q) : px_P d mi (pc, ls, .int i :: .ref a :: r) S Q := by
  subst hi
  refine px_P.lald hat hw (vp_in_nI hj hn) ?_
  rw [nI_clamp (by omega)]
  exact kk
theorem px_P.aaldj {d mi pc : Nat} {ls : px_L} {S : px_S} {Q : Option Value → px_S → Prop} {a n j : Nat} {i : Int32} {r : List Value} {f : Nat → Option Nat} {t : Nat} (hat : px_at mi pc = some (.aaload)) (hw : S.1 a = some (.inl (t, n, .inr (.inr (.inr (.inr f)))))) (ht : px_tr t = true) (hi : i = nI j) (hj : j < n) (hn : n < 2 ^ 31) (kk : px_P d mi (pc + 1, ls, va_rf (f j) :: r) S Q) : px_P d mi (pc, ls, .int i :: .ref a :: r) S Q := by
  subst hi
  refine px_P.aald hat hw ht (vp_in_nI hj hn) ?_
  rw [nI_clamp (by omega)]
  exact kk
theorem px_P.iastj {d mi pc : Nat} {ls : px_L} {S : px_S} {Q : Option Value → px_S → Prop} {a n j : Nat} {i : Int32} {r : List Value} {f : Nat → Int32} {x : Int32} (hat : px_at mi pc = some (.iastore)) (hw : S.1 a = some (.inl (0, n, .inl f))) (hi : i = nI j) (hj : j < n) (hn : n < 2 ^ 31) (kk : ∀ S1, px_Up S S1 a (.inl (0, n, .inl (upd f j x))) → px_P d mi (pc + 1, ls, r) S1 Q) : px_P d mi (pc, ls, .int x :: .int i :: .ref a :: r) S Q := by
  subst hi
  refine px_P.iast hat hw (vp_in_nI hj hn) (fun S1 u => kk S1 ?_)
  rw [nI_clamp (by omega)] at u
  exact u
theorem px_P.zastj {d mi pc : Nat} {ls : px_L} {S : px_S} {Q : Option Value → px_S → Prop} {a n j : Nat} {i : Int32} {r : List Value} {f : Nat → Int32} {x : Int32} (hat : px_at mi pc = some (.bastore)) (hw : S.1 a = some (.inl (2, n, .inl f))) (hx : (x == 0 || x == 1) = true) (hi : i = nI j) (hj : j < n) (hn : n < 2 ^ 31) (kk : ∀ S1, px_Up S S1 a (.inl (2, n, .inl (upd f j x))) → px_P d mi (pc + 1, ls, r) S1 Q) : px_P d mi (pc, ls, .int x :: .int i :: .ref a :: r) S Q := by
  subst hi
  refine px_P.zast hat hw (vp_in_nI hj hn) hx (fun S1 u => kk S1 ?_)
  rw [nI_clamp (by omega)] at u
  exact u
theorem px_P.castj {d mi pc : Nat} {ls : px_L} {S : px_S} {Q : Option Value → px_S → Prop} {a n j : Nat} {i : Int32} {r : List Value} {f : Nat → Int32} {x : Int32} (hat : px_at mi pc = some (.castore)) (hw : S.1 a = some (.inl (3, n, .inl f))) (hx : (decide (0 ≤ x) && decide (x ≤ 65535)) = true) (hi : i = nI j) (hj : j < n) (hn : n < 2 ^ 31) (kk : ∀ S1, px_Up S S1 a (.inl (3, n, .inl (upd f j x))) → px_P d mi (pc + 1, ls, r) S1 Q) : px_P d mi (pc, ls, .int x :: .int i :: .ref a :: r) S Q := by
  subst hi
  refine px_P.cast hat hw (vp_in_nI hj hn) hx (fun S1 u => kk S1 ?_)
  rw [nI_clamp (by omega)] at u
  exact u
theorem px_P.lastj {d mi pc : Nat} {ls : px_L} {S : px_S} {Q : Option Value → px_S → Prop} {a n j : Nat} {i : Int32} {r : List Value} {f : Nat → Int64} {x : Int64} (hat : px_at mi pc = some (.lastore)) (hw : S.1 a = some (.inl (1, n, .inr (.inl f)))) (hi : i = nI j) (hj : j < n) (hn : n < 2 ^ 31) (kk : ∀ S1, px_Up S S1 a (.inl (1, n, .inr (.inl (vp_updL f j x)))) → px_P d mi (pc + 1, ls, r) S1 Q) : px_P d mi (pc, ls, .long x :: .int i :: .ref a :: r) S Q := by
  subst hi
  refine px_P.last hat hw (vp_in_nI hj hn) (fun S1 u => kk S1 ?_)
  rw [nI_clamp (by omega)] at u
  exact u
theorem px_P.aastj {d mi pc : Nat} {ls : px_L} {S : px_S} {Q : Option Value → px_S → Prop} {a n j : Nat} {i : Int32} {r : List Value} {t v ci : Nat} {fs : List Value} {f : Nat → Option Nat} (hat : px_at mi pc = some (.aastore)) (hw : S.1 a = some (.inl (t, n, .inr (.inr (.inr (.inr f)))))) (hv : S.1 v = some (.inr (ci, fs))) (ht : px_tr t = true) (htc : px_tc t ci = true) (hi : i = nI j) (hj : j < n) (hn : n < 2 ^ 31) (kk : ∀ S1, px_Up S S1 a (.inl (t, n, .inr (.inr (.inr (.inr (va_up f j (some v))))))) → px_P d mi (pc + 1, ls, r) S1 Q) : px_P d mi (pc, ls, .ref v :: .int i :: .ref a :: r) S Q := by
  subst hi
  refine px_P.aast hat hw hv ht htc (vp_in_nI hj hn) (fun S1 u => kk S1 ?_)
  rw [nI_clamp (by omega)] at u
  exact u
theorem px_P.aastNj {d mi pc : Nat} {ls : px_L} {S : px_S} {Q : Option Value → px_S → Prop} {a n j : Nat} {i : Int32} {r : List Value} {t : Nat} {f : Nat → Option Nat} (hat : px_at mi pc = some (.aastore)) (hw : S.1 a = some (.inl (t, n, .inr (.inr (.inr (.inr f)))))) (ht : px_tr t = true) (hi : i = nI j) (hj : j < n) (hn : n < 2 ^ 31) (kk : ∀ S1, px_Up S S1 a (.inl (t, n, .inr (.inr (.inr (.inr (va_up f j none)))))) → px_P d mi (pc + 1, ls, r) S1 Q) : px_P d mi (pc, ls, .null :: .int i :: .ref a :: r) S Q := by
  subst hi
  refine px_P.aastN hat hw ht (vp_in_nI hj hn) (fun S1 u => kk S1 ?_)
  rw [nI_clamp (by omega)] at u
  exact u
/-- so many steps at once -/
def px_sn (mi : Nat) : Nat → px_F → px_S → px_R
  | 0, f, S => some (f, S)
  | n + 1, f, S => match px_step mi f S with
    | some q => px_sn mi n q.1 q.2
    | none => none
theorem px_P.sn {d mi : Nat} {Q : Option Value → px_S → Prop} : ∀ (n : Nat) {f f1 : px_F} {S S1 : px_S}, px_sn mi n f S = some (f1, S1) → px_P d mi f1 S1 Q → px_P d mi f S Q
  | 0, f, f1, S, S1, h, k => by cases h; exact k
  | n + 1, f, f1, S, S1, h, k => by
    unfold px_sn at h
    split at h
    · rename_i q hq
      exact px_P.step hq (px_P.sn n h k)
    · cases h
