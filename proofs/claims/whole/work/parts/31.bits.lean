/-! ===== forms, bit by bit ===== -/
def bt (x : Int32) (i : Nat) : Bool := x.toBitVec.getLsbD i
theorem bt_or (a b : Int32) (i : Nat) : bt (a ||| b) i = (bt a i || bt b i) := by
  show (a.toBitVec ||| b.toBitVec).getLsbD i = _
  rw [BitVec.getLsbD_or]; rfl
theorem bt_and (a b : Int32) (i : Nat) : bt (a &&& b) i = (bt a i && bt b i) := by
  show (a.toBitVec &&& b.toBitVec).getLsbD i = _
  rw [BitVec.getLsbD_and]; rfl
theorem bt_xor (a b : Int32) (i : Nat) : bt (a ^^^ b) i = (bt a i ^^ bt b i) := by
  show (a.toBitVec ^^^ b.toBitVec).getLsbD i = _
  rw [BitVec.getLsbD_xor]; rfl
theorem bt_ext {a b : Int32} (h : ∀ i, i < 32 → bt a i = bt b i) : a = b := Int32.toBitVec_inj.mp (BitVec.eq_of_getLsbD_eq h)
theorem bt_0 (i : Nat) : bt 0 i = false := by
  show (0#32).getLsbD i = false
  simp
theorem bt_m1 : ∀ i, i < 32 → bt (-1) i = true := by decide +kernel
theorem bt_big (x : Int32) {i : Nat} (h : 32 ≤ i) : bt x i = false := BitVec.getLsbD_of_ge _ _ h
theorem bt_eq0 {a : Int32} : a = 0 ↔ ∀ i, i < 32 → bt a i = false :=
  ⟨fun h i _ => by rw [h]; exact bt_0 i, fun h => bt_ext (fun i hi => by rw [h i hi, bt_0])⟩
theorem bt_ne0 {a : Int32} : ¬ a = 0 ↔ ∃ i, i < 32 ∧ bt a i = true := by
  rw [bt_eq0]
  constructor
  · intro h
    apply Classical.byContradiction
    intro hn
    refine h (fun i hi => ?_)
    cases hb : bt a i with
    | false => rfl
    | true => exact absurd ⟨i, hi, hb⟩ hn
  · rintro ⟨i, hi, hb⟩ h
    rw [h i hi] at hb
    cases hb
theorem bt_1l : ∀ l, l < 32 → ((1 : Int32) <<< (nI l &&& 31)).toBitVec = BitVec.twoPow 32 l := by decide +kernel
theorem bt_1 {l : Nat} (hl : l < 32) (i : Nat) : bt ((1 : Int32) <<< (nI l &&& 31)) i = decide (i = l) := by
  unfold bt
  rw [bt_1l l hl, BitVec.getLsbD_twoPow]
  by_cases e : i = l
  · subst e; simp [hl]
  · simp [e]; intro _; omega
theorem bt_shl (a s : Int32) (k : Nat) (hs : (s.toBitVec.smod 32).toNat = k) (i : Nat) (hi : i < 32) : bt (a <<< s) i = (decide (k ≤ i) && bt a (i - k)) := by
  show (a.toBitVec <<< (s.toBitVec.smod 32)).getLsbD i = _
  rw [BitVec.shiftLeft_eq', hs, BitVec.getLsbD_shiftLeft]
  unfold bt
  by_cases h : i < k
  · simp [h, show ¬ k ≤ i by omega]
  · simp [h, hi, show k ≤ i by omega]
theorem bt_ushr (x s : Int32) (k : Nat) (hs : ((s.toUInt32 &&& Int32.toUInt32 31).toBitVec % 32).toNat = k) (i : Nat) : bt (x.toUInt32 >>> (s.toUInt32 &&& Int32.toUInt32 31)).toInt32 i = bt x (k + i) := by
  show (x.toBitVec >>> ((s.toUInt32 &&& Int32.toUInt32 31).toBitVec % 32)).getLsbD i = _
  rw [BitVec.ushiftRight_eq', hs, BitVec.getLsbD_ushiftRight]
  rfl
def le32 (a b : Int32) : Prop := ∀ i, i < 32 → bt a i = true → bt b i = true
theorem le32.rf (a : Int32) : le32 a a := fun _ _ h => h
theorem le32.tr {a b c : Int32} (h : le32 a b) (k : le32 b c) : le32 a c := fun i hi q => k i hi (h i hi q)
theorem le32.as {a b : Int32} (h : le32 a b) (k : le32 b a) : a = b := bt_ext (fun i hi => by
  cases ha : bt a i with
  | true => rw [h i hi ha]
  | false =>
    cases hb : bt b i with
    | false => rfl
    | true => rw [k i hi hb] at ha; cases ha)
theorem le32.or {a b c : Int32} (h : le32 a c) (k : le32 b c) : le32 (a ||| b) c := fun i hi q => by
  rw [bt_or, Bool.or_eq_true] at q
  exact q.elim (h i hi) (k i hi)
theorem le32.l (a b : Int32) : le32 a (a ||| b) := fun i _ q => by rw [bt_or, q]; rfl
theorem le32.r (a b : Int32) : le32 b (a ||| b) := fun i _ q => by rw [bt_or, q, Bool.or_true]
theorem le32.z (a : Int32) : le32 0 a := fun i _ q => by rw [bt_0] at q; cases q
theorem le32_gr {f T : Int32} : f &&& (T ^^^ (-1)) = 0 ↔ le32 f T := by
  rw [bt_eq0]
  constructor
  · intro h i hi hf
    have := h i hi
    rw [bt_and, bt_xor, bt_m1 i hi, hf] at this
    cases hb : bt T i with
    | true => rfl
    | false => rw [hb] at this; cases this
  · intro h i hi
    rw [bt_and, bt_xor, bt_m1 i hi]
    cases hf : bt f i with
    | false => rfl
    | true => rw [h i hi hf]; rfl
/-! the reckoning with forms, bit by bit -/
theorem fm_lv1 : fm_lv 1 = 992 := by decide
theorem fm_lv2 : fm_lv 2 = 31744 := by decide
theorem fm_lv3 : fm_lv 3 = 1015808 := by decide
theorem fm_lvb : ∀ t, t < 4 → ∀ i, i < 32 → bt (fm_lv (nI t)) i = decide (i / 5 = t) := by decide +kernel
theorem fm_any {x : Int32} {t : Nat} (ht : t < 4) : ¬ x &&& fm_lv (nI t) = 0 ↔ ∃ j, j < 32 ∧ j / 5 = t ∧ bt x j = true := by
  rw [bt_ne0]
  constructor
  · rintro ⟨i, hi, h⟩
    rw [bt_and, fm_lvb t ht i hi, Bool.and_eq_true, decide_eq_true_iff] at h
    exact ⟨i, hi, h.2, h.1⟩
  · rintro ⟨i, hi, h1, h2⟩
    exact ⟨i, hi, by rw [bt_and, fm_lvb t ht i hi, h2, decide_eq_true h1]; rfl⟩
theorem bt_c19 : ∀ i, i < 32 → bt 524288 i = decide (i = 19) := by decide +kernel
theorem bt_c16 : ∀ i, i < 32 → bt 16 i = decide (i = 4) := by decide +kernel
theorem bt_c9 : ∀ i, i < 32 → bt (-9) i = decide (¬ i = 3) := by decide +kernel
theorem bt_c5 : ∀ i, i < 32 → bt 5 i = decide (i = 0 ∨ i = 2) := by decide +kernel
theorem bt_c2 : ∀ i, i < 32 → bt 2 i = decide (i = 1) := by decide +kernel
theorem bt_c3 : ∀ i, i < 32 → bt 3 i = decide (i < 2) := by decide +kernel
theorem bt_c31 : ∀ i, i < 32 → bt 31 i = decide (i < 5) := by decide +kernel
theorem bt_c17 : ∀ i, i < 32 → bt (-17) i = decide (¬ i = 4) := by decide +kernel
theorem bt_c4 : ∀ i, i < 32 → bt 4 i = decide (i = 2) := by decide +kernel
theorem bt_cF : ∀ i, i < 32 → bt 1048575 i = decide (i < 20) := by decide +kernel
theorem fm_listed_b (x : Int32) (i : Nat) (hi : i < 32) : bt (fm_listed x) i = true ↔ (5 ≤ i ∧ bt x (i - 5) = true ∧ ¬ (i - 5) / 5 = 3) ∨ (i = 19 ∧ ∃ j, j < 32 ∧ j / 5 = 3 ∧ bt x j = true) := by
  have low : bt ((x &&& ((x &&& fm_lv 3) ^^^ (-1))) <<< ((5 : Int32) &&& 31)) i = true ↔ 5 ≤ i ∧ bt x (i - 5) = true ∧ ¬ (i - 5) / 5 = 3 := by
    rw [bt_shl _ _ 5 (by decide) i hi, Bool.and_eq_true, decide_eq_true_iff]
    constructor
    · rintro ⟨h1, h2⟩
      rw [bt_and, bt_xor, bt_and, bt_m1 _ (by omega), show fm_lv 3 = fm_lv (nI 3) from rfl, fm_lvb 3 (by omega) _ (by omega), Bool.and_eq_true] at h2
      refine ⟨h1, h2.1, fun z => ?_⟩
      rw [h2.1, decide_eq_true z] at h2
      cases h2.2
    · rintro ⟨h1, h2, h3⟩
      refine ⟨h1, ?_⟩
      rw [bt_and, bt_xor, bt_and, bt_m1 _ (by omega), show fm_lv 3 = fm_lv (nI 3) from rfl, fm_lvb 3 (by omega) _ (by omega), h2, decide_eq_false h3]
      rfl
  unfold fm_listed
  split
  · rename_i h0
    rw [low]
    constructor
    · exact Or.inl
    · rintro (h | ⟨_, j, h1, h2, h3⟩)
      · exact h
      · exact absurd h0 ((fm_any (t := 3) (by omega)).mpr ⟨j, h1, h2, h3⟩)
  · rename_i h0
    rw [bt_or, Bool.or_eq_true, low, bt_c19 i hi, decide_eq_true_iff]
    have := (fm_any (t := 3) (by omega)).mp h0
    constructor
    · rintro (h | h)
      · exact Or.inl h
      · exact Or.inr ⟨h, this⟩
    · rintro (h | ⟨h, _⟩)
      · exact Or.inl h
      · exact Or.inr h
theorem fm_un_b (x : Int32) (i : Nat) (hi : i < 32) : bt (fm_un x) i = true ↔ bt x (5 + i) = true ∨ (i = 4 ∧ bt x 4 = true) := by
  unfold fm_un
  rw [bt_or, bt_ushr _ _ 5 (by decide), bt_and, bt_c16 i hi, Bool.or_eq_true, Bool.and_eq_true, decide_eq_true_iff]
  constructor
  · rintro (h | ⟨h1, h2⟩)
    · exact Or.inl h
    · subst h2; exact Or.inr ⟨rfl, h1⟩
  · rintro (h | ⟨h1, h2⟩)
    · exact Or.inl h
    · subst h1; exact Or.inr ⟨h2, rfl⟩
theorem fm_na_b (x : Int32) {l : Nat} (hl : l < 5) (i : Nat) (hi : i < 32) : bt (fm_na x (nI l)) i = true ↔ i = l ∧ (bt x l = true ∨ bt x 4 = true) := by
  have e : ¬ x &&& ((1 <<< (nI l &&& 31)) ||| 16) = 0 ↔ (bt x l = true ∨ bt x 4 = true) := by
    rw [bt_ne0]
    constructor
    · rintro ⟨j, hj, h⟩
      rw [bt_and, bt_or, bt_1 (by omega), bt_c16 j hj, Bool.and_eq_true, Bool.or_eq_true, decide_eq_true_iff, decide_eq_true_iff] at h
      rcases h.2 with z | z
      · rw [z] at h; exact Or.inl h.1
      · rw [z] at h; exact Or.inr h.1
    · rintro (h | h)
      · exact ⟨l, by omega, by rw [bt_and, bt_or, bt_1 (by omega), h]; simp⟩
      · exact ⟨4, by omega, by rw [bt_and, bt_or, bt_c16 4 (by omega), h]; simp⟩
  unfold fm_na
  split
  · rename_i h
    rw [bt_0]
    constructor
    · intro z; cases z
    · rintro ⟨_, z⟩; exact absurd h (e.mpr z)
  · rename_i h
    rw [bt_1 (by omega), decide_eq_true_iff]
    exact ⟨fun z => ⟨z, e.mp h⟩, fun z => z.1⟩
/-- the forms that a form of one and a form of the other sum to -/
def so (f g i : Nat) : Bool := if f = 4 ∨ g = 4 then decide (i = 4) else if f < 2 ∧ g < 2 then (if f + g = 0 then decide (i = 0) else decide (i = 1)) else if f = 2 ∧ g = 2 then decide (i = 2) else if 4 < f ∧ f / 5 = g / 5 then decide (i = f ∨ i = g) else false
theorem so_c {f g i : Nat} (h : so f g i = true) : (i = 4 ∧ (f = 4 ∨ g = 4)) ∨ (i = 0 ∧ f = 0 ∧ g = 0) ∨ (i = 2 ∧ f = 2 ∧ g = 2) ∨ (i = 1 ∧ ((f = 1 ∧ g < 2) ∨ (g = 1 ∧ f < 2))) ∨ (5 ≤ i ∧ f / 5 = i / 5 ∧ g / 5 = i / 5 ∧ (f = i ∨ g = i)) := by
  unfold so at h
  repeat' split at h
  all_goals simp at h
  all_goals omega
theorem so_20 {f g i : Nat} (hf : f < 20) (hg : g < 20) (h : so f g i = true) : i < 20 := by
  unfold so at h
  repeat' split at h
  all_goals simp at h
  all_goals omega
theorem so_5 {f g i : Nat} (h5 : 5 ≤ i) (hf : f / 5 = i / 5) (hg : g / 5 = i / 5) (h : i = f ∨ i = g) : so f g i = true := by
  unfold so
  rw [if_neg (by omega), if_neg (by omega), if_neg (by omega), if_pos (by omega)]
  exact decide_eq_true h
def lF : Int32 := 1048575
theorem bt_20 {x : Int32} (h : le32 x lF) {i : Nat} (hi : i < 32) (hb : bt x i = true) : i < 20 := by
  have := h i hi hb
  unfold lF at this
  rw [bt_cF i hi] at this
  exact of_decide_eq_true this
theorem so_c4 {f g : Nat} (h : f = 4 ∨ g = 4) : so f g 4 = true := by unfold so; rw [if_pos h]; rfl
/-- the sum, bit by bit -/
theorem fm_sum_b {l r : Int32} (hl : le32 l lF) (hr : le32 r lF) (i : Nat) (hi : i < 32) : bt (fm_sum l r) i = true ↔ ∃ f, f < 20 ∧ bt l f = true ∧ ∃ g, g < 20 ∧ bt r g = true ∧ so f g i = true := by
  by_cases l0 : l = 0
  · rw [show fm_sum l r = 0 from by simp [fm_sum, l0], bt_0]
    constructor
    · intro h; cases h
    · rintro ⟨f, _, h, _⟩; rw [l0, bt_0] at h; cases h
  by_cases r0 : r = 0
  · rw [show fm_sum l r = 0 from by simp [fm_sum, r0], bt_0]
    constructor
    · intro h; cases h
    · rintro ⟨f, _, _, g, _, h, _⟩; rw [r0, bt_0] at h; cases h
  obtain ⟨f0, hf0, ef0⟩ := bt_ne0.mp l0
  obtain ⟨g0, hg0, eg0⟩ := bt_ne0.mp r0
  have hf0 := bt_20 hl hf0 ef0
  have hg0 := bt_20 hr hg0 eg0
  have s1 : ∀ (t : Nat), t < 4 → ∀ z, bt (fm_s1 l r (nI t) z) i = true ↔ bt z i = true ∨ (i / 5 = t ∧ (∃ j, j < 32 ∧ j / 5 = t ∧ bt l j = true) ∧ (∃ j, j < 32 ∧ j / 5 = t ∧ bt r j = true) ∧ (bt l i = true ∨ bt r i = true)) := by
    intro t ht z
    unfold fm_s1
    split
    · rename_i h
      exact ⟨Or.inl, fun q => q.elim id (fun q => absurd h ((fm_any ht).mpr q.2.1))⟩
    · rename_i h
      split
      · rename_i h2
        exact ⟨Or.inl, fun q => q.elim id (fun q => absurd h2 ((fm_any ht).mpr q.2.2.1))⟩
      · rename_i h2
        rw [bt_or, bt_and, bt_or, fm_lvb t ht i hi, Bool.or_eq_true, Bool.and_eq_true, Bool.or_eq_true, decide_eq_true_iff]
        constructor
        · rintro (q | ⟨q1, q2⟩)
          · exact Or.inl q
          · exact Or.inr ⟨q2, (fm_any ht).mp h, (fm_any ht).mp h2, q1⟩
        · rintro (q | ⟨q1, _, _, q2⟩)
          · exact Or.inl q
          · exact Or.inr ⟨q2, q1⟩
  have fl : ∀ x y : Int32, fm_fl x y = true ↔ bt x 1 = true ∧ (bt y 0 = true ∨ bt y 1 = true) := by
    intro x y
    unfold fm_fl
    rw [Bool.and_eq_true, decide_eq_true_iff, decide_eq_true_iff, bt_ne0, bt_ne0]
    constructor
    · rintro ⟨⟨a, ha, h1⟩, b, hb, h2⟩
      rw [bt_and, bt_c2 a ha, Bool.and_eq_true, decide_eq_true_iff] at h1
      rw [bt_and, bt_c3 b hb, Bool.and_eq_true, decide_eq_true_iff] at h2
      rw [h1.2] at h1
      refine ⟨h1.1, ?_⟩
      rcases (show b = 0 ∨ b = 1 by omega) with e | e
      · rw [e] at h2; exact Or.inl h2.1
      · rw [e] at h2; exact Or.inr h2.1
    · rintro ⟨h1, h2⟩
      refine ⟨⟨1, by omega, by rw [bt_and, h1]; decide⟩, ?_⟩
      rcases h2 with h2 | h2
      · exact ⟨0, by omega, by rw [bt_and, h2]; decide⟩
      · exact ⟨1, by omega, by rw [bt_and, h2]; decide⟩
  have s0 : bt (fm_s0 l r) i = true ↔ (i = 4 ∧ (bt l 4 = true ∨ bt r 4 = true)) ∨ (i = 0 ∧ bt l 0 = true ∧ bt r 0 = true) ∨ (i = 2 ∧ bt l 2 = true ∧ bt r 2 = true) ∨ (i = 1 ∧ (fm_fl l r = true ∨ fm_fl r l = true)) := by
    have b0 : bt (((l ||| r) &&& 16) ||| ((l &&& r) &&& 5)) i = true ↔ (i = 4 ∧ (bt l 4 = true ∨ bt r 4 = true)) ∨ (i = 0 ∧ bt l 0 = true ∧ bt r 0 = true) ∨ (i = 2 ∧ bt l 2 = true ∧ bt r 2 = true) := by
      rw [bt_or, bt_and, bt_or, bt_and, bt_and, bt_c16 i hi, bt_c5 i hi, Bool.or_eq_true, Bool.and_eq_true, Bool.or_eq_true, Bool.and_eq_true, Bool.and_eq_true, decide_eq_true_iff, decide_eq_true_iff]
      constructor
      · rintro (⟨q1, q2⟩ | ⟨q1, q2 | q2⟩)
        · subst q2; exact Or.inl ⟨rfl, q1⟩
        · subst q2; exact Or.inr (Or.inl ⟨rfl, q1⟩)
        · subst q2; exact Or.inr (Or.inr ⟨rfl, q1⟩)
      · rintro (⟨q1, q2⟩ | ⟨q1, q2⟩ | ⟨q1, q2⟩)
        · subst q1; exact Or.inl ⟨q2, rfl⟩
        · subst q1; exact Or.inr ⟨q2, Or.inl rfl⟩
        · subst q1; exact Or.inr ⟨q2, Or.inr rfl⟩
    unfold fm_s0
    cases hq : (fm_fl l r || fm_fl r l) with
    | true =>
      rw [cond_true, bt_or, Bool.or_eq_true, b0, bt_c2 i hi, decide_eq_true_iff]
      rw [Bool.or_eq_true] at hq
      constructor
      · rintro ((q | q | q) | q)
        · exact Or.inl q
        · exact Or.inr (Or.inl q)
        · exact Or.inr (Or.inr (Or.inl q))
        · exact Or.inr (Or.inr (Or.inr ⟨q, hq⟩))
      · rintro (q | q | q | q)
        · exact Or.inl (Or.inl q)
        · exact Or.inl (Or.inr (Or.inl q))
        · exact Or.inl (Or.inr (Or.inr q))
        · exact Or.inr q.1
    | false =>
      rw [cond_false, b0]
      have hn : ¬ (fm_fl l r = true ∨ fm_fl r l = true) := by
        rw [← Bool.or_eq_true, hq]
        intro z; cases z
      constructor
      · rintro (q | q | q)
        · exact Or.inl q
        · exact Or.inr (Or.inl q)
        · exact Or.inr (Or.inr (Or.inl q))
      · rintro (q | q | q | q)
        · exact Or.inl q
        · exact Or.inr (Or.inl q)
        · exact Or.inr (Or.inr q)
        · exact absurd q.2 hn
  rw [show fm_sum l r = fm_s1 l r (nI 3) (fm_s1 l r (nI 2) (fm_s1 l r (nI 1) (fm_s0 l r))) from by simp only [fm_sum, l0, r0, if_false]; rfl, s1 3 (by omega), s1 2 (by omega), s1 1 (by omega), s0, fl, fl]
  constructor
  · intro h
    have lev : ∀ t, 1 ≤ t → t < 4 → (i / 5 = t ∧ (∃ j, j < 32 ∧ j / 5 = t ∧ bt l j = true) ∧ (∃ j, j < 32 ∧ j / 5 = t ∧ bt r j = true) ∧ (bt l i = true ∨ bt r i = true)) → ∃ f, f < 20 ∧ bt l f = true ∧ ∃ g, g < 20 ∧ bt r g = true ∧ so f g i = true := by
      rintro t h1 h4 ⟨q1, ⟨j, q2, q3, q4⟩, ⟨k, q5, q6, q7⟩, q8 | q8⟩
      · exact ⟨i, by omega, q8, k, by omega, q7, so_5 (by omega) rfl (by omega) (Or.inl rfl)⟩
      · exact ⟨j, by omega, q4, i, by omega, q8, so_5 (by omega) (by omega) rfl (Or.inr rfl)⟩
    rcases h with ((((⟨q1, q2⟩ | ⟨q1, q2, q3⟩ | ⟨q1, q2, q3⟩ | ⟨q1, q2⟩) | q) | q) | q)
    · subst q1
      rcases q2 with q2 | q2
      · exact ⟨4, by omega, q2, g0, hg0, eg0, so_c4 (Or.inl rfl)⟩
      · exact ⟨f0, hf0, ef0, 4, by omega, q2, so_c4 (Or.inr rfl)⟩
    · subst q1; exact ⟨0, by omega, q2, 0, by omega, q3, by decide⟩
    · subst q1; exact ⟨2, by omega, q2, 2, by omega, q3, by decide⟩
    · subst q1
      rcases q2 with ⟨q2, q3 | q3⟩ | ⟨q2, q3 | q3⟩
      · exact ⟨1, by omega, q2, 0, by omega, q3, by decide⟩
      · exact ⟨1, by omega, q2, 1, by omega, q3, by decide⟩
      · exact ⟨0, by omega, q3, 1, by omega, q2, by decide⟩
      · exact ⟨1, by omega, q3, 1, by omega, q2, by decide⟩
    · exact lev 1 (by omega) (by omega) q
    · exact lev 2 (by omega) (by omega) q
    · exact lev 3 (by omega) (by omega) q
  · rintro ⟨f, hf, ef, g, hg, eg, hs⟩
    rcases so_c hs with ⟨q1, q2⟩ | ⟨q1, q2, q3⟩ | ⟨q1, q2, q3⟩ | ⟨q1, q2⟩ | ⟨q1, q2, q3, q4⟩
    · refine Or.inl (Or.inl (Or.inl (Or.inl ⟨q1, ?_⟩)))
      rcases q2 with q2 | q2
      · rw [q2] at ef; exact Or.inl ef
      · rw [q2] at eg; exact Or.inr eg
    · subst q2 q3; exact Or.inl (Or.inl (Or.inl (Or.inr (Or.inl ⟨q1, ef, eg⟩))))
    · subst q2 q3; exact Or.inl (Or.inl (Or.inl (Or.inr (Or.inr (Or.inl ⟨q1, ef, eg⟩)))))
    · refine Or.inl (Or.inl (Or.inl (Or.inr (Or.inr (Or.inr ⟨q1, ?_⟩)))))
      rcases q2 with ⟨q2, q3⟩ | ⟨q2, q3⟩
      · subst q2
        rcases (show g = 0 ∨ g = 1 by omega) with e | e
        · subst e; exact Or.inl ⟨ef, Or.inl eg⟩
        · subst e; exact Or.inl ⟨ef, Or.inr eg⟩
      · subst q2
        rcases (show f = 0 ∨ f = 1 by omega) with e | e
        · subst e; exact Or.inr ⟨eg, Or.inl ef⟩
        · subst e; exact Or.inr ⟨eg, Or.inr ef⟩
    · have both : bt l i = true ∨ bt r i = true := by
        rcases q4 with q4 | q4
        · rw [q4] at ef; exact Or.inl ef
        · rw [q4] at eg; exact Or.inr eg
      rcases (show i / 5 = 1 ∨ i / 5 = 2 ∨ i / 5 = 3 by omega) with e | e | e
      · exact Or.inl (Or.inl (Or.inr ⟨e, ⟨f, by omega, by omega, ef⟩, ⟨g, by omega, by omega, eg⟩, both⟩))
      · exact Or.inl (Or.inr ⟨e, ⟨f, by omega, by omega, ef⟩, ⟨g, by omega, by omega, eg⟩, both⟩)
      · exact Or.inr ⟨e, ⟨f, by omega, by omega, ef⟩, ⟨g, by omega, by omega, eg⟩, both⟩
