/-! ===== the model's forms: the same as the class's ===== -/
theorem bt_sshr (x s : Int32) (k : Nat) (hk : k ≤ 31) (hs : (s.toBitVec.smod 32).toNat = k) (i : Nat) (hi : i < 32) : bt (x >>> s) i = (if i < 32 - k then bt x (k + i) else bt x 31) := by
  show (x.toBitVec.sshiftRight' (s.toBitVec.smod 32)).getLsbD i = _
  rw [BitVec.sshiftRight_eq', hs, BitVec.getLsbD_sshiftRight]
  by_cases z : i < 32 - k
  · rw [if_pos z]
    simp [show ¬ 32 ≤ i by omega, show k + i < 32 by omega]
    rfl
  · rw [if_neg z]
    simp [show ¬ 32 ≤ i by omega, show ¬ k + i < 32 by omega]
    rfl
theorem sh_nI : ∀ k, k < 32 → ((nI k &&& 31).toBitVec.smod 32).toNat = k := by decide +kernel
theorem bt_c1 : ∀ i, i < 32 → bt 1 i = decide (i = 0) := by decide +kernel
theorem bt_pick (x : Int32) {k : Nat} (hk : k < 32) : (x >>> (nI k &&& 31)) &&& 1 = (if bt x k = true then 1 else 0) := by
  apply bt_ext
  intro i hi
  rw [bt_and, bt_c1 i hi, bt_sshr x _ k (by omega) (sh_nI k hk) i hi]
  by_cases e : i = 0
  · subst e
    rw [if_pos (by omega), Nat.add_zero, decide_eq_true rfl, Bool.and_true]
    cases bt x k <;> rfl
  · rw [decide_eq_false e, Bool.and_false]
    split
    · rw [bt_c1 i hi, decide_eq_false e]
    · rw [bt_0]
theorem pick_1 (x : Int32) {k : Nat} (hk : k < 32) : (x >>> (nI k &&& 31)) &&& 1 = 1 ↔ bt x k = true := by
  rw [bt_pick x hk]
  cases bt x k <;> decide
theorem lF_31 {x : Int32} (h : le32 x lF) {i : Nat} (hi : 20 ≤ i) : bt x i = false := by
  by_cases e : i < 32
  · cases hb : bt x i with
    | false => rfl
    | true => exact absurd (bt_20 h e hb) (by omega)
  · exact bt_big x (by omega)
theorem bt_c15 : ∀ i, i < 32 → bt 15 i = decide (i < 4) := by decide +kernel
theorem mo_un {x : Int32} (h : le32 x lF) : (x >>> ((5 : Int32) &&& 31)) ||| (x &&& 16) = fm_un x := by
  apply bt_ext
  intro i hi
  apply Bool.eq_iff_iff.mpr
  rw [fm_un_b x i hi, bt_or, bt_sshr x _ 5 (by decide) (by decide) i hi, bt_and, bt_c16 i hi, Bool.or_eq_true, Bool.and_eq_true, decide_eq_true_eq]
  have e : (if i < 32 - 5 then bt x (5 + i) else bt x 31) = bt x (5 + i) := by
    split
    · rfl
    · rw [lF_31 h (by omega), lF_31 h (by omega)]
  rw [e]
  constructor
  · rintro (z | ⟨z, w⟩)
    · exact Or.inl z
    · subst w; exact Or.inr ⟨rfl, z⟩
  · rintro (z | ⟨w, z⟩)
    · exact Or.inl z
    · subst w; exact Or.inr ⟨z, rfl⟩
theorem mo_first (x : Int32) : (¬ x &&& 15 = 0) ↔ fm_unL x = true := by
  unfold fm_unL
  rw [decide_eq_true_eq]
  have e : (x &&& 31) &&& (-17) = x &&& 15 := by
    apply bt_ext
    intro i hi
    rw [bt_and, bt_and, bt_and, bt_c31 i hi, bt_c17 i hi, bt_c15 i hi]
    by_cases h4 : i = 4
    · subst h4; simp
    · by_cases h5 : i < 5
      · simp [h4, h5, show i < 4 by omega]
      · simp [h5, show ¬ i < 4 by omega]
  rw [e]
theorem mo_na (x : Int32) {l : Nat} (hl : l < 5) : (if (¬ x &&& 16 = 0) ∨ bt x l = true then (1 : Int32) <<< (nI l &&& 31) else 0) = fm_na x (nI l) := by
  apply bt_ext
  intro i hi
  apply Bool.eq_iff_iff.mpr
  rw [fm_na_b x hl i hi]
  have e16 : (¬ x &&& 16 = 0) ↔ bt x 4 = true := by
    rw [bt_ne0]
    constructor
    · rintro ⟨j, hj, q⟩
      rw [bt_and, bt_c16 j hj, Bool.and_eq_true, decide_eq_true_eq] at q
      rw [← q.2]; exact q.1
    · intro q
      exact ⟨4, by omega, by rw [bt_and, q, bt_c16 4 (by omega)]; rfl⟩
  split
  · rename_i z
    rw [bt_1 (by omega), decide_eq_true_eq]
    exact ⟨fun e => ⟨e, z.elim (fun w => Or.inr (e16.mp w)) Or.inl⟩, fun e => e.1⟩
  · rename_i z
    rw [bt_0]
    exact ⟨fun e => (by cases e), fun e => absurd (e.2.elim Or.inr (fun w => Or.inl (e16.mpr w))) z⟩
theorem mo_listed {x : Int32} (h : le32 x lF) : (if x >>> ((15 : Int32) &&& 31) = 0 then (x <<< ((5 : Int32) &&& 31)) &&& 1048575 else ((x <<< ((5 : Int32) &&& 31)) &&& 1048575) ||| 524288) = fm_listed x := by
  have e15 : (¬ x >>> ((15 : Int32) &&& 31) = 0) ↔ ∃ j, j < 32 ∧ j / 5 = 3 ∧ bt x j = true := by
    rw [bt_ne0]
    constructor
    · rintro ⟨j, hj, q⟩
      rw [bt_sshr x _ 15 (by decide) (by decide) j hj] at q
      split at q
      · exact ⟨15 + j, by omega, by have := bt_20 h (by omega) q; omega, q⟩
      · rw [lF_31 h (by omega)] at q; cases q
    · rintro ⟨j, hj, j5, q⟩
      refine ⟨j - 15, by omega, ?_⟩
      rw [bt_sshr x _ 15 (by decide) (by decide) _ (by omega), if_pos (by omega), show 15 + (j - 15) = j by omega]
      exact q
  have er : ∀ i, i < 32 → (bt ((x <<< ((5 : Int32) &&& 31)) &&& 1048575) i = true ↔ 5 ≤ i ∧ bt x (i - 5) = true ∧ ¬ (i - 5) / 5 = 3) := by
    intro i hi
    rw [bt_and, bt_cF i hi, bt_shl x _ 5 (by decide) i hi, Bool.and_eq_true, Bool.and_eq_true, decide_eq_true_eq, decide_eq_true_eq]
    constructor
    · rintro ⟨⟨a, b⟩, c⟩
      exact ⟨a, b, by omega⟩
    · rintro ⟨a, b, c⟩
      have := bt_20 h (by omega) b
      exact ⟨⟨a, b⟩, by omega⟩
  apply bt_ext
  intro i hi
  apply Bool.eq_iff_iff.mpr
  rw [fm_listed_b x i hi]
  by_cases z : x >>> ((15 : Int32) &&& 31) = 0
  · rw [if_pos z, er i hi]
    exact ⟨Or.inl, fun q => q.elim id (fun q => absurd z (e15.mpr q.2))⟩
  · rw [if_neg z, bt_or, Bool.or_eq_true, er i hi, bt_c19 i hi, decide_eq_true_eq]
    exact ⟨fun q => q.elim Or.inl (fun q => Or.inr ⟨q, e15.mp z⟩), fun q => q.elim Or.inl (fun q => Or.inr q.1)⟩
def soV (f g : Nat) : Int32 := if f = 4 ∨ g = 4 then 16 else if f < 2 ∧ g < 2 then (if f + g = 0 then 1 else 2) else if f = 2 ∧ g = 2 then 4 else if 4 < f ∧ f / 5 = g / 5 then (1 <<< (nI f &&& 31)) ||| (1 <<< (nI g &&& 31)) else -1
def soN (f g : Nat) : Bool := decide (soV f g < 0)
theorem soV_b : ∀ f, f < 20 → ∀ g, g < 20 → ∀ i, i < 32 → bt (if soV f g < 0 then 0 else soV f g) i = so f g i := by decide +kernel
def cls (i : Nat) : Nat := if i < 2 then 1 else if i = 2 then 2 else if i < 5 then 0 else i / 5 + 2
theorem soN_c : ∀ f, f < 20 → ∀ g, g < 20 → soN f g = decide (¬ f = 4 ∧ ¬ g = 4 ∧ ¬ (cls f = cls g ∧ ¬ cls f = 0)) := by decide +kernel
theorem cls_1 {i : Nat} (h : i < 20) : cls i = 1 ↔ i < 2 := by unfold cls; split <;> (try split) <;> (try split) <;> omega
theorem cls_2 {i : Nat} (h : i < 20) : cls i = 2 ↔ i = 2 := by unfold cls; split <;> (try split) <;> (try split) <;> omega
theorem cls_3 {i t : Nat} (ht : 1 ≤ t) (h : i < 20) : cls i = t + 2 ↔ i / 5 = t := by unfold cls; split <;> (try split) <;> (try split) <;> omega
theorem cls_5 (i : Nat) (h : i < 20) : cls i = 0 ∨ cls i = 1 ∨ cls i = 2 ∨ cls i = 3 ∨ cls i = 4 ∨ cls i = 5 := by unfold cls; split <;> (try split) <;> (try split) <;> omega
theorem bt_cm4 : ∀ i, i < 32 → bt (-4) i = decide (2 ≤ i) := by decide +kernel
theorem nz17 {x : Int32} : (¬ x &&& (-17) = 0) ↔ ∃ i, i < 32 ∧ ¬ i = 4 ∧ bt x i = true := by
  rw [bt_ne0]
  constructor
  · rintro ⟨j, hj, q⟩
    rw [bt_and, bt_c17 j hj, Bool.and_eq_true, decide_eq_true_eq] at q
    exact ⟨j, hj, q.2, q.1⟩
  · rintro ⟨j, hj, h4, q⟩
    exact ⟨j, hj, by rw [bt_and, q, bt_c17 j hj, decide_eq_true h4]; rfl⟩
theorem mo_lacks {l r : Int32} (hl : le32 l lF) (hr : le32 r lF) : fm_sumL l r = true ↔ ∃ f, f < 20 ∧ bt l f = true ∧ ∃ g, g < 20 ∧ bt r g = true ∧ soN f g = true := by
  have hb : ∀ i, i < 32 → (bt ((l &&& (-17)) ||| (r &&& (-17))) i = true ↔ ¬ i = 4 ∧ (bt l i = true ∨ bt r i = true)) := by
    intro i hi
    rw [bt_or, bt_and, bt_and, bt_c17 i hi, Bool.or_eq_true, Bool.and_eq_true, Bool.and_eq_true, decide_eq_true_eq]
    exact ⟨fun z => z.elim (fun z => ⟨z.2, Or.inl z.1⟩) (fun z => ⟨z.2, Or.inr z.1⟩), fun z => z.2.elim (fun w => Or.inl ⟨w, z.1⟩) (fun w => Or.inr ⟨w, z.1⟩)⟩
  by_cases h1 : l &&& (-17) = 0
  · have : fm_sumL l r = false := by unfold fm_sumL; rw [if_pos h1]
    rw [this]
    refine ⟨fun z => (by cases z), fun ⟨f, hf, bf, g, hg, bg, z⟩ => ?_⟩
    rw [soN_c f hf g hg, decide_eq_true_eq] at z
    exact absurd h1 (nz17.mpr ⟨f, by omega, z.1, bf⟩)
  by_cases h2 : r &&& (-17) = 0
  · have : fm_sumL l r = false := by unfold fm_sumL; rw [if_neg h1, if_pos h2]
    rw [this]
    refine ⟨fun z => (by cases z), fun ⟨f, hf, bf, g, hg, bg, z⟩ => ?_⟩
    rw [soN_c f hf g hg, decide_eq_true_eq] at z
    exact absurd h2 (nz17.mpr ⟨g, by omega, z.2.1, bg⟩)
  obtain ⟨f0, hf0, f4, bf0⟩ := nz17.mp h1
  obtain ⟨g0, hg0, g4, bg0⟩ := nz17.mp h2
  have hf20 := bt_20 hl hf0 bf0
  have hg20 := bt_20 hr hg0 bg0
  generalize eb : (l &&& (-17)) ||| (r &&& (-17)) = b at hb
  have key : fm_sumL l r = true ↔ ¬ ∃ c, 1 ≤ c ∧ c ≤ 5 ∧ ∀ i, i < 20 → bt b i = true → cls i = c := by
    have e : fm_sumL l r = !(fm_z1 b 3 (fm_z1 b 2 (fm_z1 b 1 (decide (b &&& (-4) = 0) || decide (b = 4))))) := by
      unfold fm_sumL
      rw [if_neg h1, if_neg h2, eb]
    have b20 : ∀ i, i < 32 → bt b i = true → i < 20 := by
      intro i hi z
      rcases ((hb i hi).mp z).2 with w | w
      · exact bt_20 hl hi w
      · exact bt_20 hr hi w
    have bf : bt b f0 = true := (hb f0 hf0).mpr ⟨f4, Or.inl bf0⟩
    have c1 : b &&& (-4) = 0 ↔ ∀ i, i < 20 → bt b i = true → cls i = 1 := by
      rw [bt_eq0]
      constructor
      · intro z i hi w
        have := z i (by omega)
        rw [bt_and, w, bt_cm4 i (by omega)] at this
        rw [cls_1 hi]
        have := of_decide_eq_false (by simpa using this : decide (2 ≤ i) = false)
        omega
      · intro z i hi
        rw [bt_and, bt_cm4 i hi]
        cases hbi : bt b i with
        | false => rfl
        | true =>
          have h20 := b20 i hi hbi
          have := (cls_1 h20).mp (z i h20 hbi)
          simp
          omega
    have c2 : b = 4 ↔ ∀ i, i < 20 → bt b i = true → cls i = 2 := by
      constructor
      · intro z i hi w
        rw [z, bt_c4 i (by omega), decide_eq_true_eq] at w
        exact (cls_2 hi).mpr w
      · intro z
        have h2 := (cls_2 hf20).mp (z f0 hf20 bf)
        apply bt_ext
        intro i hi
        rw [bt_c4 i hi]
        cases hbi : bt b i with
        | false =>
          have : ¬ i = 2 := fun q => by rw [q, ← h2, bf] at hbi; cases hbi
          rw [decide_eq_false this]
        | true =>
          have h20 := b20 i hi hbi
          rw [decide_eq_true ((cls_2 h20).mp (z i h20 hbi))]
    have c3 : ∀ t, 1 ≤ t → t < 4 → (b &&& (fm_lv (nI t) ^^^ (-1)) = 0 ↔ ∀ i, i < 20 → bt b i = true → cls i = t + 2) := by
      intro t t1 t4
      rw [le32_gr]
      constructor
      · intro z i hi w
        have := z i (by omega) w
        rw [fm_lvb t t4 i (by omega), decide_eq_true_eq] at this
        exact (cls_3 t1 hi).mpr this
      · intro z i hi w
        rw [fm_lvb t t4 i hi, decide_eq_true_eq]
        have h20 := b20 i hi w
        exact (cls_3 t1 h20).mp (z i h20 w)
    rw [e, Bool.not_eq_true', Bool.eq_false_iff]
    refine not_congr ?_
    unfold fm_z1
    rw [Bool.or_eq_true, Bool.or_eq_true, Bool.or_eq_true, Bool.or_eq_true, decide_eq_true_eq, decide_eq_true_eq, decide_eq_true_eq, decide_eq_true_eq, decide_eq_true_eq, c1, c2]
    have k1 := c3 1 (by decide) (by decide)
    have k2 := c3 2 (by decide) (by decide)
    have k3 := c3 3 (by decide) (by decide)
    constructor
    · rintro ((((z | z) | z) | z) | z)
      · exact ⟨1, by decide, by decide, z⟩
      · exact ⟨2, by decide, by decide, z⟩
      · exact ⟨3, by decide, by decide, k1.mp z⟩
      · exact ⟨4, by decide, by decide, k2.mp z⟩
      · exact ⟨5, by decide, by decide, k3.mp z⟩
    · rintro ⟨c, q1, q2, z⟩
      have : c = 1 ∨ c = 2 ∨ c = 3 ∨ c = 4 ∨ c = 5 := by omega
      rcases this with rfl | rfl | rfl | rfl | rfl
      · exact Or.inl (Or.inl (Or.inl (Or.inl z)))
      · exact Or.inl (Or.inl (Or.inl (Or.inr z)))
      · exact Or.inl (Or.inl (Or.inr (k1.mpr z)))
      · exact Or.inl (Or.inr (k2.mpr z))
      · exact Or.inr (k3.mpr z)
  rw [key]
  constructor
  · intro no
    apply Classical.byContradiction
    intro all
    apply no
    have cmp : ∀ f g, f < 20 → g < 20 → bt l f = true → bt r g = true → ¬ f = 4 → ¬ g = 4 → cls f = cls g ∧ ¬ cls f = 0 := by
      intro f g hf hg bf bg n4 m4
      apply Classical.byContradiction
      intro z
      exact all ⟨f, hf, bf, g, hg, bg, by rw [soN_c f hf g hg]; exact decide_eq_true ⟨n4, m4, z⟩⟩
    have q := cmp f0 g0 hf20 hg20 bf0 bg0 f4 g4
    refine ⟨cls f0, by omega, by have := cls_5 f0 hf20; omega, fun i hi w => ?_⟩
    obtain ⟨w4, w | w⟩ := (hb i (by omega)).mp w
    · exact (cmp i g0 hi hg20 w bg0 w4 g4).1.trans q.1.symm
    · exact (cmp f0 i hf20 hi bf0 w f4 w4).1.symm
  · rintro ⟨f, hf, bf, g, hg, bg, z⟩ ⟨c, q1, q2, w⟩
    rw [soN_c f hf g hg, decide_eq_true_eq] at z
    have w1 := w f hf ((hb f (by omega)).mpr ⟨z.1, Or.inl bf⟩)
    have w2 := w g hg ((hb g (by omega)).mpr ⟨z.2.1, Or.inr bg⟩)
    exact z.2.2 ⟨by omega, by omega⟩
