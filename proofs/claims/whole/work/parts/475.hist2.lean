/-! ===== History: what is behind the newest stays ===== -/
theorem pm_hiLose2 {d h z : Nat} {p : Nat → Int32} {l : Nat → Option Nat} {S : px_S} {Q : Option Value → px_S → Prop} (hd : 1 ≤ d) (hh : hi_at S h z p l) (hl : ∀ j a, j < 16 → l j = some a → ∃ fs, S.1 a = some (.inr (4, fs)))
    (k : ∀ S' p' l', hi_at S' h 15 p' l' → (∀ j, j < 15 → p' j = p (j + 1) ∧ l' j = l (j + 1)) → (∀ j, 15 ≤ j → l' j = l j) → (∀ q, (q < h ∨ h + 3 ≤ q) → S'.1 q = S.1 q) → S'.2 = S.2 → Q none S') : px_M d px_m_History_loseOldest [.ref h] S Q := by
  have lo : ∀ a fs, S.1 a = some (.inr (4, fs)) → a < h ∨ h + 3 ≤ a := by
    intro a fs ha
    obtain ⟨h0, h1, h2⟩ := hh
    rcases Nat.lt_or_ge a h with hl | hg
    · exact Or.inl hl
    · rcases Nat.lt_or_ge a (h + 3) with h5 | h5
      · rcases (show a = h ∨ a = h + 1 ∨ a = h + 2 by omega) with rfl | rfl | rfl
        · rw [h0] at ha; cases ha
        · rw [h1] at ha; cases ha
        · rw [h2] at ha; cases ha
      · exact Or.inr h5
  have lp : ∀ (m i : Nat), i + m = 16 → 1 ≤ i → ∀ (S1 : px_S) (p1 : Nat → Int32) (l1 : Nat → Option Nat), hi_at S1 h z p1 l1 → (∀ j, j + 1 < i → p1 j = p (j + 1) ∧ l1 j = l (j + 1)) → (∀ j, i ≤ j + 1 → p1 j = p j ∧ l1 j = l j) → (∀ q, (q < h ∨ h + 3 ≤ q) → S1.1 q = S.1 q) → S1.2 = S.2 →
      px_P (d - 1) px_m_History_loseOldest (2, [(0, .ref h), (1, .int (nI i))], []) S1 Q := by
    intro m
    induction m with
    | zero =>
      intro i hi h1i S1 p1 l1 ⟨h0, h1, h2⟩ ha hb hc ht
      refine px_P.sn 2 (f1 := (5, [(0, .ref h), (1, .int (nI i))], [.int 16, .int (nI i)])) (S1 := S1) rfl ?_
      refine px_P.ic_ge rfl rfl (fun _ => ?_) (fun h => absurd (nI_le (a := 16) (by omega) (by omega)) h)
      refine px_P.sn 2 (f1 := (45, [(0, .ref h), (1, .int (nI i))], [.int 15, .ref h])) (S1 := S1) rfl ?_
      refine px_P.pf rfl rfl (by assumption) rfl (fun S2 u2 => ?_)
      refine px_P.ret rfl ?_
      exact k S2 p1 l1 ⟨u2.s, u2.n h1 (by omega), u2.n h2 (by omega)⟩ (fun j hj => ha j (by omega)) (fun j hj => (hb j (by omega)).2) (fun q hq => by rw [u2.o (by omega)]; exact hc q hq) (by rw [u2.t, ht])
    | succ m ih =>
      intro i hi h1i S1 p1 l1 ⟨h0, h1, h2⟩ ha hb hc ht
      obtain ⟨i', rfl⟩ : ∃ i', i = i' + 1 := ⟨i - 1, by omega⟩
      refine px_P.sn 2 (f1 := (5, [(0, .ref h), (1, .int (nI (i' + 1)))], [.int 16, .int (nI (i' + 1))])) (S1 := S1) rfl ?_
      refine px_P.ic_ge rfl rfl (fun h => absurd h (nI_ge (b := 16) (by omega) (by decide))) (fun _ => ?_)
      refine px_P.sn 1 (f1 := (9, [(0, .ref h), (1, .int (nI (i' + 1)))], [.ref h])) (S1 := S1) rfl ?_
      refine px_P.gf rfl rfl (by assumption) (v := .ref (h + 1)) rfl ?_
      refine px_P.sn 4 (f1 := (16, [(0, .ref h), (1, .int (nI (i' + 1)))], [.ref h, .int ((nI (i' + 1)) - 1), .ref (h + 1)])) (S1 := S1) rfl ?_
      refine px_P.gf rfl rfl (by assumption) (v := .ref (h + 1)) rfl ?_
      refine px_P.sn 1 (f1 := (20, [(0, .ref h), (1, .int (nI (i' + 1)))], [.int (nI (i' + 1)), .ref (h + 1), .int ((nI (i' + 1)) - 1), .ref (h + 1)])) (S1 := S1) rfl ?_
      refine px_P.ialdj (j := i' + 1) rfl (by assumption) rfl (by omega) (by decide) ?_
      refine px_P.iastj (j := i') rfl (by assumption) (nI_pred i') (by omega) (by decide) (fun S2 u2 => ?_)
      have h02 := u2.n h0 (by omega)
      have h22 := u2.n h2 (by omega)
      refine px_P.sn 1 (f1 := (23, [(0, .ref h), (1, .int (nI (i' + 1)))], [.ref h])) (S1 := S2) rfl ?_
      refine px_P.gf rfl rfl (by assumption) (v := .ref (h + 2)) rfl ?_
      refine px_P.sn 4 (f1 := (30, [(0, .ref h), (1, .int (nI (i' + 1)))], [.ref h, .int ((nI (i' + 1)) - 1), .ref (h + 2)])) (S1 := S2) rfl ?_
      refine px_P.gf rfl rfl (by assumption) (v := .ref (h + 2)) rfl ?_
      refine px_P.sn 1 (f1 := (34, [(0, .ref h), (1, .int (nI (i' + 1)))], [.int (nI (i' + 1)), .ref (h + 2), .int ((nI (i' + 1)) - 1), .ref (h + 2)])) (S1 := S2) rfl ?_
      refine px_P.aaldj (j := i' + 1) rfl (by assumption) rfl rfl (by omega) (by decide) ?_
      cases hv : l1 (i' + 1) with
      | none =>
        show px_P _ _ (35, [(0, .ref h), (1, .int (nI (i' + 1)))], [.null, .int ((nI (i' + 1)) - 1), .ref (h + 2)]) S2 _
        refine px_P.aastNj (j := i') rfl (by assumption) rfl (nI_pred i') (by omega) (by decide) (fun S3 u3 => ?_)
        refine px_P.sn 2 (f1 := (2, [(0, .ref h), (1, .int ((nI (i' + 1)) + 1))], [])) (S1 := S3) rfl ?_
        rw [nI_1]
        refine ih (i' + 1 + 1) (by omega) (by omega) S3 _ _ ⟨u3.n h02 (by omega), u3.n u2.s (by omega), u3.s⟩ (fun j hj => ?_) (fun j hj => ?_) (fun q hq => by rw [u3.o (by omega), u2.o (by omega)]; exact hc q hq) (by rw [u3.t, u2.t, ht])
        · by_cases e : j = i'
          · subst e
            rw [pk_us]
            exact ⟨(hb (j + 1) (by omega)).1, by simp only [va_up, if_true]; rw [← hv]; exact (hb (j + 1) (by omega)).2⟩
          · rw [pk_un e]; simp only [va_up, if_neg e]; exact ha j (by omega)
        · have e : ¬ j = i' := by omega
          rw [pk_un e]; simp only [va_up, if_neg e]; exact hb j (by omega)
      | some v =>
        obtain ⟨fs, hfs⟩ := hl (i' + 1) v (by omega) (by rw [← (hb (i' + 1) (by omega)).2]; exact hv)
        have hvs := lo v fs hfs
        have hv2 : S2.1 v = some (.inr (4, fs)) := u2.n ((hc v hvs).trans hfs) (by omega)
        show px_P _ _ (35, [(0, .ref h), (1, .int (nI (i' + 1)))], [.ref v, .int ((nI (i' + 1)) - 1), .ref (h + 2)]) S2 _
        refine px_P.aastj (j := i') rfl (by assumption) (by assumption) rfl rfl (nI_pred i') (by omega) (by decide) (fun S3 u3 => ?_)
        refine px_P.sn 2 (f1 := (2, [(0, .ref h), (1, .int ((nI (i' + 1)) + 1))], [])) (S1 := S3) rfl ?_
        rw [nI_1]
        refine ih (i' + 1 + 1) (by omega) (by omega) S3 _ _ ⟨u3.n h02 (by omega), u3.n u2.s (by omega), u3.s⟩ (fun j hj => ?_) (fun j hj => ?_) (fun q hq => by rw [u3.o (by omega), u2.o (by omega)]; exact hc q hq) (by rw [u3.t, u2.t, ht])
        · by_cases e : j = i'
          · subst e
            rw [pk_us]
            exact ⟨(hb (j + 1) (by omega)).1, by simp only [va_up, if_true]; rw [← hv]; exact (hb (j + 1) (by omega)).2⟩
          · rw [pk_un e]; simp only [va_up, if_neg e]; exact ha j (by omega)
        · have e : ¬ j = i' := by omega
          rw [pk_un e]; simp only [va_up, if_neg e]; exact hb j (by omega)
  refine px_M.go hd (Nat.le_of_ble_eq_true rfl) ?_
  refine px_P.sn 2 (f1 := (2, [(0, .ref h), (1, .int 1)], [])) (S1 := S) rfl ?_
  exact lp 15 1 rfl (by omega) S p l hh (fun j hj => absurd hj (by omega)) (fun _ _ => ⟨rfl, rfl⟩) (fun _ _ => rfl) rfl
/-- one more kept; the oldest is lost if there were sixteen -/
theorem pm_hiKeep2 {d h z : Nat} {p : Nat → Int32} {l : Nat → Option Nat} {x : Int32} {o : Option Nat} {S : px_S} {Q : Option Value → px_S → Prop} (hd : 2 ≤ d) (hz : z ≤ 16) (hh : hi_at S h z p l) (hl : ∀ j a, j < 16 → l j = some a → ∃ fs, S.1 a = some (.inr (4, fs))) (ho : ∀ a, o = some a → ∃ fs, S.1 a = some (.inr (4, fs)))
    (k : ∀ S' z' p' l', hi_at S' h (z' + 1) p' l' → z' = (if z < 16 then z else 15) → p' z' = x → l' z' = o → (∀ j, j < z' → p' j = p (j + (z - z')) ∧ l' j = l (j + (z - z'))) → (∀ j, z' < j → l' j = l j) → (∀ q, (q < h ∨ h + 3 ≤ q) → S'.1 q = S.1 q) → S'.2 = S.2 → Q none S') :
    px_M d px_m_History_keep [.ref h, .int x, va_rf o] S Q := by
  have lo : ∀ a fs, S.1 a = some (.inr (4, fs)) → a < h ∨ h + 3 ≤ a := by
    intro a fs ha
    obtain ⟨h0, h1, h2⟩ := hh
    rcases Nat.lt_or_ge a h with hl | hg
    · exact Or.inl hl
    · rcases Nat.lt_or_ge a (h + 3) with h5 | h5
      · rcases (show a = h ∨ a = h + 1 ∨ a = h + 2 by omega) with rfl | rfl | rfl
        · rw [h0] at ha; cases ha
        · rw [h1] at ha; cases ha
        · rw [h2] at ha; cases ha
      · exact Or.inr h5
  have tail : ∀ (S1 : px_S) (z1 : Nat) (p1 : Nat → Int32) (l1 : Nat → Option Nat), hi_at S1 h z1 p1 l1 → z1 = (if z < 16 then z else 15) → (∀ j, j < z1 → p1 j = p (j + (z - z1)) ∧ l1 j = l (j + (z - z1))) → (∀ j, z1 < j → l1 j = l j) → (∀ q, (q < h ∨ h + 3 ≤ q) → S1.1 q = S.1 q) → S1.2 = S.2 →
      px_P (d - 1) px_m_History_keep (13, [(0, .ref h), (1, .int x), (2, va_rf o)], []) S1 Q := by
    intro S1 z1 p1 l1 ⟨h0, h1, h2⟩ hz1 hj hjj hc ht
    have hz2 : z1 < 16 := by rw [hz1]; split <;> omega
    cases o with
    | none =>
      show px_P _ _ (13, [(0, .ref h), (1, .int x), (2, .null)], []) S1 _
      refine px_P.sn 1 (f1 := (14, [(0, .ref h), (1, .int x), (2, .null)], [.ref h])) (S1 := S1) rfl ?_
      refine px_P.gf rfl rfl (by assumption) (v := .ref (h + 1)) rfl ?_
      refine px_P.sn 1 (f1 := (18, [(0, .ref h), (1, .int x), (2, .null)], [.ref h, .ref (h + 1)])) (S1 := S1) rfl ?_
      refine px_P.gf rfl rfl (by assumption) (v := .int (nI z1)) rfl ?_
      refine px_P.sn 1 (f1 := (22, [(0, .ref h), (1, .int x), (2, .null)], [.int x, .int (nI z1), .ref (h + 1)])) (S1 := S1) rfl ?_
      refine px_P.iastj (j := z1) rfl (by assumption) rfl (by omega) (by decide) (fun S2 u2 => ?_)
      have h02 := u2.n h0 (by omega)
      have h22 := u2.n h2 (by omega)
      refine px_P.sn 1 (f1 := (24, [(0, .ref h), (1, .int x), (2, .null)], [.ref h])) (S1 := S2) rfl ?_
      refine px_P.gf rfl rfl (by assumption) (v := .ref (h + 2)) rfl ?_
      refine px_P.sn 1 (f1 := (28, [(0, .ref h), (1, .int x), (2, .null)], [.ref h, .ref (h + 2)])) (S1 := S2) rfl ?_
      refine px_P.gf rfl rfl (by assumption) (v := .int (nI z1)) rfl ?_
      refine px_P.sn 1 (f1 := (32, [(0, .ref h), (1, .int x), (2, .null)], [.null, .int (nI z1), .ref (h + 2)])) (S1 := S2) rfl ?_
      refine px_P.aastNj (j := z1) rfl (by assumption) rfl rfl (by omega) (by decide) (fun S3 u3 => ?_)
      have h03 := u3.n h02 (by omega)
      refine px_P.sn 2 (f1 := (35, [(0, .ref h), (1, .int x), (2, .null)], [.ref h, .ref h])) (S1 := S3) rfl ?_
      refine px_P.gf rfl rfl (by assumption) (v := .int (nI z1)) rfl ?_
      refine px_P.sn 2 (f1 := (40, [(0, .ref h), (1, .int x), (2, .null)], [.int ((nI z1) + 1), .ref h])) (S1 := S3) rfl ?_
      refine px_P.pf rfl rfl (by assumption) rfl (fun S4 u4 => ?_)
      refine px_P.ret rfl ?_
      have h04 := u4.s
      rw [nI_1] at h04
      refine k S4 z1 _ _ ⟨h04, u4.n (u3.n u2.s (by omega)) (by omega), u4.n u3.s (by omega)⟩ hz1 pk_us (by simp only [va_up, if_true]) (fun j hlt => ?_) (fun j hlt => by simp only [va_up, if_neg (show ¬ j = z1 by omega)]; exact hjj j hlt) (fun q hq => by rw [u4.o (by omega), u3.o (by omega), u2.o (by omega)]; exact hc q hq) (by rw [u4.t, u3.t, u2.t, ht])
      have e : ¬ j = z1 := by omega
      rw [pk_un e]; simp only [va_up, if_neg e]; exact hj j hlt
    | some v =>
      obtain ⟨fs, hfs⟩ := ho v rfl
      have hvs := lo v fs hfs
      have hv1 := (hc v hvs).trans hfs
      show px_P _ _ (13, [(0, .ref h), (1, .int x), (2, .ref v)], []) S1 _
      refine px_P.sn 1 (f1 := (14, [(0, .ref h), (1, .int x), (2, .ref v)], [.ref h])) (S1 := S1) rfl ?_
      refine px_P.gf rfl rfl (by assumption) (v := .ref (h + 1)) rfl ?_
      refine px_P.sn 1 (f1 := (18, [(0, .ref h), (1, .int x), (2, .ref v)], [.ref h, .ref (h + 1)])) (S1 := S1) rfl ?_
      refine px_P.gf rfl rfl (by assumption) (v := .int (nI z1)) rfl ?_
      refine px_P.sn 1 (f1 := (22, [(0, .ref h), (1, .int x), (2, .ref v)], [.int x, .int (nI z1), .ref (h + 1)])) (S1 := S1) rfl ?_
      refine px_P.iastj (j := z1) rfl (by assumption) rfl (by omega) (by decide) (fun S2 u2 => ?_)
      have h02 := u2.n h0 (by omega)
      have h22 := u2.n h2 (by omega)
      have hv2 := u2.n hv1 (by omega)
      refine px_P.sn 1 (f1 := (24, [(0, .ref h), (1, .int x), (2, .ref v)], [.ref h])) (S1 := S2) rfl ?_
      refine px_P.gf rfl rfl (by assumption) (v := .ref (h + 2)) rfl ?_
      refine px_P.sn 1 (f1 := (28, [(0, .ref h), (1, .int x), (2, .ref v)], [.ref h, .ref (h + 2)])) (S1 := S2) rfl ?_
      refine px_P.gf rfl rfl (by assumption) (v := .int (nI z1)) rfl ?_
      refine px_P.sn 1 (f1 := (32, [(0, .ref h), (1, .int x), (2, .ref v)], [.ref v, .int (nI z1), .ref (h + 2)])) (S1 := S2) rfl ?_
      refine px_P.aastj (j := z1) rfl (by assumption) (by assumption) rfl rfl rfl (by omega) (by decide) (fun S3 u3 => ?_)
      have h03 := u3.n h02 (by omega)
      refine px_P.sn 2 (f1 := (35, [(0, .ref h), (1, .int x), (2, .ref v)], [.ref h, .ref h])) (S1 := S3) rfl ?_
      refine px_P.gf rfl rfl (by assumption) (v := .int (nI z1)) rfl ?_
      refine px_P.sn 2 (f1 := (40, [(0, .ref h), (1, .int x), (2, .ref v)], [.int ((nI z1) + 1), .ref h])) (S1 := S3) rfl ?_
      refine px_P.pf rfl rfl (by assumption) rfl (fun S4 u4 => ?_)
      refine px_P.ret rfl ?_
      have h04 := u4.s
      rw [nI_1] at h04
      refine k S4 z1 _ _ ⟨h04, u4.n (u3.n u2.s (by omega)) (by omega), u4.n u3.s (by omega)⟩ hz1 pk_us (by simp only [va_up, if_true]) (fun j hlt => ?_) (fun j hlt => by simp only [va_up, if_neg (show ¬ j = z1 by omega)]; exact hjj j hlt) (fun q hq => by rw [u4.o (by omega), u3.o (by omega), u2.o (by omega)]; exact hc q hq) (by rw [u4.t, u3.t, u2.t, ht])
      have e : ¬ j = z1 := by omega
      rw [pk_un e]; simp only [va_up, if_neg e]; exact hj j hlt
  have h0 := hh.1
  refine px_M.go (by omega) (by cases o <;> exact Nat.le_of_ble_eq_true rfl) ?_
  have hent : px_P (d - 1) px_m_History_keep (0, [(0, .ref h), (1, .int x), (2, va_rf o)], []) S Q := by
    refine px_P.sn 1 (f1 := (1, [(0, .ref h), (1, .int x), (2, va_rf o)], [.ref h])) (S1 := S) rfl ?_
    refine px_P.gf rfl rfl (by assumption) (v := .int (nI z)) rfl ?_
    refine px_P.sn 1 (f1 := (6, [(0, .ref h), (1, .int x), (2, va_rf o)], [.int 16, .int (nI z)])) (S1 := S) rfl ?_
    by_cases hlt : z < 16
    · refine px_P.ic_lt rfl rfl (fun _ => ?_) (fun h => absurd (nI_lt (b := 16) hlt (by decide)) h)
      exact tail S z p l hh (by rw [if_pos hlt]) (fun j _ => by rw [Nat.sub_self]; exact ⟨rfl, rfl⟩) (fun _ _ => rfl) (fun _ _ => rfl) rfl
    · refine px_P.ic_lt rfl rfl (fun h => absurd h (nI_nlt (b := 16) (by omega) (by omega))) (fun _ => ?_)
      refine px_P.sn 1 (f1 := (10, [(0, .ref h), (1, .int x), (2, va_rf o)], [.ref h])) (S1 := S) rfl ?_
      refine px_P.cv rfl rfl rfl (by assumption) rfl ?_
      show px_M _ px_m_History_loseOldest [.ref h] S _
      refine pm_hiLose2 (by omega) hh hl (fun S1 p1 l1 r1 r2 r2' r3 r4 => ?_)
      show px_P _ _ (13, [(0, .ref h), (1, .int x), (2, va_rf o)], []) S1 _
      exact tail S1 15 p1 l1 r1 (by rw [if_neg hlt]) (fun j hj => by rw [show z - 15 = 1 by omega]; exact r2 j hj) (fun j hj => r2' j (by omega)) r3 r4
  cases o <;> exact hent
