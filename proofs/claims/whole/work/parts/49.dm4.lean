/-! ===== CheckDaemon: undo, drop ===== -/
/-- one line goes -/
theorem dm_gone {d x lo p0 : Nat} {ty : List Nat} {tt : Nat → List Nat} {hh : List (Nat × List Nat)} {S : px_S} {Q : Option Value → px_S → Prop} (hd : 7 ≤ d) (h : dI S x lo ty tt hh) (hp : p0 < 96)
    (k : ∀ S' v, dI S' x lo ty (va_up tt p0 []) hh → (∀ q, q < lo → (q < x ∨ x + 435 ≤ q) → S'.1 q = S.1 q) → S'.2 = S.2 → Q (some (.int v)) S') : px_M d px_m_Workspace_edit [.ref (x + 2), .int (nI p0), .null] S Q := by
  obtain ⟨f, T, D, lk, wt, to, ls, df, hp', la, hi, tW, H, tz, ds, cc, sc, old, G, a1, a2, a3, a4, a5, a6, a7, a8, a9, a10, a11, a12, a13, a14, a15, a16⟩ := h
  refine pm_wsEdit (o := none) (by omega) a4 a7 (by omega) a10 hp (fun a ha => by cases ha) (fun S3 T' D' lk' wt' tW' to' tz' G' R f1 f2 f3 f4 f5 f6 f7 => ?_)
  have hsp : sp (va_up la p0 none) G = sL (va_up tt p0 []) := by
    funext p
    by_cases e : p = p0
    · subst e; simp [sp, sL, sx, va_up]
    · rw [sp_up p e, a11]
      simp [sL, va_up, e]
  refine k S3 _ ⟨f, T', D', lk', wt', to', ls, df, hp', va_up la p0 none, hi, tW', H, tz', ds, cc, sc, 1, G', ⟨(f6 x (by omega) (by omega)).trans a1.1, (f6 _ (by omega) (by omega)).trans a1.2⟩, a2, a3, f1, a5.keep (fun q q1 q2 => f6 q (by omega) (by omega)), a6.keep (fun q q1 q2 => f6 q (by omega) (by omega)), f2, by rw [f7]; exact a8, a9, f4, by rw [← gsm_fst_sp f3]; exact hsp, ⟨⟨fun p => ?_, fun p hp => ?_⟩, fun p hp => by simp only [va_up, if_neg (show ¬ p = p0 by omega)]; exact a12.2 p hp⟩, fun z => absurd z (by decide), ⟨a14, gsm_fst_la f3 a15, fun j hj => by rw [← gsm_fst_sp f3]; exact a16 j hj⟩⟩ (fun q q1 q2 => f6 q q1 (by omega)) f7
  · by_cases e : p = p0
    · subst e
      simp only [va_up, if_true]
      exact ⟨by show 0 ≤ 60; omega, fun c hc => by cases hc⟩
    · simp only [va_up, if_neg e]; exact a12.1.1 p
  · have e : p ≠ p0 := by omega
    simp only [va_up, if_neg e]; exact a12.1.2 p hp
def drp (tt : Nat → List Nat) (m i p : Nat) : List Nat := if 12 * m ≤ p ∧ p < 12 * m + i then [] else tt p
def nep (tt : Nat → List Nat) (m j : Nat) : Bool := decide (¬ tt (12 * m + j) = [])
theorem pm_dmDrop {d x lo m : Nat} {ty : List Nat} {tt : Nat → List Nat} {hh : List (Nat × List Nat)} {S : px_S} {Q : Option Value → px_S → Prop} (hd : 8 ≤ d) (h : dI S x lo ty tt hh) (hm : m < 8)
    (k : ∀ S', dI S' x lo ty (drp tt m 12) [] → (∀ q, q < lo → (q < x ∨ x + 435 ≤ q) → S'.1 q = S.1 q) → S'.2 = S.2 → Q (some (.int (nI (ct (nep tt m) 12)))) S') : px_M d px_m_Daemon_drop [.ref x, .int (nI m)] S Q := by
  have lp := px_for (d := d - 1) (mi := px_m_Daemon_drop) (Q := Q) (X := Unit) 12 (fun i _ => (31, [(0, .ref x), (1, .int (nI m)), (2, .int (nI (ct (nep tt m) i))), (3, .int (nI i))], []))
    (fun i _ S1 => dI S1 x lo ty (drp tt m i) [] ∧ (∀ q, q < lo → (q < x ∨ x + 435 ≤ q) → S1.1 q = S.1 q) ∧ S1.2 = S.2)
    (by
      intro i hi _ S1 ⟨h1, h2, h3⟩ ih
      have ih := fun S' => ih () S'
      have h1' := h1
      obtain ⟨f, T, D, lk, wt, to, ls, df, hp', la, hi', tW, H, tz, ds, cc, sc, old, G, a1, a2, a3, a4, a5, a6, a7, a8, a9, a10, a11, a12, a13, a14, a15, a16⟩ := h1
      have c0 := a1.1
      have w0 := a4.1
      have hpl : 12 * m + i < 96 := by omega
      have hdr : drp tt m i (12 * m + i) = tt (12 * m + i) := by unfold drp; rw [if_neg (by omega)]
      have hdr1 : drp tt m (i + 1) = va_up (drp tt m i) (12 * m + i) [] := by
        funext p
        unfold drp va_up
        by_cases e : p = 12 * m + i
        · rw [if_pos e, if_pos (by omega)]
        · rw [if_neg e]
          show _ = if 12 * m ≤ p ∧ p < 12 * m + i then [] else tt p
          by_cases e2 : 12 * m ≤ p ∧ p < 12 * m + i
          · rw [if_pos e2, if_pos (by omega)]
          · rw [if_neg e2, if_neg (by omega)]
      refine px_P.sn 2 (f1 := (34, [(0, .ref x), (1, .int (nI m)), (2, .int (nI (ct (nep tt m) i))), (3, .int (nI i))], [.int 12, .int (nI i)])) (S1 := S1) rfl ?_
      refine px_P.ic_ge rfl rfl (fun h => absurd h (nI_ge (b := 12) hi (by decide))) (fun _ => ?_)
      refine px_P.sn 6 (f1 := (45, [(0, .ref x), (1, .int (nI m)), (2, .int (nI (ct (nep tt m) i))), (3, .int (nI i)), (4, .int (((nI m) * 12) + (nI i)))], [])) (S1 := S1) rfl ?_
      rw [pl_i32 hm hi]
      refine px_P.sn 1 (f1 := (46, [(0, .ref x), (1, .int (nI m)), (2, .int (nI (ct (nep tt m) i))), (3, .int (nI i)), (4, .int (nI (12 * m + i)))], [.ref x])) (S1 := S1) rfl ?_
      refine px_P.gf rfl rfl (by assumption) (v := .ref (x + 2)) rfl ?_
      refine px_P.sn 1 (f1 := (51, [(0, .ref x), (1, .int (nI m)), (2, .int (nI (ct (nep tt m) i))), (3, .int (nI i)), (4, .int (nI (12 * m + i)))], [.int (nI (12 * m + i)), .ref (x + 2)])) (S1 := S1) rfl ?_
      refine px_P.cv rfl rfl rfl (by assumption) rfl ?_
      show px_M _ px_m_Workspace_lineAt [.ref (x + 2), .int (nI (12 * m + i))] S1 _
      refine pm_wsLineAt (by omega) a4 hpl ?_
      have hno := la_none a10.1 a11 hpl
      rw [hdr] at hno
      cases hl : la (12 * m + i) with
      | none =>
        have e := hno.mp hl
        show px_P _ _ (54, [(0, .ref x), (1, .int (nI m)), (2, .int (nI (ct (nep tt m) i))), (3, .int (nI i)), (4, .int (nI (12 * m + i)))], [.null]) S1 _
        refine px_P.sn 3 (f1 := (31, [(0, .ref x), (1, .int (nI m)), (2, .int (nI (ct (nep tt m) i))), (3, .int ((nI i) + 1)), (4, .int (nI (12 * m + i)))], [])) (S1 := S1) rfl ?_
        show px_P _ _ (31, [(0, .ref x), (1, .int (nI m)), (2, .int (nI (ct (nep tt m) i))), (3, .int ((nI i) + 1)), (4, .int (nI (12 * m + i)))], []) S1 _
        refine px_P.wk (ls := [(0, .ref x), (1, .int (nI m)), (2, .int (nI (ct (nep tt m) i))), (3, .int ((nI i) + 1))]) rfl (.cons_cons _ (.cons_cons _ (.cons_cons _ (.cons_cons _ (.cons _ .slnil))))) ?_
        rw [nI_1]
        have hc : ct (nep tt m) (i + 1) = ct (nep tt m) i := ct_z (decide_eq_false (fun z => z e))
        have := ih S1 ⟨?_, h2, h3⟩
        · rw [hc] at this
          exact this
        · rw [hdr1]
          have : va_up (drp tt m i) (12 * m + i) [] = drp tt m i := by
            funext p
            unfold va_up
            split
            · rename_i z; rw [z, hdr, e]
            · rfl
          rw [this]
          exact h1'
      | some b =>
        have e : ¬ tt (12 * m + i) = [] := fun z => by rw [hno.mpr z] at hl; cases hl
        show px_P _ _ (54, [(0, .ref x), (1, .int (nI m)), (2, .int (nI (ct (nep tt m) i))), (3, .int (nI i)), (4, .int (nI (12 * m + i)))], [.ref b]) S1 _
        refine px_P.sn 2 (f1 := (58, [(0, .ref x), (1, .int (nI m)), (2, .int (nI (ct (nep tt m) i))), (3, .int (nI i)), (4, .int (nI (12 * m + i)))], [.ref x])) (S1 := S1) rfl ?_
        refine px_P.gf rfl rfl (by assumption) (v := .ref (x + 2)) rfl ?_
        refine px_P.sn 2 (f1 := (64, [(0, .ref x), (1, .int (nI m)), (2, .int (nI (ct (nep tt m) i))), (3, .int (nI i)), (4, .int (nI (12 * m + i)))], [.null, .int (nI (12 * m + i)), .ref (x + 2)])) (S1 := S1) rfl ?_
        refine px_P.cv rfl rfl rfl (by assumption) rfl ?_
        show px_M _ px_m_Workspace_edit [.ref (x + 2), .int (nI (12 * m + i)), .null] S1 _
        refine dm_gone (by omega) h1' hpl (fun S2 v e1 e2 e3 => ?_)
        show px_P _ _ (67, [(0, .ref x), (1, .int (nI m)), (2, .int (nI (ct (nep tt m) i))), (3, .int (nI i)), (4, .int (nI (12 * m + i)))], [.int v]) S2 _
        refine px_P.sn 4 (f1 := (31, [(0, .ref x), (1, .int (nI m)), (2, .int ((nI (ct (nep tt m) i)) + 1)), (3, .int ((nI i) + 1)), (4, .int (nI (12 * m + i)))], [])) (S1 := S2) rfl ?_
        show px_P _ _ (31, [(0, .ref x), (1, .int (nI m)), (2, .int ((nI (ct (nep tt m) i)) + 1)), (3, .int ((nI i) + 1)), (4, .int (nI (12 * m + i)))], []) S2 _
        refine px_P.wk (ls := [(0, .ref x), (1, .int (nI m)), (2, .int ((nI (ct (nep tt m) i)) + 1)), (3, .int ((nI i) + 1))]) rfl (.cons_cons _ (.cons_cons _ (.cons_cons _ (.cons_cons _ (.cons _ .slnil))))) ?_
        rw [nI_1, nI_1]
        have hc : ct (nep tt m) (i + 1) = ct (nep tt m) i + 1 := ct_s (decide_eq_true e)
        have := ih S2 ⟨by rw [hdr1]; exact e1, fun q q1 q2 => by rw [e2 q q1 q2]; exact h2 q q1 q2, by rw [e3, h3]⟩
        rw [hc] at this
        exact this)
    (by
      intro _ S1 ⟨h1, h2, h3⟩
      refine px_P.sn 2 (f1 := (34, [(0, .ref x), (1, .int (nI m)), (2, .int (nI (ct (nep tt m) 12))), (3, .int (nI 12))], [.int 12, .int (nI 12)])) (S1 := S1) rfl ?_
      refine px_P.ic_ge rfl rfl (fun _ => ?_) (fun h => absurd (nI_le (a := 12) (by omega) (by omega)) h)
      refine px_P.sn 1 (f1 := (78, [(0, .ref x), (1, .int (nI m)), (2, .int (nI (ct (nep tt m) 12))), (3, .int (nI 12))], [.int (nI (ct (nep tt m) 12))])) (S1 := S1) rfl ?_
      refine px_P.ret rfl ?_
      exact k S1 h1 h2 h3)
  obtain ⟨f, T, D, lk, wt, to, ls, df, hp', la, hi, tW, H, tz, ds, cc, sc, old, G, a1, a2, a3, a4, a5, a6, a7, a8, a9, a10, a11, a12, a13, a14, a15, a16⟩ := h
  have c0 := a1.1
  have h0 := a6.1
  refine px_M.go (by omega) (Nat.le_of_ble_eq_true rfl) ?_
  refine px_P.sn 1 (f1 := (1, [(0, .ref x), (1, .int (nI m))], [.int (nI m)])) (S1 := S) rfl ?_
  refine px_P.if_lt rfl rfl (fun h => absurd h (nI_pos (by omega))) (fun _ => ?_)
  refine px_P.sn 2 (f1 := (7, [(0, .ref x), (1, .int (nI m))], [.int 8, .int (nI m)])) (S1 := S) rfl ?_
  refine px_P.ic_lt rfl rfl (fun _ => ?_) (fun h => absurd (nI_lt (b := 8) hm (by decide)) h)
  refine px_P.sn 1 (f1 := (21, [(0, .ref x), (1, .int (nI m))], [.ref x])) (S1 := S) rfl ?_
  refine px_P.gf rfl rfl (by assumption) (v := .ref (x + 432)) rfl ?_
  refine px_P.cv rfl rfl rfl (by assumption) rfl ?_
  show px_M _ px_m_History_forget [.ref (x + 432)] S _
  refine pm_hiForget (by omega) a6 (fun S1 l1 e1 e2 e3 e4 => ?_)
  show px_P _ _ (27, [(0, .ref x), (1, .int (nI m))], []) S1 _
  refine px_P.sn 4 (f1 := (31, [(0, .ref x), (1, .int (nI m)), (2, .int 0), (3, .int 0)], [])) (S1 := S1) rfl ?_
  refine lp 12 0 rfl () S1 ⟨⟨f, T, D, lk, wt, to, ls, df, hp', la, l1, tW, H, tz, ds, cc, sc, old, G, ⟨(e3 _ (by omega)).trans a1.1, (e3 _ (by omega)).trans a1.2⟩, a2, a3, a4.keep (fun q q1 q2 => e3 q (by omega)), a5.keep (fun q q1 q2 => e3 q (by omega)), e1, a7.keep (fun q q1 q2 => e3 q (by omega)) (by rw [e4]; exact Nat.le_refl _), by rw [e4]; exact a8, a9, a10, ?_, ?_, ?_, ⟨by show 0 ≤ 16; omega, (show la_ok l1 G 16 from fun j a hj ha => by rw [e2 j hj] at ha; cases ha), fun j hj => absurd hj (by show ¬ j < 0; omega)⟩⟩, fun q q1 q2 => e3 q (by omega), e4⟩
  all_goals rw [show drp tt m 0 = tt from by funext p; unfold drp; rw [if_neg (by omega)]]
  · exact a11
  · exact a12
  · exact a13
theorem hg_take {hh : List (Nat × List Nat)} {z j : Nat} (hj : j < z) : hg (hh.take z) j = hg hh j := by
  unfold hg
  rw [List.getD_eq_getElem?_getD, List.getD_eq_getElem?_getD, List.getElem?_take_of_lt hj]
theorem pm_dmUndo {d x lo z : Nat} {ty : List Nat} {tt : Nat → List Nat} {hh : List (Nat × List Nat)} {S : px_S} {Q : Option Value → px_S → Prop} (hd : 8 ≤ d) (h : dI S x lo ty tt hh) (hz : hh.length = z + 1)
    (k : ∀ S' (P : Nat → Bool) R, dI S' x lo ty (va_up tt (hg hh z).1 (hg hh z).2) (hh.take z) → lk_is (sL (va_up tt (hg hh z).1 (hg hh z).2)) (hg hh z).1 (fun t => dfb (sL tt) (hg hh z).1 t = true) (fun p => P p = true) R → (∀ q, q < lo → (q < x ∨ x + 435 ≤ q) → S'.1 q = S.1 q) → S'.2 = S.2 → Q (some (.int (nI (ct P 96)))) S') :
    px_M d px_m_Daemon_undo [.ref x] S Q := by
  obtain ⟨f, T, D, lk, wt, to, ls, df, hp, la, hi, tW, H, tz, ds, cc, sc, old, G, a1, a2, a3, a4, a5, a6, a7, a8, a9, a10, a11, a12, a13, a14, a15, a16⟩ := h
  obtain ⟨r1, r2, r3, r4⟩ := a16 z (by omega)
  have c0 := a1.1
  have h0 := a6.1
  have a6' : hi_at S (x + 432) (z + 1) hp hi := by rw [← hz]; exact a6
  have hz16 : z < 16 := by omega
  obtain ⟨p0, hp0⟩ : ∃ p0, p0 = (hg hh z).1 := ⟨_, rfl⟩
  obtain ⟨nt, hnt⟩ : ∃ nt, nt = (hg hh z).2 := ⟨_, rfl⟩
  rw [← hp0, ← hnt] at k
  rw [← hp0] at r1 r2 r4
  rw [← hnt] at r3 r4
  obtain ⟨o, hoo⟩ : ∃ o, o = hi z := ⟨_, rfl⟩
  have hlen : (hh.take z).length = z := by rw [List.length_take]; omega
  refine px_M.go (by omega) (Nat.le_of_ble_eq_true rfl) ?_
  refine px_P.sn 1 (f1 := (1, [(0, .ref x)], [.ref x])) (S1 := S) rfl ?_
  refine px_P.gf rfl rfl (by assumption) (v := .ref (x + 432)) rfl ?_
  refine px_P.cv rfl rfl rfl (by assumption) rfl ?_
  show px_M _ px_m_History_size [.ref (x + 432)] S _
  refine pm_hiSize (by omega) a6 ?_
  show px_P _ _ (7, [(0, .ref x)], [.int (nI hh.length)]) S _
  refine px_P.if_ne rfl rfl (fun _ => ?_) (fun h => absurd h (nI_ne0 (by omega) (by omega)))
  refine px_P.sn 1 (f1 := (21, [(0, .ref x)], [.ref x])) (S1 := S) rfl ?_
  refine px_P.gf rfl rfl (by assumption) (v := .ref (x + 432)) rfl ?_
  refine px_P.cv rfl rfl rfl (by assumption) rfl ?_
  show px_M _ px_m_History_lastPlace [.ref (x + 432)] S _
  refine pm_hiLastPlace (by omega) hz16 a6' ?_
  rw [r1]
  show px_P _ _ (27, [(0, .ref x)], [.int (nI p0)]) S _
  refine px_P.sn 2 (f1 := (29, [(0, .ref x), (1, .int (nI p0))], [.ref x])) (S1 := S) rfl ?_
  refine px_P.gf rfl rfl (by assumption) (v := .ref (x + 432)) rfl ?_
  refine px_P.cv rfl rfl rfl (by assumption) rfl ?_
  show px_M _ px_m_History_lastLine [.ref (x + 432)] S _
  refine pm_hiLastLine (by omega) hz16 a6' ?_
  rw [← hoo]
  show px_P _ _ (35, [(0, .ref x), (1, .int (nI p0))], [va_rf o]) S _
  refine px_P.sn 1 (f1 := (36, [(0, .ref x), (1, .int (nI p0)), (2, va_rf o)], [])) (S1 := S) (by cases o <;> rfl) ?_
  refine px_P.sn 1 (f1 := (37, [(0, .ref x), (1, .int (nI p0)), (2, va_rf o)], [.ref x])) (S1 := S) rfl ?_
  refine px_P.gf rfl rfl (by assumption) (v := .ref (x + 432)) rfl ?_
  refine px_P.cv rfl rfl rfl (by assumption) rfl ?_
  show px_M _ px_m_History_removeLast [.ref (x + 432)] S _
  refine pm_hiRemove (by omega) hz16 a6' (fun S1 l1 e1 e2 e3 e4 e5 => ?_)
  have d1 := (e4 x (by omega)).trans c0
  have w1 : ws_at S1 (x + 2) la T D lk wt tW to tz old := a4.keep (fun q q1 q2 => e4 q (by omega))
  have w10 := w1.1
  have lo1 : lo_at S1 lo G := a7.keep (fun q q1 q2 => e4 q (by omega)) (by rw [e5]; exact Nat.le_refl _)
  show px_P _ _ (43, [(0, .ref x), (1, .int (nI p0)), (2, va_rf o)], []) S1 _
  refine px_P.sn 1 (f1 := (44, [(0, .ref x), (1, .int (nI p0)), (2, va_rf o)], [.ref x])) (S1 := S1) rfl ?_
  refine px_P.gf rfl rfl d1 (v := .ref (x + 2)) rfl ?_
  refine px_P.sn 2 (f1 := (49, [(0, .ref x), (1, .int (nI p0)), (2, va_rf o)], [va_rf o, .int (nI p0), .ref (x + 2)])) (S1 := S1) (by cases o <;> rfl) ?_
  refine px_P.cv rfl rfl rfl w10 rfl ?_
  refine pm_wsEdit (by omega) w1 lo1 (by omega) a10 r2 (fun a ha => a15 z a hz16 (by rw [← hoo]; exact ha)) (fun S3 T' D' lk' wt' tW' to' tz' G' R f1 f2 f3 f4 f5 f6 f7 => ?_)
  have hsp : sp (va_up la p0 o) G = sL (va_up tt p0 nt) := by
    funext p
    by_cases e : p = p0
    · subst e
      have : sp (va_up la p o) G p = sp hi G z := by simp [sp, va_up, hoo]
      rw [this, r4]
      simp [sL, va_up]
    · rw [sp_up p e, a11]
      simp [sL, va_up, e]
  rw [hsp, a11] at f5
  refine px_P.ret rfl ?_
  refine k S3 (bz lk') R ⟨f, T', D', lk', wt', to', ls, df, hp, va_up la p0 o, l1, tW', H, tz', ds, cc, sc, 1, G', ⟨(f6 x (by omega) (by omega)).trans d1, (f6 _ (by omega) (by omega)).trans ((e4 _ (by omega)).trans a1.2)⟩, a2, a3, f1, a5.keep (fun q q1 q2 => by rw [f6 q (by omega) (by omega), e4 q (by omega)]), by rw [hlen]; exact e1.keep (fun q q1 q2 => f6 q (by omega) (by omega)), f2, by rw [f7, e5]; exact a8, a9, f4, by rw [← gsm_fst_sp f3]; exact hsp, ⟨⟨fun p => ?_, fun p hp => ?_⟩, fun p hp => by simp only [va_up, if_neg (show ¬ p = p0 by omega)]; exact a12.2 p hp⟩, fun z => absurd z (by decide), ⟨by rw [hlen]; omega, fun j a hj ha => ?_, fun j hj => ?_⟩⟩ f5 (fun q q1 q2 => by rw [f6 q q1 (by omega), e4 q (by omega)]) (by rw [f7, e5])
  · by_cases e : p = p0
    · subst e; simp only [va_up, if_true]; exact r3
    · simp only [va_up, if_neg e]; exact a12.1.1 p
  · have e : p ≠ p0 := by omega
    simp only [va_up, if_neg e]; exact a12.1.2 p hp
  · have : hi j = some a := by
      rcases Nat.lt_or_ge j z with e | e
      · rw [← e2 j e]; exact ha
      · rcases e3 j e with e | e
        · rw [e] at ha; cases ha
        · rw [← e]; exact ha
    exact gsm_fst_la f3 a15 j a hj this
  · rw [hlen] at hj
    rw [hg_take hj]
    obtain ⟨s1, s2, s3, s4⟩ := a16 j (by omega)
    refine ⟨s1, s2, s3, ?_⟩
    rw [← gsm_fst_sp f3, ← s4]
    unfold sp
    rw [e2 j hj]
