/-! ===== Workspace: edit ===== -/
theorem sp_wf {S : px_S} {lo : Nat} {G : ln_G} {la : Nat → Option Nat} (h : lo_at S lo G) : ∀ p z, sp la G p = some z → ln_wf z := by
  intro p z hz
  unfold sp at hz
  cases hl : la p with
  | none => rw [hl] at hz; cases hz
  | some a =>
    rw [hl] at hz
    cases hg : G a with
    | none => simp [hg] at hz
    | some x =>
      simp [hg] at hz
      have := (h.1 a x.1 x.2 hg).2.1
      rw [hz] at this
      exact this
theorem sp_get {G : ln_G} {la : Nat → Option Nat} {p : Nat} {z : ln_S} (hz : sp la G p = some z) : ∃ a E, la p = some a ∧ G a = some (z, E) := by
  unfold sp at hz
  cases hl : la p with
  | none => rw [hl] at hz; cases hz
  | some a =>
    rw [hl] at hz
    cases hg : G a with
    | none => simp [hg] at hz
    | some x =>
      simp [hg] at hz
      exact ⟨a, x.2, rfl, by rw [hg, ← hz]⟩
theorem sp_up {G : ln_G} {la : Nat → Option Nat} {p0 : Nat} {o : Option Nat} : ∀ p, p ≠ p0 → sp (va_up la p0 o) G p = sp la G p := by
  intro p hp
  simp [sp, va_up, hp]
set_option maxHeartbeats 2000000 in
theorem pm_wsEdit {d w tz lo p0 : Nat} {o : Option Nat} {la : Nat → Option Nat} {T D lk wt to : Nat → Int32} {tW : Nat → Int64} {old : Int32} {G : ln_G} {S : px_S} {Q : Option Value → px_S → Prop} (hd : 7 ≤ d) (h : ws_at S w la T D lk wt tW to tz old) (hlo : lo_at S lo G) (hwl : w + 10 ≤ lo) (hI : wsI la G T D) (hp0 : p0 < 96) (ho : ∀ a, o = some a → ∃ s E, G a = some (s, E))
    (k : ∀ S' T' D' lk' wt' tW' to' tz' G' R, ws_at S' w (va_up la p0 o) T' D' lk' wt' tW' to' tz' 1 → lo_at S' lo G' → gsm Prod.fst G G' → wsI (va_up la p0 o) G' T' D' → lk_is (sp (va_up la p0 o) G) p0 (fun t => dfb (sp la G) p0 t = true) (fun p => bz lk' p = true) R →
      (∀ q, q < lo → (q < w ∨ w + 10 ≤ q) → S'.1 q = S.1 q) → S'.2 = S.2 → Q (some (.int (nI (ct (bz lk') 96)))) S') :
    px_M d px_m_Workspace_edit [.ref w, .int (nI p0), va_rf o] S Q := by
  obtain ⟨i1, i2, i3, i4⟩ := hI
  obtain ⟨la', hla'⟩ : ∃ la', la' = va_up la p0 o := ⟨_, rfl⟩
  rw [← hla'] at k
  have hlaok : la_ok la' G 96 := by
    intro p a hp ha
    rw [hla'] at ha
    by_cases e : p = p0
    · subst e; simp only [va_up, if_true] at ha; exact ho a ha
    · simp only [va_up, if_neg e] at ha; exact i1 p a hp ha
  have hL' : ∀ p, p ≠ p0 → sp la' G p = sp la G p := by rw [hla']; exact sp_up
  -- from the calls of leave and enter on
  have rest : ∀ (S3 : px_S) (D3 lk3 : Nat → Int32) (tW3 : Nat → Int64) (to3 : Nat → Int32) (tz3 : Nat), ws_at S3 w la' T D3 lk3 wt tW3 to3 tz3 old → tou tW3 to3 tz3 → (∀ p, p < 96 → lk3 p = 0) → (∀ t, t < 208 → D3 t = nI (dc (sp la' G) t)) → (∀ t, t < 208 → (ss_in tW3 t = true ↔ dfb (sp la G) p0 t = true ∨ dfb (sp la' G) p0 t = true)) → (∀ q, (q < w ∨ w + 10 ≤ q) → S3.1 q = S.1 q) → S3.2 = S.2 →
      px_P (d - 1) px_m_Workspace_edit (38, [(0, .ref w), (1, .int (nI p0))], []) S3 Q := by
    intro S3 D3 lk3 tW3 to3 tz3 c1 c2 c3 c4 c5 c6 c7
    have c1' := c1
    obtain ⟨h0, h1, h2, h3, h4, h5, h6, h7, h8, h9⟩ := c1
    refine px_P.sn 1 (f1 := (39, [(0, .ref w), (1, .int (nI p0))], [.ref w])) (S1 := S3) rfl ?_
    refine px_P.gf rfl rfl (by assumption) (v := .ref (w + 5)) rfl ?_
    refine px_P.sn 2 (f1 := (44, [(0, .ref w), (1, .int (nI p0))], [.int 1, .int (nI p0), .ref (w + 5)])) (S1 := S3) rfl ?_
    refine px_P.zastj (j := p0) rfl (by assumption) rfl rfl (by omega) (by decide) (fun S4 u4 => ?_)
    have m4 := c1'.uk u4
    have lo4 : lo_at S4 lo G := hlo.keep (fun q hq _ => by rw [u4.o (by omega)]; exact c6 q (by omega)) (by rw [u4.t, c7]; exact Nat.le_refl _)
    have k01 : ∀ p, p < 96 → upd lk3 p0 1 p = 0 ∨ upd lk3 p0 1 p = 1 := by
      intro p hp
      by_cases e : p = p0
      · subst e; exact Or.inr pk_us
      · rw [pk_un e]; exact Or.inl (c3 p hp)
    have kb : ∀ p, p < 96 → (bz (upd lk3 p0 1) p = true ↔ p = p0) := by
      intro p hp
      by_cases e : p = p0
      · subst e; exact ⟨fun _ => rfl, fun _ => bz_1⟩
      · rw [bz_o e, bz_f (c3 p hp)]
        exact ⟨fun z => (by cases z), fun z => absurd z e⟩
    have k1 : ct (bz (upd lk3 p0 1)) 96 = 1 := by
      rw [ct_put (q := bz lk3) (t := p0) (bz_f (c3 p0 hp0)) bz_1 (fun j hj => bz_o hj), if_pos hp0, ct_zero.mpr (fun i hi => bz_f (c3 i hi))]
    have h04 := m4.1
    refine px_P.sn 2 (f1 := (47, [(0, .ref w), (1, .int (nI p0))], [.ref w, .int 1])) (S1 := S4) rfl ?_
    refine px_P.cv rfl rfl rfl (by assumption) rfl ?_
    show px_M _ px_m_Workspace_lookOn [.ref w] S4 _
    refine pm_wsLook (by omega) m4 c2 lo4 hlaok hwl k01 (fun p z t hp hz hb ht hd => ?_) (fun S5 lk5 tW5 to5 tz5 n f1 f2 f3 f4 f5 f6 f7 f8 f9 f10 => ?_)
    · have e := (kb p hp).mp hb
      subst e
      exact (c5 t ht).mpr (Or.inr (dfb_t.mpr ⟨z, hz, hd⟩))
    have lkp0 : bz lk5 p0 = true := f4 p0 hp0 ((kb p0 hp0).mpr rfl)
    have lkis : lk_is (sp la' G) p0 (fun t => dfb (sp la G) p0 t = true) (fun p => bz lk5 p = true) (fun t => ss_in tW5 t = true) := by
      refine ⟨lkp0, fun t ht hd => f5 t ht ((c5 t ht).mpr (Or.inl hd)), f6, fun P' R' hc hP hR => ?_⟩
      refine f7 P' R' hc (fun p hp hb => by rw [(kb p hp).mp hb]; exact hP) (fun t ht hb => ?_)
      rcases (c5 t ht).mp hb with e | e
      · exact hR t ht e
      · obtain ⟨z, z1, z2⟩ := dfb_t.mp e
        exact hc.2 p0 z t hp0 z1 hP ht z2
    have ed : ed_ok (sp la G) (sp la' G) p0 (bz lk5) (ss_in tW5) := ⟨hL', fun p z _ => sp_wf hlo p z, fun p z _ => sp_wf hlo p z, f6, lkp0, fun z t hz ht hd => f5 t ht ((c5 t ht).mpr (Or.inl (dfb_t.mpr ⟨z, hz, hd⟩))), hp0⟩
    have lo5 : lo_at S5 lo G := lo4.keep (fun q hq _ => f9 q (by omega)) (by rw [f10]; exact Nat.le_refl _)
    have fr5 : ∀ q, (q < w ∨ w + 10 ≤ q) → S5.1 q = S.1 q := fun q hq => by rw [f9 q hq, u4.o (by omega)]; exact c6 q hq
    have t5 : S5.2 = S.2 := by rw [f10, u4.t, c7]
    have h05 := f1.1
    show px_P _ _ (50, [(0, .ref w), (1, .int (nI p0))], [.int (nI n), .int 1]) S5 _
    have en : (1 : Int32) + nI n = nI (ct (bz lk5) 96) := by
      rw [show (1 : Int32) = nI 1 from rfl, nI_add, ← f8, k1, Nat.add_comm]
    refine px_P.sn 3 (f1 := (53, [(0, .ref w), (1, .int (nI p0)), (3, .int (1 + (nI n)))], [.ref w])) (S1 := S5) rfl ?_
    rw [en]
    show px_P _ _ (53, [(0, .ref w), (1, .int (nI p0)), (3, .int (nI (ct (bz lk5) 96)))], [.ref w]) S5 _
    refine px_P.cv rfl rfl rfl (by assumption) rfl ?_
    show px_M _ px_m_Workspace_restartTypes [.ref w] S5 _
    refine pm_wsRestart (by omega) f1 f2 lo5 hlaok hwl f3 (fun S6 T6 wt6 g1 g2 g3 g4 g5 g6 g7 g8 => ?_)
    have lo6 : lo_at S6 lo G := lo5.keep (fun q hq _ => g7 q (by omega)) (by rw [g8]; exact Nat.le_refl _)
    -- a line that is not looked at reads nothing that was touched
    have quiet : ∀ p z u, p < 96 → sp la' G p = some z → bz lk5 p = false → lr z u → ss_in tW5 u = false := by
      intro p z u hp hz hb hu
      cases hq : ss_in tW5 u with
      | false => rfl
      | true => rw [f6.1 p z u hp hz hu.1 hu.2 hq] at hb; cases hb
    have notp0 : ∀ p, bz lk5 p = false → p ≠ p0 := fun p hb z => by rw [z, lkp0] at hb; cases hb
    have bzlk : ∀ p, lk5 p = 0 → bz lk5 p = false := fun p hp => bz_f hp
    have oldline : ∀ p a s E, p < 96 → bz lk5 p = false → la' p = some a → G a = some (s, E) → la p = some a := by
      intro p a s E hp hb ha hg
      rw [hla'] at ha
      simpa [va_up, notp0 p hb] using ha
    -- the new types are below all that hold what the lines say
    have below : ∀ X : Nat → Int32, (∀ t, t < 208 → le32 (X t) lF) → cs_ok (sp la' G) X → (∀ t, t < 208 → df_no (sp la' G) t → le32 16 (X t)) → ∀ t, t < 208 → le32 (T6 t) (X t) := by
      intro X x1 x2 x3
      have un := ed_up ed (Or.inl ⟨rfl, rfl⟩) x1 x2 x3 i3
      intro t ht
      cases hb : ss_in tW5 t with
      | false => rw [g3 t ht hb]; exact un t ht hb
      | true =>
        refine g6 X (fun u hu hub hD => ?_) (fun p a s E u hp ha hg hl hu hd hub => ?_) t ht hb
        · rw [c4 u hu] at hD
          have hz : dc (sp la' G) u = 0 := (nI_eq (b := 0) (by have := dc_le (sp la' G) u; omega) (by decide)).mp hD
          exact x3 u hu (dc_no.mp hz)
        · have hbl := bzlk p hl
          have hz := sp_s ha hg
          have wf := sp_wf hlo p s hz
          have e1 := (i4 p a s E hp (oldline p a s E hp hbl ha hg) hg).1
          rw [e1]
          refine le32.tr (ln_says_le ?_) (x2 p s u hp hz hu hd)
          exact ln_val_le wf (fun v hv => un v hv.1 (quiet p s v hp hz hbl hv)) (fun v hv => x1 v hv.1)
    have topOk : cs_ok (sp la' G) (fun _ => lF) := fun p z t hp hz ht hd => ln_says_bd (sp_wf hlo p z hz) (ln_val_bd (sp_wf hlo p z hz) (fun _ _ => le32.rf _))
    have wi6 : ∀ p, p < 96 → wi la' G lk5 wt6 T6 p := by
      intro p hp a s E ha hg hw
      rw [g2 p hp] at hw
      have hbl := bzlk p hw
      have hz := sp_s ha hg
      have wf := sp_wf hlo p s hz
      have hq := quiet p s
      obtain ⟨e1, e2⟩ := i4 p a s E hp (oldline p a s E hp hbl ha hg) hg
      refine ⟨?_, fun z => (by rw [hbl] at z; cases z), fun t ht hd => ?_⟩
      · rw [e1]
        exact ln_val_eq wf (fun v hv => (g3 v hv.1 (quiet p s v hp hz hbl hv)).symm)
      · cases hb : ss_in tW5 t with
        | true => exact g5 p a s E t hp ha hg hw ht hd hb
        | false =>
          rw [g3 t ht hb, e1]
          exact i3.2.1 p s t hp (by rw [← hL' p (notp0 p hbl)]; exact hz) ht hd
    -- from the end of the rounds on
    have fin : ∀ (rr : Nat) (gg : Int32) (S7 : px_S) (T7 wt7 : Nat → Int32) (G7 : ln_G), ws_at S7 w la' T7 D3 lk5 wt7 tW5 to5 tz5 old → lo_at S7 lo G7 → gsm seeF G G7 → (∀ p, p < 96 → wi la' G7 lk5 wt7 T7 p) → (∀ t, t < 208 → le32 (T6 t) (T7 t)) → (∀ X : Nat → Int32, (∀ t, t < 208 → le32 (X t) lF) → cs_ok (sp la' G) X → (∀ t, t < 208 → le32 (T6 t) (X t)) → ∀ t, t < 208 → le32 (T7 t) (X t)) → (∀ p, p < 96 → ¬ la' p = none → wt7 p = 0) → (∀ q, q < lo → (q < w ∨ w + 10 ≤ q) → S7.1 q = S.1 q) → S7.2 = S.2 →
        px_P (d - 1) px_m_Workspace_edit (87, [(0, .ref w), (1, .int (nI p0)), (3, .int (nI (ct (bz lk5) 96))), (4, .int gg), (5, .int (nI rr))], []) S7 Q := by
      intro rr gg S7 T7 wt7 G7 m1 m2 m3 m4 m5 m6 m7 m8 m9
      have hsp7 := gsm_sp m3 la'
      have hla7 := gsm_la m3 hlaok
      have lf7 : lf_is (sp la' G) T7 := by
        refine ⟨fun t ht => m6 _ (fun _ _ => le32.rf _) topOk (below _ (fun _ _ => le32.rf _) topOk (fun _ _ _ => lF16)) t ht, fun p z t hp hz ht hd => ?_, fun t ht hn => ?_, fun X x1 x2 x3 => m6 X x1 x2 (below X x1 x2 x3)⟩
        · rw [hsp7] at hz
          obtain ⟨a, E, ha, hg⟩ := sp_get hz
          obtain ⟨v1, _, v3⟩ := m4 p hp a z E ha hg (m7 p hp (by rw [ha]; intro q; cases q))
          rw [← v1]
          exact v3 t ht hd
        · refine le32.tr ?_ (m5 t ht)
          cases hb : ss_in tW5 t with
          | true =>
            refine g4 t ht hb ?_
            rw [c4 t ht, dc_no.mpr hn]
            rfl
          | false =>
            rw [g3 t ht hb]
            exact i3.2.2.1 t ht ((ed.no ht hb).mpr hn)
      have same : ∀ t, t < 208 → ss_in tW5 t = false → T7 t = T t := by
        intro t ht hb
        refine le32.as (ed_up ed (Or.inr ⟨rfl, rfl⟩) i3.1 i3.2.1 i3.2.2.1 lf7 t ht hb) ?_
        have := m5 t ht
        rw [g3 t ht hb] at this
        exact this
      have h07 := m1.1
      refine px_P.sn 1 (f1 := (88, [(0, .ref w), (1, .int (nI p0)), (3, .int (nI (ct (bz lk5) 96))), (4, .int gg), (5, .int (nI rr))], [.ref w])) (S1 := S7) rfl ?_
      refine px_P.cv rfl rfl rfl (by assumption) rfl ?_
      show px_M _ px_m_Workspace_findFaults [.ref w] S7 _
      refine pm_wsFaults (by omega) m1 m2 hla7 hwl (fun S8 G8 r1 r2 r3 r4 r5 r6 r7 => ?_)
      have h08 := r1.1
      show px_P _ _ (91, [(0, .ref w), (1, .int (nI p0)), (3, .int (nI (ct (bz lk5) 96))), (4, .int gg), (5, .int (nI rr))], []) S8 _
      refine px_P.sn 2 (f1 := (93, [(0, .ref w), (1, .int (nI p0)), (3, .int (nI (ct (bz lk5) 96))), (4, .int gg), (5, .int (nI rr))], [.int 1, .ref w])) (S1 := S8) rfl ?_
      refine px_P.pf rfl rfl (by assumption) rfl (fun S9 u9 => ?_)
      refine px_P.sn 1 (f1 := (97, [(0, .ref w), (1, .int (nI p0)), (3, .int (nI (ct (bz lk5) 96))), (4, .int gg), (5, .int (nI rr))], [.int (nI (ct (bz lk5) 96))])) (S1 := S9) rfl ?_
      refine px_P.ret rfl ?_
      have st8 : gsm Prod.fst G G8 := by
        intro a
        have e1 := m3 a
        have e2 := r3 a
        cases hx : G a with
        | none =>
          rw [hx] at e1
          cases hy : G7 a with
          | none =>
            rw [hy] at e2
            cases hz : G8 a with
            | none => rfl
            | some z => rw [hz] at e2; cases e2
          | some y => rw [hy] at e1; cases e1
        | some x =>
          obtain ⟨y, y1, y2⟩ := m3.get hx
          obtain ⟨z, z1, z2⟩ := r3.get y1
          rw [z1]
          have q1 : (seeF x).1 = (seeF y).1 := by rw [y2]
          have q2 : (seeV y).1 = (seeV z).1 := by rw [z2]
          exact congrArg some (show x.1 = z.1 from q1.trans q2)
      have hsp8 : sp la' G = sp la' G8 := hsp7.trans (gsmV_sp r3 la')
      refine k S9 T7 D3 lk5 wt7 tW5 to5 tz5 G8 (fun t => ss_in tW5 t = true) (r1.u0 u9) (r2.keep (fun q hq _ => u9.o (by omega)) (by rw [u9.t]; exact Nat.le_refl _)) st8 ⟨gsmV_la r3 hla7, fun t ht => by rw [← hsp8]; exact c4 t ht, by rw [← hsp8]; exact lf7, fun p a s E hp ha hg => ?_⟩ lkis (fun q q1 q2 => by rw [u9.o (by omega), r6 q q1 q2]; exact m8 q q1 q2) (by rw [u9.t, r7, m9])
      obtain ⟨⟨s7, E7⟩, y1, y2⟩ := r3.back hg
      have es : s7 = s := congrArg (fun q => q.1) y2
      have e1 : E7.1 = E.1 := congrArg (fun q => q.2.1) y2
      have e2 : E7.2.1 = E.2.1 := congrArg (fun q => q.2.2) y2
      subst es
      have wf := (m2.1 a s7 E7 y1).2.1
      have hz7 : sp la' G p = some s7 := by rw [hsp7]; exact sp_s ha y1
      obtain ⟨v1, v2, _⟩ := m4 p hp a s7 E7 ha y1 (m7 p hp (by rw [ha]; intro q; cases q))
      refine ⟨by rw [← e1]; exact v1, ?_⟩
      have looked : ∀ p', p' < 96 → la' p' = some a → bz lk5 p' = true → fg s7 (xe_ev (ln_st s7) T7 (ln_n s7)) D3 (ln_val s7 T7) E.2.2 := by
        intro p' hp' ha' hb
        obtain ⟨w1, w2, _⟩ := m4 p' hp' a s7 E7 ha' y1 (m7 p' hp' (by rw [ha']; intro q; cases q))
        have := r5 p' a s7 E hp' ha' hb hg
        rw [← e1, ← e2, w1] at this
        obtain ⟨c1, c2⟩ := ln_f_cg (s := s7) (D := D3) (D' := D3) (ty := ln_val s7 T7) wf (w2 hb) (fun _ _ => rfl)
        unfold fg at this ⊢
        rw [← c1, ← c2]
        exact this
      cases hb : bz lk5 p with
      | true => exact looked p hp ha hb
      | false =>
        rcases r4 a s7 E7 E y1 hg with e | ⟨p', q1, q2, q3⟩
        · obtain ⟨⟨s0, E0⟩, x1, x2⟩ := m3.back y1
          have es0 : s0 = s7 := congrArg (fun q => q.1) x2
          have ef0 : E0.2.2 = E7.2.2 := congrArg (fun q => q.2) x2
          subst es0
          obtain ⟨_, fg0⟩ := i4 p a s0 E0 hp (oldline p a s0 E0 hp hb ha x1) x1
          rw [e, ← ef0]
          have hq := fun u hu => quiet p s0 u hp hz7 hb hu
          have ev : ∀ j, j < ln_n s0 → xe_ev (ln_st s0) T (ln_n s0) j = xe_ev (ln_st s0) T7 (ln_n s0) j := xe_ev_eq wf.2.2.2.1 (fun t ht => (same t ((lr_nm wf).mp ht).1 (hq t ((lr_nm wf).mp ht))).symm)
          have ty : ln_val s0 T = ln_val s0 T7 := ln_val_eq wf (fun t ht => (same t ht.1 (hq t ht)).symm)
          have dd : ∀ t, lr s0 t → D t = D3 t := by
            intro t ht
            have hf := hq t ht
            rw [i2 t ht.1, c4 t ht.1]
            refine congrArg nI ?_
            have n1 : dfb (sp la G) p0 t = false := by
              cases z : dfb (sp la G) p0 t with
              | false => rfl
              | true => rw [f5 t ht.1 ((c5 t ht.1).mpr (Or.inl z))] at hf; cases hf
            have n2 : dfb (sp la' G) p0 t = false := by
              cases z : dfb (sp la' G) p0 t with
              | false => rfl
              | true => rw [f5 t ht.1 ((c5 t ht.1).mpr (Or.inr z))] at hf; cases hf
            refine ct_congr (fun i hi => ?_)
            by_cases ei : i = p0
            · rw [ei, n1, n2]
            · unfold dfb; rw [hL' i ei]
          obtain ⟨c1, c2⟩ := ln_f_cg (s := s0) (ty := ln_val s0 T) wf ev dd
          unfold fg at fg0 ⊢
          rw [← ty, ← c1, ← c2]
          exact fg0
        · exact looked p' q1 q2 q3
    have rounds : ∀ (m r : Nat), r + m = 4162 → ∀ (S7 : px_S) (T7 wt7 : Nat → Int32) (G7 : ln_G), ws_at S7 w la' T7 D3 lk5 wt7 tW5 to5 tz5 old → lo_at S7 lo G7 → gsm seeF G G7 → (∀ p, p < 96 → wt7 p = 0 ∨ wt7 p = 1) → (∀ p, p < 96 → wi la' G7 lk5 wt7 T7 p) → (∀ t, t < 208 → le32 (T6 t) (T7 t)) → (∀ X : Nat → Int32, (∀ t, t < 208 → le32 (X t) lF) → cs_ok (sp la' G) X → (∀ t, t < 208 → le32 (T6 t) (X t)) → ∀ t, t < 208 → le32 (T7 t) (X t)) → r ≤ mu T7 → (∀ q, q < lo → (q < w ∨ w + 10 ≤ q) → S7.1 q = S.1 q) → S7.2 = S.2 →
        px_P (d - 1) px_m_Workspace_edit (62, [(0, .ref w), (1, .int (nI p0)), (3, .int (nI (ct (bz lk5) 96))), (4, .int 1), (5, .int (nI r))], []) S7 Q := by
      intro m
      induction m with
      | zero =>
        intro r hr S7 T7 wt7 G7 m1 m2 m3 m3' m4 m5 m6 m7 m8 m9
        have : mu T7 ≤ 4160 := ct_le _ _
        omega
      | succ m ih =>
        intro r hr S7 T7 wt7 G7 m1 m2 m3 m3' m4 m5 m6 m7 m8 m9
        have hle : mu T7 ≤ 4160 := ct_le _ _
        have hsp7 := gsm_sp m3 la'
        have h07 := m1.1
        refine px_P.sn 1 (f1 := (64, [(0, .ref w), (1, .int (nI p0)), (3, .int (nI (ct (bz lk5) 96))), (4, .int 1), (5, .int (nI r))], [.int 1])) (S1 := S7) rfl ?_
        refine px_P.if_eq rfl rfl (fun h => absurd h ((by decide))) (fun _ => ?_)
        refine px_P.sn 2 (f1 := (72, [(0, .ref w), (1, .int (nI p0)), (3, .int (nI (ct (bz lk5) 96))), (4, .int 1), (5, .int (nI r))], [.int 4162, .int (nI r)])) (S1 := S7) rfl ?_
        refine px_P.ic_ge rfl rfl (fun h => absurd h (nI_ge (b := 4162) (by omega) (by decide))) (fun _ => ?_)
        refine px_P.sn 1 (f1 := (76, [(0, .ref w), (1, .int (nI p0)), (3, .int (nI (ct (bz lk5) 96))), (4, .int 1), (5, .int (nI r))], [.ref w])) (S1 := S7) rfl ?_
        refine px_P.cv rfl rfl rfl (by assumption) rfl ?_
        show px_M _ px_m_Workspace_workOutWaiting [.ref w] S7 _
        refine pm_wsRound (by omega) m1 m2 (gsm_la m3 hlaok) hwl m3' m4 (fun S8 T8 wt8 G8 g r1 r2 r3 r4 r5 r6 r7 r8 r9 r10 r11 => ?_)
        have m68 : ∀ X : Nat → Int32, (∀ t, t < 208 → le32 (X t) lF) → cs_ok (sp la' G) X → (∀ t, t < 208 → le32 (T6 t) (X t)) → ∀ t, t < 208 → le32 (T8 t) (X t) := fun X x1 x2 x3 => r7 X x1 (by rw [← hsp7]; exact x2) (m6 X x1 x2 x3)
        cases g with
        | false =>
          show px_P _ _ (79, [(0, .ref w), (1, .int (nI p0)), (3, .int (nI (ct (bz lk5) 96))), (4, .int 1), (5, .int (nI r))], [.int 0]) S8 _
          refine px_P.sn 3 (f1 := (62, [(0, .ref w), (1, .int (nI p0)), (3, .int (nI (ct (bz lk5) 96))), (4, .int 0), (5, .int ((nI r) + 1))], [])) (S1 := S8) rfl ?_
          rw [nI_1]
          refine px_P.sn 1 (f1 := (64, [(0, .ref w), (1, .int (nI p0)), (3, .int (nI (ct (bz lk5) 96))), (4, .int 0), (5, .int (nI (r + 1)))], [.int 0])) (S1 := S8) rfl ?_
          refine px_P.if_eq rfl rfl (fun _ => ?_) (fun h => absurd (rfl) h)
          exact fin (r + 1) 0 S8 T8 wt8 G8 r1 r2 (m3.tr r3) r5 (fun t ht => (m5 t ht).tr (r6 t ht)) m68 (r8 rfl).2 (fun q q1 q2 => by rw [r10 q q1 q2]; exact m8 q q1 q2) (by rw [r11, m9])
        | true =>
          obtain ⟨t, ht, hne⟩ := r9 rfl
          have b8 : ∀ t, t < 208 → le32 (T8 t) lF := m68 _ (fun _ _ => le32.rf _) topOk (below _ (fun _ _ => le32.rf _) topOk (fun _ _ _ => lF16))
          have hmu := mu_up r6 b8 ht hne
          show px_P _ _ (79, [(0, .ref w), (1, .int (nI p0)), (3, .int (nI (ct (bz lk5) 96))), (4, .int 1), (5, .int (nI r))], [.int 1]) S8 _
          refine px_P.sn 3 (f1 := (62, [(0, .ref w), (1, .int (nI p0)), (3, .int (nI (ct (bz lk5) 96))), (4, .int 1), (5, .int ((nI r) + 1))], [])) (S1 := S8) rfl ?_
          rw [nI_1]
          exact ih (r + 1) (by omega) S8 T8 wt8 G8 r1 r2 (m3.tr r3) r4 r5 (fun t ht => (m5 t ht).tr (r6 t ht)) m68 (by omega) (fun q q1 q2 => by rw [r10 q q1 q2]; exact m8 q q1 q2) (by rw [r11, m9])
    show px_P _ _ (56, [(0, .ref w), (1, .int (nI p0)), (3, .int (nI (ct (bz lk5) 96)))], []) S6 _
    refine px_P.sn 4 (f1 := (62, [(0, .ref w), (1, .int (nI p0)), (3, .int (nI (ct (bz lk5) 96))), (4, .int 1), (5, .int 0)], [])) (S1 := S6) rfl ?_
    exact rounds 4162 0 rfl S6 T6 wt6 G g1 lo6 gsm.rf (fun p hp => by rw [g2 p hp]; exact f3 p hp) wi6 (fun _ _ => le32.rf _) (fun _ _ _ x3 => x3) (Nat.zero_le _) (fun q _ q2 => by rw [g7 q q2]; exact fr5 q q2) (by rw [g8, t5])
  -- leave and enter
  have rest2 : ∀ (S2 : px_S) (D2 lk2 : Nat → Int32) (tW2 : Nat → Int64) (to2 : Nat → Int32) (tz2 : Nat), ws_at S2 w la T D2 lk2 wt tW2 to2 tz2 old → tou tW2 to2 tz2 → (∀ p, p < 96 → lk2 p = 0) → (∀ t, t < 208 → D2 t = bif dfb (sp la G) p0 t then D t + -1 else D t) → (∀ t, t < 208 → (ss_in tW2 t = true ↔ dfb (sp la G) p0 t = true)) → (∀ q, (q < w ∨ w + 10 ≤ q) → S2.1 q = S.1 q) → S2.2 = S.2 →
      px_P (d - 1) px_m_Workspace_edit (26, [(0, .ref w), (1, .int (nI p0)), (2, va_rf o)], []) S2 Q := by
    intro S2 D2 lk2 tW2 to2 tz2 c1 c2 c3 c4 c5 c6 c7
    have c1' := c1
    obtain ⟨h0, h1, h2, h3, h4, h5, h6, h7, h8, h9⟩ := c1
    have count : ∀ t, t < 208 → ∀ b : Bool, dfb (sp la' G) p0 t = b → (bif b then D2 t + 1 else D2 t) = nI (dc (sp la' G) t) := by
      intro t ht b hb
      have hh := ct_one (q := fun p => dfb (sp la G) p t) (q' := fun p => dfb (sp la' G) p t) (p := p0) (fun i hi => by unfold dfb; rw [hL' i hi]) hp0
      have e1 : ct (fun p => dfb (sp la G) p t) 96 = dc (sp la G) t := rfl
      have e2 : ct (fun p => dfb (sp la' G) p t) 96 = dc (sp la' G) t := rfl
      rw [e1, e2] at hh
      rw [c4 t ht, i2 t ht]
      rw [hb] at hh
      cases hq : dfb (sp la G) p0 t with
      | false =>
        rw [hq] at hh
        cases b with
        | false => simp only [cond_false] at hh ⊢; refine congrArg nI ?_; omega
        | true => simp only [cond_false, cond_true] at hh ⊢; rw [nI_1]; refine congrArg nI ?_; omega
      | true =>
        rw [hq] at hh
        have pos : 1 ≤ dc (sp la G) t := by
          apply Classical.byContradiction
          intro z
          have := ct_zero.mp (show ct (fun p => dfb (sp la G) p t) 96 = 0 by rw [e1]; omega) p0 hp0
          rw [hq] at this
          cases this
        obtain ⟨c, hc⟩ : ∃ c, dc (sp la G) t = c + 1 := ⟨dc (sp la G) t - 1, by omega⟩
        rw [hc] at hh ⊢
        have e3 : nI (c + 1) + -1 = nI c := by rw [← nI_pred c]; exact (Int32.sub_eq_add_neg _ _).symm
        cases b with
        | false => simp only [cond_false, cond_true] at hh ⊢; rw [e3]; refine congrArg nI ?_; omega
        | true => simp only [cond_true] at hh ⊢; rw [e3, nI_1]; refine congrArg nI ?_; omega
    cases ho2 : o with
    | none =>
      have e0 : la' = va_up la p0 none := by rw [hla', ho2]
      have hnone : dfb (sp la' G) p0 = fun _ => false := by
        funext t
        unfold dfb
        rw [sp_n (show la' p0 = none by rw [e0]; simp [va_up])]
      show px_P _ _ (26, [(0, .ref w), (1, .int (nI p0)), (2, .null)], []) S2 _
      refine px_P.sn 1 (f1 := (27, [(0, .ref w), (1, .int (nI p0)), (2, .null)], [.ref w])) (S1 := S2) rfl ?_
      refine px_P.gf rfl rfl (by assumption) (v := .ref (w + 1)) rfl ?_
      refine px_P.sn 2 (f1 := (32, [(0, .ref w), (1, .int (nI p0)), (2, .null)], [.null, .int (nI p0), .ref (w + 1)])) (S1 := S2) rfl ?_
      refine px_P.aastNj (j := p0) rfl (by assumption) rfl rfl (by omega) (by decide) (fun S3 u3 => ?_)
      have m3 := c1'.uL u3
      have h03 := m3.1
      rw [← e0] at m3
      refine px_P.sn 2 (f1 := (35, [(0, .ref w), (1, .int (nI p0)), (2, .null)], [.null, .ref w])) (S1 := S3) rfl ?_
      refine px_P.cv rfl rfl rfl (by assumption) rfl ?_
      show px_M _ px_m_Workspace_enter [.ref w, .null] S3 _
      refine pm_wsEnterN (by omega) ?_
      show px_P _ _ (38, [(0, .ref w), (1, .int (nI p0)), (2, .null)], []) S3 _
      show px_P _ _ (38, [(0, .ref w), (1, .int (nI p0)), (2, .null)], []) S3 _
      refine px_P.wk (ls := [(0, .ref w), (1, .int (nI p0))]) rfl (.cons_cons _ (.cons_cons _ (.cons _ .slnil))) ?_
      exact rest S3 D2 lk2 tW2 to2 tz2 m3 c2 c3 (fun t ht => count t ht false (by rw [hnone])) (fun t ht => by rw [c5 t ht, hnone]; exact ⟨Or.inl, fun z => z.elim id (fun z => by cases z)⟩) (fun q hq => by rw [u3.o (by omega)]; exact c6 q hq) (by rw [u3.t, c7])
    | some b =>
      obtain ⟨s, E, hg⟩ := ho b ho2
      have e0 : la' = va_up la p0 (some b) := by rw [hla', ho2]
      have hsome : ∀ t, dfb (sp la' G) p0 t = decide (ln_df s = nI t) := by
        intro t
        unfold dfb
        rw [sp_s (show la' p0 = some b by rw [e0]; simp [va_up]) hg]
      have lo2 : lo_at S2 lo G := hlo.keep (fun q hq _ => c6 q (by omega)) (by rw [c7]; exact Nat.le_refl _)
      obtain ⟨fs, hb⟩ := lo2.cell hg
      show px_P _ _ (26, [(0, .ref w), (1, .int (nI p0)), (2, .ref b)], []) S2 _
      refine px_P.sn 1 (f1 := (27, [(0, .ref w), (1, .int (nI p0)), (2, .ref b)], [.ref w])) (S1 := S2) rfl ?_
      refine px_P.gf rfl rfl (by assumption) (v := .ref (w + 1)) rfl ?_
      refine px_P.sn 2 (f1 := (32, [(0, .ref w), (1, .int (nI p0)), (2, .ref b)], [.ref b, .int (nI p0), .ref (w + 1)])) (S1 := S2) rfl ?_
      refine px_P.aastj (j := p0) rfl (by assumption) (by assumption) rfl rfl rfl (by omega) (by decide) (fun S3 u3 => ?_)
      have m3 := c1'.uL u3
      have h03 := m3.1
      rw [← e0] at m3
      have lo3 : lo_at S3 lo G := lo2.keep (fun q hq _ => u3.o (by omega)) (by rw [u3.t]; exact Nat.le_refl _)
      refine px_P.sn 2 (f1 := (35, [(0, .ref w), (1, .int (nI p0)), (2, .ref b)], [.ref b, .ref w])) (S1 := S3) rfl ?_
      refine px_P.cv rfl rfl rfl (by assumption) rfl ?_
      show px_M _ px_m_Workspace_enter [.ref w, .ref b] S3 _
      refine pm_wsEnter (by omega) m3 c2 lo3 hwl hg (fun S4 D4 tW4 to4 tz4 q1 q2 q3 q4 q5 q6 => ?_)
      show px_P _ _ (38, [(0, .ref w), (1, .int (nI p0)), (2, .ref b)], []) S4 _
      show px_P _ _ (38, [(0, .ref w), (1, .int (nI p0)), (2, .ref b)], []) S4 _
      refine px_P.wk (ls := [(0, .ref w), (1, .int (nI p0))]) rfl (.cons_cons _ (.cons_cons _ (.cons _ .slnil))) ?_
      refine rest S4 D4 lk2 tW4 to4 tz4 q1 q2 c3 (fun t ht => ?_) (fun t ht => ?_) (fun q hq => by rw [q5 q hq, u3.o (by omega)]; exact c6 q hq) (by rw [q6, u3.t, c7])
      · rw [q3 t ht, ← count t ht _ (hsome t)]
        by_cases z : ln_df s = nI t
        · rw [if_pos z, decide_eq_true z]; rfl
        · rw [if_neg z, decide_eq_false z]; rfl
      · rw [q4 t ht, c5 t ht, hsome t, decide_eq_true_iff]
  have h' := h
  obtain ⟨h0, h1, h2, h3, h4, h5, h6, h7, h8, h9⟩ := h
  refine px_M.go (by omega) (by cases o <;> exact Nat.le_of_ble_eq_true rfl) ?_
  have hent : px_P (d - 1) px_m_Workspace_edit (0, [(0, .ref w), (1, .int (nI p0)), (2, va_rf o)], []) S Q := by
    refine px_P.sn 1 (f1 := (1, [(0, .ref w), (1, .int (nI p0)), (2, va_rf o)], [.int (nI p0)])) (S1 := S) rfl ?_
    refine px_P.if_lt rfl rfl (fun h => absurd h (nI_pos (by omega))) (fun _ => ?_)
    refine px_P.sn 2 (f1 := (7, [(0, .ref w), (1, .int (nI p0)), (2, va_rf o)], [.int 96, .int (nI p0)])) (S1 := S) rfl ?_
    refine px_P.ic_lt rfl rfl (fun _ => ?_) (fun h => absurd (nI_lt (b := 96) hp0 (by decide)) h)
    refine px_P.sn 1 (f1 := (13, [(0, .ref w), (1, .int (nI p0)), (2, va_rf o)], [.ref w])) (S1 := S) rfl ?_
    refine px_P.cv rfl rfl rfl (by assumption) rfl ?_
    show px_M _ px_m_Workspace_startLooking [.ref w] S _
    refine pm_wsStart (by omega) h' (fun S1 lk1 tW1 c1 c2 c3 c4 c5 => ?_)
    have tou1 : tou tW1 to 0 := ⟨(ct_zero.mpr c3).symm, fun i hi => absurd hi (by omega), fun t ht z => by rw [c3 t ht] at z; cases z⟩
    have c1' := c1
    obtain ⟨k0, k1, k2, k3, k4, k5, k6, k7, k8, k9⟩ := c1
    show px_P _ _ (16, [(0, .ref w), (1, .int (nI p0)), (2, va_rf o)], []) S1 _
    refine px_P.sn 2 (f1 := (18, [(0, .ref w), (1, .int (nI p0)), (2, va_rf o)], [.ref w, .ref w])) (S1 := S1) rfl ?_
    refine px_P.gf rfl rfl (by assumption) (v := .ref (w + 1)) rfl ?_
    refine px_P.sn 1 (f1 := (22, [(0, .ref w), (1, .int (nI p0)), (2, va_rf o)], [.int (nI p0), .ref (w + 1), .ref w])) (S1 := S1) rfl ?_
    refine px_P.aaldj (j := p0) rfl (by assumption) rfl rfl (by omega) (by decide) ?_
    cases hl : la p0 with
    | none =>
      have hnone : ∀ t, dfb (sp la G) p0 t = false := by
        intro t
        unfold dfb
        rw [sp_n hl]
      show px_P _ _ (23, [(0, .ref w), (1, .int (nI p0)), (2, va_rf o)], [.null, .ref w]) S1 _
      refine px_P.cv rfl rfl rfl (by assumption) rfl ?_
      show px_M _ px_m_Workspace_leave [.ref w, .null] S1 _
      refine pm_wsLeaveN (by omega) ?_
      show px_P _ _ (26, [(0, .ref w), (1, .int (nI p0)), (2, va_rf o)], []) S1 _
      exact rest2 S1 D lk1 tW1 to 0 c1' tou1 c2 (fun t ht => by rw [hnone]; rfl) (fun t ht => by rw [hnone, c3 t ht]) c4 c5
    | some b =>
      obtain ⟨s, E, hg⟩ := i1 p0 b hp0 hl
      have hsome : ∀ t, dfb (sp la G) p0 t = decide (ln_df s = nI t) := by
        intro t
        unfold dfb
        rw [sp_s hl hg]
      have lo1 : lo_at S1 lo G := hlo.keep (fun q hq _ => c4 q (by omega)) (by rw [c5]; exact Nat.le_refl _)
      show px_P _ _ (23, [(0, .ref w), (1, .int (nI p0)), (2, va_rf o)], [.ref b, .ref w]) S1 _
      refine px_P.cv rfl rfl rfl (by assumption) rfl ?_
      show px_M _ px_m_Workspace_leave [.ref w, .ref b] S1 _
      refine pm_wsLeave (by omega) c1' tou1 lo1 hwl hg (fun S2 D2 tW2 to2 tz2 q1 q2 q3 q4 q5 q6 => ?_)
      show px_P _ _ (26, [(0, .ref w), (1, .int (nI p0)), (2, va_rf o)], []) S2 _
      refine rest2 S2 D2 lk1 tW2 to2 tz2 q1 q2 c2 (fun t ht => ?_) (fun t ht => ?_) (fun q hq => by rw [q5 q hq]; exact c4 q hq) (by rw [q6, c5])
      · rw [q3 t ht, hsome t]
        by_cases z : ln_df s = nI t
        · rw [if_pos z, decide_eq_true z]; rfl
        · rw [if_neg z, decide_eq_false z]; rfl
      · rw [q4 t ht, c3 t ht, hsome t, decide_eq_true_iff]
        exact ⟨fun z => z.elim (fun z => by cases z) id, Or.inr⟩
  cases o <;> exact hent
