set_option maxHeartbeats 4000000 in
set_option maxRecDepth 20000 in
/-- THE LAW, from its entry -/
theorem whole_start {p : Program} {e : Env} {s : State} {m : MethodId} {below : List Frame} {meth : Method} {c : Code} (l : Launch) (hlt : l.stackTraces = false) {b L : Nat} {xs : Nat → Int32} (hL : L ≤ 3072) (C0 : lw_At p s m meth c b L xs) : W p l e room_1 s m #[Value.ref b] below meth c s.heap [] 0 0 (lw_Z below #[Value.ref b] s) (entryFrame m ([Value.ref b] : List Value).toArray 7) := by
  obtain ⟨hx, hb, hr, hml, hown, hts, hX, hbl, hlocks, hgv⟩ := C0
  obtain ⟨dC, dJ, dA, hK⟩ := px_K_start hts
  have hp : ∀ w ∈ px_tbl, w.before #[Value.ref b] s = true := fun w hw => hts w (List.mem_filter.mp hw).1
  have Y : wZ dC dJ dA p s m #[Value.ref b] c code 7 := ⟨hx, hb, hml, hown, hp, hK⟩
  have Z : lZ dC dJ dA p s m #[Value.ref b] c b L xs := ⟨Y, hX, hbl, lX_start hts hgv⟩
  have hl := lv_entry ([.ref b]) (n := 7) (Nat.le_of_ble_eq_true rfl)
  rw [lg_entry_eq]
  generalize (lg_sl ([.ref b]) ++ List.replicate (7 - (lg_sl ([.ref b])).length) Slot.unset).toArray = ls at hl ⊢
  have hl : lv_has ls 7 [(0, .ref b)] := hl
  obtain ⟨x, ex⟩ : ∃ x, x = s.heap.size := ⟨_, rfl⟩
  have hR : px_Rl dC dJ dA s (fun _ => none) x 0 ((fun _ => none, x, 0) : px_S) s.heap [] 0 0 := ⟨fun a y h => (by cases h), ex.symm, rfl, rfl, fun _ hq => absurd hq List.not_mem_nil, fun _ _ _ => rfl, fun _ _ h => h⟩
  have hc1 : ∀ n, n ≤ 601024 → x + n ≤ x + room_1.cells := fun n h => Nat.add_le_add_left h x
  have hc2 : ∀ n, n ≤ 7293033 → n ≤ 0 + room_1.slots := fun n h => by rw [Nat.zero_add]; exact h
  refine law_new (ix := 8) Y px_CF9 (by decide +kernel) hR (hc1 1 (by decide)) (hc2 4 (by decide)) (by decide +kernel) (fun H1 cells1 slots1 hR1 => ?_)
  refine lv_dup hx hb (by decide +kernel) rfl ?_
  refine law_init (ix := 42) (C := fun S' => (∀ (S'' : px_S) (lo : Nat), x + 435 ≤ lo → lo ≤ S''.2.1 → (∀ q, x ≤ q → q < x + 435 → S''.1 q = S'.1 q) → dI S'' x lo [] (fun _ => []) []) ∧ S'.2 = (x + 435, 4 + 2693)) Y ok_di (by decide +kernel) (by decide) (by decide) hR1
    (pm_dmInit (by omega) (by simp only [va_up, if_true]; rfl) rfl (fun S' h1 h2 h3 => ⟨rfl, h1, h3⟩)) (fun S1 h => by rw [h.2]; exact ⟨hc1 435 (by decide), hc2 2697 (by decide)⟩) hl.1 (Nat.le_of_ble_eq_true rfl) (by decide +kernel) (fun S2 H2 locs2 cells2 slots2 hR2 hC2 => ?_)
  obtain ⟨hdI, h22⟩ := hC2
  refine lv_astore_n (k := 1) (lv' := [(1, .ref x), (0, .ref b)]) hx hb (by decide +kernel) rfl hl (by decide) rfl (fun ls2 hl2 => ?_)
  obtain ⟨W2, n2, z2⟩ := S2
  cases h22
  refine law_new (ix := 43) Y px_CF10 (by decide +kernel) hR2 (hc1 436 (by decide)) (hc2 2731 (by decide)) (by decide +kernel) (fun H3 cells3 slots3 hR3 => ?_)
  refine lv_dup hx hb (by decide +kernel) rfl ?_
  refine law_init (ix := 45) (C := fun S' => mI S' (x + 435) [] (fun _ => []) [] ∧ (∀ q, q < x + 435 → S'.1 q = W2 q) ∧ S'.2 = (x + 435 + 26, 4 + 2693 + 34 + 88028)) Y ok_mi (by decide +kernel) (by decide) (by decide) hR3
    (pm_mmInit (by omega) (by simp only [va_up, if_true]; rfl) rfl (fun S' h1 h2 h3 => ⟨rfl, h1, fun q hq => (h2 q hq).trans ?_, h3⟩)) (fun S1 h => by rw [h.2.2]; exact ⟨hc1 461 (by decide), hc2 90759 (by decide)⟩) hl2.1 (Nat.le_of_ble_eq_true rfl) (by decide +kernel) (fun S4 H4 locs4 cells4 slots4 hR4 hC4 => ?_)
  · have hne : q ≠ x + 435 := by omega
    simp only [va_up, if_neg hne]
  obtain ⟨hmI, hk4, h42⟩ := hC4
  refine lv_astore_n (k := 2) (lv' := [(2, .ref (x + 435)), (1, .ref x), (0, .ref b)]) hx hb (by decide +kernel) rfl hl2 (by decide) rfl (fun ls3 hl3 => ?_)
  obtain ⟨W4, n4, z4⟩ := S4
  cases h42
  refine lv_iconst (n := 1) (v := 1) hx hb (by decide +kernel) rfl ?_
  refine px_sNA (mi := px_m_Daemon_type) (l0 := [(2, .ref (x + 435)), (1, .ref x), (0, .ref b)]) (q := ((19, [(2, .ref (x + 435)), (1, .ref x), (0, .ref b)], [.ref (x + 435 + 26)]), (va_up W4 (x + 435 + 26) (oC (fun _ => 0)), x + 435 + 26 + 1, 4 + 2693 + 34 + 88028 + 1))) (z0 := (0, .inr (.inl (fun _ => 0)))) (t0 := 1) (at0 := .long) hx hb (hp _ px_acL) (by decide +kernel) rfl hR4 (hc1 462 (by decide)) (hc2 90760 (by decide)) hK (by decide) rfl (fun _ _ => rfl) (by decide) (fun H5 locs5 cells5 slots5 ls4 hR5 hl4 => ?_) hl3
  show W p l e room_1 s m #[Value.ref b] below meth c H5 locs5 cells5 slots5 _ (F0 m 19 ls4 [.ref (x + 461)])
  have hR5 : px_Rl dC dJ dA s (fun _ => none) x 0 ((va_up W4 (x + 461) (oC (fun _ => 0)), x + 462, 4 + 2693 + 34 + 88028 + 1) : px_S) H5 locs5 cells5 slots5 := hR5
  have hl4 : lv_has ls4 7 [(2, .ref (x + 435)), (1, .ref x), (0, .ref b)] := hl4
  refine lv_astore_n (k := 3) (x := x + 461) (lv' := [(3, .ref (x + 461)), (2, .ref (x + 435)), (1, .ref x), (0, .ref b)]) hx hb (by decide +kernel) rfl hl4 (by decide) rfl (fun ls5 hl5 => ?_)
  refine lv_iconst (n := 0) (v := 0) hx hb (by decide +kernel) rfl ?_
  refine lv_istore (i := 4) (lv' := lvL b x (nI (6 * 0))) hx hb (by decide +kernel) hl5 (by decide) rfl (fun ls6 hl6 => ?_)
  obtain ⟨q1, q2, q3, q4, q5, q6, q7⟩ := hR5
  have q3' : x + cells5 = x + 462 := q3
  have q4' : 0 + slots5 = 4 + 2693 + 34 + 88028 + 1 := q4
  refine law_loop (x := x) hlt Z hL hr hlocks (L + 6) 0 (by omega) (by omega) (va_up W4 (x + 461) (oC (fun _ => 0)), x + 462, 4 + 2693 + 34 + 88028 + 1) H5 locs5 cells5 slots5 ls6 ⟨q1, q2, by show s.heap.size ≤ x + 462; omega, fun q hq => ?_, fun q hq => ?_, fun q hq => ?_⟩ ⟨[], fun _ => [], [], ?_, ?_, ⟨fun _ => 0, ?_⟩, Nat.le_refl _⟩ (by omega) (by omega) hl6
  · rcases q5 q hq with h | h
    · exact absurd rfl h
    · rw [← ex]; exact h
  · exact q6 q (by rw [ex]; exact hq) rfl
  · cases hs : (va_up W4 (x + 461) (oC (fun _ => 0)) q) with
    | none => exact hs
    | some y => exact absurd rfl (q7 q (by rw [ex]; exact hq) (by show va_up W4 (x + 461) (oC (fun _ => 0)) q ≠ none; rw [hs]; exact fun z => by cases z))
  · refine hdI _ _ (by omega) (Nat.le_refl _) (fun q h1 h2 => ?_)
    have hne : q ≠ x + 461 := by omega
    show va_up W4 (x + 461) _ q = W2 q
    simp only [va_up, if_neg hne]
    exact hk4 q h2
  · refine hmI.keep (fun q h1 h2 => ?_)
    have hne : q ≠ x + 461 := by omega
    show va_up W4 (x + 461) _ q = W4 q
    simp only [va_up, if_neg hne]
  · show va_up W4 (x + 461) _ (x + 461) = _
    simp only [va_up, if_true]
