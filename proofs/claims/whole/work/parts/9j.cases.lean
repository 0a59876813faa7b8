/-! ===== the calls that may throw (laid by gen/cases.py) ===== -/
theorem ok_d_type : mOk px_m_Daemon_type 5 := ⟨(by decide +kernel), (by decide +kernel), ⟨by decide, by decide⟩, (by decide +kernel), (by decide +kernel), (by decide +kernel), (by decide +kernel), _, rfl, rfl⟩
theorem ok_m_type : mOk px_m_Model_type 5 := ⟨(by decide +kernel), (by decide +kernel), ⟨by decide, by decide⟩, (by decide +kernel), (by decide +kernel), (by decide +kernel), (by decide +kernel), _, rfl, rfl⟩
theorem ok_d_put : mOk px_m_Daemon_put 2 := ⟨(by decide +kernel), (by decide +kernel), ⟨by decide, by decide⟩, (by decide +kernel), (by decide +kernel), (by decide +kernel), (by decide +kernel), _, rfl, rfl⟩
theorem ok_m_put : mOk px_m_Model_put 2 := ⟨(by decide +kernel), (by decide +kernel), ⟨by decide, by decide⟩, (by decide +kernel), (by decide +kernel), (by decide +kernel), (by decide +kernel), _, rfl, rfl⟩
theorem ok_d_drop : mOk px_m_Daemon_drop 1 := ⟨(by decide +kernel), (by decide +kernel), ⟨by decide, by decide⟩, (by decide +kernel), (by decide +kernel), (by decide +kernel), (by decide +kernel), _, rfl, rfl⟩
theorem ok_m_drop : mOk px_m_Model_drop 1 := ⟨(by decide +kernel), (by decide +kernel), ⟨by decide, by decide⟩, (by decide +kernel), (by decide +kernel), (by decide +kernel), (by decide +kernel), _, rfl, rfl⟩
theorem ok_d_undo : mOk px_m_Daemon_undo 0 := ⟨(by decide +kernel), (by decide +kernel), ⟨by decide, by decide⟩, (by decide +kernel), (by decide +kernel), (by decide +kernel), (by decide +kernel), _, rfl, rfl⟩
theorem ok_m_undo : mOk px_m_Model_undo 0 := ⟨(by decide +kernel), (by decide +kernel), ⟨by decide, by decide⟩, (by decide +kernel), (by decide +kernel), (by decide +kernel), (by decide +kernel), _, rfl, rfl⟩
theorem ok_d_symbol : mOk px_m_Daemon_symbol 3 := ⟨(by decide +kernel), (by decide +kernel), ⟨by decide, by decide⟩, (by decide +kernel), (by decide +kernel), (by decide +kernel), (by decide +kernel), _, rfl, rfl⟩
theorem ok_m_symbol : mOk px_m_Model_symbol 3 := ⟨(by decide +kernel), (by decide +kernel), ⟨by decide, by decide⟩, (by decide +kernel), (by decide +kernel), (by decide +kernel), (by decide +kernel), _, rfl, rfl⟩
theorem ok_d_line : mOk px_m_Daemon_line 3 := ⟨(by decide +kernel), (by decide +kernel), ⟨by decide, by decide⟩, (by decide +kernel), (by decide +kernel), (by decide +kernel), (by decide +kernel), _, rfl, rfl⟩
theorem ok_m_line : mOk px_m_Model_line 3 := ⟨(by decide +kernel), (by decide +kernel), ⟨by decide, by decide⟩, (by decide +kernel), (by decide +kernel), (by decide +kernel), (by decide +kernel), _, rfl, rfl⟩
theorem ok_d_diagnostic : mOk px_m_Daemon_diagnostic 2 := ⟨(by decide +kernel), (by decide +kernel), ⟨by decide, by decide⟩, (by decide +kernel), (by decide +kernel), (by decide +kernel), (by decide +kernel), _, rfl, rfl⟩
theorem ok_m_diagnostic : mOk px_m_Model_diagnostic 2 := ⟨(by decide +kernel), (by decide +kernel), ⟨by decide, by decide⟩, (by decide +kernel), (by decide +kernel), (by decide +kernel), (by decide +kernel), _, rfl, rfl⟩
theorem ok_d_count : mOk px_m_Daemon_count 1 := ⟨(by decide +kernel), (by decide +kernel), ⟨by decide, by decide⟩, (by decide +kernel), (by decide +kernel), (by decide +kernel), (by decide +kernel), _, rfl, rfl⟩
theorem ok_m_count : mOk px_m_Model_count 1 := ⟨(by decide +kernel), (by decide +kernel), ⟨by decide, by decide⟩, (by decide +kernel), (by decide +kernel), (by decide +kernel), (by decide +kernel), _, rfl, rfl⟩
theorem ok_Daemon_erase : mOk px_m_Daemon_erase 0 := ⟨(by decide +kernel), (by decide +kernel), ⟨by decide, by decide⟩, (by decide +kernel), (by decide +kernel), (by decide +kernel), (by decide +kernel), _, rfl, rfl⟩
theorem ok_Model_erase : mOk px_m_Model_erase 0 := ⟨(by decide +kernel), (by decide +kernel), ⟨by decide, by decide⟩, (by decide +kernel), (by decide +kernel), (by decide +kernel), (by decide +kernel), _, rfl, rfl⟩
theorem ok_Model_thrown : mOk px_m_Model_thrown 0 := ⟨(by decide +kernel), (by decide +kernel), ⟨by decide, by decide⟩, (by decide +kernel), (by decide +kernel), (by decide +kernel), (by decide +kernel), _, rfl, rfl⟩
theorem lk_law : ∀ w ∈ [Cond.methodLink "CheckDaemonLaw" 51 (px_y px_m_Model_type), Cond.methodLink "CheckDaemonLaw" 62 (px_y px_m_Model_put), Cond.methodLink "CheckDaemonLaw" 66 (px_y px_m_Model_drop), Cond.methodLink "CheckDaemonLaw" 70 (px_y px_m_Model_undo), Cond.methodLink "CheckDaemonLaw" 74 (px_y px_m_Model_symbol), Cond.methodLink "CheckDaemonLaw" 77 (px_y px_m_Model_line), Cond.methodLink "CheckDaemonLaw" 80 (px_y px_m_Model_diagnostic), Cond.methodLink "CheckDaemonLaw" 83 (px_y px_m_Model_count), Cond.methodLink "CheckDaemonLaw" 52 (px_y px_m_Model_thrown), Cond.methodLink "CheckDaemonLaw" 55 (px_y px_m_Daemon_erase), Cond.methodLink "CheckDaemonLaw" 58 (px_y px_m_Model_erase)], w ∈ px_tbl := by decide +kernel
theorem wl_type {a0 b0 c0 d0 e0 : Int32} {x o : Nat} : wLoad method_3_code 8 11 (.ref x :: ([.int a0, .int b0, .int c0, .int d0, .int e0] ++ [.ref o])) ([.int a0, .int b0, .int c0, .int d0, .int e0].reverse ++ [.ref x, .int 0, .ref o]) := by
  intro p l e R s m args below meth c H locs cells slots Q ls hx hb hl k
  refine lv_aload (i := 6) hx hb (by decide +kernel) (lv_at hl 6 rfl) ?_
  refine lv_iconst (n := 0) (v := 0) hx hb (by decide +kernel) rfl ?_
  refine lv_aload_n (k := 0) hx hb (by decide +kernel) rfl (lv_at hl 0 rfl) ?_
  refine lv_iload_n (k := 1) hx hb (by decide +kernel) rfl (lv_at hl 1 rfl) ?_
  refine lv_iload_n (k := 2) hx hb (by decide +kernel) rfl (lv_at hl 2 rfl) ?_
  refine lv_iload_n (k := 3) hx hb (by decide +kernel) rfl (lv_at hl 3 rfl) ?_
  refine lv_iload (i := 4) hx hb (by decide +kernel) (lv_at hl 4 rfl) ?_
  refine lv_iload (i := 5) hx hb (by decide +kernel) (lv_at hl 5 rfl) ?_
  exact k
theorem wc_type : wCatch method_3_code 8 19 21 := by
  intro p l e R s m args below meth c H locs cells slots Q ls lv q hx hb hl k
  exact lv_astore (i := 7) hx hb (by decide +kernel) hl (by decide) rfl (fun ls2 _ => k ls2)
theorem wl_put {a0 b0 : Int32} {x o : Nat} : wLoad method_4_code 5 5 (.ref x :: ([.int a0, .int b0] ++ [.ref o])) ([.int a0, .int b0].reverse ++ [.ref x, .int 0, .ref o]) := by
  intro p l e R s m args below meth c H locs cells slots Q ls hx hb hl k
  refine lv_aload_n (k := 3) hx hb (by decide +kernel) rfl (lv_at hl 3 rfl) ?_
  refine lv_iconst (n := 0) (v := 0) hx hb (by decide +kernel) rfl ?_
  refine lv_aload_n (k := 0) hx hb (by decide +kernel) rfl (lv_at hl 0 rfl) ?_
  refine lv_iload_n (k := 1) hx hb (by decide +kernel) rfl (lv_at hl 1 rfl) ?_
  refine lv_iload_n (k := 2) hx hb (by decide +kernel) rfl (lv_at hl 2 rfl) ?_
  exact k
theorem wc_put : wCatch method_4_code 5 13 15 := by
  intro p l e R s m args below meth c H locs cells slots Q ls lv q hx hb hl k
  exact lv_astore (i := 4) hx hb (by decide +kernel) hl (by decide) rfl (fun ls2 _ => k ls2)
theorem wl_drop {a0 : Int32} {x o : Nat} : wLoad method_5_code 4 4 (.ref x :: ([.int a0] ++ [.ref o])) ([.int a0].reverse ++ [.ref x, .int 0, .ref o]) := by
  intro p l e R s m args below meth c H locs cells slots Q ls hx hb hl k
  refine lv_aload_n (k := 2) hx hb (by decide +kernel) rfl (lv_at hl 2 rfl) ?_
  refine lv_iconst (n := 0) (v := 0) hx hb (by decide +kernel) rfl ?_
  refine lv_aload_n (k := 0) hx hb (by decide +kernel) rfl (lv_at hl 0 rfl) ?_
  refine lv_iload_n (k := 1) hx hb (by decide +kernel) rfl (lv_at hl 1 rfl) ?_
  exact k
theorem wc_drop : wCatch method_5_code 4 12 13 := by
  intro p l e R s m args below meth c H locs cells slots Q ls lv q hx hb hl k
  exact lv_astore_n (k := 3) hx hb (by decide +kernel) rfl hl (by decide) rfl (fun ls2 _ => k ls2)
theorem wl_undo {x o : Nat} : wLoad method_6_code 3 3 (.ref x :: ([] ++ [.ref o])) ([].reverse ++ [.ref x, .int 0, .ref o]) := by
  intro p l e R s m args below meth c H locs cells slots Q ls hx hb hl k
  refine lv_aload_n (k := 1) hx hb (by decide +kernel) rfl (lv_at hl 1 rfl) ?_
  refine lv_iconst (n := 0) (v := 0) hx hb (by decide +kernel) rfl ?_
  refine lv_aload_n (k := 0) hx hb (by decide +kernel) rfl (lv_at hl 0 rfl) ?_
  exact k
theorem wc_undo : wCatch method_6_code 3 11 12 := by
  intro p l e R s m args below meth c H locs cells slots Q ls lv q hx hb hl k
  exact lv_astore_n (k := 2) hx hb (by decide +kernel) rfl hl (by decide) rfl (fun ls2 _ => k ls2)
theorem wl_symbol {a0 b0 c0 : Int32} {x o : Nat} : wLoad method_7_code 6 7 (.ref x :: ([.int a0, .int b0, .int c0] ++ [.ref o])) ([.int a0, .int b0, .int c0].reverse ++ [.ref x, .int 0, .ref o]) := by
  intro p l e R s m args below meth c H locs cells slots Q ls hx hb hl k
  refine lv_aload (i := 4) hx hb (by decide +kernel) (lv_at hl 4 rfl) ?_
  refine lv_iconst (n := 0) (v := 0) hx hb (by decide +kernel) rfl ?_
  refine lv_aload_n (k := 0) hx hb (by decide +kernel) rfl (lv_at hl 0 rfl) ?_
  refine lv_iload_n (k := 1) hx hb (by decide +kernel) rfl (lv_at hl 1 rfl) ?_
  refine lv_iload_n (k := 2) hx hb (by decide +kernel) rfl (lv_at hl 2 rfl) ?_
  refine lv_iload_n (k := 3) hx hb (by decide +kernel) rfl (lv_at hl 3 rfl) ?_
  exact k
theorem wc_symbol : wCatch method_7_code 6 15 17 := by
  intro p l e R s m args below meth c H locs cells slots Q ls lv q hx hb hl k
  exact lv_astore (i := 5) hx hb (by decide +kernel) hl (by decide) rfl (fun ls2 _ => k ls2)
theorem wl_line {a0 b0 c0 : Int32} {x o : Nat} : wLoad method_8_code 6 7 (.ref x :: ([.int a0, .int b0, .int c0] ++ [.ref o])) ([.int a0, .int b0, .int c0].reverse ++ [.ref x, .int 0, .ref o]) := by
  intro p l e R s m args below meth c H locs cells slots Q ls hx hb hl k
  refine lv_aload (i := 4) hx hb (by decide +kernel) (lv_at hl 4 rfl) ?_
  refine lv_iconst (n := 0) (v := 0) hx hb (by decide +kernel) rfl ?_
  refine lv_aload_n (k := 0) hx hb (by decide +kernel) rfl (lv_at hl 0 rfl) ?_
  refine lv_iload_n (k := 1) hx hb (by decide +kernel) rfl (lv_at hl 1 rfl) ?_
  refine lv_iload_n (k := 2) hx hb (by decide +kernel) rfl (lv_at hl 2 rfl) ?_
  refine lv_iload_n (k := 3) hx hb (by decide +kernel) rfl (lv_at hl 3 rfl) ?_
  exact k
theorem wc_line : wCatch method_8_code 6 15 17 := by
  intro p l e R s m args below meth c H locs cells slots Q ls lv q hx hb hl k
  exact lv_astore (i := 5) hx hb (by decide +kernel) hl (by decide) rfl (fun ls2 _ => k ls2)
theorem wl_diagnostic {a0 b0 : Int32} {x o : Nat} : wLoad method_9_code 5 5 (.ref x :: ([.int a0, .int b0] ++ [.ref o])) ([.int a0, .int b0].reverse ++ [.ref x, .int 0, .ref o]) := by
  intro p l e R s m args below meth c H locs cells slots Q ls hx hb hl k
  refine lv_aload_n (k := 3) hx hb (by decide +kernel) rfl (lv_at hl 3 rfl) ?_
  refine lv_iconst (n := 0) (v := 0) hx hb (by decide +kernel) rfl ?_
  refine lv_aload_n (k := 0) hx hb (by decide +kernel) rfl (lv_at hl 0 rfl) ?_
  refine lv_iload_n (k := 1) hx hb (by decide +kernel) rfl (lv_at hl 1 rfl) ?_
  refine lv_iload_n (k := 2) hx hb (by decide +kernel) rfl (lv_at hl 2 rfl) ?_
  exact k
theorem wc_diagnostic : wCatch method_9_code 5 13 15 := by
  intro p l e R s m args below meth c H locs cells slots Q ls lv q hx hb hl k
  exact lv_astore (i := 4) hx hb (by decide +kernel) hl (by decide) rfl (fun ls2 _ => k ls2)
theorem wl_count {a0 : Int32} {x o : Nat} : wLoad method_10_code 4 4 (.ref x :: ([.int a0] ++ [.ref o])) ([.int a0].reverse ++ [.ref x, .int 0, .ref o]) := by
  intro p l e R s m args below meth c H locs cells slots Q ls hx hb hl k
  refine lv_aload_n (k := 2) hx hb (by decide +kernel) rfl (lv_at hl 2 rfl) ?_
  refine lv_iconst (n := 0) (v := 0) hx hb (by decide +kernel) rfl ?_
  refine lv_aload_n (k := 0) hx hb (by decide +kernel) rfl (lv_at hl 0 rfl) ?_
  refine lv_iload_n (k := 1) hx hb (by decide +kernel) rfl (lv_at hl 1 rfl) ?_
  exact k
theorem wc_count : wCatch method_10_code 4 12 13 := by
  intro p l e R s m args below meth c H locs cells slots Q ls lv q hx hb hl k
  exact lv_astore_n (k := 3) hx hb (by decide +kernel) rfl hl (by decide) rfl (fun ls2 _ => k ls2)
section LWC
variable {p : Program} {l : Launch} {e : Env} {R : Room} {s : State} {m : MethodId} {args : Array Value} {below : List Frame} {meth : Method} {c : Code} {H : Heap} {locs : List Loc} {cells slots : Nat} {Q : State → Prop}
variable {dC : Nat → ClassId} {dJ : Nat → Nat → Nat} {dA : Nat → ClassId} {b L : Nat} {xs : Nat → Int32} {S : px_S} {x : Nat} {ls : Array Slot}
set_option maxHeartbeats 4000000 in
theorem law_type (hl : l.stackTraces = false) (Z : lZ dC dJ dA p s m args c b L xs) (hR : lR dC dJ dA s S H locs) (hI : ∃ ty tt hh, lI S x ty tt hh) {j : Nat} (hj : 6 * j + 6 ≤ L) (hL : L ≤ 3072) (hRf : 62 ≤ R.frames) (hRl : 6300 ≤ R.locals) (hRc : cells + 40 ≤ R.cells) (hRs : slots + 806 ≤ R.slots) (hls : lv_has ls 7 (lvL b x (nI (6 * j))))
    (kk : ∀ (S2 : px_S) (H2 : Heap) (locs2 : List Loc) (ls2 : Array Slot), lR dC dJ dA s S2 H2 locs2 → (∃ ty tt hh, lI S2 x ty tt hh) → lv_has ls2 7 (lvL b x (nI (6 * j))) → W p l e R s m args below meth c H2 locs2 (cells + 20) (slots + 403) Q (F0 m 661 ls2 [])) :
    W p l e R s m args below meth c H locs cells slots Q (F0 m 92 ls []) := by
  obtain ⟨⟨hx, hb, hml, -⟩, -, -, hlX⟩ := id Z
  obtain ⟨ty, tt, hh, hI⟩ := hI
  refine lv_aload_n (k := 1) hx hb (by decide +kernel) rfl (lv_at hls 3 rfl) ?_
  refine law_ld Z hR (k := 1) hls (by simp [lvL]) (by simp [lvL]) hj hL (by omega) (by decide +kernel) (by decide +kernel) (by decide +kernel) (by decide +kernel) (by decide +kernel) ?_
  refine law_ld Z hR (k := 2) hls (by simp [lvL]) (by simp [lvL]) hj hL (by omega) (by decide +kernel) (by decide +kernel) (by decide +kernel) (by decide +kernel) (by decide +kernel) ?_
  refine law_ld Z hR (k := 3) hls (by simp [lvL]) (by simp [lvL]) hj hL (by omega) (by decide +kernel) (by decide +kernel) (by decide +kernel) (by decide +kernel) (by decide +kernel) ?_
  refine law_ld Z hR (k := 4) hls (by simp [lvL]) (by simp [lvL]) hj hL (by omega) (by decide +kernel) (by decide +kernel) (by decide +kernel) (by decide +kernel) (by decide +kernel) ?_
  refine law_ld Z hR (k := 5) hls (by simp [lvL]) (by simp [lvL]) hj hL (by omega) (by decide +kernel) (by decide +kernel) (by decide +kernel) (by decide +kernel) (by decide +kernel) ?_
  refine lv_aload_n (k := 3) hx hb (by decide +kernel) rfl (lv_at hls 1 rfl) ?_
  refine law_wrap hl Z hR hI (As := [.int (xs (6 * j + 1)), .int (xs (6 * j + 2)), .int (xs (6 * j + 3)), .int (xs (6 * j + 4)), .int (xs (6 * j + 5))]) (cs_type hI (xs (6 * j + 1)) (xs (6 * j + 2)) (xs (6 * j + 3)) (xs (6 * j + 4)) (xs (6 * j + 5))) (y := ⟨"CheckDaemonLaw", "type", "(LCheckDaemon;IIIII[J)I"⟩) (cc := method_3_code) (nL := 8) (ix := 7) (pI := 11) (pE := 23) (pT := 21) (ct := 13) (idx := 46) (n := 5) (is := 37) (ik := 35) (ic := 39) (off := 7) (X := xIS) (text := "the line would be too long") ⟨by decide +kernel, rfl⟩ ⟨by decide, by decide, by decide +kernel⟩ wl_type (Nat.le_of_ble_eq_true rfl) (by decide) wc_type ok_d_type rfl rfl (by decide +kernel) (by decide) (by decide) (by decide +kernel) (by decide +kernel) (by decide +kernel) (by decide +kernel) (by decide) (by decide +kernel) (by decide +kernel) (by decide +kernel) (by decide +kernel) (Nat.le_of_ble_eq_true rfl) rfl (by decide +kernel) (by decide +kernel) (Or.inl rfl) xl_IS xg_IS xb_IS xo_IS (by decide +kernel) (by decide +kernel) (by decide +kernel) (by decide +kernel) (by decide +kernel) (hlX.2.1 (37, "the line would be too long") (by simp)) hRf hRl (by omega) (by omega) (by decide +kernel) hls.1 (fun k S2 H2 locs2 hR2 hJ => ?_)
  refine lv_istore (i := 5) (lv' := (5, .int k) :: lvL b x (nI (6 * j))) hx hb (by decide +kernel) hls (by decide) rfl (fun ls2 hls2 => ?_)
  refine lv_aload_n (k := 2) hx hb (by decide +kernel) rfl (lv_at hls2 3 rfl) ?_
  refine law_ld Z hR2 (k := 1) hls2 (by simp [lvL]) (by simp [lvL]) hj hL (by omega) (by decide +kernel) (by decide +kernel) (by decide +kernel) (by decide +kernel) (by decide +kernel) ?_
  refine law_ld Z hR2 (k := 2) hls2 (by simp [lvL]) (by simp [lvL]) hj hL (by omega) (by decide +kernel) (by decide +kernel) (by decide +kernel) (by decide +kernel) (by decide +kernel) ?_
  refine law_ld Z hR2 (k := 3) hls2 (by simp [lvL]) (by simp [lvL]) hj hL (by omega) (by decide +kernel) (by decide +kernel) (by decide +kernel) (by decide +kernel) (by decide +kernel) ?_
  refine law_ld Z hR2 (k := 4) hls2 (by simp [lvL]) (by simp [lvL]) hj hL (by omega) (by decide +kernel) (by decide +kernel) (by decide +kernel) (by decide +kernel) (by decide +kernel) ?_
  refine law_ld Z hR2 (k := 5) hls2 (by simp [lvL]) (by simp [lvL]) hj hL (by omega) (by decide +kernel) (by decide +kernel) (by decide +kernel) (by decide +kernel) (by decide +kernel) ?_
  refine law_model (As := [.int (xs (6 * j + 1)), .int (xs (6 * j + 2)), .int (xs (6 * j + 3)), .int (xs (6 * j + 4)), .int (xs (6 * j + 5))]) Z hR2 hJ ok_m_type rfl rfl (ix := 51) (lk_law _ (by simp)) hRf hRl (by omega) (by omega) hls2.1 (by decide +kernel) (fun w S3 H3 locs3 hR3 hmf hI3 hkw => ?_)
  refine lv_istore (i := 6) (lv' := (6, .int w) :: (5, .int k) :: lvL b x (nI (6 * j))) hx hb (by decide +kernel) hls2 (by decide) rfl (fun ls3 hls3 => ?_)
  refine law_tail Z hR3 hmf hI3 hkw ok_Model_thrown (lk_law _ (by simp)) hRf hRl (by omega) (by omega) hls3 (by decide +kernel) (by decide +kernel) (by decide +kernel) (by decide +kernel) (by decide +kernel) (by decide +kernel) (by decide +kernel) (by decide +kernel) (by decide +kernel) (by decide +kernel) (by decide +kernel) (by decide +kernel) (by decide +kernel) (off := 468) (by decide +kernel) (by decide) (fun H4 locs4 hR4 => ?_)
  exact kk S3 H4 locs4 ls3 hR4 hI3 (lv_sub hls3 [2, 3, 4, 5, 6] rfl)
set_option maxHeartbeats 4000000 in
theorem law_put (hl : l.stackTraces = false) (Z : lZ dC dJ dA p s m args c b L xs) (hR : lR dC dJ dA s S H locs) (hI : ∃ ty tt hh, lI S x ty tt hh) {j : Nat} (hj : 6 * j + 6 ≤ L) (hL : L ≤ 3072) (hRf : 62 ≤ R.frames) (hRl : 6300 ≤ R.locals) (hRc : cells + 40 ≤ R.cells) (hRs : slots + 806 ≤ R.slots) (hls : lv_has ls 7 (lvL b x (nI (6 * j))))
    (kk : ∀ (S2 : px_S) (H2 : Heap) (locs2 : List Loc) (ls2 : Array Slot), lR dC dJ dA s S2 H2 locs2 → (∃ ty tt hh, lI S2 x ty tt hh) → lv_has ls2 7 (lvL b x (nI (6 * j))) → W p l e R s m args below meth c H2 locs2 (cells + 20) (slots + 403) Q (F0 m 661 ls2 [])) :
    W p l e R s m args below meth c H locs cells slots Q (F0 m 209 ls []) := by
  obtain ⟨⟨hx, hb, hml, -⟩, -, -, hlX⟩ := id Z
  obtain ⟨ty, tt, hh, hI⟩ := hI
  refine lv_aload_n (k := 1) hx hb (by decide +kernel) rfl (lv_at hls 3 rfl) ?_
  refine law_ld Z hR (k := 1) hls (by simp [lvL]) (by simp [lvL]) hj hL (by omega) (by decide +kernel) (by decide +kernel) (by decide +kernel) (by decide +kernel) (by decide +kernel) ?_
  refine law_ld Z hR (k := 2) hls (by simp [lvL]) (by simp [lvL]) hj hL (by omega) (by decide +kernel) (by decide +kernel) (by decide +kernel) (by decide +kernel) (by decide +kernel) ?_
  refine lv_aload_n (k := 3) hx hb (by decide +kernel) rfl (lv_at hls 1 rfl) ?_
  refine law_wrap hl Z hR hI (As := [.int (xs (6 * j + 1)), .int (xs (6 * j + 2))]) (cs_put hI (xs (6 * j + 1)) (xs (6 * j + 2))) (y := ⟨"CheckDaemonLaw", "put", "(LCheckDaemon;II[J)I"⟩) (cc := method_4_code) (nL := 5) (ix := 15) (pI := 5) (pE := 17) (pT := 15) (ct := 19) (idx := 59) (n := 2) (is := 52) (ik := 50) (ic := 54) (off := 7) (X := xIA) (text := "no such place") ⟨by decide +kernel, rfl⟩ ⟨by decide, by decide, by decide +kernel⟩ wl_put (Nat.le_of_ble_eq_true rfl) (by decide) wc_put ok_d_put rfl rfl (by decide +kernel) (by decide) (by decide) (by decide +kernel) (by decide +kernel) (by decide +kernel) (by decide +kernel) (by decide) (by decide +kernel) (by decide +kernel) (by decide +kernel) (by decide +kernel) (Nat.le_of_ble_eq_true rfl) rfl (by decide +kernel) (by decide +kernel) (Or.inr rfl) xl_IA xg_IA xb_IA xo_IA (by decide +kernel) (by decide +kernel) (by decide +kernel) (by decide +kernel) (by decide +kernel) (hlX.2.1 (52, "no such place") (by simp)) hRf hRl (by omega) (by omega) (by decide +kernel) hls.1 (fun k S2 H2 locs2 hR2 hJ => ?_)
  refine lv_istore (i := 5) (lv' := (5, .int k) :: lvL b x (nI (6 * j))) hx hb (by decide +kernel) hls (by decide) rfl (fun ls2 hls2 => ?_)
  refine lv_aload_n (k := 2) hx hb (by decide +kernel) rfl (lv_at hls2 3 rfl) ?_
  refine law_ld Z hR2 (k := 1) hls2 (by simp [lvL]) (by simp [lvL]) hj hL (by omega) (by decide +kernel) (by decide +kernel) (by decide +kernel) (by decide +kernel) (by decide +kernel) ?_
  refine law_ld Z hR2 (k := 2) hls2 (by simp [lvL]) (by simp [lvL]) hj hL (by omega) (by decide +kernel) (by decide +kernel) (by decide +kernel) (by decide +kernel) (by decide +kernel) ?_
  refine law_model (As := [.int (xs (6 * j + 1)), .int (xs (6 * j + 2))]) Z hR2 hJ ok_m_put rfl rfl (ix := 62) (lk_law _ (by simp)) hRf hRl (by omega) (by omega) hls2.1 (by decide +kernel) (fun w S3 H3 locs3 hR3 hmf hI3 hkw => ?_)
  refine lv_istore (i := 6) (lv' := (6, .int w) :: (5, .int k) :: lvL b x (nI (6 * j))) hx hb (by decide +kernel) hls2 (by decide) rfl (fun ls3 hls3 => ?_)
  refine law_tail Z hR3 hmf hI3 hkw ok_Model_thrown (lk_law _ (by simp)) hRf hRl (by omega) (by omega) hls3 (by decide +kernel) (by decide +kernel) (by decide +kernel) (by decide +kernel) (by decide +kernel) (by decide +kernel) (by decide +kernel) (by decide +kernel) (by decide +kernel) (by decide +kernel) (by decide +kernel) (by decide +kernel) (by decide +kernel) (off := 387) (by decide +kernel) (by decide) (fun H4 locs4 hR4 => ?_)
  exact kk S3 H4 locs4 ls3 hR4 hI3 (lv_sub hls3 [2, 3, 4, 5, 6] rfl)
set_option maxHeartbeats 4000000 in
theorem law_drop (hl : l.stackTraces = false) (Z : lZ dC dJ dA p s m args c b L xs) (hR : lR dC dJ dA s S H locs) (hI : ∃ ty tt hh, lI S x ty tt hh) {j : Nat} (hj : 6 * j + 6 ≤ L) (hL : L ≤ 3072) (hRf : 62 ≤ R.frames) (hRl : 6300 ≤ R.locals) (hRc : cells + 40 ≤ R.cells) (hRs : slots + 806 ≤ R.slots) (hls : lv_has ls 7 (lvL b x (nI (6 * j))))
    (kk : ∀ (S2 : px_S) (H2 : Heap) (locs2 : List Loc) (ls2 : Array Slot), lR dC dJ dA s S2 H2 locs2 → (∃ ty tt hh, lI S2 x ty tt hh) → lv_has ls2 7 (lvL b x (nI (6 * j))) → W p l e R s m args below meth c H2 locs2 (cells + 20) (slots + 403) Q (F0 m 661 ls2 [])) :
    W p l e R s m args below meth c H locs cells slots Q (F0 m 277 ls []) := by
  obtain ⟨⟨hx, hb, hml, -⟩, -, -, hlX⟩ := id Z
  obtain ⟨ty, tt, hh, hI⟩ := hI
  refine lv_aload_n (k := 1) hx hb (by decide +kernel) rfl (lv_at hls 3 rfl) ?_
  refine law_ld Z hR (k := 1) hls (by simp [lvL]) (by simp [lvL]) hj hL (by omega) (by decide +kernel) (by decide +kernel) (by decide +kernel) (by decide +kernel) (by decide +kernel) ?_
  refine lv_aload_n (k := 3) hx hb (by decide +kernel) rfl (lv_at hls 1 rfl) ?_
  refine law_wrap hl Z hR hI (As := [.int (xs (6 * j + 1))]) (cs_drop hI (xs (6 * j + 1))) (y := ⟨"CheckDaemonLaw", "drop", "(LCheckDaemon;I[J)I"⟩) (cc := method_5_code) (nL := 4) (ix := 21) (pI := 4) (pE := 15) (pT := 13) (ct := 19) (idx := 63) (n := 1) (is := 80) (ik := 50) (ic := 54) (off := 6) (X := xIA) (text := "no such module") ⟨by decide +kernel, rfl⟩ ⟨by decide, by decide, by decide +kernel⟩ wl_drop (Nat.le_of_ble_eq_true rfl) (by decide) wc_drop ok_d_drop rfl rfl (by decide +kernel) (by decide) (by decide) (by decide +kernel) (by decide +kernel) (by decide +kernel) (by decide +kernel) (by decide) (by decide +kernel) (by decide +kernel) (by decide +kernel) (by decide +kernel) (Nat.le_of_ble_eq_true rfl) rfl (by decide +kernel) (by decide +kernel) (Or.inr rfl) xl_IA xg_IA xb_IA xo_IA (by decide +kernel) (by decide +kernel) (by decide +kernel) (by decide +kernel) (by decide +kernel) (hlX.2.1 (80, "no such module") (by simp)) hRf hRl (by omega) (by omega) (by decide +kernel) hls.1 (fun k S2 H2 locs2 hR2 hJ => ?_)
  refine lv_istore (i := 5) (lv' := (5, .int k) :: lvL b x (nI (6 * j))) hx hb (by decide +kernel) hls (by decide) rfl (fun ls2 hls2 => ?_)
  refine lv_aload_n (k := 2) hx hb (by decide +kernel) rfl (lv_at hls2 3 rfl) ?_
  refine law_ld Z hR2 (k := 1) hls2 (by simp [lvL]) (by simp [lvL]) hj hL (by omega) (by decide +kernel) (by decide +kernel) (by decide +kernel) (by decide +kernel) (by decide +kernel) ?_
  refine law_model (As := [.int (xs (6 * j + 1))]) Z hR2 hJ ok_m_drop rfl rfl (ix := 66) (lk_law _ (by simp)) hRf hRl (by omega) (by omega) hls2.1 (by decide +kernel) (fun w S3 H3 locs3 hR3 hmf hI3 hkw => ?_)
  refine lv_istore (i := 6) (lv' := (6, .int w) :: (5, .int k) :: lvL b x (nI (6 * j))) hx hb (by decide +kernel) hls2 (by decide) rfl (fun ls3 hls3 => ?_)
  refine law_tail Z hR3 hmf hI3 hkw ok_Model_thrown (lk_law _ (by simp)) hRf hRl (by omega) (by omega) hls3 (by decide +kernel) (by decide +kernel) (by decide +kernel) (by decide +kernel) (by decide +kernel) (by decide +kernel) (by decide +kernel) (by decide +kernel) (by decide +kernel) (by decide +kernel) (by decide +kernel) (by decide +kernel) (by decide +kernel) (off := 331) (by decide +kernel) (by decide) (fun H4 locs4 hR4 => ?_)
  exact kk S3 H4 locs4 ls3 hR4 hI3 (lv_sub hls3 [2, 3, 4, 5, 6] rfl)
set_option maxHeartbeats 4000000 in
theorem law_undo (hl : l.stackTraces = false) (Z : lZ dC dJ dA p s m args c b L xs) (hR : lR dC dJ dA s S H locs) (hI : ∃ ty tt hh, lI S x ty tt hh) {j : Nat} (hj : 6 * j + 6 ≤ L) (hL : L ≤ 3072) (hRf : 62 ≤ R.frames) (hRl : 6300 ≤ R.locals) (hRc : cells + 40 ≤ R.cells) (hRs : slots + 806 ≤ R.slots) (hls : lv_has ls 7 (lvL b x (nI (6 * j))))
    (kk : ∀ (S2 : px_S) (H2 : Heap) (locs2 : List Loc) (ls2 : Array Slot), lR dC dJ dA s S2 H2 locs2 → (∃ ty tt hh, lI S2 x ty tt hh) → lv_has ls2 7 (lvL b x (nI (6 * j))) → W p l e R s m args below meth c H2 locs2 (cells + 20) (slots + 403) Q (F0 m 661 ls2 [])) :
    W p l e R s m args below meth c H locs cells slots Q (F0 m 333 ls []) := by
  obtain ⟨⟨hx, hb, hml, -⟩, -, -, hlX⟩ := id Z
  obtain ⟨ty, tt, hh, hI⟩ := hI
  refine lv_aload_n (k := 1) hx hb (by decide +kernel) rfl (lv_at hls 3 rfl) ?_
  refine lv_aload_n (k := 3) hx hb (by decide +kernel) rfl (lv_at hls 1 rfl) ?_
  refine law_wrap hl Z hR hI (As := []) (cs_undo hI ) (y := ⟨"CheckDaemonLaw", "undo", "(LCheckDaemon;[J)I"⟩) (cc := method_6_code) (nL := 3) (ix := 25) (pI := 3) (pE := 14) (pT := 12) (ct := 13) (idx := 67) (n := 0) (is := 89) (ik := 35) (ic := 39) (off := 6) (X := xIS) (text := "nothing to undo") ⟨by decide +kernel, rfl⟩ ⟨by decide, by decide, by decide +kernel⟩ wl_undo (Nat.le_of_ble_eq_true rfl) (by decide) wc_undo ok_d_undo rfl rfl (by decide +kernel) (by decide) (by decide) (by decide +kernel) (by decide +kernel) (by decide +kernel) (by decide +kernel) (by decide) (by decide +kernel) (by decide +kernel) (by decide +kernel) (by decide +kernel) (Nat.le_of_ble_eq_true rfl) rfl (by decide +kernel) (by decide +kernel) (Or.inl rfl) xl_IS xg_IS xb_IS xo_IS (by decide +kernel) (by decide +kernel) (by decide +kernel) (by decide +kernel) (by decide +kernel) (hlX.2.1 (89, "nothing to undo") (by simp)) hRf hRl (by omega) (by omega) (by decide +kernel) hls.1 (fun k S2 H2 locs2 hR2 hJ => ?_)
  refine lv_istore (i := 5) (lv' := (5, .int k) :: lvL b x (nI (6 * j))) hx hb (by decide +kernel) hls (by decide) rfl (fun ls2 hls2 => ?_)
  refine lv_aload_n (k := 2) hx hb (by decide +kernel) rfl (lv_at hls2 3 rfl) ?_
  refine law_model (As := []) Z hR2 hJ ok_m_undo rfl rfl (ix := 70) (lk_law _ (by simp)) hRf hRl (by omega) (by omega) hls2.1 (by decide +kernel) (fun w S3 H3 locs3 hR3 hmf hI3 hkw => ?_)
  refine lv_istore (i := 6) (lv' := (6, .int w) :: (5, .int k) :: lvL b x (nI (6 * j))) hx hb (by decide +kernel) hls2 (by decide) rfl (fun ls3 hls3 => ?_)
  refine law_tail Z hR3 hmf hI3 hkw ok_Model_thrown (lk_law _ (by simp)) hRf hRl (by omega) (by omega) hls3 (by decide +kernel) (by decide +kernel) (by decide +kernel) (by decide +kernel) (by decide +kernel) (by decide +kernel) (by decide +kernel) (by decide +kernel) (by decide +kernel) (by decide +kernel) (by decide +kernel) (by decide +kernel) (by decide +kernel) (off := 287) (by decide +kernel) (by decide) (fun H4 locs4 hR4 => ?_)
  exact kk S3 H4 locs4 ls3 hR4 hI3 (lv_sub hls3 [2, 3, 4, 5, 6] rfl)
set_option maxHeartbeats 4000000 in
theorem law_symbol (hl : l.stackTraces = false) (Z : lZ dC dJ dA p s m args c b L xs) (hR : lR dC dJ dA s S H locs) (hI : ∃ ty tt hh, lI S x ty tt hh) {j : Nat} (hj : 6 * j + 6 ≤ L) (hL : L ≤ 3072) (hRf : 62 ≤ R.frames) (hRl : 6300 ≤ R.locals) (hRc : cells + 40 ≤ R.cells) (hRs : slots + 806 ≤ R.slots) (hls : lv_has ls 7 (lvL b x (nI (6 * j))))
    (kk : ∀ (S2 : px_S) (H2 : Heap) (locs2 : List Loc) (ls2 : Array Slot), lR dC dJ dA s S2 H2 locs2 → (∃ ty tt hh, lI S2 x ty tt hh) → lv_has ls2 7 (lvL b x (nI (6 * j))) → W p l e R s m args below meth c H2 locs2 (cells + 20) (slots + 403) Q (F0 m 661 ls2 [])) :
    W p l e R s m args below meth c H locs cells slots Q (F0 m 377 ls []) := by
  obtain ⟨⟨hx, hb, hml, -⟩, -, -, hlX⟩ := id Z
  obtain ⟨ty, tt, hh, hI⟩ := hI
  refine lv_aload_n (k := 1) hx hb (by decide +kernel) rfl (lv_at hls 3 rfl) ?_
  refine law_ld Z hR (k := 1) hls (by simp [lvL]) (by simp [lvL]) hj hL (by omega) (by decide +kernel) (by decide +kernel) (by decide +kernel) (by decide +kernel) (by decide +kernel) ?_
  refine law_ld Z hR (k := 2) hls (by simp [lvL]) (by simp [lvL]) hj hL (by omega) (by decide +kernel) (by decide +kernel) (by decide +kernel) (by decide +kernel) (by decide +kernel) ?_
  refine law_ld Z hR (k := 3) hls (by simp [lvL]) (by simp [lvL]) hj hL (by omega) (by decide +kernel) (by decide +kernel) (by decide +kernel) (by decide +kernel) (by decide +kernel) ?_
  refine lv_aload_n (k := 3) hx hb (by decide +kernel) rfl (lv_at hls 1 rfl) ?_
  refine law_wrap hl Z hR hI (As := [.int (xs (6 * j + 1)), .int (xs (6 * j + 2)), .int (xs (6 * j + 3))]) (cs_symbol hI (xs (6 * j + 1)) (xs (6 * j + 2)) (xs (6 * j + 3))) (y := ⟨"CheckDaemonLaw", "symbol", "(LCheckDaemon;III[J)I"⟩) (cc := method_7_code) (nL := 6) (ix := 29) (pI := 7) (pE := 19) (pT := 17) (ct := 19) (idx := 71) (n := 3) (is := 100) (ik := 50) (ic := 54) (off := 7) (X := xIA) (text := "no such symbol or question") ⟨by decide +kernel, rfl⟩ ⟨by decide, by decide, by decide +kernel⟩ wl_symbol (Nat.le_of_ble_eq_true rfl) (by decide) wc_symbol ok_d_symbol rfl rfl (by decide +kernel) (by decide) (by decide) (by decide +kernel) (by decide +kernel) (by decide +kernel) (by decide +kernel) (by decide) (by decide +kernel) (by decide +kernel) (by decide +kernel) (by decide +kernel) (Nat.le_of_ble_eq_true rfl) rfl (by decide +kernel) (by decide +kernel) (Or.inr rfl) xl_IA xg_IA xb_IA xo_IA (by decide +kernel) (by decide +kernel) (by decide +kernel) (by decide +kernel) (by decide +kernel) (hlX.2.1 (100, "no such symbol or question") (by simp)) hRf hRl (by omega) (by omega) (by decide +kernel) hls.1 (fun k S2 H2 locs2 hR2 hJ => ?_)
  refine lv_istore (i := 5) (lv' := (5, .int k) :: lvL b x (nI (6 * j))) hx hb (by decide +kernel) hls (by decide) rfl (fun ls2 hls2 => ?_)
  refine lv_aload_n (k := 2) hx hb (by decide +kernel) rfl (lv_at hls2 3 rfl) ?_
  refine law_ld Z hR2 (k := 1) hls2 (by simp [lvL]) (by simp [lvL]) hj hL (by omega) (by decide +kernel) (by decide +kernel) (by decide +kernel) (by decide +kernel) (by decide +kernel) ?_
  refine law_ld Z hR2 (k := 2) hls2 (by simp [lvL]) (by simp [lvL]) hj hL (by omega) (by decide +kernel) (by decide +kernel) (by decide +kernel) (by decide +kernel) (by decide +kernel) ?_
  refine law_ld Z hR2 (k := 3) hls2 (by simp [lvL]) (by simp [lvL]) hj hL (by omega) (by decide +kernel) (by decide +kernel) (by decide +kernel) (by decide +kernel) (by decide +kernel) ?_
  refine law_model (As := [.int (xs (6 * j + 1)), .int (xs (6 * j + 2)), .int (xs (6 * j + 3))]) Z hR2 hJ ok_m_symbol rfl rfl (ix := 74) (lk_law _ (by simp)) hRf hRl (by omega) (by omega) hls2.1 (by decide +kernel) (fun w S3 H3 locs3 hR3 hmf hI3 hkw => ?_)
  refine lv_istore (i := 6) (lv' := (6, .int w) :: (5, .int k) :: lvL b x (nI (6 * j))) hx hb (by decide +kernel) hls2 (by decide) rfl (fun ls3 hls3 => ?_)
  refine law_tail Z hR3 hmf hI3 hkw ok_Model_thrown (lk_law _ (by simp)) hRf hRl (by omega) (by omega) hls3 (by decide +kernel) (by decide +kernel) (by decide +kernel) (by decide +kernel) (by decide +kernel) (by decide +kernel) (by decide +kernel) (by decide +kernel) (by decide +kernel) (by decide +kernel) (by decide +kernel) (by decide +kernel) (by decide +kernel) (off := 207) (by decide +kernel) (by decide) (fun H4 locs4 hR4 => ?_)
  exact kk S3 H4 locs4 ls3 hR4 hI3 (lv_sub hls3 [2, 3, 4, 5, 6] rfl)
set_option maxHeartbeats 4000000 in
theorem law_line (hl : l.stackTraces = false) (Z : lZ dC dJ dA p s m args c b L xs) (hR : lR dC dJ dA s S H locs) (hI : ∃ ty tt hh, lI S x ty tt hh) {j : Nat} (hj : 6 * j + 6 ≤ L) (hL : L ≤ 3072) (hRf : 62 ≤ R.frames) (hRl : 6300 ≤ R.locals) (hRc : cells + 40 ≤ R.cells) (hRs : slots + 806 ≤ R.slots) (hls : lv_has ls 7 (lvL b x (nI (6 * j))))
    (kk : ∀ (S2 : px_S) (H2 : Heap) (locs2 : List Loc) (ls2 : Array Slot), lR dC dJ dA s S2 H2 locs2 → (∃ ty tt hh, lI S2 x ty tt hh) → lv_has ls2 7 (lvL b x (nI (6 * j))) → W p l e R s m args below meth c H2 locs2 (cells + 20) (slots + 403) Q (F0 m 661 ls2 [])) :
    W p l e R s m args below meth c H locs cells slots Q (F0 m 457 ls []) := by
  obtain ⟨⟨hx, hb, hml, -⟩, -, -, hlX⟩ := id Z
  obtain ⟨ty, tt, hh, hI⟩ := hI
  refine lv_aload_n (k := 1) hx hb (by decide +kernel) rfl (lv_at hls 3 rfl) ?_
  refine law_ld Z hR (k := 1) hls (by simp [lvL]) (by simp [lvL]) hj hL (by omega) (by decide +kernel) (by decide +kernel) (by decide +kernel) (by decide +kernel) (by decide +kernel) ?_
  refine law_ld Z hR (k := 2) hls (by simp [lvL]) (by simp [lvL]) hj hL (by omega) (by decide +kernel) (by decide +kernel) (by decide +kernel) (by decide +kernel) (by decide +kernel) ?_
  refine law_ld Z hR (k := 3) hls (by simp [lvL]) (by simp [lvL]) hj hL (by omega) (by decide +kernel) (by decide +kernel) (by decide +kernel) (by decide +kernel) (by decide +kernel) ?_
  refine lv_aload_n (k := 3) hx hb (by decide +kernel) rfl (lv_at hls 1 rfl) ?_
  refine law_wrap hl Z hR hI (As := [.int (xs (6 * j + 1)), .int (xs (6 * j + 2)), .int (xs (6 * j + 3))]) (cs_line hI (xs (6 * j + 1)) (xs (6 * j + 2)) (xs (6 * j + 3))) (y := ⟨"CheckDaemonLaw", "line", "(LCheckDaemon;III[J)I"⟩) (cc := method_8_code) (nL := 6) (ix := 33) (pI := 7) (pE := 19) (pT := 17) (ct := 19) (idx := 75) (n := 3) (is := 106) (ik := 50) (ic := 54) (off := 7) (X := xIA) (text := "no such place or question") ⟨by decide +kernel, rfl⟩ ⟨by decide, by decide, by decide +kernel⟩ wl_line (Nat.le_of_ble_eq_true rfl) (by decide) wc_line ok_d_line rfl rfl (by decide +kernel) (by decide) (by decide) (by decide +kernel) (by decide +kernel) (by decide +kernel) (by decide +kernel) (by decide) (by decide +kernel) (by decide +kernel) (by decide +kernel) (by decide +kernel) (Nat.le_of_ble_eq_true rfl) rfl (by decide +kernel) (by decide +kernel) (Or.inr rfl) xl_IA xg_IA xb_IA xo_IA (by decide +kernel) (by decide +kernel) (by decide +kernel) (by decide +kernel) (by decide +kernel) (hlX.2.1 (106, "no such place or question") (by simp)) hRf hRl (by omega) (by omega) (by decide +kernel) hls.1 (fun k S2 H2 locs2 hR2 hJ => ?_)
  refine lv_istore (i := 5) (lv' := (5, .int k) :: lvL b x (nI (6 * j))) hx hb (by decide +kernel) hls (by decide) rfl (fun ls2 hls2 => ?_)
  refine lv_aload_n (k := 2) hx hb (by decide +kernel) rfl (lv_at hls2 3 rfl) ?_
  refine law_ld Z hR2 (k := 1) hls2 (by simp [lvL]) (by simp [lvL]) hj hL (by omega) (by decide +kernel) (by decide +kernel) (by decide +kernel) (by decide +kernel) (by decide +kernel) ?_
  refine law_ld Z hR2 (k := 2) hls2 (by simp [lvL]) (by simp [lvL]) hj hL (by omega) (by decide +kernel) (by decide +kernel) (by decide +kernel) (by decide +kernel) (by decide +kernel) ?_
  refine law_ld Z hR2 (k := 3) hls2 (by simp [lvL]) (by simp [lvL]) hj hL (by omega) (by decide +kernel) (by decide +kernel) (by decide +kernel) (by decide +kernel) (by decide +kernel) ?_
  refine law_model (As := [.int (xs (6 * j + 1)), .int (xs (6 * j + 2)), .int (xs (6 * j + 3))]) Z hR2 hJ ok_m_line rfl rfl (ix := 77) (lk_law _ (by simp)) hRf hRl (by omega) (by omega) hls2.1 (by decide +kernel) (fun w S3 H3 locs3 hR3 hmf hI3 hkw => ?_)
  refine lv_istore (i := 6) (lv' := (6, .int w) :: (5, .int k) :: lvL b x (nI (6 * j))) hx hb (by decide +kernel) hls2 (by decide) rfl (fun ls3 hls3 => ?_)
  refine law_tail Z hR3 hmf hI3 hkw ok_Model_thrown (lk_law _ (by simp)) hRf hRl (by omega) (by omega) hls3 (by decide +kernel) (by decide +kernel) (by decide +kernel) (by decide +kernel) (by decide +kernel) (by decide +kernel) (by decide +kernel) (by decide +kernel) (by decide +kernel) (by decide +kernel) (by decide +kernel) (by decide +kernel) (by decide +kernel) (off := 127) (by decide +kernel) (by decide) (fun H4 locs4 hR4 => ?_)
  exact kk S3 H4 locs4 ls3 hR4 hI3 (lv_sub hls3 [2, 3, 4, 5, 6] rfl)
set_option maxHeartbeats 4000000 in
theorem law_diagnostic (hl : l.stackTraces = false) (Z : lZ dC dJ dA p s m args c b L xs) (hR : lR dC dJ dA s S H locs) (hI : ∃ ty tt hh, lI S x ty tt hh) {j : Nat} (hj : 6 * j + 6 ≤ L) (hL : L ≤ 3072) (hRf : 62 ≤ R.frames) (hRl : 6300 ≤ R.locals) (hRc : cells + 40 ≤ R.cells) (hRs : slots + 806 ≤ R.slots) (hls : lv_has ls 7 (lvL b x (nI (6 * j))))
    (kk : ∀ (S2 : px_S) (H2 : Heap) (locs2 : List Loc) (ls2 : Array Slot), lR dC dJ dA s S2 H2 locs2 → (∃ ty tt hh, lI S2 x ty tt hh) → lv_has ls2 7 (lvL b x (nI (6 * j))) → W p l e R s m args below meth c H2 locs2 (cells + 20) (slots + 403) Q (F0 m 661 ls2 [])) :
    W p l e R s m args below meth c H locs cells slots Q (F0 m 537 ls []) := by
  obtain ⟨⟨hx, hb, hml, -⟩, -, -, hlX⟩ := id Z
  obtain ⟨ty, tt, hh, hI⟩ := hI
  refine lv_aload_n (k := 1) hx hb (by decide +kernel) rfl (lv_at hls 3 rfl) ?_
  refine law_ld Z hR (k := 1) hls (by simp [lvL]) (by simp [lvL]) hj hL (by omega) (by decide +kernel) (by decide +kernel) (by decide +kernel) (by decide +kernel) (by decide +kernel) ?_
  refine law_ld Z hR (k := 2) hls (by simp [lvL]) (by simp [lvL]) hj hL (by omega) (by decide +kernel) (by decide +kernel) (by decide +kernel) (by decide +kernel) (by decide +kernel) ?_
  refine lv_aload_n (k := 3) hx hb (by decide +kernel) rfl (lv_at hls 1 rfl) ?_
  refine law_wrap hl Z hR hI (As := [.int (xs (6 * j + 1)), .int (xs (6 * j + 2))]) (cs_diag hI (xs (6 * j + 1)) (xs (6 * j + 2))) (y := ⟨"CheckDaemonLaw", "diagnostic", "(LCheckDaemon;II[J)I"⟩) (cc := method_9_code) (nL := 5) (ix := 36) (pI := 5) (pE := 17) (pT := 15) (ct := 19) (idx := 78) (n := 2) (is := 113) (ik := 50) (ic := 54) (off := 7) (X := xIA) (text := "no such question") ⟨by decide +kernel, rfl⟩ ⟨by decide, by decide, by decide +kernel⟩ wl_diagnostic (Nat.le_of_ble_eq_true rfl) (by decide) wc_diagnostic ok_d_diagnostic rfl rfl (by decide +kernel) (by decide) (by decide) (by decide +kernel) (by decide +kernel) (by decide +kernel) (by decide +kernel) (by decide) (by decide +kernel) (by decide +kernel) (by decide +kernel) (by decide +kernel) (Nat.le_of_ble_eq_true rfl) rfl (by decide +kernel) (by decide +kernel) (Or.inr rfl) xl_IA xg_IA xb_IA xo_IA (by decide +kernel) (by decide +kernel) (by decide +kernel) (by decide +kernel) (by decide +kernel) (hlX.2.1 (113, "no such question") (by simp)) hRf hRl (by omega) (by omega) (by decide +kernel) hls.1 (fun k S2 H2 locs2 hR2 hJ => ?_)
  refine lv_istore (i := 5) (lv' := (5, .int k) :: lvL b x (nI (6 * j))) hx hb (by decide +kernel) hls (by decide) rfl (fun ls2 hls2 => ?_)
  refine lv_aload_n (k := 2) hx hb (by decide +kernel) rfl (lv_at hls2 3 rfl) ?_
  refine law_ld Z hR2 (k := 1) hls2 (by simp [lvL]) (by simp [lvL]) hj hL (by omega) (by decide +kernel) (by decide +kernel) (by decide +kernel) (by decide +kernel) (by decide +kernel) ?_
  refine law_ld Z hR2 (k := 2) hls2 (by simp [lvL]) (by simp [lvL]) hj hL (by omega) (by decide +kernel) (by decide +kernel) (by decide +kernel) (by decide +kernel) (by decide +kernel) ?_
  refine law_model (As := [.int (xs (6 * j + 1)), .int (xs (6 * j + 2))]) Z hR2 hJ ok_m_diagnostic rfl rfl (ix := 80) (lk_law _ (by simp)) hRf hRl (by omega) (by omega) hls2.1 (by decide +kernel) (fun w S3 H3 locs3 hR3 hmf hI3 hkw => ?_)
  refine lv_istore (i := 6) (lv' := (6, .int w) :: (5, .int k) :: lvL b x (nI (6 * j))) hx hb (by decide +kernel) hls2 (by decide) rfl (fun ls3 hls3 => ?_)
  refine law_tail Z hR3 hmf hI3 hkw ok_Model_thrown (lk_law _ (by simp)) hRf hRl (by omega) (by omega) hls3 (by decide +kernel) (by decide +kernel) (by decide +kernel) (by decide +kernel) (by decide +kernel) (by decide +kernel) (by decide +kernel) (by decide +kernel) (by decide +kernel) (by decide +kernel) (by decide +kernel) (by decide +kernel) (by decide +kernel) (off := 59) (by decide +kernel) (by decide) (fun H4 locs4 hR4 => ?_)
  exact kk S3 H4 locs4 ls3 hR4 hI3 (lv_sub hls3 [2, 3, 4, 5, 6] rfl)
set_option maxHeartbeats 4000000 in
theorem law_count (hl : l.stackTraces = false) (Z : lZ dC dJ dA p s m args c b L xs) (hR : lR dC dJ dA s S H locs) (hI : ∃ ty tt hh, lI S x ty tt hh) {j : Nat} (hj : 6 * j + 6 ≤ L) (hL : L ≤ 3072) (hRf : 62 ≤ R.frames) (hRl : 6300 ≤ R.locals) (hRc : cells + 40 ≤ R.cells) (hRs : slots + 806 ≤ R.slots) (hls : lv_has ls 7 (lvL b x (nI (6 * j))))
    (kk : ∀ (S2 : px_S) (H2 : Heap) (locs2 : List Loc) (ls2 : Array Slot), lR dC dJ dA s S2 H2 locs2 → (∃ ty tt hh, lI S2 x ty tt hh) → lv_has ls2 7 (lvL b x (nI (6 * j))) → W p l e R s m args below meth c H2 locs2 (cells + 20) (slots + 403) Q (F0 m 661 ls2 [])) :
    W p l e R s m args below meth c H locs cells slots Q (F0 m 605 ls []) := by
  obtain ⟨⟨hx, hb, hml, -⟩, -, -, hlX⟩ := id Z
  obtain ⟨ty, tt, hh, hI⟩ := hI
  refine lv_aload_n (k := 1) hx hb (by decide +kernel) rfl (lv_at hls 3 rfl) ?_
  refine law_ld Z hR (k := 1) hls (by simp [lvL]) (by simp [lvL]) hj hL (by omega) (by decide +kernel) (by decide +kernel) (by decide +kernel) (by decide +kernel) (by decide +kernel) ?_
  refine lv_aload_n (k := 3) hx hb (by decide +kernel) rfl (lv_at hls 1 rfl) ?_
  refine law_wrap hl Z hR hI (As := [.int (xs (6 * j + 1))]) (cs_count hI (xs (6 * j + 1))) (y := ⟨"CheckDaemonLaw", "count", "(LCheckDaemon;I[J)I"⟩) (cc := method_10_code) (nL := 4) (ix := 39) (pI := 4) (pE := 15) (pT := 13) (ct := 19) (idx := 81) (n := 1) (is := 113) (ik := 50) (ic := 54) (off := 6) (X := xIA) (text := "no such question") ⟨by decide +kernel, rfl⟩ ⟨by decide, by decide, by decide +kernel⟩ wl_count (Nat.le_of_ble_eq_true rfl) (by decide) wc_count ok_d_count rfl rfl (by decide +kernel) (by decide) (by decide) (by decide +kernel) (by decide +kernel) (by decide +kernel) (by decide +kernel) (by decide) (by decide +kernel) (by decide +kernel) (by decide +kernel) (by decide +kernel) (Nat.le_of_ble_eq_true rfl) rfl (by decide +kernel) (by decide +kernel) (Or.inr rfl) xl_IA xg_IA xb_IA xo_IA (by decide +kernel) (by decide +kernel) (by decide +kernel) (by decide +kernel) (by decide +kernel) (hlX.2.1 (113, "no such question") (by simp)) hRf hRl (by omega) (by omega) (by decide +kernel) hls.1 (fun k S2 H2 locs2 hR2 hJ => ?_)
  refine lv_istore (i := 5) (lv' := (5, .int k) :: lvL b x (nI (6 * j))) hx hb (by decide +kernel) hls (by decide) rfl (fun ls2 hls2 => ?_)
  refine lv_aload_n (k := 2) hx hb (by decide +kernel) rfl (lv_at hls2 3 rfl) ?_
  refine law_ld Z hR2 (k := 1) hls2 (by simp [lvL]) (by simp [lvL]) hj hL (by omega) (by decide +kernel) (by decide +kernel) (by decide +kernel) (by decide +kernel) (by decide +kernel) ?_
  refine law_model (As := [.int (xs (6 * j + 1))]) Z hR2 hJ ok_m_count rfl rfl (ix := 83) (lk_law _ (by simp)) hRf hRl (by omega) (by omega) hls2.1 (by decide +kernel) (fun w S3 H3 locs3 hR3 hmf hI3 hkw => ?_)
  refine lv_istore (i := 6) (lv' := (6, .int w) :: (5, .int k) :: lvL b x (nI (6 * j))) hx hb (by decide +kernel) hls2 (by decide) rfl (fun ls3 hls3 => ?_)
  refine law_tail Z hR3 hmf hI3 hkw ok_Model_thrown (lk_law _ (by simp)) hRf hRl (by omega) (by omega) hls3 (by decide +kernel) (by decide +kernel) (by decide +kernel) (by decide +kernel) (by decide +kernel) (by decide +kernel) (by decide +kernel) (by decide +kernel) (by decide +kernel) (by decide +kernel) (by decide +kernel) (by decide +kernel) (by decide +kernel) (off := 3) (by decide +kernel) (by decide) (fun H4 locs4 hR4 => ?_)
  exact kk S3 H4 locs4 ls3 hR4 hI3 (lv_sub hls3 [2, 3, 4, 5, 6] rfl)
end LWC
