/-! ===== the law's loop ===== -/
theorem and15 (v : Int32) : ∃ k, k < 16 ∧ v &&& 15 = nI k := by
  refine ⟨(v.toBitVec &&& 15#32).toNat, ?_, ?_⟩
  · rw [BitVec.toNat_and]
    exact Nat.lt_of_le_of_lt Nat.and_le_right (by decide)
  · apply Int32.toBitVec_inj.mp
    rw [Int32.toBitVec_and]
    show v.toBitVec &&& 15#32 = BitVec.ofNat 32 _
    rw [BitVec.ofNat_toNat, BitVec.setWidth_eq]
theorem sub6 {L : Nat} (h : L ≤ 3072) : (nI L - 6).toInt = (L : Int) - 6 := by
  rw [Int32.toInt_sub, nI_toInt (by omega)]
  have h6 : (6 : Int32).toInt = 6 := by decide
  rw [h6]
  exact Int.bmod_eq_of_le (by omega) (by omega)
section LWD
variable {p : Program} {l : Launch} {e : Env} {s : State} {m : MethodId} {below : List Frame} {meth : Method} {c : Code}
variable {dC : Nat → ClassId} {dJ : Nat → Nat → Nat} {dA : Nat → ClassId} {b L : Nat} {xs : Nat → Int32} {x : Nat}
set_option maxHeartbeats 4000000 in
set_option maxRecDepth 20000 in
theorem law_loop (hl : l.stackTraces = false) (Z : lZ dC dJ dA p s m #[Value.ref b] c b L xs) (hL : L ≤ 3072) (hr : meth.sig.returnType = ret) (hlocks : meth.locks = false) : ∀ (N j : Nat), 6 * j ≤ L + 5 → L + 6 ≤ 6 * j + N → ∀ (S : px_S) (H : Heap) (locs : List Loc) (cells slots : Nat) (ls : Array Slot), lR dC dJ dA s S H locs → (∃ ty tt hh, lI S x ty tt hh) → cells ≤ 500 + 20 * j → slots ≤ 100000 + 403 * j → lv_has ls 7 (lvL b x (nI (6 * j))) →
    W p l e room_1 s m #[Value.ref b] below meth c H locs cells slots (lw_Z below #[Value.ref b] s) (F0 m 23 ls []) := by
  obtain ⟨⟨hx, hb, hml, hown, hts, hK⟩, hX, hbl, hlX⟩ := id Z
  intro N
  induction N with
  | zero => intro j h1 h2; omega
  | succ N ih =>
    intro j h1 h2 S H locs cells slots ls hR hI hc hs hls
    refine lv_iload hx hb (i := 4) (by decide +kernel) (lv_at hls 0 rfl) ?_
    refine lv_aload_n (k := 0) hx hb (by decide +kernel) rfl (lv_at hls 4 rfl) ?_
    refine va_slen hx hb hX hbl (Nat.not_le.mpr hbl) hR.vaS (by decide +kernel) ?_
    refine lv_bipush (n := 6) (v := 6) hx hb (by decide +kernel) rfl ?_
    refine lv_isub hx hb (by decide +kernel) ?_
    have h6 : (Int32.ofNat L - 6).toInt = (L : Int) - 6 := sub6 hL
    refine lv_icmp_gt (off := 637) (tgt := 667) hx hb (by decide +kernel) (by decide) (fun _ => ?_) (fun hn => ?_)
    · refine va_forget (fun q hq => hR.2.2.2.1 q hq) ?_
      refine W.widen (k := 601024) (n := 7293033) (by omega) (by omega) ?_
      refine lv_iconst (n := 1) (v := 1) hx hb (by decide +kernel) rfl ?_
      exact lw_ret hx hb hr hlocks (by decide +kernel)
    rw [Int32.lt_iff_toInt_lt, h6, nI_toInt (by omega)] at hn
    have hj : 6 * j + 6 ≤ L := by omega
    have hc1 : cells + 40 ≤ room_1.cells := by show cells + 40 ≤ 601024; omega
    have hc2 : slots + 806 ≤ room_1.slots := by show slots + 806 ≤ 7293033; omega
    have hf1 : 62 ≤ room_1.frames := by decide
    have hf2 : 6300 ≤ room_1.locals := by decide
    have kk : ∀ (S2 : px_S) (H2 : Heap) (locs2 : List Loc) (ls2 : Array Slot), lR dC dJ dA s S2 H2 locs2 → (∃ ty tt hh, lI S2 x ty tt hh) → lv_has ls2 7 (lvL b x (nI (6 * j))) → W p l e room_1 s m #[Value.ref b] below meth c H2 locs2 (cells + 20) (slots + 403) (lw_Z below #[Value.ref b] s) (F0 m 661 ls2 []) := by
      intro S2 H2 locs2 ls2 hR2 hI2 hls2
      refine lv_iinc (i := 4) (n := 6) (v := nI (6 * (j + 1))) (lv' := lvL b x (nI (6 * (j + 1)))) hx hb (by decide +kernel) hls2 (k := 0) rfl (nI_add (6 * j) 6) (by decide) rfl (fun ls3 hls3 => ?_)
      refine lv_goto (off := -641) (tgt := 23) hx hb (by decide +kernel) (by decide) ?_
      exact ih (j + 1) (by omega) (by omega) S2 H2 locs2 _ _ ls3 hR2 hI2 (by omega) (by omega) hls3
    refine lv_aload_n (k := 0) hx hb (by decide +kernel) rfl (lv_at hls 4 rfl) ?_
    refine lv_iload hx hb (i := 4) (by decide +kernel) (lv_at hls 0 rfl) ?_
    refine va_sld hx hb hX hbl (Nat.not_le.mpr hbl) hR.vaS (nI_in (by omega) (by omega)) (by decide +kernel) ?_
    refine lv_bipush (n := 15) (v := 15) hx hb (by decide +kernel) rfl ?_
    refine lv_iand hx hb (by decide +kernel) ?_
    obtain ⟨k, hk, ek⟩ := and15 (xs (nI (6 * j)).toNatClampNeg)
    rw [ek]
    have dsw : decode code 40 = .ok (.tableswitch 621 0 8 #[52, 156, 169, 237, 293, 337, 417, 497, 565], 52) := by decide +kernel
    rcases (show k = 0 ∨ k = 1 ∨ k = 2 ∨ k = 3 ∨ k = 4 ∨ k = 5 ∨ k = 6 ∨ k = 7 ∨ k = 8 ∨ 9 ≤ k by omega) with rfl | rfl | rfl | rfl | rfl | rfl | rfl | rfl | rfl | hk9
    · exact lv_tableIn (off := 52) (tgt := 92) hx hb dsw (by decide) (by decide) rfl (by decide) (law_type hl Z hR hI hj hL hf1 hf2 hc1 hc2 hls kk)
    · exact lv_tableIn (off := 156) (tgt := 196) hx hb dsw (by decide) (by decide) rfl (by decide) (law_erase Z hR hI ok_Daemon_erase ok_Model_erase (lk_law _ (by simp)) (lk_law _ (by simp)) hf1 hf2 hc1 hc2 hls (fun S2 H2 locs2 hR2 hI2 => kk S2 H2 locs2 ls hR2 hI2 hls))
    · exact lv_tableIn (off := 169) (tgt := 209) hx hb dsw (by decide) (by decide) rfl (by decide) (law_put hl Z hR hI hj hL hf1 hf2 hc1 hc2 hls kk)
    · exact lv_tableIn (off := 237) (tgt := 277) hx hb dsw (by decide) (by decide) rfl (by decide) (law_drop hl Z hR hI hj hL hf1 hf2 hc1 hc2 hls kk)
    · exact lv_tableIn (off := 293) (tgt := 333) hx hb dsw (by decide) (by decide) rfl (by decide) (law_undo hl Z hR hI hj hL hf1 hf2 hc1 hc2 hls kk)
    · exact lv_tableIn (off := 337) (tgt := 377) hx hb dsw (by decide) (by decide) rfl (by decide) (law_symbol hl Z hR hI hj hL hf1 hf2 hc1 hc2 hls kk)
    · exact lv_tableIn (off := 417) (tgt := 457) hx hb dsw (by decide) (by decide) rfl (by decide) (law_line hl Z hR hI hj hL hf1 hf2 hc1 hc2 hls kk)
    · exact lv_tableIn (off := 497) (tgt := 537) hx hb dsw (by decide) (by decide) rfl (by decide) (law_diagnostic hl Z hR hI hj hL hf1 hf2 hc1 hc2 hls kk)
    · exact lv_tableIn (off := 565) (tgt := 605) hx hb dsw (by decide) (by decide) rfl (by decide) (law_count hl Z hR hI hj hL hf1 hf2 hc1 hc2 hls kk)
    · refine lv_tableOut (tgt := 661) hx hb dsw (Or.inr (by rw [nI_toInt (by omega)]; omega)) (by decide) ?_
      exact W.widen (k := cells + 20) (n := slots + 403) (by omega) (by omega) (kk S H locs ls hR hI hls)
end LWD
