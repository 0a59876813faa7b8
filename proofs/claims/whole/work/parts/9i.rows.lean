/-! ===== rows of the law's frame ===== -/
abbrev lvL (b x : Nat) (i : Int32) : List (Nat × Value) := [(4, .int i), (3, .ref (x + 461)), (2, .ref (x + 435)), (1, .ref x), (0, .ref b)]
section LWB
variable {p : Program} {l : Launch} {e : Env} {R : Room} {s : State} {m : MethodId} {args : Array Value} {below : List Frame} {meth : Method} {c : Code} {H : Heap} {locs : List Loc} {cells slots : Nat} {Q : State → Prop}
variable {dC : Nat → ClassId} {dJ : Nat → Nat → Nat} {dA : Nat → ClassId} {b L : Nat} {xs : Nat → Int32} {S : px_S} {x pc : Nat} {ls : Array Slot}
/-- script[i + k] -/
theorem law_ld (Z : lZ dC dJ dA p s m args c b L xs) (hR : lR dC dJ dA s S H locs) {lv : List (Nat × Value)} {st : List Value} {j k : Nat} (hls : lv_has ls 7 lv) (h0 : (0, Value.ref b) ∈ lv) (h4 : (4, Value.int (nI (6 * j))) ∈ lv) (hj : 6 * j + 6 ≤ L) (hL : L ≤ 3072) (hk : k < 6)
    (d0 : decode code pc = .ok (.aload_n 0, 1)) (d1 : decode code (pc + 1) = .ok (.iload 4, 2)) (d3 : decode code (pc + 3) = .ok (.iconst k, 1)) (d4 : decode code (pc + 4) = .ok (.iadd, 1)) (d5 : decode code (pc + 5) = .ok (.iaload, 1))
    (kk : W p l e R s m args below meth c H locs cells slots Q (F0 m (pc + 6) ls (.int (xs (6 * j + k)) :: st))) : W p l e R s m args below meth c H locs cells slots Q (F0 m pc ls st) := by
  obtain ⟨⟨hx, hb, hml, hown, hts, hK⟩, hX, hbl, -⟩ := Z
  refine lv_aload_n hx hb d0 rfl (hls.2.2 _ h0) ?_
  refine lv_iload hx hb d1 (hls.2.2 _ h4) ?_
  refine lv_iconst (v := nI k) hx hb d3 rfl ?_
  refine lv_iadd hx hb d4 ?_
  rw [nI_add]
  refine va_sld hx hb hX hbl (Nat.not_le.mpr hbl) hR.vaS (nI_in (by omega) (by omega)) d5 ?_
  rw [nI_clamp (by omega)]
  exact kk
theorem law_callM (Z : lZ dC dJ dA p s m args c b L xs) (hR : lR dC dJ dA s S H locs) {mk n ix y0 mx : Nat} {As st r : List Value} {C : Option Value → px_S → Prop} {fs : List Value} (hM : px_M 60 mk (.ref y0 :: As) S C) (hfs : S.1 y0 = some (.inr (px_yc mk, fs))) (hok : mOk mk n) (hn : As.length = n) (hlk : Cond.methodLink "CheckDaemonLaw" ix (px_y mk) ∈ px_tbl)
    (hg : ∀ v S1, C v S1 → S1.2.1 ≤ S.2.1 + 20 ∧ S1.2.2 ≤ S.2.2 + mx) (hRf : 62 ≤ R.frames) (hRl : 6300 ≤ R.locals) (hRc : cells + 20 ≤ R.cells) (hRs : slots + mx ≤ R.slots) (hls : ls.size = 7) (hst : st = As.reverse ++ .ref y0 :: r) (hsum : (r.map fun v => v.category).sum ≤ 8) (hdg : decode code pc = .ok (.invokevirtual ix, 3))
    (kk : ∀ (v : Option Value) (S1 : px_S) (H' : Heap) (locs' : List Loc), lR dC dJ dA s S1 H' locs' → C v S1 → W p l e R s m args below meth c H' locs' (cells + (S1.2.1 - S.2.1)) (slots + (S1.2.2 - S.2.2)) Q (F0 m (pc + 3) ls (v.toList ++ r))) :
    W p l e R s m args below meth c H locs cells slots Q (F0 m pc ls st) := by
  obtain ⟨v, S1, hev, hC⟩ := hM
  have hmo := px_Ev_mo _ _ _ _ _ _ hev
  obtain ⟨g1, g2⟩ := hg v S1 hC
  have hm1 := hmo.1
  have hm2 := hmo.2.1
  have hrun := lx_callV (l := l) (e := e) (R := R) (below := below) (meth := meth) (locs := locs) (cells := cells) (slots := slots) (r := r) Z.1 hok hlk (by omega) (by omega) hev hfs hR.1 hR.2.1 ⟨by omega, by omega⟩ hn hls hst hsum hdg
  exact lR.back hmo.1 (fun q hq => hmo.2.2 q (Nat.lt_of_lt_of_le hq hR.2.2.1) (hR.2.2.2.2.2 q hq)) hrun hR (Nat.le_refl _) (Nat.le_refl _) (fun H' locs' hR' => kk v S1 H' locs' hR' hC)
theorem law_model (Z : lZ dC dJ dA p s m args c b L xs) (hR : lR dC dJ dA s S H locs) {mk n ix : Nat} {As : List Value} {k : Int32} (hJ : jW mk As x S k) (hok : mOk mk n) (hyc : px_yc mk = 10) (hn : As.length = n) (hlk : Cond.methodLink "CheckDaemonLaw" ix (px_y mk) ∈ px_tbl)
    (hRf : 62 ≤ R.frames) (hRl : 6300 ≤ R.locals) (hRc : cells + 20 ≤ R.cells) (hRs : slots + 403 ≤ R.slots) (hls : ls.size = 7) (hdg : decode code pc = .ok (.invokevirtual ix, 3))
    (kk : ∀ (w : Int32) (S3 : px_S) (H' : Heap) (locs' : List Loc), lR dC dJ dA s S3 H' locs' → mf S3 (x + 435) k → (∃ ty tt hh, lI S3 x ty tt hh) → (k = 0 → ∃ f, S3.1 (x + 461) = oC f ∧ f 0 = w.toInt64) → W p l e R s m args below meth c H' locs' cells slots Q (F0 m (pc + 3) ls [.int w])) :
    W p l e R s m args below meth c H locs cells slots Q (F0 m pc ls (As.reverse ++ [.ref (x + 435)])) := by
  obtain ⟨⟨fs, hfs⟩, hM⟩ := hJ
  refine law_callM Z hR (mx := 403) hM (fs := fs) (by rw [hyc]; exact hfs) hok hn hlk (fun v S1 h => ?_) hRf hRl hRc hRs hls rfl (Nat.le_of_ble_eq_true rfl) hdg (fun v S1 H' locs' hR' h => ?_)
  · obtain ⟨w, -, -, -, h4, -⟩ := h
    rw [h4]
    omega
  · obtain ⟨w, rfl, h2, h3, h4, h5⟩ := h
    rw [h4, Nat.sub_self, Nat.sub_self]
    exact kk w S1 H' locs' hR' h2 h3 h5
theorem lcmp_eq (x : Int64) : lg_cmp x x = 0 := by
  simp [lg_cmp]
theorem law_tail (Z : lZ dC dJ dA p s m args c b L xs) (hR : lR dC dJ dA s S H locs) {k w i : Int32} {off : Int} (hmf : mf S (x + 435) k) (hI : ∃ ty tt hh, lI S x ty tt hh) (hkw : k = 0 → ∃ f, S.1 (x + 461) = oC f ∧ f 0 = w.toInt64) (hok : mOk px_m_Model_thrown 0) (hlk : Cond.methodLink "CheckDaemonLaw" 52 (px_y px_m_Model_thrown) ∈ px_tbl)
    (hRf : 62 ≤ R.frames) (hRl : 6300 ≤ R.locals) (hRc : cells + 20 ≤ R.cells) (hRs : slots + 403 ≤ R.slots) (hls : lv_has ls 7 ((6, .int w) :: (5, .int k) :: lvL b x i))
    (d0 : decode code pc = .ok (.aload_n 2, 1)) (d1 : decode code (pc + 1) = .ok (.invokevirtual 52, 3)) (d4 : decode code (pc + 4) = .ok (.iload 5, 2)) (d6 : decode code (pc + 6) = .ok (.if_icmp .eq 5, 3)) (d11 : decode code (pc + 11) = .ok (.iload 5, 2)) (d13 : decode code (pc + 13) = .ok (.ifCond .ne 15, 3)) (d16 : decode code (pc + 16) = .ok (.aload_n 3, 1)) (d17 : decode code (pc + 17) = .ok (.iconst 0, 1)) (d18 : decode code (pc + 18) = .ok (.laload, 1)) (d19 : decode code (pc + 19) = .ok (.iload 6, 2)) (d21 : decode code (pc + 21) = .ok (.i2l, 1)) (d22 : decode code (pc + 22) = .ok (.lcmp, 1)) (d23 : decode code (pc + 23) = .ok (.ifCond .eq 5, 3)) (d28 : decode code (pc + 28) = .ok (.goto off, 3)) (hj : ((pc + 28 : Nat) : Int) + off = (661 : Nat))
    (kk : ∀ (H' : Heap) (locs' : List Loc), lR dC dJ dA s S H' locs' → W p l e R s m args below meth c H' locs' cells slots Q (F0 m 661 ls [])) : W p l e R s m args below meth c H locs cells slots Q (F0 m pc ls []) := by
  obtain ⟨⟨hx, hb, hml, hown, hts, hK⟩, -, -, -⟩ := id Z
  obtain ⟨ty, tt, hh, hI⟩ := hI
  obtain ⟨fs, hfs⟩ := hI.2.1.ob
  refine lv_aload_n hx hb d0 rfl (lv_at hls 4 rfl) ?_
  refine law_callM Z hR (mx := 403) (As := []) (r := []) (cs_thrown hmf hI.2.1) (fs := fs) hfs hok rfl hlk (fun v S1 h => by rw [h.2]; omega) hRf hRl hRc hRs hls.1 rfl (Nat.le_of_ble_eq_true rfl) d1 (fun v S1 H' locs' hR' h => ?_)
  obtain ⟨rfl, rfl⟩ := h
  rw [Nat.sub_self, Nat.sub_self]
  refine lv_iload hx hb d4 (lv_at hls 1 rfl) ?_
  refine lv_icmp_eq (tgt := pc + 11) hx hb d6 (by omega) (fun _ => ?_) (fun z => absurd rfl z)
  refine lv_iload hx hb d11 (lv_at hls 1 rfl) ?_
  refine lv_if_ne (tgt := pc + 28) hx hb d13 (by omega) (fun _ => lv_goto hx hb d28 hj (kk H' locs' hR')) (fun hk => ?_)
  obtain ⟨f, hf, hfw⟩ := hkw hk
  refine lv_aload_n hx hb d16 rfl (lv_at hls 3 rfl) ?_
  refine lv_iconst hx hb d17 rfl ?_
  refine va_lald hx hb hK.1 (px_va1 (hR'.1 _ _ hf)) 0 1 rfl (px_tys_at (by decide)) (px_inv (by decide)) d18 ?_
  refine lv_iload hx hb d19 (lv_at hls 0 rfl) ?_
  refine lv_i2l hx hb d21 rfl ?_
  refine W.lcmp hx hb d22 ?_
  have h9 : f (Int32.ofInt 0).toNatClampNeg = w.toInt64 := hfw
  rw [h9, lcmp_eq]
  refine lv_if_eq (tgt := pc + 28) hx hb d23 (by omega) (fun _ => lv_goto hx hb d28 hj (kk H' locs' hR')) (fun z => absurd rfl z)
theorem law_erase (Z : lZ dC dJ dA p s m args c b L xs) (hR : lR dC dJ dA s S H locs) {i : Int32} (hI : ∃ ty tt hh, lI S x ty tt hh) (ok1 : mOk px_m_Daemon_erase 0) (ok2 : mOk px_m_Model_erase 0) (hl1 : Cond.methodLink "CheckDaemonLaw" 55 (px_y px_m_Daemon_erase) ∈ px_tbl) (hl2 : Cond.methodLink "CheckDaemonLaw" 58 (px_y px_m_Model_erase) ∈ px_tbl)
    (hRf : 62 ≤ R.frames) (hRl : 6300 ≤ R.locals) (hRc : cells + 40 ≤ R.cells) (hRs : slots + 806 ≤ R.slots) (hls : lv_has ls 7 (lvL b x i))
    (kk : ∀ (S' : px_S) (H' : Heap) (locs' : List Loc), lR dC dJ dA s S' H' locs' → (∃ ty tt hh, lI S' x ty tt hh) → W p l e R s m args below meth c H' locs' (cells + 20) (slots + 403) Q (F0 m 661 ls [])) : W p l e R s m args below meth c H locs cells slots Q (F0 m 196 ls []) := by
  obtain ⟨⟨hx, hb, hml, hown, hts, hK⟩, -, -, -⟩ := id Z
  obtain ⟨ty, tt, hh, hI⟩ := hI
  obtain ⟨fs, hfs⟩ := hI.1.ob
  obtain ⟨fs2, hfs2⟩ := hI.2.1.ob
  refine lv_aload_n (k := 1) hx hb (by decide +kernel) rfl (lv_at hls 3 rfl) ?_
  refine law_callM Z hR (mx := 403) (As := []) (r := []) (cs_erase hI) (fs := fs) hfs ok1 rfl hl1 (fun v S1 h => by obtain ⟨w, -, h2, -⟩ := h; exact ⟨h2.2.2.1, h2.2.2.2⟩) hRf hRl (by omega) (by omega) hls.1 rfl (Nat.le_of_ble_eq_true rfl) (by decide +kernel) (fun v S1 H' locs' hR' h => ?_)
  obtain ⟨w, rfl, h2, h3⟩ := h
  have g1 := h2.2.2.1
  have g2 := h2.2.2.2
  refine lv_aload_n (k := 2) hx hb (by decide +kernel) rfl (lv_at hls 2 rfl) ?_
  refine W.widen (k := cells + 20) (n := slots + 403) (by omega) (by omega) ?_
  refine law_callM Z hR' (mx := 403) (As := []) (r := [.int w]) h3 (fs := fs2) ((h2.1 _ (by omega) (Or.inr (by omega))).trans hfs2) ok2 rfl hl2 (fun v S1 h => by rw [h.2.2]; omega) hRf hRl (by omega) (by omega) hls.1 rfl (Nat.le_of_ble_eq_true rfl) (by decide +kernel) (fun v S3 H3 locs3 hR3 h => ?_)
  obtain ⟨rfl, h5, h6⟩ := h
  rw [h6, Nat.sub_self, Nat.sub_self]
  refine lv_icmp_eq (off := 457) (tgt := 661) hx hb (by decide +kernel) (by omega) (fun _ => kk S3 H3 locs3 hR3 h5) (fun z => absurd rfl z)
end LWB
