/-! ===== the law's own frame ===== -/
/-- the machine's heap holds the pure one; what was there at the start is as it was -/
def lR (dC : Nat → ClassId) (dJ : Nat → Nat → Nat) (dA : Nat → ClassId) (s : State) (S : px_S) (H : Heap) (locs : List Loc) : Prop := px_hold dC dJ dA S.1 H ∧ H.size = S.2.1 ∧ s.heap.size ≤ S.2.1 ∧ (∀ q ∈ locs, s.heap.size ≤ q.base) ∧ (∀ q : Nat, q < s.heap.size → H[q]? = s.heap[q]?) ∧ ∀ q : Nat, q < s.heap.size → S.1 q = none
/-- what the throws ask of the start -/
def lX (s : State) : Prop := (∀ X, X = xIS ∨ X = xIA → ∀ w ∈ xB X, va_Nw w s) ∧ (∀ q ∈ [(37, "the line would be too long"), (52, "no such place"), (80, "no such module"), (89, "nothing to undo"), (100, "no such symbol or question"), (106, "no such place or question"), (113, "no such question")], ∃ sa, vk_R "CheckDaemon" q.1 q.2 sa s) ∧
  vx_Zq Bundle.tN "UNASSIGNED_STACK" Bundle.steD (fun q => s.heap.size ≤ q) s s.heap ∧ vx_Zq Bundle.tN "SUPPRESSED_SENTINEL" Bundle.listD (fun q => s.heap.size ≤ q) s s.heap
def lZ (dC : Nat → ClassId) (dJ : Nat → Nat → Nat) (dA : Nat → ClassId) (p : Program) (s : State) (m : MethodId) (args : Array Value) (c : Code) (b L : Nat) (xs : Nat → Int32) : Prop := wZ dC dJ dA p s m args c code 7 ∧ va_X b L xs s s.heap ∧ b < s.heap.size ∧ lX s
theorem lR.vaS {dC : Nat → ClassId} {dJ : Nat → Nat → Nat} {dA : Nat → ClassId} {s : State} {S : px_S} {H : Heap} {locs : List Loc} (h : lR dC dJ dA s S H locs) : va_S (fun q => s.heap.size ≤ q) s.heap H locs := ⟨by rw [h.2.1]; exact h.2.2.1, fun q hq _ => h.2.2.2.2.1 q hq, h.2.2.2.1⟩
theorem lR.fr {dC : Nat → ClassId} {dJ : Nat → Nat → Nat} {dA : Nat → ClassId} {s : State} {S : px_S} {H : Heap} {locs : List Loc} (h : lR dC dJ dA s S H locs) {q : Nat} (hq : px_fr S q) : s.heap.size ≤ q := by
  rcases hq with hq | hq
  · exact Nat.not_lt.mp fun z => hq (h.2.2.2.2.2 q z)
  · exact Nat.le_trans h.2.2.1 hq
theorem lR.xZ {dC : Nat → ClassId} {dJ : Nat → Nat → Nat} {dA : Nat → ClassId} {s U : State} {S : px_S} {H : Heap} {locs : List Loc} {X text : String} {is sa : Nat} (h : lR dC dJ dA s S H locs) (hX : lX s) (hX1 : X = xIS ∨ X = xIA) (hs : vk_R "CheckDaemon" is text sa s) (hU : U.heap = H) (hW : s.WarmedH U.vm) : xZ S X is text sa U := by
  have hq : ∀ a : Nat, a < s.heap.size → ¬ s.heap.size ≤ a → H[a]? = s.heap[a]? := fun a ha _ => h.2.2.2.2.1 a ha
  refine ⟨xB_warm hW (hX.1 X hX1), hs.warm hW, ?_, ?_⟩
  · rw [hU]; exact ((hX.2.2.1.kept hq).moved hW.alike).narrow (fun q => h.fr)
  · rw [hU]; exact ((hX.2.2.2.kept hq).moved hW.alike).narrow (fun q => h.fr)
section LWA
variable {p : Program} {l : Launch} {e : Env} {R : Room} {s : State} {m : MethodId} {args : Array Value} {below : List Frame} {meth : Method} {c : Code} {H : Heap} {locs : List Loc} {cells slots : Nat} {Q : State → Prop}
variable {dC : Nat → ClassId} {dJ : Nat → Nat → Nat} {dA : Nat → ClassId} {b L : Nat} {xs : Nat → Int32} {S : px_S} {x pc : Nat} {ls : Array Slot}
theorem lR.back {S1 : px_S} {v : Option Value} {st r : List Value} {a : Array Value} {mc ms k n : Nat} (h1 : S.2.1 ≤ S1.2.1) (h3 : ∀ q : Nat, q < s.heap.size → S1.1 q = none)
    (hr : va_Run p l e R s m args below meth c H locs cells slots mc ms (F0 m pc ls st) r (px_Qc dC dJ dA S v S1 a) (px_fr S)) (hR : lR dC dJ dA s S H locs) (hk : cells + mc ≤ k) (hn : slots + ms ≤ n)
    (kk : ∀ (H' : Heap) (locs' : List Loc), lR dC dJ dA s S1 H' locs' → W p l e R s m args below meth c H' locs' k n Q (F0 m (pc + 3) ls (v.toList ++ r))) :
    W p l e R s m args below meth c H locs cells slots Q (F0 m pc ls st) := by
  intro T hT X
  obtain ⟨v', st0, t, T', L, h0, X', hL, e1, -, ⟨hv, hh, hz, hk2⟩, go⟩ := hr T hT X
  cases hv
  rw [h0] at hk2
  have hsz : s.heap.size ≤ H.size := hR.vaS.1
  obtain ⟨t2, a1, b1⟩ := kk T'.heap (locs ++ L) ⟨by rw [e1]; exact hh, by rw [e1]; exact hz, Nat.le_trans hR.2.2.1 h1, fun q hq => by
      rcases List.mem_append.mp hq with h | h
      · exact hR.2.2.2.1 q h
      · exact hR.fr (hL q h), fun q hq => by
      rw [e1, hk2 q (Nat.lt_of_lt_of_le hq hsz) (hR.2.2.2.2.2 q hq)]
      exact hR.2.2.2.2.1 q hq, h3⟩ T' rfl (stand_widen X' hk hn)
  exact ⟨t2, go t2 a1, b1⟩
/-- what is known when the wrapper has returned k -/
def jW (mk : Nat) (As : List Value) (x : Nat) (S : px_S) (k : Int32) : Prop := (∃ fs, S.1 (x + 435) = some (.inr (10, fs))) ∧ px_M 60 mk (.ref (x + 435) :: As) S (fun r S3 => ∃ w, r = some (.int w) ∧ mf S3 (x + 435) k ∧ (∃ ty tt hh, lI S3 x ty tt hh) ∧ S3.2 = S.2 ∧ (k = 0 → ∃ f, S3.1 (x + 461) = oC f ∧ f 0 = w.toInt64))
theorem dI.ob {S : px_S} {x lo : Nat} {ty : List Nat} {tt : Nat → List Nat} {hh : List (Nat × List Nat)} (h : dI S x lo ty tt hh) : ∃ fs, S.1 x = some (.inr (9, fs)) := by
  obtain ⟨f, T, D, lk, wt, to, ls, df, hp, la, hl, tW, H, tz, ds, cc, sc, old, G, h1, -⟩ := h
  exact ⟨_, h1.1⟩
theorem mI.ob {S : px_S} {m : Nat} {ty : List Nat} {tt : Nat → List Nat} {hh : List (Nat × List Nat)} (h : mI S m ty tt hh) : ∃ fs, S.1 m = some (.inr (10, fs)) := by
  obtain ⟨q, A, h1, -⟩ := h
  exact ⟨_, h1.1⟩
set_option maxHeartbeats 4000000 in
theorem law_wrap (hl : l.stackTraces = false) (Z : lZ dC dJ dA p s m args c b L xs) {ty : List Nat} {tt : Nat → List Nat} {hh : List (Nat × List Nat)} (hR : lR dC dJ dA s S H locs) (hI : lI S x ty tt hh) {mj mk pcX : Nat} {As : List Value} (hcase : cR mj mk As x S ∨ cT mj mk As x pcX S)
    {y : MethodName} {cc : ByteArray} {nL ix pI pE pT ct idx n is ik ic : Nat} {off : Int} {X text : String} (hy : plainName y.cls = true ∧ y.cls = "CheckDaemonLaw")
    (hd' : y.cls ≠ "java/lang/invoke/MethodHandle" ∧ y.cls ≠ "java/lang/invoke/VarHandle" ∧ (parseMethodDescriptor y.desc).map (fun d => d.parameters.length) = some (n + 2))
    (hLd : wLoad cc nL pI (.ref x :: (As ++ [.ref (x + 461)])) (As.reverse ++ [.ref x, .int 0, .ref (x + 461)])) (hlen : (lg_sl (.ref x :: (As ++ [.ref (x + 461)]))).length ≤ nL) (hnL : nL ≤ 80) (hCt : wCatch cc nL (pI + 8) pT) (hok : mOk mj n) (hyc : px_yc mj = 9) (hn : As.length = n)
    (hw6 : ∀ w ∈ [Cond.methodLink "CheckDaemonLaw" idx y, Cond.static y, Cond.initialized y.cls, Cond.codeWith y cc nL (some .int) [(0, pI + 5, pI + 8, ct)], Cond.methodLink "CheckDaemonLaw" ix (px_y mj), Cond.classLink "CheckDaemonLaw" ct X], w ∈ px_tbl)
    (h0 : ct ≠ 0) (hcov : ∀ z ∈ tableOf [(0, pI + 5, pI + 8, ct)], covers z pI = true)
    (d0 : decode cc pI = .ok (.invokevirtual ix, 3)) (d3 : decode cc (pI + 3) = .ok (.i2l, 1)) (d4 : decode cc (pI + 4) = .ok (.lastore, 1)) (d5 : decode cc (pI + 5) = .ok (.goto off, 3)) (hj : ((pI + 5 : Nat) : Int) + off = (pE : Nat)) (d6 : decode cc pE = .ok (.iconst 0, 1)) (d7 : decode cc (pE + 1) = .ok (.ireturn, 1))
    (d8 : decode cc pT = .ok (.iconst 1, 1)) (d9 : decode cc (pT + 1) = .ok (.ireturn, 1))
    (hlen2 : (lg_sl (.ref x :: As)).length ≤ px_ml mj) (hown2 : px_on (px_cn mj) = "CheckDaemon") (hpn2 : plainName (px_y mj).cls = true) (hXf : Bundle.fit X = true) (hX1 : X = xIS ∨ X = xIA) (hk : Cond.classLink "CheckDaemon" ik X ∈ px_tbl ∧ Cond.initialized X ∈ px_tbl) (hg : ∀ w ∈ (vx_atS "CheckDaemon" ic X xN).filter goodWord, w ∈ px_tbl) (hb : ∀ w ∈ (vx_atS "CheckDaemon" ic X xN).filter (fun w => !goodWord w), w ∈ xB X) (ho : ∀ w ∈ Cond.classLink "CheckDaemon" ik X :: Cond.initialized X :: vx_atS "CheckDaemon" ic X xN, vx_ot w = true)
    (t0 : decode (px_b mj) pcX = .ok (.new ik, 3)) (t3 : decode (px_b mj) (pcX + 3) = .ok (.dup, 1)) (t4 : decode (px_b mj) (pcX + 4) = .ok (.ldc is, 2)) (t6 : decode (px_b mj) (pcX + 6) = .ok (.invokespecial ic, 3)) (t9 : decode (px_b mj) (pcX + 9) = .ok (.athrow, 1))
    (hs : ∃ sa, vk_R "CheckDaemon" is text sa s) (hRf : 62 ≤ R.frames) (hRl : 6300 ≤ R.locals) (hRc : cells + 20 ≤ R.cells) (hRs : slots + 403 ≤ R.slots)
    (hdg : decode code pc = .ok (.invokestatic idx, 3)) (hls : ls.size = 7)
    (kk : ∀ (k : Int32) (S2 : px_S) (H' : Heap) (locs' : List Loc), lR dC dJ dA s S2 H' locs' → jW mk As x S2 k → W p l e R s m args below meth c H' locs' (cells + 20) (slots + 403) Q (F0 m (pc + 3) ls [.int k])) :
    W p l e R s m args below meth c H locs cells slots Q (F0 m pc ls (.ref (x + 461) :: (As.reverse ++ [.ref x]))) := by
  obtain ⟨⟨hx, hbc, hml, hown, hts, hK⟩, -, -, hlX⟩ := Z
  have S0 : CallFix p m c code 7 s args px_tbl "CheckDaemonLaw" := ⟨hx, hbc, hml, hown, hts⟩
  obtain ⟨fs, hfs⟩ := hI.1.ob
  have hfs' : S.1 x = some (.inr (px_yc mj, fs)) := by rw [hyc]; exact hfs
  have hG : GoodIn px_tbl (va_wsS "CheckDaemonLaw" idx y (wr_ws y cc nL [(0, pI + 5, pI + 8, ct)])) := by
    intro w hw
    have h : w ∈ px_tbl := by
      unfold va_wsS wr_ws at hw
      simp only [List.cons_append, List.nil_append, List.mem_cons] at hw
      rcases hw with h | h | h | h | h
      · rw [h]; exact hw6 _ (by simp)
      · rw [h]; exact hw6 _ (by simp)
      · rw [h]; exact hw6 _ (by simp)
      · rw [h]; exact hw6 _ (by simp)
      · exact h
    exact ⟨h, good_of_word (List.mem_filter.mp h).2⟩
  have hst : (.ref (x + 461) :: (As.reverse ++ [.ref x]) : List Value) = (.ref x :: (As ++ [.ref (x + 461)])).reverse ++ [] := by simp
  have hn2 : (Value.ref x :: (As ++ [.ref (x + 461)])).length = n + 2 := by simp [hn]
  rcases hcase with hc | hc
  · obtain ⟨v1, S1, hev, v, rfl, hdF, ty', tt', hh', hmod⟩ := hc
    obtain ⟨f, hf⟩ := hI.2.2.1
    have ho1 : S1.1 (x + 461) = oC f := (hdF.1 _ (by omega) (Or.inr (by omega))).trans hf
    have hmo := px_Ev_mo _ _ _ _ _ _ hev
    have hMet := wr_R l dC dJ dA (hh := [(0, pI + 5, pI + 8, ct)]) hy.1 hy.2 hLd hlen hok (hw6 _ (by simp)) hn hev hfs' ho1 d0 d3 d4 d5 hj d6 d7
    have b1 := hdF.2.1
    have b2 := hdF.2.2.1
    have b3 := hdF.2.2.2
    have b4 := hmo.2.1
    have hrun := vx_runSW (e := e) (R := R) (below := below) (meth := meth) (H := H) (locs := locs) (cells := cells) (slots := slots) (g := F0 m pc ls (.ref (x + 461) :: (As.reverse ++ [.ref x]))) (rest := []) S0 hMet (vx_cwSW (n + 2) hts hG rfl rfl rfl hd' ⟨by show 61 + 1 ≤ _; omega, by show 8 + (nL + 11) + (100 * 61 + 20) ≤ _; omega⟩) ⟨px_blind, fun U hU hW => ⟨rfl, by rw [hU]; exact hR.1, by rw [hU]; exact hR.2.1, px_K.warm hW hK⟩⟩ rfl hn2 hls hst (Nat.le_of_ble_eq_true rfl) hdg ⟨by omega, by omega⟩
    have hxs : s.heap.size ≤ x + 461 := by
      refine Nat.not_lt.mp fun z => ?_
      have h9 := hR.2.2.2.2.2 _ z
      rw [hf] at h9
      cases h9
    refine lR.back (S1 := oUp S1 (x + 461) f v) b1 (fun q hq => ?_) hrun hR (k := cells + 20) (n := slots + 403) (by omega) (by omega) (fun H' locs' hR' => kk 0 _ H' locs' hR' ⟨?_, ?_⟩)
    · show va_up S1.1 (x + 461) _ q = none
      have hne : q ≠ x + 461 := by omega
      simp only [va_up, if_neg hne]
      exact hmo.2.2 q (Nat.lt_of_lt_of_le hq hR.2.2.1) (hR.2.2.2.2.2 q hq)
    · obtain ⟨fs2, h2⟩ := hI.2.1.ob
      refine ⟨fs2, ?_⟩
      show va_up S1.1 (x + 461) _ (x + 435) = _
      have hne : x + 435 ≠ x + 461 := by omega
      simp only [va_up, if_neg hne]
      exact (hdF.1 _ (by omega) (Or.inr (by omega))).trans h2
    · have hoo : (oUp S1 (x + 461) f v).1 (x + 461) = oC (vp_updL f (0 : Int32).toNatClampNeg v.toInt64) := by
        show va_up S1.1 (x + 461) _ (x + 461) = _
        simp only [va_up, if_true]
      refine (hmod (oUp S1 (x + 461) f v) rfl (fun q hq => ?_) ⟨vp_updL f (0 : Int32).toNatClampNeg v.toInt64, hoo⟩).imp (fun r S3 h => ⟨v, h.1, h.2.1, ⟨_, _, _, h.2.2.1⟩, h.2.2.2.2, fun _ => ⟨vp_updL f (0 : Int32).toNatClampNeg v.toInt64, h.2.2.2.1.trans hoo, ?_⟩⟩)
      · show va_up S1.1 (x + 461) _ q = _
        simp only [va_up, if_neg hq]
      · show vp_updL f 0 v.toInt64 0 = _
        simp [vp_updL]
  · obtain ⟨hT, ty', tt', hh', hmod⟩ := hc
    obtain ⟨sa, hsa⟩ := hs
    have hM := px_thr (l := l) hl dC dJ dA (text := text) (sa := sa) hT hlen2 hown2 hpn2 hXf hk hg hb ho t0 t3 t4 t6 t9
    have hMet := wr_T l dC dJ dA hy.1 hy.2 hLd hlen hok (hw6 _ (by simp)) hn hM hfs' (hw6 _ (by simp)) h0 hcov hCt d0 d8 d9
    have hrun := vx_runSW (e := e) (R := R) (below := below) (meth := meth) (H := H) (locs := locs) (cells := cells) (slots := slots) (g := F0 m pc ls (.ref (x + 461) :: (As.reverse ++ [.ref x]))) (rest := []) S0 hMet (vx_cwSW (n + 2) hts hG rfl rfl rfl hd' ⟨by show 20 + 1 ≤ _; omega, by show 8 + (nL + 11) + 2000 ≤ _; omega⟩) ⟨xPc_blind, fun U hU hW => ⟨⟨rfl, by rw [hU]; exact hR.1, by rw [hU]; exact hR.2.1, px_K.warm hW hK⟩, hR.xZ hlX hX1 hsa hU hW⟩⟩ rfl hn2 hls hst (Nat.le_of_ble_eq_true rfl) hdg ⟨by omega, by omega⟩
    intro T hT' X'
    obtain ⟨v', st0, t, T', L, h1, X2, hL, e1, -, ⟨hv, hX1, hX2, hX3⟩, go⟩ := hrun T hT' X'
    cases hv
    rw [h1] at hX2 hX3
    have hsz : s.heap.size ≤ H.size := hR.vaS.1
    have hsz2 : H.size = S.2.1 := hR.2.1
    have hjW : px_M 60 mk (.ref (x + 435) :: As) (S.1, T'.heap.size, S.2.2) (fun r S3 => ∃ w, r = some (.int w) ∧ mf S3 (x + 435) 1 ∧ (∃ ty tt hh, lI S3 x ty tt hh) ∧ S3.2 = (T'.heap.size, S.2.2) ∧ ((1 : Int32) = 0 → ∃ f, S3.1 (x + 461) = oC f ∧ f 0 = w.toInt64)) := by
      refine (hmod (S.1, T'.heap.size, S.2.2) rfl (by show S.2.1 ≤ T'.heap.size; rw [e1]; omega)).imp (fun r S3 h => ?_)
      obtain ⟨⟨w, hw⟩, h2, h3, h4⟩ := h
      exact ⟨w, hw, h2, ⟨_, _, _, h3⟩, h4, fun z => absurd z (by decide)⟩
    obtain ⟨t2, a1, b1⟩ := kk 1 (S.1, T'.heap.size, S.2.2) T'.heap (locs ++ L) ⟨by rw [e1]; exact hX1, rfl, by show s.heap.size ≤ T'.heap.size; rw [e1]; omega, fun q hq => by
      rcases List.mem_append.mp hq with h | h
      · exact hR.2.2.2.1 q h
      · exact hR.fr (hL q h), fun q hq => by
      rw [e1, hX3 q (Nat.lt_of_lt_of_le hq hsz) (hR.2.2.2.2.2 q hq)]
      exact hR.2.2.2.2.1 q hq, hR.2.2.2.2.2⟩ ⟨hI.2.1.ob, hjW⟩ T' rfl (stand_widen X2 (by omega) (by omega))
    exact ⟨t2, go t2 a1, b1⟩
end LWA
