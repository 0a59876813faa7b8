/-! ===== the law's start ===== -/
theorem ins_all : ∀ w ∈ px_cl.map (fun q => Cond.instantiable q.1 q.2.2), w ∈ px_tbl := by decide +kernel
theorem nw_all : ∀ w ∈ px_nw, w ∈ lw_tbl := by decide +kernel
theorem ao_all : ∀ w ∈ [Cond.arrayOver (.object "CheckDaemon$Line"), Cond.arrayOver (.object "CheckDaemon$SymbolSet"), Cond.arrayClass .int, Cond.arrayClass .long, Cond.arrayClass .boolean, Cond.arrayClass .char], w ∈ lw_tbl := by decide +kernel
theorem xb_all : (∀ w ∈ xB xIS, w ∈ lw_tbl) ∧ ∀ w ∈ xB xIA, w ∈ lw_tbl := by decide +kernel
theorem sr_all : ∀ w ∈ [(37, "the line would be too long"), (52, "no such place"), (80, "no such module"), (89, "nothing to undo"), (100, "no such symbol or question"), (106, "no such place or question"), (113, "no such question")].map (fun q => Cond.stringRef "CheckDaemon" q.1 q.2), w ∈ lw_tbl := by decide +kernel
theorem zq_all : ∀ w ∈ [Cond.laysStatic Bundle.tN "UNASSIGNED_STACK" Bundle.steD, Cond.laysStatic Bundle.tN "SUPPRESSED_SENTINEL" Bundle.listD, Cond.initialized Bundle.tN], w ∈ lw_tbl := by decide +kernel
theorem kn_all {args : Array Value} {s : State} (hts : ∀ w ∈ px_tbl, w.before args s = true) : ∀ q ∈ px_cl, ∃ (cC : ClassId) (iS : Nat → Nat), u_Kn s q.1 q.2.1 q.2.2 cC iS := by
  have hi : ∀ q ∈ px_cl, (Cond.instantiable q.1 q.2.2).before args s = true := fun q hq => hts _ (ins_all _ (List.mem_map.mpr ⟨q, hq, rfl⟩))
  have hin : ∀ q ∈ px_cl, ∀ w ∈ u_ws q.1 q.2.1 q.2.2, w ∈ px_tbl := by
    unfold px_cl
    simp only [List.forall_mem_cons]
    exact ⟨px_in0, px_in1, px_in2, px_in3, px_in4, px_in5, px_in6, px_in7, px_in8, px_in9, px_in10, fun _ h => absurd h List.not_mem_nil⟩
  exact fun q hq => u_known hts (hin q hq) (hi q hq)
theorem ty_all {args : Array Value} {s : State} (hts : ∀ w ∈ lw_tbl, w.before args s = true) : ∀ t, ∃ cA : ClassId, t < px_nty → ArrOfT s cA (px_ty t) ∧ va_RA s cA (px_ty t)
  | 0 => by
    obtain ⟨c, k, comp, h1, h2, h3⟩ := Cond.arrayClass_spec (hts _ (ao_all (.arrayClass .int) (by simp)))
    exact ⟨c, fun _ => ⟨fun n z => ⟨fun k h => (by cases h), k, h2, comp, h3⟩, h1⟩⟩
  | 1 => by
    obtain ⟨c, k, comp, h1, h2, h3⟩ := Cond.arrayClass_spec (hts _ (ao_all (.arrayClass .long) (by simp)))
    exact ⟨c, fun _ => ⟨fun n z => ⟨fun k h => (by cases h), k, h2, comp, h3⟩, h1⟩⟩
  | 2 => by
    obtain ⟨c, k, comp, h1, h2, h3⟩ := Cond.arrayClass_spec (hts _ (ao_all (.arrayClass .boolean) (by simp)))
    exact ⟨c, fun _ => ⟨fun n z => ⟨fun k h => (by cases h), k, h2, comp, h3⟩, h1⟩⟩
  | 3 => by
    obtain ⟨c, k, comp, h1, h2, h3⟩ := Cond.arrayClass_spec (hts _ (ao_all (.arrayClass .char) (by simp)))
    exact ⟨c, fun _ => ⟨fun n z => ⟨fun k h => (by cases h), k, h2, comp, h3⟩, h1⟩⟩
  | 4 => by
    obtain ⟨comp, c, k, h1, -, h2, h3, h4⟩ := Cond.arrayOver_spec (hts _ (ao_all (.arrayOver (.object "CheckDaemon$Line")) (by simp)))
    exact ⟨c, fun _ => ⟨fun n z => ⟨fun k h => (by cases h), k, h2, comp, h3⟩, k, comp, h2, h3, h1, h4⟩⟩
  | 5 => by
    obtain ⟨comp, c, k, h1, -, h2, h3, h4⟩ := Cond.arrayOver_spec (hts _ (ao_all (.arrayOver (.object "CheckDaemon$SymbolSet")) (by simp)))
    exact ⟨c, fun _ => ⟨fun n z => ⟨fun k h => (by cases h), k, h2, comp, h3⟩, k, comp, h2, h3, h1, h4⟩⟩
  | t + 6 => ⟨0, fun h => absurd h (by show ¬ t + 6 < 6; omega)⟩
theorem px_K_start {args : Array Value} {s : State} (hts : ∀ w ∈ lw_tbl, w.before args s = true) : ∃ (dC : Nat → ClassId) (dJ : Nat → Nat → Nat) (dA : Nat → ClassId), px_K dC dJ dA s := by
  have hp : ∀ w ∈ px_tbl, w.before args s = true := fun w hw => hts w (List.mem_filter.mp hw).1
  have h1 : ∀ ci : Nat, ∃ z : ClassId × (Nat → Nat), ∀ q, px_cl[ci]? = some q → u_Kn s q.1 q.2.1 q.2.2 z.1 z.2 := by
    intro ci
    cases hc : px_cl[ci]? with
    | none => exact ⟨(0, fun _ => 0), fun q h => by cases h⟩
    | some q =>
      obtain ⟨cC, iS, h⟩ := kn_all hp q (List.mem_of_getElem? hc)
      exact ⟨(cC, iS), fun q' h' => by cases h'; exact h⟩
  obtain ⟨f, hf⟩ := Classical.axiomOfChoice h1
  obtain ⟨g, hg⟩ := Classical.axiomOfChoice (ty_all hts)
  refine ⟨fun ci => (f ci).1, fun ci => (f ci).2, g, ⟨fun c q hq => hf c q hq, fun k q hq => ?_⟩, fun w hw => va_Nw.of (px_nw_t w hw) (hts w (nw_all w hw)), fun t ht C hC => ?_⟩
  · have hk : k < px_nty := by
      have h9 := (List.getElem?_eq_some_iff.mp hq).1
      simpa [px_tys] using h9
    rw [px_tys_at hk] at hq
    cases hq
    exact hg k hk
  · match t, ht, hC with
    | 4, _, hC => cases hC; exact va_AO.of (hts _ (ao_all _ (by simp)))
    | 5, _, hC => cases hC; exact va_AO.of (hts _ (ao_all _ (by simp)))
theorem lX_start {args : Array Value} {s : State} (hts : ∀ w ∈ lw_tbl, w.before args s = true) (hgv : (Jvm.Cond.and given_1 narrow_1).before args s = true) : lX s := by
  have hs := flat_of_before _ hgv
  have hA : ∀ a : Nat, a < s.heap.size → ¬ s.heap.size ≤ a := fun a h => Nat.not_le.mpr h
  refine ⟨fun X hX => ?_, fun q hq => ?_, ?_, ?_⟩
  · rcases hX with rfl | rfl
    · exact fun w hw => va_Nw.of (xB_tab _ w hw) (hts w (xb_all.1 w hw))
    · exact fun w hw => va_Nw.of (xB_tab _ w hw) (hts w (xb_all.2 w hw))
  · have h1 := hts _ (sr_all _ (List.mem_map.mpr ⟨q, hq, rfl⟩))
    obtain ⟨cC, kC, hfc, -⟩ := Cond.instantiable_spec (hts (.instantiable "CheckDaemon" 4) (by decide +kernel))
    obtain ⟨k, cf, i, a, -, -, -, -, -, hev⟩ := Cond.stringRef_spec hfc h1
    exact ⟨a, vk_R.of h1 hev⟩
  · exact vx_Zqof (hts _ (zq_all _ (by simp))) (hts _ (zq_all (.initialized Bundle.tN) (by simp))) (hs _ (by decide +kernel)) hA
  · exact vx_Zqof (hts _ (zq_all _ (by simp))) (hts _ (zq_all (.initialized Bundle.tN) (by simp))) (hs _ (by decide +kernel)) hA
def iOk (mj : Nat) : Prop := Cond.code (px_y mj) (px_b mj) (px_ml mj) (px_rt mj) ∈ px_tbl ∧ Cond.initialized (px_y mj).cls ∈ px_tbl ∧ ((px_y mj).cls ≠ "java/lang/invoke/MethodHandle" ∧ (px_y mj).cls ≠ "java/lang/invoke/VarHandle") ∧
  (parseMethodDescriptor (px_y mj).desc).map (fun d => d.parameters.length) = some 0 ∧ px_ml mj ≤ 80 ∧ (px_y mj).name = "<init>" ∧ Cond.instanceMethod (px_y mj) ∈ px_tbl ∧ px_rt mj = none
theorem ok_di : iOk px_m_Daemon_init := ⟨by decide +kernel, by decide +kernel, ⟨by decide, by decide⟩, by decide +kernel, by decide +kernel, rfl, by decide +kernel, rfl⟩
theorem ok_mi : iOk px_m_Model_init := ⟨by decide +kernel, by decide +kernel, ⟨by decide, by decide⟩, by decide +kernel, by decide +kernel, rfl, by decide +kernel, rfl⟩
section LWE
variable {p : Program} {l : Launch} {e : Env} {R : Room} {s : State} {m : MethodId} {args : Array Value} {below : List Frame} {meth : Method} {c : Code} {H : Heap} {locs : List Loc} {cells slots : Nat} {Q : State → Prop}
variable {dC : Nat → ClassId} {dJ : Nat → Nat → Nat} {dA : Nat → ClassId} {cc : ByteArray} {nL : Nat} {w0 : px_W} {nx0 sl0 : Nat} {S : px_S} {pc : Nat} {ls : Array Slot}
theorem law_init {mj ix b : Nat} {r : List Value} {C : px_S → Prop} (X : wZ dC dJ dA p s m args c cc nL) (hok : iOk mj) (hlk : Cond.methodLink "CheckDaemonLaw" ix (px_y mj) ∈ px_tbl) (hRf : 62 ≤ R.frames) (hRl : 6300 ≤ R.locals) (hR : px_Rl dC dJ dA s w0 nx0 sl0 S H locs cells slots)
    (hM : px_M 60 mj [.ref b] S (fun v S1 => v = none ∧ C S1)) (hC : ∀ S1, C S1 → S1.2.1 ≤ nx0 + R.cells ∧ S1.2.2 ≤ sl0 + R.slots) (hl : ls.size = nL) (hsum : (r.map fun v => v.category).sum ≤ 8) (hq : decode cc pc = .ok (.invokespecial ix, 3))
    (kk : ∀ (S1 : px_S) (H' : Heap) (locs' : List Loc) (cells' slots' : Nat), px_Rl dC dJ dA s w0 nx0 sl0 S1 H' locs' cells' slots' → C S1 → W p l e R s m args below meth c H' locs' cells' slots' Q (F0 m (pc + 3) ls r)) :
    W p l e R s m args below meth c H locs cells slots Q (F0 m pc ls (.ref b :: r)) := by
  obtain ⟨hx, hb, hml, hown, hts, hK⟩ := X
  obtain ⟨g1, g2, g3, g4, g5, n1, n2, n3⟩ := hok
  obtain ⟨v, S1, hev, rfl, hC1⟩ := hM
  obtain ⟨q1, q2, q3, q4, q5, q6, q7⟩ := id hR
  have hmo := px_Ev_mo _ _ _ _ _ _ hev
  have m1 := hmo.1
  have m2 := hmo.2.1
  obtain ⟨c1, c2⟩ := hC S1 hC1
  have hPc : ∀ U : State, U.heap = H → s.WarmedH U.vm → px_Pc dC dJ dA [.ref b] S [Value.ref b].toArray U := fun U hU hW => ⟨rfl, by rw [hU]; exact q1, by rw [hU]; exact q2, px_K.warm hW hK⟩
  have S0 : CallFix p m c cc nL s args px_tbl "CheckDaemonLaw" := ⟨hx, hb, hml, hown, hts⟩
  have cb : CallB R s args "CheckDaemonLaw" ix (px_y mj) (px_b mj) (px_ml mj) none (px_ws mj) (px_rm 60 (S1.2.1 - S.2.1) (S1.2.2 - S.2.2)) (S1.2.1 - S.2.1) (S1.2.2 - S.2.2) 0 := by
    have g1' : Cond.code (px_y mj) (px_b mj) (px_ml mj) none ∈ px_ws mj := by
      unfold px_ws; rw [n3]; exact List.mem_cons_self
    refine callB_of 0 hts (px_good (fun _ h => h) g1) (by unfold px_ws; rw [n3]) rfl rfl (hts _ g2) (hts _ hlk) ⟨g3.1, g3.2, g4⟩ ⟨by show 60 + 1 ≤ _; omega, ?_⟩
    show 8 + (px_ml mj + 11) + (100 * 60 + 20) ≤ R.locals
    omega
  exact px_back hmo (va_runI (As := []) S0 (px_sound l dC dJ dA 60 _ _ _ _ _ hev) ⟨cb, n1, hts _ n2⟩ ⟨px_blind, hPc⟩ rfl rfl hl rfl (by show 2 * 0 + _ ≤ 8; omega) hq ⟨by omega, by omega⟩) hR (fun H' locs' cells' slots' hR' => kk S1 H' locs' cells' slots' hR' hC1)
theorem law_new {ci ix : Nat} {C : String} {T : u_T} {N : Nat} {r : List Value} (X : wZ dC dJ dA p s m args c cc nL) (hcf : px_CF ci (C, T, N)) (hw : ∀ w ∈ [Cond.classLink "CheckDaemonLaw" ix C, Cond.instantiable C N, Cond.initialized C], w ∈ px_tbl) (hR : px_Rl dC dJ dA s w0 nx0 sl0 S H locs cells slots) (hc1 : S.2.1 + 1 ≤ nx0 + R.cells) (hc2 : S.2.2 + px_nf ci ≤ sl0 + R.slots) (hq : decode cc pc = .ok (.new ix, 3))
    (kk : ∀ (H' : Heap) (cells' slots' : Nat), px_Rl dC dJ dA s w0 nx0 sl0 (va_up S.1 S.2.1 (some (.inr (ci, px_def ci))), S.2.1 + 1, S.2.2 + px_nf ci) H' locs cells' slots' → W p l e R s m args below meth c H' locs cells' slots' Q (F0 m (pc + 3) ls (.ref S.2.1 :: r))) :
    W p l e R s m args below meth c H locs cells slots Q (F0 m pc ls r) := by
  obtain ⟨hx, hb, hml, hown, hts, hK⟩ := X
  obtain ⟨hcl, hin, ⟨ty, hty, -, hdef⟩, -, hnf⟩ := hcf
  have hKn := hK.1.1 ci _ hcl
  obtain ⟨-, hsz, hn3, hn4, -⟩ := id hR
  have hnf : px_nf ci = N := hnf
  refine W.newcK hx hb hown (hts _ (hw _ (by simp))) (hts _ (hw (.instantiable C N) (by simp))) (hts _ (hw (.initialized C) (by simp))) rfl hq (by omega) (by omega) hKn.2.1 hsz fun H1 kC hkC e1 z1 o1 => ?_
  exact kk H1 _ _ (by rw [hnf]; exact hR.new ⟨_, hcl, (u_born ty hts hin hKn hkC e1 hty).to hdef⟩ z1 (fun q hq => o1 q hq))
end LWE
