/-! ===== calls of the class from the law's methods ===== -/
def mOk (mj n : Nat) : Prop := Cond.code (px_y mj) (px_b mj) (px_ml mj) (px_rt mj) ∈ px_tbl ∧ Cond.initialized (px_y mj).cls ∈ px_tbl ∧ ((px_y mj).cls ≠ "java/lang/invoke/MethodHandle" ∧ (px_y mj).cls ≠ "java/lang/invoke/VarHandle") ∧
  (parseMethodDescriptor (px_y mj).desc).map (fun d => d.parameters.length) = some n ∧ px_ml mj ≤ 80 ∧ Cond.instanceMethod (px_y mj) ∈ px_tbl ∧ Cond.selects (px_y mj).cls (px_y mj) (px_y mj) ∈ px_tbl ∧ ∃ rc, px_cl[px_yc mj]? = some rc ∧ rc.1 = (px_y mj).cls
def wZ (dC : Nat → ClassId) (dJ : Nat → Nat → Nat) (dA : Nat → ClassId) (p : Program) (s : State) (m : MethodId) (args : Array Value) (c : Code) (cc : ByteArray) (nL : Nat) : Prop :=
  p.tables.exec = Jvm.exec ∧ c.code = cc ∧ c.maxLocals = nL ∧ s.vm.findClass "CheckDaemonLaw" = some m.cls ∧ (∀ w ∈ px_tbl, w.before args s = true) ∧ px_K dC dJ dA s
section WRA
variable {p : Program} {l : Launch} {e : Env} {R : Room} {s : State} {m : MethodId} {args : Array Value} {below : List Frame} {meth : Method} {c : Code} {H : Heap} {locs : List Loc} {cells slots : Nat} {Q : State → Prop}
variable {dC : Nat → ClassId} {dJ : Nat → Nat → Nat} {dA : Nat → ClassId} {cc : ByteArray} {nL : Nat}
theorem lx_rec {mj n b : Nat} {S : px_S} {fs : List Value} (hK : px_K dC dJ dA s) (hok : mOk mj n) (hw : S.1 b = some (.inr (px_yc mj, fs))) (hh : px_hold dC dJ dA S.1 H) : ∃ cellB : Cell, H[b]? = some cellB ∧ cellB.vm.isStatics = false ∧ s.vm.findClass (px_y mj).cls = some cellB.cls := by
  obtain ⟨rc, n3, n4⟩ := hok.2.2.2.2.2.2.2
  have h9 := va_recv hK.1 (px_va1 (hh b _ hw)) n3 (q0 := 0) rfl
  rw [n4] at h9
  exact h9
theorem lx_callV {d mj ix n b pc : Nat} {S S1 : px_S} {v1 : Option Value} {As r st : List Value} {fs : List Value} {ls : Array Slot} (X : wZ dC dJ dA p s m args c cc nL)
    (hok : mOk mj n) (hlk : Cond.methodLink "CheckDaemonLaw" ix (px_y mj) ∈ px_tbl) (hRf : d + 1 ≤ R.frames) (hRl : 100 * (d + 1) + 20 ≤ R.locals)
    (hev : px_Ev d mj (.ref b :: As) S v1 S1) (hw : S.1 b = some (.inr (px_yc mj, fs))) (hh : px_hold dC dJ dA S.1 H) (hsz : H.size = S.2.1)
    (hf : cells + (S1.2.1 - S.2.1) ≤ R.cells ∧ slots + (S1.2.2 - S.2.2) ≤ R.slots) (hn : As.length = n) (hl : ls.size = nL) (hst : st = As.reverse ++ .ref b :: r) (hsum : (r.map fun v => v.category).sum ≤ 8) (hq : decode cc pc = .ok (.invokevirtual ix, 3)) :
    va_Run p l e R s m args below meth c H locs cells slots (S1.2.1 - S.2.1) (S1.2.2 - S.2.2) (F0 m pc ls st) r (px_Qc dC dJ dA S v1 S1 (Value.ref b :: As).toArray) (px_fr S) := by
  obtain ⟨hx, hb, hml, hown, hts, hK⟩ := X
  have hrec := lx_rec hK hok hw hh
  obtain ⟨g1, g2, g3, g4, g5, n1, n2, -⟩ := hok
  have hPc : ∀ U : State, U.heap = H → s.WarmedH U.vm → px_Pc dC dJ dA (.ref b :: As) S (Value.ref b :: As).toArray U := fun U hU hW => ⟨rfl, by rw [hU]; exact hh, by rw [hU]; exact hsz, px_K.warm hW hK⟩
  have S0 : CallFix p m c cc nL s args px_tbl "CheckDaemonLaw" := ⟨hx, hb, hml, hown, hts⟩
  have cb : CallB R s args "CheckDaemonLaw" ix (px_y mj) (px_b mj) (px_ml mj) (px_rt mj) (px_ws mj) (px_rm d (S1.2.1 - S.2.1) (S1.2.2 - S.2.2)) (S1.2.1 - S.2.1) (S1.2.2 - S.2.2) n := by
    refine callB_of n hts (px_good (fun _ h => h) g1) rfl rfl rfl (hts _ g2) (hts _ hlk) ⟨g3.1, g3.2, g4⟩ ⟨hRf, ?_⟩
    show 8 + (px_ml mj + 11) + (100 * d + 20) ≤ R.locals
    omega
  exact va_runV S0 (px_sound l dC dJ dA d _ _ _ _ _ hev) ⟨cb, hts _ n1, hts _ n2⟩ ⟨px_blind, hrec, hPc⟩ rfl hn hl hst (by show 2 * 0 + _ ≤ 8; omega) hq hf
theorem xZ.call {S : px_S} {X text : String} {is sa : Nat} {U V : State} (h : xZ S X is text sa U) (hv : U.vm = V.vm) (hh : V.heap = U.heap) : xZ S X is text sa V := by
  obtain ⟨h1, h2, h3, h4⟩ := h
  have ha : U.vm.Alike V.vm := by rw [hv]; exact Vm.Alike.refl _
  exact ⟨fun w hw => (h1 w hw).same (xB_tab X w hw) hv, h2.same hv.symm, by rw [hh]; exact h3.moved ha, by rw [hh]; exact h4.moved ha⟩
theorem xZ.warm {S : px_S} {X text : String} {is sa : Nat} {U V : State} (h : xZ S X is text sa U) (hW : U.WarmedH V.vm) (hh : V.heap = U.heap) : xZ S X is text sa V := by
  obtain ⟨h1, h2, h3, h4⟩ := h
  exact ⟨xB_warm hW h1, h2.warm hW, by rw [hh]; exact h3.moved hW.alike, by rw [hh]; exact h4.moved hW.alike⟩
theorem xPc_blind {As : List Value} {S : px_S} {X text : String} {is sa : Nat} : FrameBlind (xPc dC dJ dA As S X is text sa) := fun a U g mk h => ⟨px_blind a U g mk h.1, h.2.call (U := U) (V := U.calling g mk a) rfl rfl⟩
theorem lx_callX {mj ix n b pc is sa : Nat} {S : px_S} {As r st : List Value} {fs : List Value} {ls : Array Slot} {X text : String} (Y : wZ dC dJ dA p s m args c cc nL)
    (hok : mOk mj n) (hlk : Cond.methodLink "CheckDaemonLaw" ix (px_y mj) ∈ px_tbl) (hRf : 9 ≤ R.frames) (hRl : 1100 ≤ R.locals)
    (hM : vx_Met l (px_y mj) (px_ws mj) xRm (xPc dC dJ dA (.ref b :: As) S X is text sa) (fun _ _ _ _ => False) (xXC dC dJ dA S X) 1 6 (px_fr S)) (hw : S.1 b = some (.inr (px_yc mj, fs))) (hh : px_hold dC dJ dA S.1 H) (hsz : H.size = S.2.1)
    (hz : xZ S X is text sa s) (hH : H = s.heap)
    (hf : cells + 1 ≤ R.cells ∧ slots + 6 ≤ R.slots) (hn : As.length = n) (hl : ls.size = nL) (hst : st = As.reverse ++ .ref b :: r) (hsum : (r.map fun v => v.category).sum ≤ 8) (hq : decode cc pc = .ok (.invokevirtual ix, 3)) :
    vx_Run p l e R s m args below meth c H locs cells slots 1 6 (F0 m pc ls st) r (fun _ _ _ => False) (xXC dC dJ dA S X) (px_fr S) := by
  obtain ⟨hx, hb, hml, hown, hts, hK⟩ := Y
  have hrec := lx_rec hK hok hw hh
  obtain ⟨g1, g2, g3, g4, g5, n1, n2, -⟩ := hok
  have hPc : ∀ U : State, U.heap = H → s.WarmedH U.vm → xPc dC dJ dA (.ref b :: As) S X is text sa (Value.ref b :: As).toArray U := fun U hU hW => ⟨⟨rfl, by rw [hU]; exact hh, by rw [hU]; exact hsz, px_K.warm hW hK⟩, hz.warm hW (hU.trans hH)⟩
  have S0 : CallFix p m c cc nL s args px_tbl "CheckDaemonLaw" := ⟨hx, hb, hml, hown, hts⟩
  have cb : CallB R s args "CheckDaemonLaw" ix (px_y mj) (px_b mj) (px_ml mj) (px_rt mj) (px_ws mj) xRm 1 6 n := by
    refine callB_of n hts (px_good (fun _ h => h) g1) rfl rfl rfl (hts _ g2) (hts _ hlk) ⟨g3.1, g3.2, g4⟩ ⟨hRf, ?_⟩
    show 8 + (px_ml mj + 11) + 1000 ≤ R.locals
    omega
  exact vx_runV S0 hM ⟨cb, hts _ n1, hts _ n2⟩ ⟨xPc_blind, hrec, hPc⟩ rfl hn hl hst (by show 2 * 0 + _ ≤ 8; omega) hq hf
/-- a[i] = x for a long[] of the world -/
theorem lx_last {w0 : px_W} {nx0 sl0 a n pc : Nat} {S : px_S} {i : Int32} {x : Int64} {f : Nat → Int64} {r : List Value} {ls : Array Slot} (hx : p.tables.exec = Jvm.exec) (hb : c.code = cc) (hK : px_K dC dJ dA s) (hR : px_Rl dC dJ dA s w0 nx0 sl0 S H locs cells slots) (hw : S.1 a = some (.inl (1, n, .inr (.inl f)))) (hin : px_in i n = true) (hq : decode cc pc = .ok (.lastore, 1))
    (kk : ∀ (H' : Heap) (locs' : List Loc), px_Rl dC dJ dA s w0 nx0 sl0 (va_up S.1 a (some (.inl (1, n, .inr (.inl (vp_updL f i.toNatClampNeg x))))), S.2) H' locs' cells slots → W p l e R s m args below meth c H' locs' cells slots Q (F0 m (pc + 1) ls r)) :
    W p l e R s m args below meth c H locs cells slots Q (F0 m pc ls (.long x :: .int i :: .ref a :: r)) := by
  refine W.last hx hb (hR.1 a _ hw) ((hK.1.2 1 _ (px_tys_at (by decide))).1 n (fun j => .long (f j))) (fun q => by cases q) (by show ¬ (i < 0 ∨ (arrV _ _ _).slots.size ≤ _); rw [arrV_size]; exact px_inv hin) rfl rfl hq fun H1 e z oq => ?_
  refine kk H1 _ (hR.put hw ?_ z oq)
  show H1[a]? = some (vp_cell _ _)
  rw [e]
  rw [vp_cell_l, vp_cell_l, arrV_store]
  congr 2
  funext j
  by_cases hj : j = i.toNatClampNeg
  · subst hj; simp [updV, vp_updL]
  · simp [updV, vp_updL, hj]
end WRA
/-! ===== the law's methods with a handler ===== -/
def wr_ws (y : MethodName) (cc : ByteArray) (nL : Nat) (hh : List (Nat × Nat × Nat × Nat)) : List Cond := Cond.codeWith y cc nL (some .int) hh :: px_tbl
def wLoad (cc : ByteArray) (nL pI : Nat) (vs st : List Value) : Prop := ∀ (p : Program) (l : Launch) (e : Env) (R : Room) (s : State) (m : MethodId) (args : Array Value) (below : List Frame) (meth : Method) (c : Code) (H : Heap) (locs : List Loc) (cells slots : Nat) (Q : State → Prop) (ls : Array Slot),
  p.tables.exec = Jvm.exec → c.code = cc → lv_has ls nL (lv_args 0 vs) → W p l e R s m args below meth c H locs cells slots Q (F0 m pI ls st) → W p l e R s m args below meth c H locs cells slots Q (F0 m 0 ls [])
def wCatch (cc : ByteArray) (nL pH pT : Nat) : Prop := ∀ (p : Program) (l : Launch) (e : Env) (R : Room) (s : State) (m : MethodId) (args : Array Value) (below : List Frame) (meth : Method) (c : Code) (H : Heap) (locs : List Loc) (cells slots : Nat) (Q : State → Prop) (ls : Array Slot) (lv : List (Nat × Value)) (q : Nat),
  p.tables.exec = Jvm.exec → c.code = cc → lv_has ls nL lv → (∀ ls', W p l e R s m args below meth c H locs cells slots Q (F0 m pT ls' [])) → W p l e R s m args below meth c H locs cells slots Q (F0 m pH ls [.ref q])
theorem wr_of {l : Launch} {y : MethodName} {ws ws' : List Cond} {rm : Room} {Pc : Array Value → State → Prop} {Qc : Array Value → State → Outcome → State → Prop} {mc ms : Nat} {free : Addr → Prop} {cc : ByteArray} {maxL : Nat} {ret : Option FieldType} {hh : List (Nat × Nat × Nat × Nat)}
    (hy : plainName y.cls = true) (hw : ws = Cond.codeWith y cc maxL ret hh :: ws')
    (body : ∀ p e s m args below meth c s₁, BodyLoose p l y (headSpec ws rm) cc maxL ret e s m args below meth c s₁ → c.maxLocals = maxL → Pc args s →
      W p l e (headSpec ws rm).room s m args below meth c s.heap [] 0 0 (MQ below Qc args s mc ms free) (entryFrame m args maxL)) : Met l y ws rm Pc Qc mc ms free := by
  refine MetFree.of_bodyS (code := cc) (maxLocals := maxL) (ret := ret) hy ?_ ?_
  · intro args s m h hn
    obtain ⟨m9, meth, c, hn9, h1, h2, h3, h4, -, h5, h6, -⟩ := Cond.codeWith_spec (atoms_spec (ws := ws) h _ (by rw [hw]; exact List.mem_cons_self))
    cases hn.symm.trans hn9
    exact ⟨meth, c, h1, h2, h3, h4, h5, h6⟩
  · intro p e s m args below meth c s₁ B hml hP _
    have hh0 : s₁.heap = s.heap := by rw [B.state]; rfl
    obtain ⟨t, a1, o, b1, b2, b3⟩ := body p e s m args below meth c s₁ B hml hP s₁ hh0 (Stand.of_body B)
    exact ⟨t, o, a1, b1, b2, b3⟩
def oUp (S : px_S) (o : Nat) (f : Nat → Int64) (v : Int32) : px_S := (va_up S.1 o (oC (vp_updL f (0 : Int32).toNatClampNeg v.toInt64)), S.2)
set_option maxHeartbeats 4000000 in
theorem wr_R (l : Launch) (dC : Nat → ClassId) (dJ : Nat → Nat → Nat) (dA : Nat → ClassId) {y : MethodName} {cc : ByteArray} {nL ix pI pE mj n x o : Nat} {off : Int} {hh : List (Nat × Nat × Nat × Nat)} {As : List Value} {S S1 : px_S} {v : Int32} {fs : List Value} {f : Nat → Int64} (hpn : plainName y.cls = true) (hyc : y.cls = "CheckDaemonLaw")
    (hLd : wLoad cc nL pI (.ref x :: (As ++ [.ref o])) (As.reverse ++ [.ref x, .int 0, .ref o])) (hlen : (lg_sl (.ref x :: (As ++ [.ref o]))).length ≤ nL) (hok : mOk mj n) (hlk : Cond.methodLink "CheckDaemonLaw" ix (px_y mj) ∈ px_tbl) (hn : As.length = n)
    (hev : px_Ev 60 mj (.ref x :: As) S (some (.int v)) S1) (hw : S.1 x = some (.inr (px_yc mj, fs))) (ho : S1.1 o = oC f)
    (d0 : decode cc pI = .ok (.invokevirtual ix, 3)) (d3 : decode cc (pI + 3) = .ok (.i2l, 1)) (d4 : decode cc (pI + 4) = .ok (.lastore, 1)) (d5 : decode cc (pI + 5) = .ok (.goto off, 3)) (hj : ((pI + 5 : Nat) : Int) + off = (pE : Nat)) (d6 : decode cc pE = .ok (.iconst 0, 1)) (d7 : decode cc (pE + 1) = .ok (.ireturn, 1)) :
    Met l y (wr_ws y cc nL hh) (px_rm 61 (S1.2.1 - S.2.1) (S1.2.2 - S.2.2)) (px_Pc dC dJ dA (.ref x :: (As ++ [.ref o])) S) (px_Qc dC dJ dA S (some (.int 0)) (oUp S1 o f v)) (S1.2.1 - S.2.1) (S1.2.2 - S.2.2) (px_fr S) := by
  obtain ⟨w0, nx0, sl0⟩ := S
  refine wr_of (cc := cc) (maxL := nL) (ret := some .int) (hh := hh) hpn rfl ?_
  intro p e s m args below meth c s₁ B hml hv
  obtain ⟨rfl, hhd, hsz, hK⟩ := hv
  have hts0 := atoms_spec (ws := wr_ws y cc nL hh) B.pre
  have hts : ∀ w ∈ px_tbl, w.before (Value.ref x :: (As ++ [.ref o])).toArray s = true := fun w hw => hts0 w (List.mem_cons_of_mem _ hw)
  have hown : s.vm.findClass "CheckDaemonLaw" = some m.cls := by rw [← hyc]; exact findClass_of_methodNamed B.named
  have Y : wZ dC dJ dA p s m (Value.ref x :: (As ++ [.ref o])).toArray c cc nL := ⟨B.exec, B.bytes, hml, hown, hts, hK⟩
  rw [lg_entry_eq]
  have hl := lv_entry (.ref x :: (As ++ [.ref o])) hlen
  refine hLd p l e _ s m _ below meth c _ _ _ _ _ _ B.exec B.bytes hl ?_
  have hR0 : px_Rl dC dJ dA s w0 nx0 sl0 (w0, nx0, sl0) s.heap [] 0 0 := ⟨hhd, hsz, rfl, rfl, fun _ hq => absurd hq List.not_mem_nil, fun _ _ _ => rfl, fun _ _ h => h⟩
  have hmo := px_Ev_mo _ _ _ _ _ _ hev
  refine px_back hmo (lx_callV Y hok hlk (Nat.le_refl _) (Nat.le_refl _) hev hw hhd hsz ⟨by show 0 + _ ≤ S1.2.1 - nx0; simp, by show 0 + _ ≤ S1.2.2 - sl0; simp⟩ hn hl.1 rfl (Nat.le_of_ble_eq_true rfl) d0) hR0 (fun H' locs' cells' slots' hR => ?_)
  refine lv_i2l B.exec B.bytes d3 rfl ?_
  refine lx_last B.exec B.bytes hK hR ho (by decide) d4 (fun H2 locs2 hR2 => ?_)
  refine lv_goto B.exec B.bytes d5 hj ?_
  refine lv_iconst B.exec B.bytes d6 rfl ?_
  obtain ⟨q1, q2, q3, q4, q5, q6, q7⟩ := hR2
  have q3' : nx0 + cells' = S1.2.1 := q3
  have q4' : sl0 + slots' = S1.2.2 := q4
  have hsz' : s.heap.size = nx0 := hsz
  refine W.cs (cells' := S1.2.1 - nx0) (slots' := S1.2.2 - sl0) (by omega) (by omega) ?_
  exact W.zret B.exec B.bytes B.returns rfl (fun t ht _ => ⟨rfl, by rw [ht]; exact q1, by rw [ht]; exact q2, fun q hq hn => by rw [ht]; exact q6 q (by omega) hn⟩) q5 d7
def wQT (dC : Nat → ClassId) (dJ : Nat → Nat → Nat) (dA : Nat → ClassId) (S : px_S) : Array Value → State → Outcome → State → Prop := fun _ st o t => o = .returned (some (.int 1)) ∧ px_hold dC dJ dA S.1 t.heap ∧ st.heap.size ≤ t.heap.size ∧ ∀ q : Nat, q < st.heap.size → S.1 q = none → t.heap[q]? = st.heap[q]?
def wRm : Room := { frames := 20, cells := 1, slots := 6, locals := 2000 }
set_option maxHeartbeats 4000000 in
theorem wr_T (l : Launch) (dC : Nat → ClassId) (dJ : Nat → Nat → Nat) (dA : Nat → ClassId) {y : MethodName} {cc : ByteArray} {nL ix pI pT ct mj n x o is sa : Nat} {As : List Value} {S : px_S} {fs : List Value} {X text : String} (hpn : plainName y.cls = true) (hyc : y.cls = "CheckDaemonLaw")
    (hLd : wLoad cc nL pI (.ref x :: (As ++ [.ref o])) (As.reverse ++ [.ref x, .int 0, .ref o])) (hlen : (lg_sl (.ref x :: (As ++ [.ref o]))).length ≤ nL) (hok : mOk mj n) (hlk : Cond.methodLink "CheckDaemonLaw" ix (px_y mj) ∈ px_tbl) (hn : As.length = n)
    (hM : vx_Met l (px_y mj) (px_ws mj) xRm (xPc dC dJ dA (.ref x :: As) S X is text sa) (fun _ _ _ _ => False) (xXC dC dJ dA S X) 1 6 (px_fr S)) (hw : S.1 x = some (.inr (px_yc mj, fs)))
    (hct : Cond.classLink "CheckDaemonLaw" ct X ∈ px_tbl) (h0 : ct ≠ 0) (hcov : ∀ z ∈ tableOf [(0, pI + 5, pI + 8, ct)], covers z pI = true)
    (hCt : wCatch cc nL (pI + 8) pT) (d0 : decode cc pI = .ok (.invokevirtual ix, 3)) (d6 : decode cc pT = .ok (.iconst 1, 1)) (d7 : decode cc (pT + 1) = .ok (.ireturn, 1)) :
    Met l y (wr_ws y cc nL [(0, pI + 5, pI + 8, ct)]) wRm (xPc dC dJ dA (.ref x :: (As ++ [.ref o])) S X is text sa) (wQT dC dJ dA S) 1 6 (px_fr S) := by
  obtain ⟨w0, nx0, sl0⟩ := S
  refine wr_of (cc := cc) (maxL := nL) (ret := some .int) (hh := [(0, pI + 5, pI + 8, ct)]) hpn rfl ?_
  intro p e s m args below meth c s₁ B hml hv
  obtain ⟨⟨rfl, hhd, hsz, hK⟩, hz⟩ := hv
  have hts0 := atoms_spec (ws := wr_ws y cc nL [(0, pI + 5, pI + 8, ct)]) B.pre
  have hts : ∀ w ∈ px_tbl, w.before (Value.ref x :: (As ++ [.ref o])).toArray s = true := fun w hw => hts0 w (List.mem_cons_of_mem _ hw)
  have htab : c.exceptionTable.toList = tableOf [(0, pI + 5, pI + 8, ct)] := vx_table (x := y) B (hts0 _ List.mem_cons_self)
  have hown : s.vm.findClass "CheckDaemonLaw" = some m.cls := by rw [← hyc]; exact findClass_of_methodNamed B.named
  have Y : wZ dC dJ dA p s m (Value.ref x :: (As ++ [.ref o])).toArray c cc nL := ⟨B.exec, B.bytes, hml, hown, hts, hK⟩
  rw [lg_entry_eq]
  have hl := lv_entry (.ref x :: (As ++ [.ref o])) hlen
  generalize (lg_sl (.ref x :: (As ++ [.ref o])) ++ List.replicate (nL - (lg_sl (.ref x :: (As ++ [.ref o]))).length) Slot.unset).toArray = ls at hl ⊢
  refine hLd p l e _ s m _ below meth c _ _ _ _ _ _ B.exec B.bytes hl ?_
  have hrun := lx_callX (l := l) (e := e) (R := wRm) (below := below) (meth := meth) (locs := []) (cells := 0) (slots := 0) (r := [.int 0, .ref o]) Y hok hlk (by decide) (by decide) hM hw hhd hsz hz rfl ⟨by decide, by decide⟩ hn hl.1 rfl (Nat.le_of_ble_eq_true rfl) d0
  intro T hT X'
  rcases hrun T hT X' with ⟨v, st₀, t, T', L, h0, X2, hL, e1, e2, hF, st⟩ | ⟨q, st₀, t, T', L, E, ce, h1, X2, hL, e1, e2, ⟨rfl, hX1, hX2, hX3⟩, hce, hcv, hcl, st⟩
  · exact hF.elim
  · have hcast : (Cond.castable E E).before (Value.ref x :: (As ++ [.ref o])).toArray s = true := va_Nw.use rfl (hz.1 _ (by simp [xB]))
    rw [h1] at hX2 hX3
    have hsz' : s.heap.size = nx0 := hsz
    have kk : W p l e wRm s m (Value.ref x :: (As ++ [.ref o])).toArray below meth c T'.heap ([] ++ L) (0 + 1) (0 + 6) (MQ below (wQT dC dJ dA (w0, nx0, sl0)) (Value.ref x :: (As ++ [.ref o])).toArray s 1 6 (px_fr (w0, nx0, sl0))) (F0 m (pI + 8) ls [.ref q]) := by
      refine hCt p l e _ s m _ below meth c _ _ _ _ _ _ _ q B.exec B.bytes hl (fun ls' => ?_)
      refine lv_iconst B.exec B.bytes d6 rfl ?_
      refine W.zret B.exec B.bytes B.returns rfl (fun t' ht _ => ⟨rfl, by rw [ht, e1]; exact hX1, by rw [ht, e1]; exact hX2, fun q hq hn => by rw [ht, e1]; exact hX3 q hq hn⟩) (fun z hz => hL z (by simpa using hz)) d7
    have hvw := vx_catch (Q := MQ below (wQT dC dJ dA (w0, nx0, sl0)) (Value.ref x :: (As ++ [.ref o])).toArray s 1 6 (px_fr (w0, nx0, sl0))) (pc := pI) (rest := [.int 0, .ref o]) hown [] _ [] htab (fun _ h => absurd h List.not_mem_nil) (hcov _ List.mem_cons_self) h0 (hts _ hct) hcast (by rw [e1]; exact hce) hcv hcl kk
    obtain ⟨t2, a1, b1⟩ := hvw T' rfl X2
    exact ⟨t2, st.trans a1, b1⟩
