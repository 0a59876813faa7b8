/-! ===== what the class throws ===== -/
def xIS : String := "java/lang/IllegalStateException"
def xIA : String := "java/lang/IllegalArgumentException"
def xN : List String := ["java/lang/RuntimeException", "java/lang/Exception"]
def xB (X : String) : List Cond := [.declares (Bundle.initS "java/lang/RuntimeException"), .declares (Bundle.initS "java/lang/Exception"), .declares (Bundle.initS Bundle.tN), .castable X X]
theorem xb_IS : ∀ w ∈ (vx_atS "CheckDaemon" 39 xIS xN).filter (fun w => !goodWord w), w ∈ xB xIS := by decide +kernel
theorem xb_IA : ∀ w ∈ (vx_atS "CheckDaemon" 54 xIA xN).filter (fun w => !goodWord w), w ∈ xB xIA := by decide +kernel
theorem xg_IS : ∀ w ∈ (vx_atS "CheckDaemon" 39 xIS xN).filter goodWord, w ∈ px_tbl := by decide +kernel
theorem xg_IA : ∀ w ∈ (vx_atS "CheckDaemon" 54 xIA xN).filter goodWord, w ∈ px_tbl := by decide +kernel
theorem xo_IS : ∀ w ∈ Cond.classLink "CheckDaemon" 35 xIS :: Cond.initialized xIS :: vx_atS "CheckDaemon" 39 xIS xN, vx_ot w = true := by decide +kernel
theorem xo_IA : ∀ w ∈ Cond.classLink "CheckDaemon" 50 xIA :: Cond.initialized xIA :: vx_atS "CheckDaemon" 54 xIA xN, vx_ot w = true := by decide +kernel
theorem xl_IS : Cond.classLink "CheckDaemon" 35 xIS ∈ px_tbl ∧ Cond.initialized xIS ∈ px_tbl := by decide +kernel
theorem xl_IA : Cond.classLink "CheckDaemon" 50 xIA ∈ px_tbl ∧ Cond.initialized xIA ∈ px_tbl := by decide +kernel
theorem xB_warm {X : String} {s U : State} (hW : s.WarmedH U.vm) (h : ∀ w ∈ xB X, va_Nw w s) : ∀ w ∈ xB X, va_Nw w U := by
  intro w hw
  have h' := h w hw
  simp only [xB, List.mem_cons, List.not_mem_nil, or_false] at hw
  rcases hw with rfl | rfl | rfl | rfl
  · exact va_Nw.warmD hW h'
  · exact va_Nw.warmD hW h'
  · exact va_Nw.warmD hW h'
  · exact va_Nw.warmC hW h'
theorem xB_tab (X : String) : ∀ w ∈ xB X, w.onTables = true := by
  intro w hw
  simp only [xB, List.mem_cons, List.not_mem_nil, or_false] at hw
  rcases hw with rfl | rfl | rfl | rfl <;> rfl
/-- what a throw asks of the start beside the world: words that are not kept by themselves, the message's string, two statics of Throwable -/
def xZ (S : px_S) (X : String) (is : Nat) (text : String) (sa : Nat) (U : State) : Prop := (∀ w ∈ xB X, va_Nw w U) ∧ vk_R "CheckDaemon" is text sa U ∧ vx_Zq Bundle.tN "UNASSIGNED_STACK" Bundle.steD (px_fr S) U U.heap ∧ vx_Zq Bundle.tN "SUPPRESSED_SENTINEL" Bundle.listD (px_fr S) U U.heap
def xPc (dC : Nat → ClassId) (dI : Nat → Nat → Nat) (dA : Nat → ClassId) (As : List Value) (S : px_S) (X : String) (is : Nat) (text : String) (sa : Nat) : Array Value → State → Prop := fun a U => px_Pc dC dI dA As S a U ∧ xZ S X is text sa U
/-- the world behind a throw -/
def xXC (dC : Nat → ClassId) (dI : Nat → Nat → Nat) (dA : Nat → ClassId) (S : px_S) (X : String) : String → State → State → Prop := fun E st t => E = X ∧ px_hold dC dI dA S.1 t.heap ∧ st.heap.size ≤ t.heap.size ∧ ∀ q : Nat, q < st.heap.size → S.1 q = none → t.heap[q]? = st.heap[q]?
def xRm : Room := { frames := 8, cells := 1, slots := 6, locals := 1000 }
theorem px_hold.kept {dC : Nat → ClassId} {dI : Nat → Nat → Nat} {dA : Nat → ClassId} {w : px_W} {H H1 : Heap} (h : px_hold dC dI dA w H) (hq : ∀ q : Nat, q < H.size → H1[q]? = H[q]?) : px_hold dC dI dA w H1 := fun a x hx => (h a x hx).kept (hq _ (h a x hx).lt)
set_option maxHeartbeats 4000000 in
theorem px_thr {l : Launch} (hl : l.stackTraces = false) (dC : Nat → ClassId) (dI : Nat → Nat → Nat) (dA : Nat → ClassId) {mi pc ik is ic sa : Nat} {X text : String} {As : List Value} {S : px_S} (ht : px_T 7 mi (px_ent As) S (toX pc S)) (hlen : (lg_sl As).length ≤ px_ml mi) (hown : px_on (px_cn mi) = "CheckDaemon") (hpn : plainName (px_y mi).cls = true)
    (hX : Bundle.fit X = true) (hk : Cond.classLink "CheckDaemon" ik X ∈ px_tbl ∧ Cond.initialized X ∈ px_tbl) (hg : ∀ w ∈ (vx_atS "CheckDaemon" ic X xN).filter goodWord, w ∈ px_tbl) (hb : ∀ w ∈ (vx_atS "CheckDaemon" ic X xN).filter (fun w => !goodWord w), w ∈ xB X) (ho : ∀ w ∈ Cond.classLink "CheckDaemon" ik X :: Cond.initialized X :: vx_atS "CheckDaemon" ic X xN, vx_ot w = true)
    (d0 : decode (px_b mi) pc = .ok (.new ik, 3)) (d3 : decode (px_b mi) (pc + 3) = .ok (.dup, 1)) (d4 : decode (px_b mi) (pc + 4) = .ok (.ldc is, 2)) (d6 : decode (px_b mi) (pc + 6) = .ok (.invokespecial ic, 3)) (d9 : decode (px_b mi) (pc + 9) = .ok (.athrow, 1)) :
    vx_Met l (px_y mi) (px_ws mi) xRm (xPc dC dI dA As S X is text sa) (fun _ _ _ _ => False) (xXC dC dI dA S X) 1 6 (px_fr S) := by
  obtain ⟨w0, nx0, sl0⟩ := S
  refine vx_ofW (cc := px_b mi) (maxL := px_ml mi) (ret := px_rt mi) hpn rfl ?_
  intro p e s m args below meth c s₁ B hml hex hv
  obtain ⟨⟨rfl, hh, hsz, hK⟩, hw, hstr, hU, hN⟩ := hv
  have hts0 := atoms_spec (ws := px_ws mi) B.pre
  have hts : ∀ w ∈ px_tbl, w.before As.toArray s = true := fun w hw => hts0 w (List.mem_cons_of_mem _ hw)
  have hownc : s.vm.findClass (px_y mi).cls = some m.cls := findClass_of_methodNamed B.named
  have hown' : s.vm.findClass (px_on (px_cn mi)) = some m.cls := by rw [px_on_ok]; exact hownc
  rw [lg_entry_eq]
  obtain ⟨n, f', S', hr, e1, e2, e3⟩ := ht
  subst e1
  refine px_rchW (d := 7) (R := xRm) ⟨B.exec, B.bytes, hml, hown', hts, hK, fun hi => (name_of_methodNamed B.named B.method).1.trans (px_isI_ok hi)⟩ (Nat.le_refl _) (by decide) (by show nx0 ≤ nx0 + 1; omega) (by show sl0 ≤ sl0 + 6; omega) ?_ n (px_ent As) (w0, nx0, sl0) hr _ [] 0 0 _
    ⟨hh, hsz, rfl, rfl, fun _ hq => absurd hq List.not_mem_nil, fun _ _ _ => rfl, fun _ _ h => h⟩ (lv_entry As hlen)
  intro H locs cells slots ls hR hls
  obtain ⟨q1, q2, q3, q4, q5, q6, q7⟩ := hR
  rw [e2, e3]
  have q2' : H.size = nx0 := q2
  have hsz' : s.heap.size = nx0 := hsz
  have q3' : nx0 + cells = nx0 := q3
  have q4' : sl0 + slots = sl0 := q4
  have hc0 : cells = 0 := by omega
  have hs0 : slots = 0 := by omega
  subst hc0 hs0
  rw [hown] at hown'
  refine vx_throwS (own := "CheckDaemon") (cls := X) (text := text) (names := xN) (sa := sa) (A := px_fr (w0, nx0, sl0)) B.exec B.bytes hl hown' hX (by decide +kernel) (hts _ hk.1) (hts _ hk.2) hstr (vx_hat (fun w h => hts w (hg w h)) hb (fun w h => va_Nw.use (xB_tab X w h) (hw w h))) ho hU hN ⟨by omega, fun q hq hnA => ?_, q5⟩ (hls.1.trans hml.symm) d0 d3 d4 d6 d9 (fun x hx => (hex x hx).elim) (by decide) (by decide) (by decide) (by decide) B.notSynchronized (fun t ht hsz2 hkeep => ⟨rfl, q1.kept hkeep, by omega, fun q hq hn => ?_⟩) q5 (by decide) (by decide)
  · have hn : w0 q = none := by
      cases hwq : w0 q with
      | none => rfl
      | some y => exact absurd (Or.inl (by show w0 q ≠ none; rw [hwq]; exact fun z => by cases z)) hnA
    exact q6 q (by omega) hn
  · rw [hkeep q (by omega)]
    exact q6 q (by omega) hn
