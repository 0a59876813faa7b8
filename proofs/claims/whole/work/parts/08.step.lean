theorem px_ca_ok {cn ix kd mj n : Nat} (h : px_ca cn ix = some (kd, mj, n)) : Cond.code (px_y mj) (px_b mj) (px_ml mj) (px_rt mj) ∈ px_tbl ∧ Cond.initialized (px_y mj).cls ∈ px_tbl ∧ ((px_y mj).cls ≠ "java/lang/invoke/MethodHandle" ∧ (px_y mj).cls ≠ "java/lang/invoke/VarHandle") ∧
  (parseMethodDescriptor (px_y mj).desc).map (fun d => d.parameters.length) = some n ∧ px_ml mj ≤ 80 ∧ (Cond.methodLink (px_on cn) ix (px_y mj) ∈ px_tbl ∨ ∃ host, Cond.methodLinkNest (px_on cn) ix (px_y mj) host ∈ px_nw) ∧
  (kd = 0 → Cond.static (px_y mj) ∈ px_tbl) ∧ (kd = 1 → Cond.instanceMethod (px_y mj) ∈ px_tbl ∧ Cond.selects (px_y mj).cls (px_y mj) (px_y mj) ∈ px_tbl ∧ ∃ rc, px_cl[px_yc mj]? = some rc ∧ rc.1 = (px_y mj).cls) ∧
  (kd = 2 → (px_y mj).name = "<init>" ∧ Cond.instanceMethod (px_y mj) ∈ px_tbl ∧ px_rt mj = none) := px_ca_ok0 h
theorem px_decl {ci k : Nat} {C : String} {T : u_T} {N : Nat} (h : px_cl[ci]? = some (C, T, N)) (hk : k < N) : (T k).1 = px_on ci := by
  have h1 : ∀ ci, ci < 11 → ∀ k, k < ((px_cl.getD ci (px_R0, px_T0, 0)).2.2) → ((px_cl.getD ci (px_R0, px_T0, 0)).2.1 k).1 = px_on ci := by decide +kernel
  have hci : ci < 11 := (List.getElem?_eq_some_iff.mp h).1
  have h2 := h1 ci hci k (by rw [List.getD_eq_getElem?_getD, h]; exact hk)
  rw [List.getD_eq_getElem?_getD, h] at h2
  exact h2
theorem px_nestF {own ref n d host : String} {ix : Nat} (h : Cond.fieldLinkNest own ix ref n d host ∈ px_nw) : ¬ ref = own := by
  rcases List.mem_append.mp h with h | h
  · obtain ⟨q, hq, he⟩ := List.mem_map.mp h
    have h1 : ∀ q ∈ px_nwF, q.2.2.1 ≠ q.1 := by decide +kernel
    cases he
    exact h1 q hq
  · obtain ⟨q, hq, he⟩ := List.mem_map.mp h
    cases he
/-! ===== one step of the pure machine is one step of the machine ===== -/
def px_e (dA : Nat → ClassId) (x : px_E) : va_E := match x with
  | .inl a => .inl (dA a.1, a.2)
  | .inr o => .inr o
def px_hold (dC : Nat → ClassId) (dI : Nat → Nat → Nat) (dA : Nat → ClassId) (w : px_W) (H : Heap) : Prop := ∀ (a : Nat) (x : px_E), w a = some x → va_at (dC, dI) px_cl (a, px_e dA x) H
def px_tys (dA : Nat → ClassId) : List (ClassId × FieldType) := (List.range px_nty).map fun t => (dA t, px_ty t)
theorem px_tys_at {dA : Nat → ClassId} {t : Nat} (h : t < px_nty) : (px_tys dA)[t]? = some (dA t, px_ty t) := by
  simp [px_tys, h]
/-- what the tables say, all along -/
def px_K (dC : Nat → ClassId) (dI : Nat → Nat → Nat) (dA : Nat → ClassId) (U : State) : Prop := va_K (dC, dI) px_cl (px_tys dA) U ∧ (∀ w ∈ px_nw, va_Nw w U) ∧ ∀ t, t < px_nty → ∀ C, px_ty t = .object C → va_AO C U
def px_Cx (p : Program) (s : State) (m : MethodId) (args : Array Value) (meth : Method) (c : Code) (mi : Nat) (dC : Nat → ClassId) (dI : Nat → Nat → Nat) (dA : Nat → ClassId) : Prop :=
  p.tables.exec = Jvm.exec ∧ c.code = px_b mi ∧ c.maxLocals = px_ml mi ∧ s.vm.findClass (px_on (px_cn mi)) = some m.cls ∧ (∀ w ∈ px_tbl, w.before args s = true) ∧ px_K dC dI dA s ∧ (px_isI mi = true → meth.name = "<init>")
/-- the machine's heap holds the pure one; only what is owned has changed -/
def px_Rl (dC : Nat → ClassId) (dI : Nat → Nat → Nat) (dA : Nat → ClassId) (s : State) (w0 : px_W) (nx0 sl0 : Nat) (S : px_S) (H : Heap) (locs : List Loc) (cells slots : Nat) : Prop :=
  px_hold dC dI dA S.1 H ∧ H.size = S.2.1 ∧ nx0 + cells = S.2.1 ∧ sl0 + slots = S.2.2 ∧ (∀ q ∈ locs, w0 q.base ≠ none ∨ nx0 ≤ q.base) ∧ (∀ q : Nat, q < nx0 → w0 q = none → H[q]? = s.heap[q]?) ∧ ∀ q : Nat, q < nx0 → S.1 q ≠ none → w0 q ≠ none
theorem px_va1 {D : va_G} {cl : List vw_C} {q : Nat × va_E} {H : Heap} (h : va_at D cl q H) : va_P D cl [q] H := by
  intro k x hk
  cases k with
  | zero => cases hk; exact h
  | succ k => cases hk
section PXR
variable {dC : Nat → ClassId} {dI : Nat → Nat → Nat} {dA : Nat → ClassId} {s : State} {w0 : px_W} {nx0 sl0 : Nat} {S : px_S} {H H1 : Heap} {locs : List Loc} {cells slots : Nat} {a k n : Nat} {x x' : px_E}
theorem px_Rl.put (h : px_Rl dC dI dA s w0 nx0 sl0 S H locs cells slots) (ha : S.1 a = some x) (hv : va_at (dC, dI) px_cl (a, px_e dA x') H1) (hz : H1.size = H.size) (oq : ∀ q : Nat, q ≠ a → H1[q]? = H[q]?) :
    px_Rl dC dI dA s w0 nx0 sl0 (va_up S.1 a (some x'), S.2) H1 (locs ++ [⟨a, k⟩]) cells slots := by
  obtain ⟨h1, h2, h3, h4, h5, h6, h7⟩ := h
  have hown : w0 a ≠ none ∨ nx0 ≤ a := by
    rcases Nat.lt_or_ge a nx0 with hlt | hge
    · exact Or.inl (h7 a hlt (by rw [ha]; exact fun z => by cases z))
    · exact Or.inr hge
  refine ⟨fun b y hy => ?_, hz.trans h2, h3, h4, fun q hq => ?_, fun q hq hn => ?_, fun q hq hn => ?_⟩
  · by_cases hb : b = a
    · subst hb
      simp only [va_up, if_true] at hy
      cases hy
      exact hv
    · simp only [va_up, if_neg hb] at hy
      exact (h1 b y hy).kept (oq b hb)
  · rcases List.mem_append.mp hq with hq | hq
    · exact h5 q hq
    · rw [List.mem_singleton.mp hq]
      exact hown
  · have hqa : q ≠ a := by
      intro z
      subst z
      rcases hown with h | h
      · exact h hn
      · omega
    rw [oq q hqa]
    exact h6 q hq hn
  · by_cases hb : q = a
    · subst hb
      exact h7 q hq (by rw [ha]; exact fun z => by cases z)
    · simp only [va_up, if_neg hb] at hn
      exact h7 q hq hn
theorem px_Rl.new (h : px_Rl dC dI dA s w0 nx0 sl0 S H locs cells slots) (hv : va_at (dC, dI) px_cl (S.2.1, px_e dA x) H1) (hz : H1.size = S.2.1 + 1) (oq : ∀ q : Nat, q < S.2.1 → H1[q]? = H[q]?) :
    px_Rl dC dI dA s w0 nx0 sl0 (va_up S.1 S.2.1 (some x), S.2.1 + 1, S.2.2 + n) H1 locs (cells + 1) (slots + n) := by
  obtain ⟨h1, h2, h3, h4, h5, h6, h7⟩ := h
  refine ⟨fun b y hy => ?_, hz, by show nx0 + (cells + 1) = S.2.1 + 1; omega, by show sl0 + (slots + n) = S.2.2 + n; omega, h5, fun q hq hn => ?_, fun q hq hn => ?_⟩
  · by_cases hb : b = S.2.1
    · subst hb
      simp only [va_up, if_true] at hy
      cases hy
      exact hv
    · simp only [va_up, if_neg hb] at hy
      have hk := h1 b y hy
      have hl : b < H.size := hk.lt
      exact hk.kept (oq b (by omega))
  · rw [oq q (by omega)]
    exact h6 q hq hn
  · have hb : q ≠ S.2.1 := by omega
    simp only [va_up, if_neg hb] at hn
    exact h7 q hq hn
end PXR
section PXW
variable {p : Program} {l : Launch} {e : Env} {R : Room} {s : State} {m : MethodId} {args : Array Value} {below : List Frame} {meth : Method} {c : Code} {H : Heap} {locs : List Loc} {cells slots : Nat} {Q : State → Prop}
theorem px_wbt {b : Bool} {t u : Nat} {ls : Array Slot} {st : List Value} (h : W p l e R s m args below meth c H locs cells slots Q (F0 m (bif b then t else u) ls st)) (hb : b = true) : W p l e R s m args below meth c H locs cells slots Q (F0 m t ls st) := by subst hb; exact h
theorem px_wbf {b : Bool} {t u : Nat} {ls : Array Slot} {st : List Value} (h : W p l e R s m args below meth c H locs cells slots Q (F0 m (bif b then t else u) ls st)) (hb : b = false) : W p l e R s m args below meth c H locs cells slots Q (F0 m u ls st) := by subst hb; exact h
theorem px_sNA {mi : Nat} {dC : Nat → ClassId} {dI : Nat → Nat → Nat} {dA : Nat → ClassId} {w0 : px_W} {nx0 sl0 : Nat} {at0 : ArrayType} {pc : Nat} {l0 : px_L} {st : List Value} {S : px_S} {q : px_F × px_S} {z0 : vp_A} {t0 : Nat} {cc : ByteArray}
    (hx : p.tables.exec = Jvm.exec) (hb : c.code = cc) (harr : (Cond.arrayClass (newarray.typeOf at0)).before args s = true) (hq : decode cc pc = .ok (.newarray at0, 2)) (hd : px_nwa (some z0) t0 2 pc l0 st S = some q)
    (hR : px_Rl dC dI dA s w0 nx0 sl0 S H locs cells slots) (hc1 : q.2.2.1 ≤ nx0 + R.cells) (hc2 : q.2.2.2 ≤ sl0 + R.slots) (hK : px_K dC dI dA s) (ht : t0 < px_nty) (hty : px_ty t0 = newarray.typeOf at0)
    (hz : ∀ (cA : ClassId) (N : Nat), vp_cell cA (N, z0.2) = arrV cA N (fun _ => defaultValue (newarray.typeOf at0))) (hcb : componentBytes (newarray.typeOf at0) ≤ 8)
    {ls : Array Slot} (kk : ∀ (H' : Heap) (locs' : List Loc) (cells' slots' : Nat) (ls' : Array Slot), px_Rl dC dI dA s w0 nx0 sl0 q.2 H' locs' cells' slots' → lv_has ls' (px_ml mi) q.1.2.1 → W p l e R s m args below meth c H' locs' cells' slots' Q (F0 m q.1.1 ls' q.1.2.2))
    (hl : lv_has ls (px_ml mi) l0) : W p l e R s m args below meth c H locs cells slots Q (F0 m pc ls st) := by
  obtain ⟨n, r, z, hz1, hn, rfl, rfl⟩ := px_nwa_inv hd
  cases hz1
  obtain ⟨-, hsz, hn3, hn4, -⟩ := id hR
  have hn0 : ¬ n < 0 := fun z => hn (Or.inl z)
  have hn1 : ¬ 67108864 < n.toNatClampNeg := fun z => hn (Or.inr z)
  have hmul : n.toNatClampNeg * componentBytes (newarray.typeOf at0) ≤ 67108864 * 8 := Nat.mul_le_mul (by omega) hcb
  refine va_newaK hx hb harr rfl hq rfl hn0 rfl (by omega) (by simp only at hc1; omega) (by simp only at hc2; omega) hsz fun H1 cA e1 z1 o1 hAr hNm => ?_
  have hra := (hK.1.2 t0 _ (px_tys_at ht)).2
  rw [hty] at hra
  have hcA : cA = dA t0 := by
    have h9 : s.vm.findClass ("[" ++ (newarray.typeOf at0).toString) = some (dA t0) := by cases at0 <;> exact hra
    exact Option.some.inj (hNm.symm.trans h9)
  subst hcA
  exact kk H1 _ _ _ _ (hR.new (x := .inl (t0, n.toNatClampNeg, z0.2)) (by show H1[S.2.1]? = some (vp_cell _ _); rw [hz]; exact e1) z1 (fun q hq => o1 q hq)) hl
set_option maxHeartbeats 4000000 in
set_option maxRecDepth 100000 in
theorem px_s1 {mi : Nat} {dC : Nat → ClassId} {dI : Nat → Nat → Nat} {dA : Nat → ClassId} {w0 : px_W} {nx0 sl0 : Nat} (X : px_Cx p s m args meth c mi dC dI dA) {i : Instr} {pc : Nat} {l0 : px_L} {st : List Value} {S : px_S} {q : px_F × px_S}
    (hat : px_at mi pc = some i) (hd : px_do mi i pc l0 st S = some q) (hR : px_Rl dC dI dA s w0 nx0 sl0 S H locs cells slots) (hc1 : q.2.2.1 ≤ nx0 + R.cells) (hc2 : q.2.2.2 ≤ sl0 + R.slots) (hfr : 1 ≤ R.frames) (hlo : 20 ≤ R.locals)
    {ls : Array Slot} (hl : lv_has ls (px_ml mi) l0)
    (kk : ∀ (H' : Heap) (locs' : List Loc) (cells' slots' : Nat) (ls' : Array Slot), px_Rl dC dI dA s w0 nx0 sl0 q.2 H' locs' cells' slots' → lv_has ls' (px_ml mi) q.1.2.1 → W p l e R s m args below meth c H' locs' cells' slots' Q (F0 m q.1.1 ls' q.1.2.2)) :
    W p l e R s m args below meth c H locs cells slots Q (F0 m pc ls st) := by
  obtain ⟨hx, hb, hml, hown, hts, hK, hI⟩ := X
  have hq := px_at_ok hat
  cases i
  case iconst n =>
    cases px_k_inv hd
    exact lv_iconst hx hb hq rfl (kk _ _ _ _ _ hR hl)
  case bipush n =>
    cases px_k_inv hd
    exact lv_bipush hx hb hq rfl (kk _ _ _ _ _ hR hl)
  case sipush n =>
    cases px_k_inv hd
    exact lv_sipush hx hb hq rfl (kk _ _ _ _ _ hR hl)
  case lconst n =>
    cases px_k_inv hd
    exact lv_lconst hx hb hq rfl (kk _ _ _ _ _ hR hl)
  case aconst_null =>
    cases px_k_inv hd
    exact lv_null hx hb hq (kk _ _ _ _ _ hR hl)
  case iload k =>
    obtain ⟨x, hg, rfl⟩ := px_ldi_inv hd
    exact lv_iload hx hb hq (px_lat hl hg) (kk _ _ _ _ _ hR hl)
  case iload_n k =>
    obtain ⟨x, hg, rfl⟩ := px_ldi_inv hd
    exact lv_iload_n hx hb hq rfl (px_lat hl hg) (kk _ _ _ _ _ hR hl)
  case lload k =>
    obtain ⟨x, hg, rfl⟩ := px_ldl_inv hd
    exact lv_lload hx hb hq (px_lat hl hg) (kk _ _ _ _ _ hR hl)
  case lload_n k =>
    obtain ⟨x, hg, rfl⟩ := px_ldl_inv hd
    exact lv_lload_n hx hb hq rfl (px_lat hl hg) (kk _ _ _ _ _ hR hl)
  case aload k =>
    rcases px_lda_inv hd with ⟨x, hg, rfl⟩ | ⟨hg, rfl⟩
    · exact lv_aload hx hb hq (px_lat hl hg) (kk _ _ _ _ _ hR hl)
    · exact lv_aloadN hx hb hq (px_lat hl hg) (kk _ _ _ _ _ hR hl)
  case aload_n k =>
    rcases px_lda_inv hd with ⟨x, hg, rfl⟩ | ⟨hg, rfl⟩
    · exact lv_aload_n hx hb hq rfl (px_lat hl hg) (kk _ _ _ _ _ hR hl)
    · exact lv_aload_nN hx hb hq rfl (px_lat hl hg) (kk _ _ _ _ _ hR hl)
  case istore k =>
    obtain ⟨x, r, hlt, rfl, rfl⟩ := px_sti_inv hd
    exact lv_istore hx hb hq hl hlt rfl (fun _ h => kk _ _ _ _ _ hR (px_ls1_has h))
  case istore_n k =>
    obtain ⟨x, r, hlt, rfl, rfl⟩ := px_sti_inv hd
    exact lv_istore_n hx hb hq rfl hl hlt rfl (fun _ h => kk _ _ _ _ _ hR (px_ls1_has h))
  case lstore k =>
    obtain ⟨x, r, hlt, rfl, rfl⟩ := px_stl_inv hd
    exact lv_lstore hx hb hq hl hlt rfl (fun _ h => kk _ _ _ _ _ hR (px_ls2_has h))
  case lstore_n k =>
    obtain ⟨x, r, hlt, rfl, rfl⟩ := px_stl_inv hd
    exact lv_lstore_n hx hb hq rfl hl hlt rfl (fun _ h => kk _ _ _ _ _ hR (px_ls2_has h))
  case astore k =>
    rcases px_sta_inv hd with ⟨x, r, hlt, rfl, rfl⟩ | ⟨r, hlt, rfl, rfl⟩
    · exact lv_astore hx hb hq hl hlt rfl (fun _ h => kk _ _ _ _ _ hR (px_ls1_has h))
    · exact lv_astoreN hx hb hq hl hlt rfl (fun _ h => kk _ _ _ _ _ hR (px_ls1_has h))
  case astore_n k =>
    rcases px_sta_inv hd with ⟨x, r, hlt, rfl, rfl⟩ | ⟨r, hlt, rfl, rfl⟩
    · exact lv_astore_n hx hb hq rfl hl hlt rfl (fun _ h => kk _ _ _ _ _ hR (px_ls1_has h))
    · exact lv_astore_nN hx hb hq rfl hl hlt rfl (fun _ h => kk _ _ _ _ _ hR (px_ls1_has h))
  case iinc k d =>
    obtain ⟨x, hg, hlt, rfl⟩ := px_inc_inv hd
    obtain ⟨j, hj⟩ := px_lpos hg
    exact lv_iinc hx hb hq hl hj rfl hlt rfl (fun _ h => kk _ _ _ _ _ hR (px_ls1_has h))
  case iadd =>
    obtain ⟨x, y, r, rfl, rfl⟩ := px_ii_inv hd
    exact lv_iadd hx hb hq (kk _ _ _ _ _ hR hl)
  case isub =>
    obtain ⟨x, y, r, rfl, rfl⟩ := px_ii_inv hd
    exact lv_isub hx hb hq (kk _ _ _ _ _ hR hl)
  case imul =>
    obtain ⟨x, y, r, rfl, rfl⟩ := px_ii_inv hd
    exact lv_imul hx hb hq (kk _ _ _ _ _ hR hl)
  case iand =>
    obtain ⟨x, y, r, rfl, rfl⟩ := px_ii_inv hd
    exact lv_iand hx hb hq (kk _ _ _ _ _ hR hl)
  case ior =>
    obtain ⟨x, y, r, rfl, rfl⟩ := px_ii_inv hd
    exact lv_ior hx hb hq (kk _ _ _ _ _ hR hl)
  case ixor =>
    obtain ⟨x, y, r, rfl, rfl⟩ := px_ii_inv hd
    exact lv_ixor hx hb hq (kk _ _ _ _ _ hR hl)
  case ishl =>
    obtain ⟨x, y, r, rfl, rfl⟩ := px_ii_inv hd
    exact lv_ishl hx hb hq (kk _ _ _ _ _ hR hl)
  case ishr =>
    obtain ⟨x, y, r, rfl, rfl⟩ := px_ii_inv hd
    exact lv_ishr hx hb hq (kk _ _ _ _ _ hR hl)
  case iushr =>
    obtain ⟨x, y, r, rfl, rfl⟩ := px_ii_inv hd
    exact lv_iushr hx hb hq rfl (kk _ _ _ _ _ hR hl)
  case idiv =>
    obtain ⟨x, y, r, hne, rfl, rfl⟩ := px_dv_inv hd
    exact lv_idiv hx hb hq hne (kk _ _ _ _ _ hR hl)
  case irem =>
    obtain ⟨x, y, r, hne, rfl, rfl⟩ := px_dv_inv hd
    exact lv_irem hx hb hq hne (kk _ _ _ _ _ hR hl)
  case ineg =>
    obtain ⟨x, r, rfl, rfl⟩ := px_i1_inv hd
    exact lv_ineg hx hb hq (kk _ _ _ _ _ hR hl)
  case i2b =>
    obtain ⟨x, r, rfl, rfl⟩ := px_i1_inv hd
    exact lv_i2b hx hb hq rfl (kk _ _ _ _ _ hR hl)
  case i2s =>
    obtain ⟨x, r, rfl, rfl⟩ := px_i1_inv hd
    exact lv_i2s hx hb hq rfl (kk _ _ _ _ _ hR hl)
  case i2c =>
    obtain ⟨x, r, rfl, rfl⟩ := px_i1_inv hd
    exact lv_i2c hx hb hq rfl (kk _ _ _ _ _ hR hl)
  case ladd =>
    obtain ⟨x, y, r, rfl, rfl⟩ := px_ll_inv hd
    exact lv_ladd hx hb hq (kk _ _ _ _ _ hR hl)
  case lsub =>
    obtain ⟨x, y, r, rfl, rfl⟩ := px_ll_inv hd
    exact lv_lsub hx hb hq (kk _ _ _ _ _ hR hl)
  case lmul =>
    obtain ⟨x, y, r, rfl, rfl⟩ := px_ll_inv hd
    exact lv_lmul hx hb hq (kk _ _ _ _ _ hR hl)
  case land =>
    obtain ⟨x, y, r, rfl, rfl⟩ := px_ll_inv hd
    exact lv_land hx hb hq (kk _ _ _ _ _ hR hl)
  case lor =>
    obtain ⟨x, y, r, rfl, rfl⟩ := px_ll_inv hd
    exact lv_lor hx hb hq (kk _ _ _ _ _ hR hl)
  case lxor =>
    obtain ⟨x, y, r, rfl, rfl⟩ := px_ll_inv hd
    exact lv_lxor hx hb hq (kk _ _ _ _ _ hR hl)
  case lshl =>
    obtain ⟨x, y, r, rfl, rfl⟩ := px_li_inv hd
    exact lv_lshl hx hb hq rfl (kk _ _ _ _ _ hR hl)
  case lshr =>
    obtain ⟨x, y, r, rfl, rfl⟩ := px_li_inv hd
    exact lv_lshr hx hb hq rfl (kk _ _ _ _ _ hR hl)
  case lushr =>
    obtain ⟨x, y, r, rfl, rfl⟩ := px_li_inv hd
    exact lv_lushr hx hb hq rfl (kk _ _ _ _ _ hR hl)
  case lcmp =>
    obtain ⟨x, y, r, rfl, rfl⟩ := px_lc_inv hd
    exact W.lcmp hx hb hq (kk _ _ _ _ _ hR hl)
  case i2l =>
    obtain ⟨x, r, rfl, rfl⟩ := px_il_inv hd
    exact lv_i2l hx hb hq rfl (kk _ _ _ _ _ hR hl)
  case l2i =>
    obtain ⟨x, r, rfl, rfl⟩ := px_l2_inv hd
    exact lv_l2i hx hb hq rfl (kk _ _ _ _ _ hR hl)
  case dup =>
    obtain ⟨v, r, h1, rfl, rfl⟩ := px_dup_inv hd
    exact lv_dup hx hb hq h1 (kk _ _ _ _ _ hR hl)
  case pop =>
    obtain ⟨v, r, h1, rfl, rfl⟩ := px_pop_inv hd
    exact lv_pop hx hb hq h1 (kk _ _ _ _ _ hR hl)
  case dup_x1 =>
    obtain ⟨v, u, r, h1, rfl, rfl⟩ := px_dx1_inv hd
    exact lv_dup_x1 hx hb hq h1.1 h1.2 (kk _ _ _ _ _ hR hl)
  case dup_x2 =>
    obtain ⟨v, u, t, r, h1, rfl, rfl⟩ := px_dx2_inv hd
    exact lv_dup_x2 hx hb hq h1.1 h1.2.1 h1.2.2 (kk _ _ _ _ _ hR hl)
  case dup2 =>
    obtain ⟨v, u, r, h1, rfl, rfl⟩ := px_d2_inv hd
    exact lv_dup2_11 hx hb hq h1.1 h1.2 (kk _ _ _ _ _ hR hl)
  case ifCond cd off =>
    obtain ⟨x, r, t, hj, rfl, rfl⟩ := px_if0_inv hd
    cases cd
    · exact lv_if_eq hx hb hq (px_jmp_eq hj) (fun z => px_wbt (kk _ _ _ _ _ hR hl) (decide_eq_true z)) (fun z => px_wbf (kk _ _ _ _ _ hR hl) (decide_eq_false z))
    · exact lv_if_ne hx hb hq (px_jmp_eq hj) (fun z => px_wbt (kk _ _ _ _ _ hR hl) (decide_eq_true z)) (fun z => px_wbf (kk _ _ _ _ _ hR hl) (decide_eq_false (fun w => w z)))
    · exact lv_if_lt hx hb hq (px_jmp_eq hj) (fun z => px_wbt (kk _ _ _ _ _ hR hl) (decide_eq_true z)) (fun z => px_wbf (kk _ _ _ _ _ hR hl) (decide_eq_false z))
    · exact lv_if_ge hx hb hq (px_jmp_eq hj) (fun z => px_wbt (kk _ _ _ _ _ hR hl) (decide_eq_true z)) (fun z => px_wbf (kk _ _ _ _ _ hR hl) (decide_eq_false z))
    · exact lv_if_gt hx hb hq (px_jmp_eq hj) (fun z => px_wbt (kk _ _ _ _ _ hR hl) (decide_eq_true z)) (fun z => px_wbf (kk _ _ _ _ _ hR hl) (decide_eq_false z))
    · exact lv_if_le hx hb hq (px_jmp_eq hj) (fun z => px_wbt (kk _ _ _ _ _ hR hl) (decide_eq_true z)) (fun z => px_wbf (kk _ _ _ _ _ hR hl) (decide_eq_false z))
  case if_icmp cd off =>
    obtain ⟨x, y, r, t, hj, rfl, rfl⟩ := px_if2_inv hd
    cases cd
    · exact lv_icmp_eq hx hb hq (px_jmp_eq hj) (fun z => px_wbt (kk _ _ _ _ _ hR hl) (decide_eq_true z)) (fun z => px_wbf (kk _ _ _ _ _ hR hl) (decide_eq_false z))
    · exact lv_icmp_ne hx hb hq (px_jmp_eq hj) (fun z => px_wbt (kk _ _ _ _ _ hR hl) (decide_eq_true z)) (fun z => px_wbf (kk _ _ _ _ _ hR hl) (decide_eq_false (fun w => w z)))
    · exact lv_icmp_lt hx hb hq (px_jmp_eq hj) (fun z => px_wbt (kk _ _ _ _ _ hR hl) (decide_eq_true z)) (fun z => px_wbf (kk _ _ _ _ _ hR hl) (decide_eq_false z))
    · exact lv_icmp_ge hx hb hq (px_jmp_eq hj) (fun z => px_wbt (kk _ _ _ _ _ hR hl) (decide_eq_true z)) (fun z => px_wbf (kk _ _ _ _ _ hR hl) (decide_eq_false z))
    · exact lv_icmp_gt hx hb hq (px_jmp_eq hj) (fun z => px_wbt (kk _ _ _ _ _ hR hl) (decide_eq_true z)) (fun z => px_wbf (kk _ _ _ _ _ hR hl) (decide_eq_false z))
    · exact lv_icmp_le hx hb hq (px_jmp_eq hj) (fun z => px_wbt (kk _ _ _ _ _ hR hl) (decide_eq_true z)) (fun z => px_wbf (kk _ _ _ _ _ hR hl) (decide_eq_false z))
  case goto off =>
    obtain ⟨t, hj, rfl⟩ := px_go_inv hd
    exact lv_goto hx hb hq (px_jmp_eq hj) (kk _ _ _ _ _ hR hl)
  case ifnull off =>
    rcases px_nul_inv hd with ⟨r, t, hj, rfl, rfl⟩ | ⟨a, r, rfl, rfl⟩
    · exact lv_ifnullN hx hb hq (px_jmp_eq hj) (kk _ _ _ _ _ hR hl)
    · exact lv_ifnull hx hb hq (kk _ _ _ _ _ hR hl)
  case ifnonnull off =>
    rcases px_nnl_inv hd with ⟨a, r, t, hj, rfl, rfl⟩ | ⟨r, rfl, rfl⟩
    · exact lv_ifnonnull hx hb hq (px_jmp_eq hj) (kk _ _ _ _ _ hR hl)
    · exact lv_ifnonnullN hx hb hq (kk _ _ _ _ _ hR hl)
  case lookupswitch dflt ps =>
    obtain ⟨x, r, t, hj, hp, rfl, rfl⟩ := px_lsw_inv hd
    exact lv_lookup hx hb hq hp rfl (px_jmp_eq hj) (kk _ _ _ _ _ hR hl)
  case tableswitch dflt lo hi offs =>
    obtain ⟨x, r, t, rfl, rfl, ⟨ho, hj⟩ | ⟨ho, off, hof, hj⟩⟩ := px_tsw_inv hd
    · exact lv_tableOut hx hb hq ho (px_jmp_eq hj) (kk _ _ _ _ _ hR hl)
    · exact lv_tableIn hx hb hq (fun z => ho (Or.inl z)) (fun z => ho (Or.inr z)) hof (px_jmp_eq hj) (kk _ _ _ _ _ hR hl)
  case ldc ix =>
    obtain ⟨v, ho, rfl⟩ := px_kon_inv hd
    exact lv_ldc hx hb hown (hts _ (px_kc_ok ho)) hq (kk _ _ _ _ _ hR hl)
  case ldc_w ix =>
    obtain ⟨v, ho, rfl⟩ := px_kon_inv hd
    exact lv_ldcw hx hb hown (hts _ (px_kc_ok ho)) hq (kk _ _ _ _ _ hR hl)
  case ldc2_w ix =>
    obtain ⟨v, ho, rfl⟩ := px_konl_inv hd
    exact lv_ldc2 hx hb hown (hts _ (px_kl_ok ho)) hq (kk _ _ _ _ _ hR hl)
  case getfield ix =>
    obtain ⟨a, r, ci, k, fs, v, ho, hw, hv, rfl, rfl⟩ := px_get_inv hd
    obtain ⟨⟨C, T, N⟩, ⟨hcl, hin, -⟩, hkN, hlk⟩ := px_fl_ok ho
    rcases hlk with hlk | ⟨host, hlk⟩
    · exact va_get hx hb hts hin hown hK.1 (px_va1 (hR.1 a _ hw)) 0 rfl hcl k hkN (hts _ hlk) (fun _ h => h) hv hq (kk _ _ _ _ _ hR hl)
    · exact va_getN hx hb hts hin hown hK.1 (px_va1 (hR.1 a _ hw)) 0 rfl hcl k hkN (va_Nw.use rfl (hK.2.1 _ hlk)) (fun _ h => h) hv hq (kk _ _ _ _ _ hR hl)
  case putfield ix =>
    obtain ⟨v, a, r, ci, k, fs, ho, hw, hk, hfit, hmay, rfl, rfl⟩ := px_put_inv hd
    obtain ⟨⟨C, T, N⟩, ⟨hcl, hin, ⟨ty0, hty, hft, -⟩, hnm, -⟩, hkN, hlk⟩ := px_fl_ok ho
    have hd2 : parseFieldDescriptor (T k).2.2.1 = some (px_ft ci k) := by have h9 := hty k hkN; rw [hft k hkN] at h9; exact h9
    have hap := va_apart (own := px_on (px_cn mi)) hts hin ty0 hty hnm hK.1 hcl
    obtain ⟨rr, h1, cell, q1, q2, q3, q4⟩ := hR.1 a _ hw
    have hr : rr = (C, T, N) := Option.some.inj (h1.symm.trans hcl)
    subst hr
    obtain ⟨hS, hfc, kC, hkC, hkind⟩ := hK.1.1 ci _ hcl
    obtain ⟨cf, kf, fi, f, hi, hsl⟩ := hS k hkN
    have hst := (u_facts hfc hkC (u_lays hts hin hkN) hi).1
    have hlay := hts _ (hin _ (u_in_lay hkN))
    unfold u_lay at hlay
    have fin : ∀ (H' : Heap), H'[a]? = some (cell.setSlot f.slot v) → H'.size = H.size → (∀ q : Nat, q ≠ a → H'[q]? = H[q]?) → W p l e R s m args below meth c H' (locs ++ [⟨a, f.slot⟩]) cells slots Q (F0 m (pc + 3) ls r) := by
      intro H' e1 e2 e3
      rw [hsl] at e1 ⊢
      exact kk H' _ _ _ _ (hR.put hw ⟨_, hcl, t_OB.to (V := updV (vp_V fs) k v) ⟨_, e1, q2, q3, t_set q4 hap hkN v⟩ (fun j _ => vp_updV_set hk v j)⟩ e2 e3) hl
    cases hf : (T k).2.2.2 with
    | false =>
      rw [if_neg (by rw [hf]; decide)] at hlay
      have h6 := u_store hfc hkC hkind hlay hi hd2 (px_fitW hfit) (px_fitN hfit)
      rcases hlk with hlk | ⟨host, hlk⟩
      · exact W.putK hx hb (f := f) ⟨hown, hts _ hlk, ⟨_, _, _, hi⟩, hst⟩ (by rw [q2]; exact h6) q1 q3 (by rw [hsl]; exact k2_hasslot (q4 k hkN)) rfl rfl hq fin
      · exact va_WputK hx hb (f := f) hown (va_Nw.use rfl (hK.2.1 _ hlk)) hi hst (by rw [q2]; exact h6) q1 q3 (by rw [hsl]; exact k2_hasslot (q4 k hkN)) rfl rfl hq fin
    | true =>
      rw [if_pos hf] at hlay
      obtain ⟨hisI, hcn⟩ : px_isI mi = true ∧ px_cn mi = ci := by
        rcases px_may_ok hmay with h9 | h9
        · rw [List.getD_eq_getElem?_getD, hcl] at h9
          exact absurd (h9.symm.trans hf) (by decide)
        · exact h9
      have hdecl : (T k).1 = px_on (px_cn mi) := by rw [hcn]; exact px_decl hcl hkN
      have hlk : Cond.fieldLink (px_on (px_cn mi)) ix (T k).1 (T k).2.1 (T k).2.2.1 ∈ px_tbl := by
        rcases hlk with h9 | ⟨host, h9⟩
        · exact h9
        · exact absurd hdecl (px_nestF h9)
      have hcf : m.cls = cf := by
        obtain ⟨_, _, c', _, _, _, -, -, hf', -, -, -, hown2, -⟩ := Cond.laysFinal_spec hlay
        have e1 : c' = cf := by have := hi.symm.trans hf'; simp at this; exact this.1.symm
        rw [hdecl] at hown2
        rw [← e1]; exact Option.some.inj (hown.symm.trans hown2)
      have h6 := u_fits hfc hkC hkind (Or.inr hlay) hi hd2 (px_fitW hfit) (px_fitN hfit)
      exact W.putFinK hx hb hown (hts _ hlk) hi hst hcf (hI hisI) (by rw [q2]; exact h6) q1 q3 (by rw [hsl]; exact k2_hasslot (q4 k hkN)) rfl rfl hq fin
  case new ix =>
    obtain ⟨ci, ho, rfl⟩ := px_new_inv hd
    obtain ⟨⟨C, T, N⟩, ⟨hcl, hin, ⟨ty, hty, -, hdef⟩, -, hnf⟩, hlk, hins, hini⟩ := px_nc_ok ho
    have hKn := hK.1.1 ci _ hcl
    obtain ⟨-, hsz, hn3, hn4, -⟩ := id hR
    have hnf : px_nf ci = N := hnf
    have hins : Cond.instantiable C N ∈ px_tbl := hins
    have hlk : Cond.classLink (px_on (px_cn mi)) ix C ∈ px_tbl := hlk
    have hc1' : S.2.1 + 1 ≤ nx0 + R.cells := hc1
    have hc2' : S.2.2 + px_nf ci ≤ sl0 + R.slots := hc2
    refine W.newcK hx hb hown (hts _ hlk) (hts _ hins) (hts _ hini) rfl hq (by omega) (by omega) hKn.2.1 hsz fun H1 kC hkC e1 z1 o1 => ?_
    exact kk H1 _ _ _ _ (by rw [hnf]; exact hR.new ⟨_, hcl, (u_born ty hts hin hKn hkC e1 hty).to hdef⟩ z1 (fun q hq => o1 q hq)) hl
  case newarray at0 =>
    cases at0
    case int => exact px_sNA (at0 := .int) hx hb (hts _ px_acI) hq hd hR hc1 hc2 hK (by decide) rfl (fun _ _ => rfl) (by decide) kk hl
    case long => exact px_sNA (at0 := .long) hx hb (hts _ px_acL) hq hd hR hc1 hc2 hK (by decide) rfl (fun _ _ => rfl) (by decide) kk hl
    case char => exact px_sNA (at0 := .char) hx hb (hts _ px_acC) hq hd hR hc1 hc2 hK (by decide) rfl (fun _ _ => rfl) (by decide) kk hl
    case boolean => exact px_sNA (at0 := .boolean) hx hb (hts _ px_acZ) hq hd hR hc1 hc2 hK (by decide) rfl (fun _ _ => rfl) (by decide) kk hl
    all_goals (have h9 : (none : px_R) = some q := hd; cases h9)
  case anewarray ix =>
    obtain ⟨n, r, z, hz, hn, rfl, rfl⟩ := px_nwa_inv hd
    cases ho : px_an (px_cn mi) ix with
    | none => rw [ho] at hz; cases hz
    | some t =>
      rw [ho] at hz
      simp only [Option.map_some, Option.some.injEq] at hz
      subst hz
      obtain ⟨C, ht, hty, hlk⟩ := px_an_ok ho
      obtain ⟨-, hsz, hn3, hn4, -⟩ := id hR
      have hn0 : ¬ n < 0 := fun z => hn (Or.inl z)
      have hn1 : ¬ 67108864 < n.toNatClampNeg := fun z => hn (Or.inr z)
      rw [ho] at hc1 hc2 kk
      refine W.anew hx hb hown (hts _ hlk) (va_AO.use (hK.2.2 t ht C hty)) rfl hq rfl hn0 (by omega) (by simp only at hc1; omega) (by simp only at hc2; omega) fun cA kA comp f1 f2 f3 f4 => ?_
      obtain ⟨kA', comp', g1, g2, g3, g4⟩ : va_RA s (dA t) (.object C) := by
        have := (hK.1.2 t _ (px_tys_at ht)).2
        rw [hty] at this; exact this
      cases f1.symm.trans g4
      have e1 : (H.push ({ cls := dA t, slots := Array.replicate n.toNatClampNeg .null, vm := .none } : Cell))[S.2.1]? = some (arrV (dA t) n.toNatClampNeg (fun _ => .null)) := by rw [← hsz, Array.getElem?_push_size, ← arrV_new]
      rw [hsz]
      exact kk _ _ _ _ _ (hR.new (x := .inl (t, n.toNatClampNeg, .inr (.inr (.inr (.inr (fun _ => none)))))) (by show (H.push _)[S.2.1]? = some (vp_cell _ _); rw [vp_cell_q]; exact e1) (by rw [Array.size_push, hsz]) (fun q hq => by rw [Array.getElem?_push, if_neg (by omega)])) hl
  case arraylength =>
    obtain ⟨a, r, t, x, hw, ht, rfl, rfl⟩ := px_len_inv hd
    exact va_alen hx hb hK.1 (px_va1 (hR.1 a _ hw)) 0 t rfl (px_tys_at ht) rfl hq (kk _ _ _ _ _ hR hl)
  case iaload =>
    obtain ⟨i, a, r, t, n, f, hw, rfl, hin, rfl, rfl⟩ := px_ali_inv hd
    exact va_iald hx hb hK.1 (px_va1 (hR.1 a _ hw)) 0 0 rfl (px_tys_at (by decide)) (px_inv hin) hq (kk _ _ _ _ _ hR hl)
  case baload =>
    obtain ⟨i, a, r, t, n, f, hw, rfl, hin, rfl, rfl⟩ := px_ali_inv hd
    exact va_zald hx hb hK.1 (px_va1 (hR.1 a _ hw)) 0 2 rfl (px_tys_at (by decide)) (px_inv hin) hq (kk _ _ _ _ _ hR hl)
  case caload =>
    obtain ⟨i, a, r, t, n, f, hw, rfl, hin, rfl, rfl⟩ := px_ali_inv hd
    exact va_cald hx hb hK.1 (px_va1 (hR.1 a _ hw)) 0 3 rfl (px_tys_at (by decide)) (px_inv hin) hq (kk _ _ _ _ _ hR hl)
  case laload =>
    obtain ⟨i, a, r, t, n, f, hw, rfl, hin, rfl, rfl⟩ := px_all_inv hd
    exact va_lald hx hb hK.1 (px_va1 (hR.1 a _ hw)) 0 1 rfl (px_tys_at (by decide)) (px_inv hin) hq (kk _ _ _ _ _ hR hl)
  case aaload =>
    obtain ⟨i, a, r, t, n, f, hw, htr, hin, rfl, rfl⟩ := px_ala_inv hd
    obtain ⟨C, ht, hty⟩ := px_tr_ok htr
    exact va_aldq (C := C) hx hb hK.1 (px_va1 (hR.1 a _ hw)) 0 t rfl (by rw [px_tys_at ht, hty]) (px_inv hin) hq (kk _ _ _ _ _ hR hl)
  case iastore =>
    obtain ⟨x, i, a, r, n, f, hw, hin, -, rfl, rfl⟩ := px_asi_inv hd
    refine W.iast hx hb (hR.1 a _ hw) ((hK.1.2 0 _ (px_tys_at (by decide))).1 n (fun j => .int (f j))) (fun q => by cases q) (by show ¬ (i < 0 ∨ (arrV _ _ _).slots.size ≤ _); rw [arrV_size]; exact px_inv hin) rfl rfl hq fun H1 e z oq => ?_
    refine kk H1 _ _ _ _ (hR.put hw ?_ z oq) hl
    show H1[a]? = some (vp_cell _ _)
    rw [e]
    rw [vp_cell_i, vp_cell_i, arrV_store]
    congr 2
    funext j
    by_cases hj : j = i.toNatClampNeg
    · subst hj; simp [updV, upd]
    · simp [updV, upd, hj]
  case lastore =>
    obtain ⟨x, i, a, r, n, f, hw, hin, rfl, rfl⟩ := px_asl_inv hd
    refine W.last hx hb (hR.1 a _ hw) ((hK.1.2 1 _ (px_tys_at (by decide))).1 n (fun j => .long (f j))) (fun q => by cases q) (by show ¬ (i < 0 ∨ (arrV _ _ _).slots.size ≤ _); rw [arrV_size]; exact px_inv hin) rfl rfl hq fun H1 e z oq => ?_
    refine kk H1 _ _ _ _ (hR.put hw ?_ z oq) hl
    show H1[a]? = some (vp_cell _ _)
    rw [e]
    rw [vp_cell_l, vp_cell_l, arrV_store]
    congr 2
    funext j
    by_cases hj : j = i.toNatClampNeg
    · subst hj; simp [updV, vp_updL]
    · simp [updV, vp_updL, hj]
  case bastore =>
    obtain ⟨x, i, a, r, n, f, hw, hin, hfit, rfl, rfl⟩ := px_asi_inv hd
    refine W.zast hx hb (hR.1 a _ hw) ((hK.1.2 2 _ (px_tys_at (by decide))).1 n (fun j => .int (f j))) (fun q => by cases q) (by show ¬ (i < 0 ∨ (arrV _ _ _).slots.size ≤ _); rw [arrV_size]; exact px_inv hin) rfl rfl hq fun H1 e z oq => ?_
    rw [show narrow .boolean (.int x) = .int x from px_fitW (ty := .boolean) hfit] at e
    refine kk H1 _ _ _ _ (hR.put hw ?_ z oq) hl
    show H1[a]? = some (vp_cell _ _)
    rw [e]
    rw [vp_cell_i, vp_cell_i, arrV_store]
    congr 2
    funext j
    by_cases hj : j = i.toNatClampNeg
    · subst hj; simp [updV, upd]
    · simp [updV, upd, hj]
  case castore =>
    obtain ⟨x, i, a, r, n, f, hw, hin, hfit, rfl, rfl⟩ := px_asi_inv hd
    refine W.cast hx hb (hR.1 a _ hw) ((hK.1.2 3 _ (px_tys_at (by decide))).1 n (fun j => .int (f j))) (fun q => by cases q) (by show ¬ (i < 0 ∨ (arrV _ _ _).slots.size ≤ _); rw [arrV_size]; exact px_inv hin) rfl rfl hq fun H1 e z oq => ?_
    rw [show narrow .char (.int x) = .int x from px_fitW (ty := .char) hfit] at e
    refine kk H1 _ _ _ _ (hR.put hw ?_ z oq) hl
    show H1[a]? = some (vp_cell _ _)
    rw [e]
    rw [vp_cell_i, vp_cell_i, arrV_store]
    congr 2
    funext j
    by_cases hj : j = i.toNatClampNeg
    · subst hj; simp [updV, upd]
    · simp [updV, upd, hj]
  case aastore =>
    obtain ⟨i, a, r, t, n, f, hw, htr, hin, ⟨v, ci, fs, hv, htc, rfl, rfl⟩ | ⟨rfl, rfl⟩⟩ := px_asa_inv hd
    · obtain ⟨C, ht, hty⟩ := px_tr_ok htr
      obtain ⟨rc, hcl, hnm⟩ := px_tc_ok htc hty
      obtain ⟨r', hr', cellV, g1, g2, g3, -⟩ := hR.1 v _ hv
      have hcls := (hK.1.1 ci rc hcl).2
      obtain ⟨kA, comp, k1, k2, k3, -⟩ : va_RA s (dA t) (.object C) := by have := (hK.1.2 t _ (px_tys_at ht)).2; rw [hty] at this; exact this
      have hcomp : comp = dC ci := Option.some.inj (k3.symm.trans (by rw [← hnm]; exact hcls.1))
      subst hcomp
      obtain ⟨kC, hkC, -⟩ := hcls.2
      have h0 : ¬ i < 0 := fun z => px_inv hin (Or.inl z)
      have hlt : i.toNatClampNeg < n := Nat.not_le.mp fun z => px_inv hin (Or.inr z)
      refine W.aast hx hb (hR.1 a _ hw) (fun q h => by cases h) (fun h => by cases h) k1 k2 rfl hkC ⟨h0, by show _ < (arrV _ _ _).slots.size; rw [arrV_size]; exact hlt⟩ g1 (fun q h => by rw [g3] at h; cases h) (by rw [g2]; exact hkC) (by rw [g2]; exact va_assign hcls) rfl rfl hq fun H1 e z oq => ?_
      refine kk H1 _ _ _ _ (hR.put hw ?_ z oq) hl
      show H1[a]? = some (vp_cell _ _)
      rw [e]
      rw [vp_cell_q, vp_cell_q, arrV_store]
      congr 2
      funext j
      by_cases hj : j = i.toNatClampNeg
      · subst hj; simp [updV, va_up, va_rf]
      · simp [updV, va_up, va_rf, hj]
    · obtain ⟨C, ht, hty⟩ := px_tr_ok htr
      have hAr := (hK.1.2 t _ (px_tys_at ht)).1
      rw [hty] at hAr
      refine va_WaastN (C := C) hx hb (hR.1 a _ hw) (hAr n (fun j => va_rf (f j))) (fun h => by cases h) (by show ¬ (i < 0 ∨ (arrV _ _ _).slots.size ≤ _); rw [arrV_size]; exact px_inv hin) rfl rfl hq fun H1 e z oq => ?_
      refine kk H1 _ _ _ _ (hR.put hw ?_ z oq) hl
      show H1[a]? = some (vp_cell _ _)
      rw [e]
      rw [vp_cell_q, vp_cell_q, arrV_store]
      congr 2
      funext j
      by_cases hj : j = i.toNatClampNeg
      · subst hj; simp [updV, va_up, va_rf]
      · simp [updV, va_up, va_rf, hj]
  case invokespecial ix =>
    obtain ⟨a, r, ho, hsum, rfl, rfl⟩ := px_ob_inv hd
    have g1 := px_oi_ok ho
    exact W.objInit hx hb hown (hts _ g1) (hts _ px_oiI) (hts _ px_oiC) rfl (by rw [hml]; exact hl.1) rfl hq hfr (by show 2 * 0 + _ + 12 ≤ _; omega) (kk _ _ _ _ _ hR hl)
  all_goals (have h9 : (none : px_R) = some q := hd; cases h9)
end PXW
