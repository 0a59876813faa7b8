/-! ===== runs grow, and are the machine's ===== -/
def px_Mo (S S' : px_S) : Prop := S.2.1 ≤ S'.2.1 ∧ S.2.2 ≤ S'.2.2 ∧ ∀ z : Nat, z < S.2.1 → S.1 z = none → S'.1 z = none
theorem px_Mo.rf {S : px_S} : px_Mo S S := ⟨Nat.le_refl _, Nat.le_refl _, fun _ _ h => h⟩
theorem px_Mo.tr {S S1 S2 : px_S} (h : px_Mo S S1) (k : px_Mo S1 S2) : px_Mo S S2 := ⟨Nat.le_trans h.1 k.1, Nat.le_trans h.2.1 k.2.1, fun z hz hn => k.2.2 z (Nat.lt_of_lt_of_le hz h.1) (h.2.2 z hz hn)⟩
theorem px_Mo.put {S : px_S} {a : Nat} {x : px_E} {y : Option px_E} (ha : S.1 a = some x) : px_Mo S (va_up S.1 a y, S.2) := by
  refine ⟨Nat.le_refl _, Nat.le_refl _, fun z _ hn => ?_⟩
  have hza : z ≠ a := fun q => by rw [q, ha] at hn; cases hn
  show va_up S.1 a y z = none
  simp only [va_up, if_neg hza]
  exact hn
theorem px_Mo.new {S : px_S} {y : Option px_E} {n : Nat} : px_Mo S (va_up S.1 S.2.1 y, S.2.1 + 1, S.2.2 + n) := by
  refine ⟨Nat.le_succ _, Nat.le_add_right _ _, fun z hz hn => ?_⟩
  have hza : z ≠ S.2.1 := by omega
  show va_up S.1 S.2.1 y z = none
  simp only [va_up, if_neg hza]
  exact hn
set_option maxHeartbeats 4000000 in
theorem px_do_mo {mi : Nat} {i : Instr} {pc : Nat} {ls : px_L} {st : List Value} {S : px_S} {q : px_F × px_S} (hd : px_do mi i pc ls st S = some q) : px_Mo S q.2 := by
  cases i
  case iconst n =>
    cases px_k_inv hd; exact px_Mo.rf
  case bipush n =>
    cases px_k_inv hd; exact px_Mo.rf
  case sipush n =>
    cases px_k_inv hd; exact px_Mo.rf
  case lconst n =>
    cases px_k_inv hd; exact px_Mo.rf
  case aconst_null =>
    cases px_k_inv hd; exact px_Mo.rf
  case iload k =>
    obtain ⟨x, hg, rfl⟩ := px_ldi_inv hd; exact px_Mo.rf
  case iload_n k =>
    obtain ⟨x, hg, rfl⟩ := px_ldi_inv hd; exact px_Mo.rf
  case lload k =>
    obtain ⟨x, hg, rfl⟩ := px_ldl_inv hd; exact px_Mo.rf
  case lload_n k =>
    obtain ⟨x, hg, rfl⟩ := px_ldl_inv hd; exact px_Mo.rf
  case aload k =>
    rcases px_lda_inv hd with ⟨x, hg, rfl⟩ | ⟨hg, rfl⟩ <;> exact px_Mo.rf
  case aload_n k =>
    rcases px_lda_inv hd with ⟨x, hg, rfl⟩ | ⟨hg, rfl⟩ <;> exact px_Mo.rf
  case istore k =>
    obtain ⟨x, r, hlt, rfl, rfl⟩ := px_sti_inv hd; exact px_Mo.rf
  case istore_n k =>
    obtain ⟨x, r, hlt, rfl, rfl⟩ := px_sti_inv hd; exact px_Mo.rf
  case lstore k =>
    obtain ⟨x, r, hlt, rfl, rfl⟩ := px_stl_inv hd; exact px_Mo.rf
  case lstore_n k =>
    obtain ⟨x, r, hlt, rfl, rfl⟩ := px_stl_inv hd; exact px_Mo.rf
  case astore k =>
    rcases px_sta_inv hd with ⟨x, r, hlt, rfl, rfl⟩ | ⟨r, hlt, rfl, rfl⟩ <;> exact px_Mo.rf
  case astore_n k =>
    rcases px_sta_inv hd with ⟨x, r, hlt, rfl, rfl⟩ | ⟨r, hlt, rfl, rfl⟩ <;> exact px_Mo.rf
  case iinc k d =>
    obtain ⟨x, hg, hlt, rfl⟩ := px_inc_inv hd; exact px_Mo.rf
  case iadd =>
    obtain ⟨x, y, r, rfl, rfl⟩ := px_ii_inv hd; exact px_Mo.rf
  case isub =>
    obtain ⟨x, y, r, rfl, rfl⟩ := px_ii_inv hd; exact px_Mo.rf
  case imul =>
    obtain ⟨x, y, r, rfl, rfl⟩ := px_ii_inv hd; exact px_Mo.rf
  case iand =>
    obtain ⟨x, y, r, rfl, rfl⟩ := px_ii_inv hd; exact px_Mo.rf
  case ior =>
    obtain ⟨x, y, r, rfl, rfl⟩ := px_ii_inv hd; exact px_Mo.rf
  case ixor =>
    obtain ⟨x, y, r, rfl, rfl⟩ := px_ii_inv hd; exact px_Mo.rf
  case ishl =>
    obtain ⟨x, y, r, rfl, rfl⟩ := px_ii_inv hd; exact px_Mo.rf
  case ishr =>
    obtain ⟨x, y, r, rfl, rfl⟩ := px_ii_inv hd; exact px_Mo.rf
  case iushr =>
    obtain ⟨x, y, r, rfl, rfl⟩ := px_ii_inv hd; exact px_Mo.rf
  case idiv =>
    obtain ⟨x, y, r, hne, rfl, rfl⟩ := px_dv_inv hd; exact px_Mo.rf
  case irem =>
    obtain ⟨x, y, r, hne, rfl, rfl⟩ := px_dv_inv hd; exact px_Mo.rf
  case ineg =>
    obtain ⟨x, r, rfl, rfl⟩ := px_i1_inv hd; exact px_Mo.rf
  case i2b =>
    obtain ⟨x, r, rfl, rfl⟩ := px_i1_inv hd; exact px_Mo.rf
  case i2s =>
    obtain ⟨x, r, rfl, rfl⟩ := px_i1_inv hd; exact px_Mo.rf
  case i2c =>
    obtain ⟨x, r, rfl, rfl⟩ := px_i1_inv hd; exact px_Mo.rf
  case ladd =>
    obtain ⟨x, y, r, rfl, rfl⟩ := px_ll_inv hd; exact px_Mo.rf
  case lsub =>
    obtain ⟨x, y, r, rfl, rfl⟩ := px_ll_inv hd; exact px_Mo.rf
  case lmul =>
    obtain ⟨x, y, r, rfl, rfl⟩ := px_ll_inv hd; exact px_Mo.rf
  case land =>
    obtain ⟨x, y, r, rfl, rfl⟩ := px_ll_inv hd; exact px_Mo.rf
  case lor =>
    obtain ⟨x, y, r, rfl, rfl⟩ := px_ll_inv hd; exact px_Mo.rf
  case lxor =>
    obtain ⟨x, y, r, rfl, rfl⟩ := px_ll_inv hd; exact px_Mo.rf
  case lshl =>
    obtain ⟨x, y, r, rfl, rfl⟩ := px_li_inv hd; exact px_Mo.rf
  case lshr =>
    obtain ⟨x, y, r, rfl, rfl⟩ := px_li_inv hd; exact px_Mo.rf
  case lushr =>
    obtain ⟨x, y, r, rfl, rfl⟩ := px_li_inv hd; exact px_Mo.rf
  case lcmp =>
    obtain ⟨x, y, r, rfl, rfl⟩ := px_lc_inv hd; exact px_Mo.rf
  case i2l =>
    obtain ⟨x, r, rfl, rfl⟩ := px_il_inv hd; exact px_Mo.rf
  case l2i =>
    obtain ⟨x, r, rfl, rfl⟩ := px_l2_inv hd; exact px_Mo.rf
  case dup =>
    obtain ⟨v, r, h1, rfl, rfl⟩ := px_dup_inv hd; exact px_Mo.rf
  case pop =>
    obtain ⟨v, r, h1, rfl, rfl⟩ := px_pop_inv hd; exact px_Mo.rf
  case dup_x1 =>
    obtain ⟨v, u, r, h1, rfl, rfl⟩ := px_dx1_inv hd; exact px_Mo.rf
  case dup_x2 =>
    obtain ⟨v, u, t, r, h1, rfl, rfl⟩ := px_dx2_inv hd; exact px_Mo.rf
  case dup2 =>
    obtain ⟨v, u, r, h1, rfl, rfl⟩ := px_d2_inv hd; exact px_Mo.rf
  case ifCond cd off =>
    obtain ⟨x, r, t, hj, rfl, rfl⟩ := px_if0_inv hd; exact px_Mo.rf
  case if_icmp cd off =>
    obtain ⟨x, y, r, t, hj, rfl, rfl⟩ := px_if2_inv hd; exact px_Mo.rf
  case goto off =>
    obtain ⟨t, hj, rfl⟩ := px_go_inv hd; exact px_Mo.rf
  case ifnull off =>
    rcases px_nul_inv hd with ⟨r, t, hj, rfl, rfl⟩ | ⟨a, r, rfl, rfl⟩ <;> exact px_Mo.rf
  case ifnonnull off =>
    rcases px_nnl_inv hd with ⟨a, r, t, hj, rfl, rfl⟩ | ⟨r, rfl, rfl⟩ <;> exact px_Mo.rf
  case lookupswitch dflt ps =>
    obtain ⟨x, r, t, hj, hp, rfl, rfl⟩ := px_lsw_inv hd; exact px_Mo.rf
  case tableswitch dflt lo hi offs =>
    obtain ⟨x, r, t, rfl, rfl, -⟩ := px_tsw_inv hd; exact px_Mo.rf
  case ldc ix =>
    obtain ⟨v, ho, rfl⟩ := px_kon_inv hd; exact px_Mo.rf
  case ldc_w ix =>
    obtain ⟨v, ho, rfl⟩ := px_kon_inv hd; exact px_Mo.rf
  case ldc2_w ix =>
    obtain ⟨v, ho, rfl⟩ := px_konl_inv hd; exact px_Mo.rf
  case getfield ix =>
    obtain ⟨a, r, ci, k, fs, v, ho, hw, hv, rfl, rfl⟩ := px_get_inv hd; exact px_Mo.rf
  case putfield ix =>
    obtain ⟨v, a, r, ci, k, fs, ho, hw, hk, hfit, hmay, rfl, rfl⟩ := px_put_inv hd; exact px_Mo.put hw
  case new ix =>
    obtain ⟨ci, ho, rfl⟩ := px_new_inv hd; exact px_Mo.new
  case newarray at0 =>
    cases at0
    case int => obtain ⟨n, r, z, hz, hn, rfl, rfl⟩ := px_nwa_inv hd; exact px_Mo.new
    case long => obtain ⟨n, r, z, hz, hn, rfl, rfl⟩ := px_nwa_inv hd; exact px_Mo.new
    case char => obtain ⟨n, r, z, hz, hn, rfl, rfl⟩ := px_nwa_inv hd; exact px_Mo.new
    case boolean => obtain ⟨n, r, z, hz, hn, rfl, rfl⟩ := px_nwa_inv hd; exact px_Mo.new
    all_goals (have h9 : (none : px_R) = some q := hd; cases h9)
  case anewarray ix =>
    obtain ⟨n, r, z, hz, hn, rfl, rfl⟩ := px_nwa_inv hd; exact px_Mo.new
  case arraylength =>
    obtain ⟨a, r, t, x, hw, ht, rfl, rfl⟩ := px_len_inv hd; exact px_Mo.rf
  case iaload =>
    obtain ⟨i, a, r, t, n, f, hw, ht, hin, rfl, rfl⟩ := px_ali_inv hd; exact px_Mo.rf
  case baload =>
    obtain ⟨i, a, r, t, n, f, hw, ht, hin, rfl, rfl⟩ := px_ali_inv hd; exact px_Mo.rf
  case caload =>
    obtain ⟨i, a, r, t, n, f, hw, ht, hin, rfl, rfl⟩ := px_ali_inv hd; exact px_Mo.rf
  case laload =>
    obtain ⟨i, a, r, t, n, f, hw, ht, hin, rfl, rfl⟩ := px_all_inv hd; exact px_Mo.rf
  case aaload =>
    obtain ⟨i, a, r, t, n, f, hw, ht, hin, rfl, rfl⟩ := px_ala_inv hd; exact px_Mo.rf
  case iastore =>
    obtain ⟨x, i, a, r, n, f, hw, hin, -, rfl, rfl⟩ := px_asi_inv hd; exact px_Mo.put hw
  case bastore =>
    obtain ⟨x, i, a, r, n, f, hw, hin, -, rfl, rfl⟩ := px_asi_inv hd; exact px_Mo.put hw
  case castore =>
    obtain ⟨x, i, a, r, n, f, hw, hin, -, rfl, rfl⟩ := px_asi_inv hd; exact px_Mo.put hw
  case lastore =>
    obtain ⟨x, i, a, r, n, f, hw, hin, rfl, rfl⟩ := px_asl_inv hd; exact px_Mo.put hw
  case aastore =>
    obtain ⟨i, a, r, t, n, f, hw, htr, hin, ⟨v, ci, fs, hv, htc, rfl, rfl⟩ | ⟨rfl, rfl⟩⟩ := px_asa_inv hd <;> exact px_Mo.put hw
  case invokespecial ix =>
    obtain ⟨a, r, ho, hsum, rfl, rfl⟩ := px_ob_inv hd; exact px_Mo.rf
  all_goals (have h9 : (none : px_R) = some q := hd; cases h9)
theorem px_step_mo {mi : Nat} {f : px_F} {S : px_S} {q : px_F × px_S} (h : px_step mi f S = some q) : px_Mo S q.2 := by
  unfold px_step at h
  split at h
  · exact px_do_mo h
  · cases h
theorem px_Run_mo {C : px_C} (hC : ∀ mj As S v S', C mj As S v S' → px_Mo S S') {mi : Nat} : ∀ (n : Nat) (f : px_F) (S : px_S) (v : Option Value) (S' : px_S), px_Run C mi n f S v S' → px_Mo S S'
  | 0, _, _, _, _, h => h.elim
  | n + 1, f, S, v, S', h => by
    rcases h with ⟨-, h⟩ | ⟨f1, S1, h1, h2⟩ | ⟨mj, As, r, v1, S1, h1, h2, h3⟩
    · rw [h]; exact px_Mo.rf
    · exact (px_step_mo h1).tr (px_Run_mo hC n _ _ _ _ h2)
    · exact (hC _ _ _ _ _ h2).tr (px_Run_mo hC n _ _ _ _ h3)
theorem px_Ev_mo : ∀ (d mj : Nat) (As : List Value) (S : px_S) (v : Option Value) (S' : px_S), px_Ev d mj As S v S' → px_Mo S S'
  | 0, _, _, _, _, _, h => h.elim
  | d + 1, _, _, _, _, _, h => h.2.elim fun n hn => px_Run_mo (px_Ev_mo d) n _ _ _ _ hn
/-- what a method asks and gives, by the pure machine -/
def px_Pc (dC : Nat → ClassId) (dI : Nat → Nat → Nat) (dA : Nat → ClassId) (As : List Value) (S : px_S) : Array Value → State → Prop := fun a U => a = As.toArray ∧ px_hold dC dI dA S.1 U.heap ∧ U.heap.size = S.2.1 ∧ px_K dC dI dA U
def px_Qc (dC : Nat → ClassId) (dI : Nat → Nat → Nat) (dA : Nat → ClassId) (S : px_S) (v : Option Value) (S' : px_S) : Array Value → State → Outcome → State → Prop := fun _ st o t => o = .returned v ∧ px_hold dC dI dA S'.1 t.heap ∧ t.heap.size = S'.2.1 ∧ ∀ q : Nat, q < st.heap.size → S.1 q = none → t.heap[q]? = st.heap[q]?
def px_fr (S : px_S) : Addr → Prop := fun q => S.1 q ≠ none ∨ S.2.1 ≤ q
def px_rm (d c n : Nat) : Room := { frames := d, cells := c, slots := n, locals := 100 * d + 20 }
def px_ws (mi : Nat) : List Cond := Cond.code (px_y mi) (px_b mi) (px_ml mi) (px_rt mi) :: px_tbl
def px_Met (l : Launch) (dC : Nat → ClassId) (dI : Nat → Nat → Nat) (dA : Nat → ClassId) (d mi : Nat) (As : List Value) (S : px_S) (v : Option Value) (S' : px_S) : Prop :=
  Met l (px_y mi) (px_ws mi) (px_rm d (S'.2.1 - S.2.1) (S'.2.2 - S.2.2)) (px_Pc dC dI dA As S) (px_Qc dC dI dA S v S') (S'.2.1 - S.2.1) (S'.2.2 - S.2.2) (px_fr S)
theorem px_K.same {dC : Nat → ClassId} {dI : Nat → Nat → Nat} {dA : Nat → ClassId} {u U : State} (h : u.vm = U.vm) (hK : px_K dC dI dA u) : px_K dC dI dA U :=
  ⟨va_K.moved (by rw [h]; exact Vm.Alike.refl _) hK.1, fun w hw => (hK.2.1 w hw).same (px_nw_t w hw) h, fun t ht C hC => (hK.2.2 t ht C hC).moved (by rw [h]; exact Vm.Alike.refl _)⟩
theorem px_K.warm {dC : Nat → ClassId} {dI : Nat → Nat → Nat} {dA : Nat → ClassId} {s U : State} (hW : s.WarmedH U.vm) (hK : px_K dC dI dA s) : px_K dC dI dA U :=
  ⟨va_K.moved hW.alike hK.1, fun w hw => px_nw_w w hw hW (hK.2.1 w hw), fun t ht C hC => (hK.2.2 t ht C hC).moved hW.alike⟩
theorem px_blind {dC : Nat → ClassId} {dI : Nat → Nat → Nat} {dA : Nat → ClassId} {As : List Value} {S : px_S} : FrameBlind (px_Pc dC dI dA As S) := fun a U g mk h => ⟨h.1, h.2.1, h.2.2.1, px_K.same (u := U) (U := U.calling g mk a) rfl h.2.2.2⟩
section PXC
variable {p : Program} {l : Launch} {e : Env} {R : Room} {s : State} {m : MethodId} {args : Array Value} {below : List Frame} {meth : Method} {c : Code} {H : Heap} {locs : List Loc} {cells slots : Nat} {Q : State → Prop}
/-- behind a call -/
theorem px_back {dC : Nat → ClassId} {dI : Nat → Nat → Nat} {dA : Nat → ClassId} {w0 : px_W} {nx0 sl0 : Nat} {S S1 : px_S} {v : Option Value} {pc : Nat} {ls : Array Slot} {st r : List Value} {a : Array Value} (hmo : px_Mo S S1)
    (hr : va_Run p l e R s m args below meth c H locs cells slots (S1.2.1 - S.2.1) (S1.2.2 - S.2.2) (F0 m pc ls st) r (px_Qc dC dI dA S v S1 a) (px_fr S)) (hR : px_Rl dC dI dA s w0 nx0 sl0 S H locs cells slots)
    (kk : ∀ (H' : Heap) (locs' : List Loc) (cells' slots' : Nat), px_Rl dC dI dA s w0 nx0 sl0 S1 H' locs' cells' slots' → W p l e R s m args below meth c H' locs' cells' slots' Q (F0 m (pc + 3) ls (v.toList ++ r))) :
    W p l e R s m args below meth c H locs cells slots Q (F0 m pc ls st) := by
  intro T hT X
  obtain ⟨v', st0, t, T', L, h0, X', hL, e1, -, ⟨hv, hh, hz, hk⟩, go⟩ := hr T hT X
  cases hv
  obtain ⟨h1, h2, h3, h4, h5, h6, h7⟩ := hR
  rw [h0] at hk
  obtain ⟨m1, m2, m3⟩ := hmo
  have hown : ∀ q : Nat, px_fr S q → w0 q ≠ none ∨ nx0 ≤ q := by
    intro q hq
    rcases Nat.lt_or_ge q nx0 with hlt | hge
    · rcases hq with hq | hq
      · exact Or.inl (h7 q hlt hq)
      · omega
    · exact Or.inr hge
  obtain ⟨t2, a1, b1⟩ := kk T'.heap (locs ++ L) (cells + (S1.2.1 - S.2.1)) (slots + (S1.2.2 - S.2.2)) ⟨by rw [e1]; exact hh, by rw [e1]; exact hz, by omega, by omega, fun q hq => by
      rcases List.mem_append.mp hq with h | h
      · exact h5 q h
      · exact hown _ (hL q h), fun q hq hn => by
      have hSn : S.1 q = none := by
        cases hs : S.1 q with
        | none => rfl
        | some y => exact absurd hn (h7 q hq (by rw [hs]; exact fun z => by cases z))
      rw [e1, hk q (by omega) hSn]
      exact h6 q hq hn, fun q hq hn => by
      refine h7 q hq (fun z => hn (m3 q (by omega) z))⟩ T' rfl X'
  exact ⟨t2, go t2 a1, b1⟩
end PXC

theorem px_rv_inv {i : Instr} {rt : Option FieldType} {st : List Value} {v : Option Value} (h : px_rv i rt st = some v) :
    (i = .return_ ∧ rt = none ∧ st = [] ∧ v = none) ∨ (i = .ireturn ∧ ∃ t x, rt = some t ∧ st = [.int x] ∧ px_fit t (.int x) = true ∧ v = some (.int x)) ∨
    (i = .lreturn ∧ rt = some .long ∧ ∃ x, st = [.long x] ∧ v = some (.long x)) ∨ (i = .areturn ∧ ∃ t a, rt = some t ∧ ((∃ n, t = .object n) ∨ ∃ u, t = .array u) ∧ (a = .null ∨ ∃ b, a = .ref b) ∧ st = [a] ∧ v = some a) := by
  unfold px_rv at h
  split at h
  · cases h; exact Or.inl ⟨rfl, rfl, rfl, rfl⟩
  · rename_i t x
    cases hc : px_fit t (.int x) with
    | true => rw [hc] at h; cases h; exact Or.inr (Or.inl ⟨rfl, _, _, rfl, rfl, hc, rfl⟩)
    | false => rw [hc] at h; cases h
  · cases h; exact Or.inr (Or.inr (Or.inl ⟨rfl, rfl, _, rfl, rfl⟩))
  · cases h; exact Or.inr (Or.inr (Or.inr ⟨rfl, _, _, rfl, Or.inl ⟨_, rfl⟩, Or.inr ⟨_, rfl⟩, rfl, rfl⟩))
  · cases h; exact Or.inr (Or.inr (Or.inr ⟨rfl, _, _, rfl, Or.inl ⟨_, rfl⟩, Or.inl rfl, rfl, rfl⟩))
  · cases h; exact Or.inr (Or.inr (Or.inr ⟨rfl, _, _, rfl, Or.inr ⟨_, rfl⟩, Or.inr ⟨_, rfl⟩, rfl, rfl⟩))
  · cases h; exact Or.inr (Or.inr (Or.inr ⟨rfl, _, _, rfl, Or.inr ⟨_, rfl⟩, Or.inl rfl, rfl, rfl⟩))
  · cases h
theorem px_cs_inv {o : Option (Nat × Nat × Nat)} {st : List Value} {mj : Nat} {As r : List Value} (h : px_cs o st = some (mj, As, r)) :
    o = some (0, mj, As.length) ∧ st = As.reverse ++ r ∧ (r.map fun v => v.category).sum ≤ 8 := by
  unfold px_cs at h
  split at h
  · rename_i mj' n
    cases hc : (Nat.ble n st.length && Nat.ble (((st.drop n).map fun v => v.category).sum) 8) with
    | true =>
      rw [hc] at h
      simp only [cond_true, Option.some.injEq, Prod.mk.injEq] at h
      simp only [Bool.and_eq_true] at hc
      have h1 := Nat.le_of_ble_eq_true hc.1
      have h2 := Nat.le_of_ble_eq_true hc.2
      obtain ⟨rfl, rfl, rfl⟩ := h
      refine ⟨?_, ?_, h2⟩
      · simp [Nat.min_eq_left h1]
      · rw [List.reverse_reverse, List.take_append_drop]
    | false => rw [hc] at h; cases h
  · cases h
theorem px_ci_inv {o : Option (Nat × Nat × Nat)} {st : List Value} {mj : Nat} {As r : List Value} (h : px_ci o st = some (mj, As, r)) :
    ∃ b As', As = .ref b :: As' ∧ o = some (2, mj, As'.length) ∧ st = As'.reverse ++ .ref b :: r ∧ (r.map fun v => v.category).sum ≤ 8 := by
  unfold px_ci at h
  split at h
  · rename_i mj' n
    split at h
    · rename_i b r' hdr
      cases hc : (Nat.ble n st.length && Nat.ble ((r'.map fun v => v.category).sum) 8) with
      | true =>
        rw [hc] at h
        simp only [cond_true, Option.some.injEq, Prod.mk.injEq] at h
        simp only [Bool.and_eq_true] at hc
        have h1 := Nat.le_of_ble_eq_true hc.1
        have h2 := Nat.le_of_ble_eq_true hc.2
        obtain ⟨rfl, rfl, rfl⟩ := h
        refine ⟨b, _, rfl, ?_, ?_, h2⟩
        · simp [Nat.min_eq_left h1]
        · rw [List.reverse_reverse, ← hdr, List.take_append_drop]
      | false => rw [hc] at h; cases h
    · cases h
  · cases h
theorem px_cv_inv {o : Option (Nat × Nat × Nat)} {st : List Value} {S : px_S} {mj : Nat} {As r : List Value} (h : px_cv o st S = some (mj, As, r)) :
    ∃ b As' fs, As = .ref b :: As' ∧ o = some (1, mj, As'.length) ∧ S.1 b = some (.inr (px_yc mj, fs)) ∧ st = As'.reverse ++ .ref b :: r ∧ (r.map fun v => v.category).sum ≤ 8 := by
  unfold px_cv at h
  split at h
  · rename_i mj' n
    split at h
    · rename_i b r' hdr
      split at h
      · rename_i ci fs hw
        cases hc : (Nat.beq ci (px_yc mj') && (Nat.ble n st.length && Nat.ble ((r'.map fun v => v.category).sum) 8)) with
        | true =>
          rw [hc] at h
          simp only [cond_true, Option.some.injEq, Prod.mk.injEq] at h
          simp only [Bool.and_eq_true] at hc
          have h0 := Nat.eq_of_beq_eq_true hc.1
          have h1 := Nat.le_of_ble_eq_true hc.2.1
          have h2 := Nat.le_of_ble_eq_true hc.2.2
          obtain ⟨rfl, rfl, rfl⟩ := h
          rw [h0] at hw
          refine ⟨b, _, fs, rfl, ?_, hw, ?_, h2⟩
          · simp [Nat.min_eq_left h1]
          · rw [List.reverse_reverse, ← hdr, List.take_append_drop]
        | false => rw [hc] at h; cases h
      · cases h
    · cases h
  · cases h
theorem px_good {ws : List Cond} {mj : Nat} (hsub : ∀ w ∈ px_tbl, w ∈ ws) (hc : Cond.code (px_y mj) (px_b mj) (px_ml mj) (px_rt mj) ∈ px_tbl) : GoodIn ws (px_ws mj) := by
  intro w hw
  have h : w ∈ px_tbl := by
    rcases List.mem_cons.mp hw with h | h
    · rw [h]; exact hc
    · exact h
  exact ⟨hsub w h, good_of_word (List.mem_filter.mp h).2⟩
section PXD
variable {p : Program} {l : Launch} {e : Env} {R : Room} {s : State} {m : MethodId} {args : Array Value} {below : List Frame} {meth : Method} {c : Code}
set_option maxHeartbeats 4000000 in
theorem px_callW {d mi : Nat} {dC : Nat → ClassId} {dI : Nat → Nat → Nat} {dA : Nat → ClassId} (X : px_Cx p s m args meth c mi dC dI dA) (hRf : d + 1 ≤ R.frames) (hRl : 100 * (d + 1) + 20 ≤ R.locals)
    {pc : Nat} {l0 : px_L} {st : List Value} {S S1 : px_S} {mj : Nat} {As r : List Value} {v1 : Option Value} (hcall : px_call mi (pc, l0, st) S = some (mj, As, r)) (hM : px_Met l dC dI dA d mj As S v1 S1)
    {H : Heap} {locs : List Loc} {cells slots : Nat} (hh : px_hold dC dI dA S.1 H) (hsz : H.size = S.2.1) (hf : cells + (S1.2.1 - S.2.1) ≤ R.cells ∧ slots + (S1.2.2 - S.2.2) ≤ R.slots) {ls : Array Slot} (hl : lv_has ls (px_ml mi) l0) :
    va_Run p l e R s m args below meth c H locs cells slots (S1.2.1 - S.2.1) (S1.2.2 - S.2.2) (F0 m pc ls st) r (px_Qc dC dI dA S v1 S1 As.toArray) (px_fr S) := by
  obtain ⟨hx, hb, hml, hown, hts, hK, hI⟩ := X
  have hPc : ∀ U : State, U.heap = H → s.WarmedH U.vm → px_Pc dC dI dA As S As.toArray U := fun U hU hW => ⟨rfl, by rw [hU]; exact hh, by rw [hU]; exact hsz, px_K.warm hW hK⟩
  have cbk : ∀ {kd ix n : Nat}, px_ca (px_cn mi) ix = some (kd, mj, n) → ∀ {rt : Option FieldType}, rt = px_rt mj → Cond.methodLink (px_on (px_cn mi)) ix (px_y mj) ∈ px_tbl →
      CallB R s args (px_on (px_cn mi)) ix (px_y mj) (px_b mj) (px_ml mj) rt (px_ws mj) (px_rm d (S1.2.1 - S.2.1) (S1.2.2 - S.2.2)) (S1.2.1 - S.2.1) (S1.2.2 - S.2.2) n := by
    intro kd ix n ho rt hrt hlk
    subst hrt
    obtain ⟨g1, g2, g3, g4, g5, -⟩ := px_ca_ok ho
    refine callB_of n hts (px_good (fun _ h => h) g1) rfl rfl rfl (hts _ g2) (hts _ hlk) ⟨g3.1, g3.2, g4⟩ ⟨hRf, ?_⟩
    show 8 + (px_ml mj + 11) + (100 * d + 20) ≤ R.locals
    omega
  have cbn : ∀ {kd ix n : Nat}, px_ca (px_cn mi) ix = some (kd, mj, n) → ∀ {rt : Option FieldType}, rt = px_rt mj → ∀ {host : String}, Cond.methodLinkNest (px_on (px_cn mi)) ix (px_y mj) host ∈ px_nw →
      va_CN R s args (px_on (px_cn mi)) ix (px_y mj) host (px_b mj) (px_ml mj) rt (px_ws mj) (px_rm d (S1.2.1 - S.2.1) (S1.2.2 - S.2.2)) (S1.2.1 - S.2.1) (S1.2.2 - S.2.2) n := by
    intro kd ix n ho rt hrt host hlk
    subst hrt
    obtain ⟨g1, g2, g3, g4, g5, -⟩ := px_ca_ok ho
    refine va_cnB n hts (px_good (fun _ h => h) g1) rfl rfl rfl (hK.2.1 _ hlk) (hts _ g2) ⟨g3.1, g3.2, g4⟩ ⟨hRf, ?_⟩
    show 8 + (px_ml mj + 11) + (100 * d + 20) ≤ R.locals
    omega
  have S0 : CallFix p m c (px_b mi) (px_ml mi) s args px_tbl (px_on (px_cn mi)) := ⟨hx, hb, hml, hown, hts⟩
  unfold px_call at hcall
  split at hcall
  · rename_i ix hat
    have hq := px_at_ok hat
    obtain ⟨ho, hst, hsum⟩ := px_cs_inv hcall
    obtain ⟨g1, g2, g3, g4, g5, g6, g7, -⟩ := px_ca_ok ho
    rcases g6 with hlk | ⟨host, hlk⟩
    · exact va_runS S0 hM ⟨cbk ho rfl hlk, hts _ (g7 rfl)⟩ ⟨px_blind, hPc⟩ rfl rfl hl.1 hst (by show 2 * 0 + _ ≤ 8; omega) hq hf
    · exact va_runSN S0 hM ⟨cbn ho rfl hlk, hts _ (g7 rfl), trivial⟩ ⟨px_blind, hPc⟩ rfl rfl hl.1 hst (by show 2 * 0 + _ ≤ 8; omega) hq hf
  · rename_i ix hat
    have hq := px_at_ok hat
    obtain ⟨b, As', rfl, ho, hst, hsum⟩ := px_ci_inv hcall
    obtain ⟨g1, g2, g3, g4, g5, g6, -, -, g9⟩ := px_ca_ok ho
    obtain ⟨n1, n2, n3⟩ := g9 rfl
    rcases g6 with hlk | ⟨host, hlk⟩
    · exact va_runI S0 hM ⟨cbk ho n3.symm hlk, n1, hts _ n2⟩ ⟨px_blind, hPc⟩ rfl rfl hl.1 hst (by show 2 * 0 + _ ≤ 8; omega) hq hf
    · exact va_runIN S0 hM ⟨cbn ho n3.symm hlk, n1, hts _ n2⟩ ⟨px_blind, hPc⟩ rfl rfl hl.1 hst (by show 2 * 0 + _ ≤ 8; omega) hq hf
  · rename_i ix hat
    have hq := px_at_ok hat
    obtain ⟨b, As', fs, rfl, ho, hw, hst, hsum⟩ := px_cv_inv hcall
    obtain ⟨g1, g2, g3, g4, g5, g6, -, g8, -⟩ := px_ca_ok ho
    obtain ⟨n1, n2, rc, n3, n4⟩ := g8 rfl
    have hrec : ∃ cellB : Cell, H[b]? = some cellB ∧ cellB.vm.isStatics = false ∧ s.vm.findClass (px_y mj).cls = some cellB.cls := by
      have h9 := va_recv hK.1 (px_va1 (hh b _ hw)) n3 (q0 := 0) rfl
      rw [n4] at h9
      exact h9
    rcases g6 with hlk | ⟨host, hlk⟩
    · exact va_runV S0 hM ⟨cbk ho rfl hlk, hts _ n1, hts _ n2⟩ ⟨px_blind, hrec, hPc⟩ rfl rfl hl.1 hst (by show 2 * 0 + _ ≤ 8; omega) hq hf
    · exact va_runVN S0 hM ⟨cbn ho rfl hlk, hts _ n1, hts _ n2⟩ ⟨px_blind, hrec, hPc⟩ rfl rfl hl.1 hst (by show 2 * 0 + _ ≤ 8; omega) hq hf
  · cases hcall
set_option maxHeartbeats 4000000 in
theorem px_runW {d mi : Nat} {dC : Nat → ClassId} {dI : Nat → Nat → Nat} {dA : Nat → ClassId} (ih : ∀ mj As S v S', px_Ev d mj As S v S' → px_Met l dC dI dA d mj As S v S') (X : px_Cx p s m args meth c mi dC dI dA)
    (hr : meth.sig.returnType = px_rt mi) (hlk : meth.locks = false) {w0 : px_W} {nx0 sl0 : Nat} (hnx : s.heap.size = nx0) (hRf : d + 1 ≤ R.frames) (hRl : 100 * (d + 1) + 20 ≤ R.locals) {S' : px_S} {v : Option Value}
    (hc1 : S'.2.1 ≤ nx0 + R.cells) (hc2 : S'.2.2 ≤ sl0 + R.slots) :
    ∀ (n : Nat) (f : px_F) (S : px_S), px_Run (px_Ev d) mi n f S v S' → ∀ (H : Heap) (locs : List Loc) (cells slots : Nat) (ls : Array Slot), px_Rl dC dI dA s w0 nx0 sl0 S H locs cells slots → lv_has ls (px_ml mi) f.2.1 →
      W p l e R s m args below meth c H locs cells slots (MQ below (px_Qc dC dI dA (w0, nx0, sl0) v S') args s (S'.2.1 - nx0) (S'.2.2 - sl0) (px_fr (w0, nx0, sl0))) (F0 m f.1 ls f.2.2) := by
  intro n
  induction n with
  | zero => intro f S h; exact h.elim
  | succ n ihn =>
    intro f S h H locs cells slots ls hR hl
    obtain ⟨pc, l0, st⟩ := f
    rcases h with ⟨h1, rfl⟩ | ⟨f1, S1, h1, h2⟩ | ⟨mj, As, r, v1, S1, h1, h2, h3⟩
    · obtain ⟨q1, q2, q3, q4, q5, q6, q7⟩ := hR
      have hx := X.1
      have hb := X.2.1
      have hfin : ∀ t : State, t.heap = H → s.WarmedH t.vm → px_Qc dC dI dA (w0, nx0, sl0) v S' args s (.returned v) t := fun t ht _ => ⟨rfl, by rw [ht]; exact q1, by rw [ht]; exact q2, fun q hq hn => by rw [ht]; exact q6 q (by omega) hn⟩
      refine W.cs (cells' := S'.2.1 - nx0) (slots' := S'.2.2 - sl0) (by omega) (by omega) ?_
      unfold px_ret at h1
      split at h1
      · rename_i i hat
        have hq := px_at_ok hat
        rcases px_rv_inv h1 with ⟨rfl, hrt, rfl, rfl⟩ | ⟨rfl, t, x, hrt, rfl, hfit, rfl⟩ | ⟨rfl, hrt, x, rfl, rfl⟩ | ⟨rfl, t, a, hrt, ht, ha, rfl, rfl⟩
        · exact W.vret hx hb (hr.trans hrt) hfin q5 hq
        · exact W.zret hx hb (hr.trans hrt) (px_fitW hfit) hfin q5 hq
        · exact W.lret hx hb (hr.trans hrt) hfin q5 hq
        · exact W.aret hx hb (hr.trans hrt) ht ha hfin q5 hq
      · cases h1
    · have hmo := px_Run_mo (px_Ev_mo d) n _ _ _ _ h2
      unfold px_step at h1
      split at h1
      · rename_i i hat
        exact px_s1 X hat h1 hR (Nat.le_trans hmo.1 hc1) (Nat.le_trans hmo.2.1 hc2) (by omega) (by omega) hl (fun H' locs' cells' slots' ls' hR' hl' => ihn f1 S1 h2 H' locs' cells' slots' ls' hR' hl')
      · cases h1
    · have hmo := px_Run_mo (px_Ev_mo d) n _ _ _ _ h3
      have hm1 := px_Ev_mo d _ _ _ _ _ h2
      obtain ⟨q1, q2, q3, q4, q5, q6, q7⟩ := id hR
      have b1 := hmo.1
      have b2 := hmo.2.1
      have b3 := hm1.1
      have b4 := hm1.2.1
      exact px_back hm1 (px_callW X hRf hRl h1 (ih _ _ _ _ _ h2) q1 q2 ⟨by omega, by omega⟩ hl) hR (fun H' locs' cells' slots' hR' => ihn _ S1 h3 H' locs' cells' slots' ls hR' hl)
end PXD
set_option maxHeartbeats 4000000 in
theorem px_sound (l : Launch) (dC : Nat → ClassId) (dI : Nat → Nat → Nat) (dA : Nat → ClassId) : ∀ (d mi : Nat) (As : List Value) (S : px_S) (v : Option Value) (S' : px_S), px_Ev d mi As S v S' → px_Met l dC dI dA d mi As S v S'
  | 0, _, _, _, _, _, h => h.elim
  | d + 1, mi, As, S, v, S', h => by
    have hmo := px_Ev_mo _ _ _ _ _ _ h
    obtain ⟨hlen, n, hn⟩ := h
    obtain ⟨w0, nx0, sl0⟩ := S
    refine va_MetF (cc := px_b mi) (maxL := px_ml mi) (ret := px_rt mi) (px_pl mi) rfl ?_
    intro p e s m args below meth c s₁ B hml hv
    obtain ⟨rfl, hh, hsz, hK⟩ := hv
    have hts0 := atoms_spec (ws := px_ws mi) B.pre
    have hown : s.vm.findClass (px_y mi).cls = some m.cls := findClass_of_methodNamed B.named
    rw [lg_entry_eq]
    have b1 := hmo.1
    have b2 := hmo.2.1
    simp only at b1 b2
    exact px_runW (px_sound l dC dI dA d) ⟨B.exec, B.bytes, hml, by rw [px_on_ok]; exact hown, fun w hw => hts0 w (List.mem_cons_of_mem _ hw), hK, fun hi => (name_of_methodNamed B.named B.method).1.trans (px_isI_ok hi)⟩
      B.returns B.notSynchronized hsz (Nat.le_refl _) (Nat.le_refl _) (by show S'.2.1 ≤ nx0 + (S'.2.1 - nx0); omega) (by show S'.2.2 ≤ sl0 + (S'.2.2 - sl0); omega) n (px_ent As) (w0, nx0, sl0) hn _ [] 0 0 _
      ⟨hh, hsz, rfl, rfl, fun _ hq => absurd hq List.not_mem_nil, fun _ _ _ => rfl, fun _ _ h => h⟩ (lv_entry As hlen)
