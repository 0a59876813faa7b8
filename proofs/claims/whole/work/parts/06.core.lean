/-! ===== THE PURE MACHINE: worlds by address, one step, runs, calls ===== -/
abbrev px_E : Type := (Nat × vp_A) ⊕ (Nat × List Value)
abbrev px_W : Type := Nat → Option px_E
abbrev px_S : Type := px_W × Nat × Nat
abbrev px_L : Type := List (Nat × Value)
abbrev px_F : Type := Nat × px_L × List Value
abbrev px_R : Type := Option (px_F × px_S)
def px_lget : px_L → Nat → Option Value
  | [], _ => none
  | q :: r, i => bif Nat.beq q.1 i then some q.2 else px_lget r i
/-- in the order of their places -/
def px_ins : px_L → Nat → Value → px_L
  | [], i, v => [(i, v)]
  | q :: r, i, v => bif Nat.blt i q.1 then (i, v) :: q :: r else q :: px_ins r i v
def px_cut1 : px_L → Nat → px_L
  | [], _ => []
  | q :: r, i => bif (!(Nat.beq q.1 i) && !(Nat.beq (q.1 + 1) i && Nat.beq q.2.category 2)) then q :: px_cut1 r i else px_cut1 r i
def px_cut2 : px_L → Nat → px_L
  | [], _ => []
  | q :: r, i => bif (!(Nat.beq q.1 i) && (!(Nat.beq q.1 (i + 1)) && !(Nat.beq (q.1 + 1) i && Nat.beq q.2.category 2))) then q :: px_cut2 r i else px_cut2 r i
def px_ls1 (ls : px_L) (i : Nat) (v : Value) : px_L := px_ins (px_cut1 ls i) i v
def px_ls2 (ls : px_L) (i : Nat) (v : Value) : px_L := px_ins (px_cut2 ls i) i v
def px_jmp (pc : Nat) (off : Int) : Option Nat := match (pc : Int) + off with
  | .ofNat t => some t
  | .negSucc _ => none
def px_in (i : Int32) (n : Nat) : Bool := decide (¬ (i < 0 ∨ n ≤ i.toNatClampNeg))
def px_c0 (c : ClassFile.Cond) (x : Int32) : Bool := match c with
  | .eq => decide (x = 0)
  | .ne => decide (¬ x = 0)
  | .lt => decide (x < 0)
  | .ge => decide (0 ≤ x)
  | .gt => decide (0 < x)
  | .le => decide (x ≤ 0)
def px_c2 (c : ClassFile.Cond) (x y : Int32) : Bool := match c with
  | .eq => decide (x = y)
  | .ne => decide (¬ x = y)
  | .lt => decide (x < y)
  | .ge => decide (y ≤ x)
  | .gt => decide (y < x)
  | .le => decide (x ≤ y)
def px_fit : FieldType → Value → Bool
  | .int, .int _ => true
  | .long, .long _ => true
  | .boolean, .int x => (x == 0 || x == 1)
  | .char, .int x => (decide (0 ≤ x) && decide (x ≤ 65535))
  | .object _, .null => true
  | .object _, .ref _ => true
  | .array _, .null => true
  | .array _, .ref _ => true
  | _, _ => false
/-! what an instruction does, by families -/
def px_k (v : Value) (n pc : Nat) (ls : px_L) (st : List Value) (S : px_S) : px_R := some ((pc + n, ls, v :: st), S)
def px_ldi (k n pc : Nat) (ls : px_L) (st : List Value) (S : px_S) : px_R := match px_lget ls k with
  | some (.int x) => some ((pc + n, ls, .int x :: st), S)
  | _ => none
def px_ldl (k n pc : Nat) (ls : px_L) (st : List Value) (S : px_S) : px_R := match px_lget ls k with
  | some (.long x) => some ((pc + n, ls, .long x :: st), S)
  | _ => none
def px_lda (k n pc : Nat) (ls : px_L) (st : List Value) (S : px_S) : px_R := match px_lget ls k with
  | some (.ref x) => some ((pc + n, ls, .ref x :: st), S)
  | some .null => some ((pc + n, ls, .null :: st), S)
  | _ => none
def px_sti (M k n pc : Nat) (ls : px_L) (st : List Value) (S : px_S) : px_R := match st with
  | .int x :: r => bif Nat.blt k M then some ((pc + n, px_ls1 ls k (.int x), r), S) else none
  | _ => none
def px_stl (M k n pc : Nat) (ls : px_L) (st : List Value) (S : px_S) : px_R := match st with
  | .long x :: r => bif Nat.blt (k + 1) M then some ((pc + n, px_ls2 ls k (.long x), r), S) else none
  | _ => none
def px_sta (M k n pc : Nat) (ls : px_L) (st : List Value) (S : px_S) : px_R := match st with
  | .ref x :: r => bif Nat.blt k M then some ((pc + n, px_ls1 ls k (.ref x), r), S) else none
  | .null :: r => bif Nat.blt k M then some ((pc + n, px_ls1 ls k .null, r), S) else none
  | _ => none
def px_inc (M k : Nat) (d : Int) (pc : Nat) (ls : px_L) (st : List Value) (S : px_S) : px_R := match px_lget ls k with
  | some (.int x) => bif Nat.blt k M then some ((pc + 3, px_ls1 ls k (.int (x + Int32.ofInt d)), st), S) else none
  | _ => none
def px_ii (g : Int32 → Int32 → Int32) (pc : Nat) (ls : px_L) (st : List Value) (S : px_S) : px_R := match st with
  | .int y :: .int x :: r => some ((pc + 1, ls, .int (g x y) :: r), S)
  | _ => none
def px_ll (g : Int64 → Int64 → Int64) (pc : Nat) (ls : px_L) (st : List Value) (S : px_S) : px_R := match st with
  | .long y :: .long x :: r => some ((pc + 1, ls, .long (g x y) :: r), S)
  | _ => none
def px_li (g : Int64 → Int32 → Int64) (pc : Nat) (ls : px_L) (st : List Value) (S : px_S) : px_R := match st with
  | .int y :: .long x :: r => some ((pc + 1, ls, .long (g x y) :: r), S)
  | _ => none
def px_lc (pc : Nat) (ls : px_L) (st : List Value) (S : px_S) : px_R := match st with
  | .long y :: .long x :: r => some ((pc + 1, ls, .int (lg_cmp x y) :: r), S)
  | _ => none
def px_dv (g : Int32 → Int32 → Int32) (pc : Nat) (ls : px_L) (st : List Value) (S : px_S) : px_R := match st with
  | .int y :: .int x :: r => bif decide (y = 0) then none else some ((pc + 1, ls, .int (g x y) :: r), S)
  | _ => none
def px_i1 (g : Int32 → Int32) (pc : Nat) (ls : px_L) (st : List Value) (S : px_S) : px_R := match st with
  | .int x :: r => some ((pc + 1, ls, .int (g x) :: r), S)
  | _ => none
def px_il (pc : Nat) (ls : px_L) (st : List Value) (S : px_S) : px_R := match st with
  | .int x :: r => some ((pc + 1, ls, .long x.toInt64 :: r), S)
  | _ => none
def px_l2 (pc : Nat) (ls : px_L) (st : List Value) (S : px_S) : px_R := match st with
  | .long x :: r => some ((pc + 1, ls, .int x.toInt32 :: r), S)
  | _ => none
/-- stack words: a value of one word -/
def px_cat1 (v : Value) : Bool := Nat.beq v.category 1
def px_dup (pc : Nat) (ls : px_L) (st : List Value) (S : px_S) : px_R := match st with
  | v :: r => bif px_cat1 v then some ((pc + 1, ls, v :: v :: r), S) else none
  | _ => none
def px_pop (pc : Nat) (ls : px_L) (st : List Value) (S : px_S) : px_R := match st with
  | v :: r => bif px_cat1 v then some ((pc + 1, ls, r), S) else none
  | _ => none
def px_dx1 (pc : Nat) (ls : px_L) (st : List Value) (S : px_S) : px_R := match st with
  | v :: u :: r => bif px_cat1 v && px_cat1 u then some ((pc + 1, ls, v :: u :: v :: r), S) else none
  | _ => none
def px_dx2 (pc : Nat) (ls : px_L) (st : List Value) (S : px_S) : px_R := match st with
  | v :: u :: t :: r => bif px_cat1 v && (px_cat1 u && px_cat1 t) then some ((pc + 1, ls, v :: u :: t :: v :: r), S) else none
  | _ => none
def px_d2 (pc : Nat) (ls : px_L) (st : List Value) (S : px_S) : px_R := match st with
  | v :: u :: r => bif px_cat1 v && px_cat1 u then some ((pc + 1, ls, v :: u :: v :: u :: r), S) else none
  | _ => none
def px_if0 (c : ClassFile.Cond) (off : Int) (pc : Nat) (ls : px_L) (st : List Value) (S : px_S) : px_R := match st, px_jmp pc off with
  | .int x :: r, some t => some ((bif px_c0 c x then t else pc + 3, ls, r), S)
  | _, _ => none
def px_if2 (c : ClassFile.Cond) (off : Int) (pc : Nat) (ls : px_L) (st : List Value) (S : px_S) : px_R := match st, px_jmp pc off with
  | .int y :: .int x :: r, some t => some ((bif px_c2 c x y then t else pc + 3, ls, r), S)
  | _, _ => none
def px_go (off : Int) (pc : Nat) (ls : px_L) (st : List Value) (S : px_S) : px_R := match px_jmp pc off with
  | some t => some ((t, ls, st), S)
  | _ => none
def px_nul (off : Int) (pc : Nat) (ls : px_L) (st : List Value) (S : px_S) : px_R := match st, px_jmp pc off with
  | .null :: r, some t => some ((t, ls, r), S)
  | .ref _ :: r, some _ => some ((pc + 3, ls, r), S)
  | _, _ => none
def px_nnl (off : Int) (pc : Nat) (ls : px_L) (st : List Value) (S : px_S) : px_R := match st, px_jmp pc off with
  | .ref _ :: r, some t => some ((t, ls, r), S)
  | .null :: r, some _ => some ((pc + 3, ls, r), S)
  | _, _ => none
def px_lsw (dflt : Int) (ps : Array (Int × Int)) (pc : Nat) (ls : px_L) (st : List Value) (S : px_S) : px_R := match st with
  | .int x :: r => (match px_jmp pc (Op.lookupswitch.offset ps.toList dflt x.toInt) with
    | some t => bif (ps.toList.zip (ps.toList.drop 1)).all (fun (a, next) => a.1 < next.1) then some ((t, ls, r), S) else none
    | none => none)
  | _ => none
def px_tsw (dflt lo hi : Int) (offs : Array Int) (pc : Nat) (ls : px_L) (st : List Value) (S : px_S) : px_R := match st with
  | .int x :: r => bif decide (x.toInt < lo ∨ hi < x.toInt) then (match px_jmp pc dflt with
      | some t => some ((t, ls, r), S)
      | none => none)
    else (match offs[(x.toInt - lo).toNat]? with
      | some off => (match px_jmp pc off with
        | some t => some ((t, ls, r), S)
        | none => none)
      | none => none)
  | _ => none
def px_kon (o : Option Int32) (n pc : Nat) (ls : px_L) (st : List Value) (S : px_S) : px_R := match o with
  | some v => some ((pc + n, ls, .int v :: st), S)
  | none => none
def px_konl (o : Option Int64) (pc : Nat) (ls : px_L) (st : List Value) (S : px_S) : px_R := match o with
  | some v => some ((pc + 3, ls, .long v :: st), S)
  | none => none
def px_get (o : Option (Nat × Nat)) (pc : Nat) (ls : px_L) (st : List Value) (S : px_S) : px_R := match st, o with
  | .ref a :: r, some (ci, k) => (match S.1 a with
    | some (.inr (cj, fs)) => bif Nat.beq cj ci then (match fs[k]? with
      | some v => some ((pc + 3, ls, v :: r), S)
      | none => none) else none
    | _ => none)
  | _, _ => none
def px_put (mi : Nat) (o : Option (Nat × Nat)) (pc : Nat) (ls : px_L) (st : List Value) (S : px_S) : px_R := match st, o with
  | v :: .ref a :: r, some (ci, k) => (match S.1 a with
    | some (.inr (cj, fs)) => bif Nat.beq cj ci && (Nat.blt k fs.length && (px_fit (px_ft ci k) v && px_may mi ci k)) then some ((pc + 3, ls, r), (va_up S.1 a (some (.inr (cj, fs.set k v))), S.2)) else none
    | _ => none)
  | _, _ => none
def px_new (o : Option Nat) (pc : Nat) (ls : px_L) (st : List Value) (S : px_S) : px_R := match o with
  | some ci => some ((pc + 3, ls, .ref S.2.1 :: st), (va_up S.1 S.2.1 (some (.inr (ci, px_def ci))), S.2.1 + 1, S.2.2 + px_nf ci))
  | none => none
def px_nwa (o : Option vp_A) (t0 : Nat) (n0 pc : Nat) (ls : px_L) (st : List Value) (S : px_S) : px_R := match st, o with
  | .int n :: r, some z => bif decide (n < 0 ∨ 67108864 < n.toNatClampNeg) then none else some ((pc + n0, ls, .ref S.2.1 :: r), (va_up S.1 S.2.1 (some (.inl (t0, n.toNatClampNeg, z.2))), S.2.1 + 1, S.2.2 + n.toNatClampNeg))
  | _, _ => none
def px_len (pc : Nat) (ls : px_L) (st : List Value) (S : px_S) : px_R := match st with
  | .ref a :: r => (match S.1 a with
    | some (.inl (t, x)) => bif Nat.blt t px_nty then some ((pc + 1, ls, .int (Int32.ofNat x.1) :: r), S) else none
    | _ => none)
  | _ => none
def px_ali (t0 : Nat) (pc : Nat) (ls : px_L) (st : List Value) (S : px_S) : px_R := match st with
  | .int i :: .ref a :: r => (match S.1 a with
    | some (.inl (t, n, .inl f)) => bif Nat.beq t t0 && px_in i n then some ((pc + 1, ls, .int (f i.toNatClampNeg) :: r), S) else none
    | _ => none)
  | _ => none
def px_all (pc : Nat) (ls : px_L) (st : List Value) (S : px_S) : px_R := match st with
  | .int i :: .ref a :: r => (match S.1 a with
    | some (.inl (t, n, .inr (.inl f))) => bif Nat.beq t 1 && px_in i n then some ((pc + 1, ls, .long (f i.toNatClampNeg) :: r), S) else none
    | _ => none)
  | _ => none
def px_ala (pc : Nat) (ls : px_L) (st : List Value) (S : px_S) : px_R := match st with
  | .int i :: .ref a :: r => (match S.1 a with
    | some (.inl (t, n, .inr (.inr (.inr (.inr f))))) => bif px_tr t && px_in i n then some ((pc + 1, ls, va_rf (f i.toNatClampNeg) :: r), S) else none
    | _ => none)
  | _ => none
def px_asi (t0 : Nat) (pc : Nat) (ls : px_L) (st : List Value) (S : px_S) : px_R := match st with
  | .int x :: .int i :: .ref a :: r => (match S.1 a with
    | some (.inl (t, n, .inl f)) => bif Nat.beq t t0 && (px_in i n && px_fit (px_ty t0) (.int x)) then some ((pc + 1, ls, r), (va_up S.1 a (some (.inl (t, n, .inl (upd f i.toNatClampNeg x)))), S.2)) else none
    | _ => none)
  | _ => none
def px_asl (pc : Nat) (ls : px_L) (st : List Value) (S : px_S) : px_R := match st with
  | .long x :: .int i :: .ref a :: r => (match S.1 a with
    | some (.inl (t, n, .inr (.inl f))) => bif Nat.beq t 1 && px_in i n then some ((pc + 1, ls, r), (va_up S.1 a (some (.inl (t, n, .inr (.inl (vp_updL f i.toNatClampNeg x))))), S.2)) else none
    | _ => none)
  | _ => none
def px_asa (pc : Nat) (ls : px_L) (st : List Value) (S : px_S) : px_R := match st with
  | .ref v :: .int i :: .ref a :: r => (match S.1 a, S.1 v with
    | some (.inl (t, n, .inr (.inr (.inr (.inr f))))), some (.inr (ci, _)) => bif px_tr t && (px_in i n && px_tc t ci) then some ((pc + 1, ls, r), (va_up S.1 a (some (.inl (t, n, .inr (.inr (.inr (.inr (va_up f i.toNatClampNeg (some v)))))))), S.2)) else none
    | _, _ => none)
  | .null :: .int i :: .ref a :: r => (match S.1 a with
    | some (.inl (t, n, .inr (.inr (.inr (.inr f))))) => bif px_tr t && px_in i n then some ((pc + 1, ls, r), (va_up S.1 a (some (.inl (t, n, .inr (.inr (.inr (.inr (va_up f i.toNatClampNeg none))))))), S.2)) else none
    | _ => none)
  | _ => none
/-- Object.<init> -/
def px_ob (b : Bool) (pc : Nat) (ls : px_L) (st : List Value) (S : px_S) : px_R := match st with
  | .ref _ :: r => bif b && Nat.ble ((r.map fun v => v.category).sum) 8 then some ((pc + 3, ls, r), S) else none
  | _ => none
def px_do (mi : Nat) (i : Instr) : Nat → px_L → List Value → px_S → px_R := match i with
  | .iconst n => px_k (.int (Int32.ofInt n)) 1
  | .bipush n => px_k (.int (Int8.ofInt n).toInt32) 2
  | .sipush n => px_k (.int (Int16.ofInt n).toInt32) 3
  | .lconst n => px_k (.long (Int64.ofNat n.val)) 1
  | .aconst_null => px_k .null 1
  | .iload k => px_ldi k 2
  | .iload_n k => px_ldi k.val 1
  | .lload k => px_ldl k 2
  | .lload_n k => px_ldl k.val 1
  | .aload k => px_lda k 2
  | .aload_n k => px_lda k.val 1
  | .istore k => px_sti (px_ml mi) k 2
  | .istore_n k => px_sti (px_ml mi) k.val 1
  | .lstore k => px_stl (px_ml mi) k 2
  | .lstore_n k => px_stl (px_ml mi) k.val 1
  | .astore k => px_sta (px_ml mi) k 2
  | .astore_n k => px_sta (px_ml mi) k.val 1
  | .iinc k d => px_inc (px_ml mi) k d
  | .iadd => px_ii (fun x y => x + y)
  | .isub => px_ii (fun x y => x - y)
  | .imul => px_ii (fun x y => x * y)
  | .iand => px_ii (fun x y => x &&& y)
  | .ior => px_ii (fun x y => x ||| y)
  | .ixor => px_ii (fun x y => x ^^^ y)
  | .ishl => px_ii (fun x y => x <<< (y &&& 31))
  | .ishr => px_ii (fun x y => x >>> (y &&& 31))
  | .iushr => px_ii (fun x y => (x.toUInt32 >>> (y.toUInt32 &&& Int32.toUInt32 31)).toInt32)
  | .idiv => px_dv (fun x y => x / y)
  | .irem => px_dv (fun x y => x - x / y * y)
  | .ineg => px_i1 (fun x => -x)
  | .i2b => px_i1 (fun x => x.toInt8.toInt32)
  | .i2s => px_i1 (fun x => x.toInt16.toInt32)
  | .i2c => px_i1 (fun x => (x.toUInt32 % 65536).toInt32)
  | .ladd => px_ll (fun x y => x + y)
  | .lsub => px_ll (fun x y => x - y)
  | .lmul => px_ll (fun x y => x * y)
  | .land => px_ll (fun x y => x &&& y)
  | .lor => px_ll (fun x y => x ||| y)
  | .lxor => px_ll (fun x y => x ^^^ y)
  | .lshl => px_li (fun x y => x <<< (y.toInt64 &&& 63))
  | .lshr => px_li (fun x y => x >>> (y.toInt64 &&& 63))
  | .lushr => px_li (fun x y => (x.toUInt64 >>> (y.toInt64.toUInt64 &&& Int64.toUInt64 63)).toInt64)
  | .lcmp => px_lc
  | .i2l => px_il
  | .l2i => px_l2
  | .dup => px_dup
  | .pop => px_pop
  | .dup_x1 => px_dx1
  | .dup_x2 => px_dx2
  | .dup2 => px_d2
  | .ifCond c off => px_if0 c off
  | .if_icmp c off => px_if2 c off
  | .goto off => px_go off
  | .ifnull off => px_nul off
  | .ifnonnull off => px_nnl off
  | .lookupswitch d ps => px_lsw d ps
  | .tableswitch d lo hi offs => px_tsw d lo hi offs
  | .ldc ix => px_kon (px_kc (px_cn mi) ix) 2
  | .ldc_w ix => px_kon (px_kc (px_cn mi) ix) 3
  | .ldc2_w ix => px_konl (px_kl (px_cn mi) ix)
  | .getfield ix => px_get (px_fl (px_cn mi) ix)
  | .putfield ix => px_put mi (px_fl (px_cn mi) ix)
  | .new ix => px_new (px_nc (px_cn mi) ix)
  | .newarray .int => px_nwa (some (0, .inl (fun _ => 0))) 0 2
  | .newarray .long => px_nwa (some (0, .inr (.inl (fun _ => 0)))) 1 2
  | .newarray .boolean => px_nwa (some (0, .inl (fun _ => 0))) 2 2
  | .newarray .char => px_nwa (some (0, .inl (fun _ => 0))) 3 2
  | .anewarray ix => px_nwa ((px_an (px_cn mi) ix).map (fun _ => (0, .inr (.inr (.inr (.inr (fun _ => none))))))) ((px_an (px_cn mi) ix).getD 0) 3
  | .arraylength => px_len
  | .iaload => px_ali 0
  | .baload => px_ali 2
  | .caload => px_ali 3
  | .laload => px_all
  | .aaload => px_ala
  | .iastore => px_asi 0
  | .bastore => px_asi 2
  | .castore => px_asi 3
  | .lastore => px_asl
  | .aastore => px_asa
  | .invokespecial ix => px_ob (px_oi (px_cn mi) ix)
  | _ => fun _ _ _ _ => none
def px_step (mi : Nat) (f : px_F) (S : px_S) : px_R := match px_at mi f.1 with
  | some i => px_do mi i f.1 f.2.1 f.2.2 S
  | none => none
/-- a return: what comes back -/
def px_rv (i : Instr) (rt : Option FieldType) (st : List Value) : Option (Option Value) := match i, rt, st with
  | .return_, none, [] => some none
  | .ireturn, some t, [.int v] => bif px_fit t (.int v) then some (some (.int v)) else none
  | .lreturn, some .long, [.long v] => some (some (.long v))
  | .areturn, some (.object _), [.ref a] => some (some (.ref a))
  | .areturn, some (.object _), [.null] => some (some .null)
  | .areturn, some (.array _), [.ref a] => some (some (.ref a))
  | .areturn, some (.array _), [.null] => some (some .null)
  | _, _, _ => none
def px_ret (mi : Nat) (f : px_F) : Option (Option Value) := match px_at mi f.1 with
  | some i => px_rv i (px_rt mi) f.2.2
  | none => none
/-- a call: the callee, its arguments, the stack below them -/
def px_cs (o : Option (Nat × Nat × Nat)) (st : List Value) : Option (Nat × List Value × List Value) := match o with
  | some (0, mj, n) => bif Nat.ble n st.length && Nat.ble (((st.drop n).map fun v => v.category).sum) 8 then some (mj, (st.take n).reverse, st.drop n) else none
  | _ => none
def px_ci (o : Option (Nat × Nat × Nat)) (st : List Value) : Option (Nat × List Value × List Value) := match o with
  | some (2, mj, n) => (match st.drop n with
    | .ref b :: r => bif Nat.ble n st.length && Nat.ble ((r.map fun v => v.category).sum) 8 then some (mj, .ref b :: (st.take n).reverse, r) else none
    | _ => none)
  | _ => none
def px_cv (o : Option (Nat × Nat × Nat)) (st : List Value) (S : px_S) : Option (Nat × List Value × List Value) := match o with
  | some (1, mj, n) => (match st.drop n with
    | .ref b :: r => (match S.1 b with
      | some (.inr (ci, _)) => bif Nat.beq ci (px_yc mj) && (Nat.ble n st.length && Nat.ble ((r.map fun v => v.category).sum) 8) then some (mj, .ref b :: (st.take n).reverse, r) else none
      | _ => none)
    | _ => none)
  | _ => none
def px_call (mi : Nat) (f : px_F) (S : px_S) : Option (Nat × List Value × List Value) := match px_at mi f.1 with
  | some (.invokestatic ix) => px_cs (px_ca (px_cn mi) ix) f.2.2
  | some (.invokespecial ix) => px_ci (px_ca (px_cn mi) ix) f.2.2
  | some (.invokevirtual ix) => px_cv (px_ca (px_cn mi) ix) f.2.2 S
  | _ => none
abbrev px_C : Type := Nat → List Value → px_S → Option Value → px_S → Prop
def px_Run (C : px_C) (mi : Nat) : Nat → px_F → px_S → Option Value → px_S → Prop
  | 0, _, _, _, _ => False
  | n + 1, f, S, v, S' => (px_ret mi f = some v ∧ S' = S) ∨ (∃ f1 S1, px_step mi f S = some (f1, S1) ∧ px_Run C mi n f1 S1 v S') ∨
    ∃ mj As r v1 S1, px_call mi f S = some (mj, As, r) ∧ C mj As S v1 S1 ∧ px_Run C mi n (f.1 + 3, f.2.1, v1.toList ++ r) S1 v S'
def px_ent (As : List Value) : px_F := (0, lv_args 0 As, [])
def px_Ev : Nat → px_C
  | 0 => fun _ _ _ _ _ => False
  | d + 1 => fun mi As S v S' => (lg_sl As).length ≤ px_ml mi ∧ ∃ n, px_Run (px_Ev d) mi n (px_ent As) S v S'
/-- from the frame f the method comes to its end, with Q -/
def px_P (d mi : Nat) (f : px_F) (S : px_S) (Q : Option Value → px_S → Prop) : Prop := ∃ n v S', px_Run (px_Ev d) mi n f S v S' ∧ Q v S'
/-- the method, called so, comes to its end, with Q -/
def px_M (d mi : Nat) (As : List Value) (S : px_S) (Q : Option Value → px_S → Prop) : Prop := ∃ v S', px_Ev d mi As S v S' ∧ Q v S'
theorem px_P.step {d mi : Nat} {f f1 : px_F} {S S1 : px_S} {Q : Option Value → px_S → Prop} (h : px_step mi f S = some (f1, S1)) (k : px_P d mi f1 S1 Q) : px_P d mi f S Q := by
  obtain ⟨n, v, S', hr, hq⟩ := k
  exact ⟨n + 1, v, S', Or.inr (Or.inl ⟨f1, S1, h, hr⟩), hq⟩
theorem px_P.ret {d mi : Nat} {f : px_F} {S : px_S} {v : Option Value} {Q : Option Value → px_S → Prop} (h : px_ret mi f = some v) (k : Q v S) : px_P d mi f S Q := ⟨1, v, S, Or.inl ⟨h, rfl⟩, k⟩
theorem px_P.call {d mi mj : Nat} {f : px_F} {S : px_S} {As r : List Value} {Q : Option Value → px_S → Prop} (h : px_call mi f S = some (mj, As, r)) (k : px_M d mj As S (fun v S1 => px_P d mi (f.1 + 3, f.2.1, v.toList ++ r) S1 Q)) : px_P d mi f S Q := by
  obtain ⟨v1, S1, h1, n, v, S', hr, hq⟩ := k
  exact ⟨n + 1, v, S', Or.inr (Or.inr ⟨mj, As, r, v1, S1, h, h1, hr⟩), hq⟩
theorem px_M.of {d mi : Nat} {As : List Value} {S : px_S} {Q : Option Value → px_S → Prop} (h : (lg_sl As).length ≤ px_ml mi) (k : px_P d mi (px_ent As) S Q) : px_M (d + 1) mi As S Q := by
  obtain ⟨n, v, S', hr, hq⟩ := k
  exact ⟨v, S', ⟨h, n, hr⟩, hq⟩
theorem px_M.imp {d mi : Nat} {As : List Value} {S : px_S} {Q Q' : Option Value → px_S → Prop} (h : px_M d mi As S Q) (k : ∀ v S', Q v S' → Q' v S') : px_M d mi As S Q' := by
  obtain ⟨v, S', h1, h2⟩ := h
  exact ⟨v, S', h1, k _ _ h2⟩
theorem px_P.imp {d mi : Nat} {f : px_F} {S : px_S} {Q Q' : Option Value → px_S → Prop} (h : px_P d mi f S Q) (k : ∀ v S', Q v S' → Q' v S') : px_P d mi f S Q' := by
  obtain ⟨n, v, S', h1, h2⟩ := h
  exact ⟨n, v, S', h1, k _ _ h2⟩
theorem px_Run.mono {C C' : px_C} (hC : ∀ mj As S v S', C mj As S v S' → C' mj As S v S') {mi : Nat} : ∀ (n : Nat) (f : px_F) (S : px_S) (v : Option Value) (S' : px_S), px_Run C mi n f S v S' → px_Run C' mi n f S v S'
  | 0, _, _, _, _, h => h
  | n + 1, f, S, v, S', h => by
    rcases h with h | ⟨f1, S1, h1, h2⟩ | ⟨mj, As, r, v1, S1, h1, h2, h3⟩
    · exact Or.inl h
    · exact Or.inr (Or.inl ⟨f1, S1, h1, px_Run.mono hC n _ _ _ _ h2⟩)
    · exact Or.inr (Or.inr ⟨mj, As, r, v1, S1, h1, hC _ _ _ _ _ h2, px_Run.mono hC n _ _ _ _ h3⟩)
theorem px_Ev.up : ∀ (d mi : Nat) (As : List Value) (S : px_S) (v : Option Value) (S' : px_S), px_Ev d mi As S v S' → px_Ev (d + 1) mi As S v S'
  | 0, _, _, _, _, _, h => h.elim
  | d + 1, _, _, _, _, _, h => ⟨h.1, h.2.elim fun n hn => ⟨n, px_Run.mono (px_Ev.up d) n _ _ _ _ hn⟩⟩
theorem px_Ev.le {d d' mi : Nat} {As : List Value} {S : px_S} {v : Option Value} {S' : px_S} (hd : d ≤ d') (h : px_Ev d mi As S v S') : px_Ev d' mi As S v S' := by
  induction hd with
  | refl => exact h
  | step _ ih => exact px_Ev.up _ _ _ _ _ _ ih
theorem px_M.le {d d' mi : Nat} {As : List Value} {S : px_S} {Q : Option Value → px_S → Prop} (hd : d ≤ d') (h : px_M d mi As S Q) : px_M d' mi As S Q := by
  obtain ⟨v, S', h1, h2⟩ := h
  exact ⟨v, S', h1.le hd, h2⟩
theorem px_ty0 : px_ty 0 = .int := rfl
theorem px_ty2 : px_ty 2 = .boolean := rfl
theorem px_ty3 : px_ty 3 = .char := rfl
