/-! ===== how a line is read: a plain reader ===== -/
/-- place, number of steps, steps, what is read -/
abbrev ps : Type := Nat × Nat × xe_T × (Nat → Int64)
abbrev ps_a (y : ps) : Nat := y.1
abbrev ps_n (y : ps) : Nat := y.2.1
abbrev ps_s (y : ps) : xe_T := y.2.2.1
abbrev ps_w (y : ps) : Nat → Int64 := y.2.2.2
def ps_at (y : ps) (a : Nat) : ps := (a, y.2)
def ps_add (y : ps) (a : Nat) (q : Nat × Nat × Nat × Nat) : ps := (a, ps_n y + 1, va_up (ps_s y) (ps_n y) q, ps_w y)
/-- the character at a place; none is 0 -/
def cn (tx : Nat → Nat) (N a : Nat) : Nat := if a < N then tx a else 0
def pz_sk (tx : Nat → Nat) (N : Nat) : Nat → Nat → Nat
  | 0, a => a
  | k + 1, a => if a < N ∧ tx a = 32 then pz_sk tx N k (a + 1) else a
def nx (tx : Nat → Nat) (N a : Nat) : Nat := pz_sk tx N (N - a) a
theorem nx_s {tx : Nat → Nat} {N a : Nat} (h : a < N) (h2 : tx a = 32) : nx tx N a = nx tx N (a + 1) := by
  unfold nx
  obtain ⟨k, hk⟩ : ∃ k, N - a = k + 1 := ⟨N - a - 1, by omega⟩
  rw [hk, show N - (a + 1) = k by omega]
  show (if a < N ∧ tx a = 32 then pz_sk tx N k (a + 1) else a) = _
  rw [if_pos ⟨h, h2⟩]
theorem nx_z {tx : Nat → Nat} {N a : Nat} (h : ¬ (a < N ∧ tx a = 32)) : nx tx N a = a := by
  unfold nx
  cases N - a with
  | zero => rfl
  | succ k =>
    show (if a < N ∧ tx a = 32 then pz_sk tx N k (a + 1) else a) = _
    rw [if_neg h]
theorem nx_ge {tx : Nat → Nat} {N : Nat} : ∀ (k a : Nat), a + k = N → a ≤ nx tx N a ∧ nx tx N a ≤ N
  | 0, a, h => by rw [nx_z (by omega)]; omega
  | k + 1, a, h => by
    by_cases e : tx a = 32
    · rw [nx_s (by omega) e]
      have := nx_ge (tx := tx) (N := N) k (a + 1) (by omega)
      omega
    · rw [nx_z (fun z => e z.2)]; omega
theorem nx_le {tx : Nat → Nat} {N a : Nat} (h : a ≤ N) : a ≤ nx tx N a ∧ nx tx N a ≤ N := nx_ge (N - a) a (by omega)
theorem nx_nb {tx : Nat → Nat} {N : Nat} : ∀ (k a : Nat), a + k = N → ¬ (nx tx N a < N ∧ tx (nx tx N a) = 32)
  | 0, a, h => by rw [nx_z (by omega)]; omega
  | k + 1, a, h => by
    by_cases e : tx a = 32
    · rw [nx_s (by omega) e]; exact nx_nb (tx := tx) (N := N) k (a + 1) (by omega)
    · rw [nx_z (fun z => e z.2)]; exact fun z => e z.2
theorem nx_nx {tx : Nat → Nat} {N a : Nat} (h : a ≤ N) : nx tx N (nx tx N a) = nx tx N a := nx_z (nx_nb (N - a) a (by omega))
def lt (k : Nat) : Option Nat := if k = 105 then some 0 else if k = 102 then some 1 else if k = 115 then some 2 else if k = 110 then some 3 else if k = 63 then some 4 else none
def isN (k : Nat) : Bool := decide (65 ≤ k) && decide (k ≤ 90)
def isE (k : Nat) : Bool := decide (k = 33 ∨ k = 91 ∨ k = 38)
abbrev pr : Type := Option Nat × ps
/-- an ending behind step s, at its character -/
def pz_end (tx : Nat → Nat) (N : Nat) (s : Nat) (y : ps) : pr :=
  let a := ps_a y
  let b := nx tx N (a + 1)
  if cn tx N a = 33 then (some (ps_n y), ps_add y (a + 1) (4, s, 0, a))
  else if cn tx N a = 91 then (if cn tx N b = 93 then (some (ps_n y), ps_add y (b + 1) (3, s, 0, a)) else (none, ps_at y b))
  else match lt (cn tx N b) with
    | none => (none, ps_at y b)
    | some l => if l = 4 then (none, ps_at y b) else (some (ps_n y), ps_add y (b + 1) (5, s, l, a))
def pz_endL (tx : Nat → Nat) (N : Nat) : Nat → Nat → ps → pr
  | 0, s, y => (some s, y)
  | k + 1, s, y => if isE (cn tx N (nx tx N (ps_a y))) = true then (match pz_end tx N s (ps_at y (nx tx N (ps_a y))) with
      | (none, z) => (none, z)
      | (some r, z) => pz_endL tx N k r z) else (some s, ps_at y (nx tx N (ps_a y)))
def pz_binL (tx : Nat → Nat) (N c kd : Nat) (P : ps → pr) : Nat → Nat → ps → pr
  | 0, s, y => (some s, y)
  | k + 1, s, y => if cn tx N (nx tx N (ps_a y)) = c then (match P (ps_at y (nx tx N (ps_a y) + 1)) with
      | (none, z) => (none, z)
      | (some r, z) => pz_binL tx N c kd P k (ps_n z) (ps_add z (ps_a z) (kd, s, r, nx tx N (ps_a y)))) else (some s, ps_at y (nx tx N (ps_a y)))
def pz_part (tx : Nat → Nat) (N : Nat) (A : ps → pr) (y : ps) : pr := match A y with
  | (none, z) => (none, z)
  | (some s, z) => pz_endL tx N 60 s z
def pz_or (tx : Nat → Nat) (N : Nat) (A : ps → pr) (y : ps) : pr := match pz_part tx N A y with
  | (none, z) => (none, z)
  | (some s, z) => pz_binL tx N 124 6 (pz_part tx N A) 60 s z
def pz_sumA (tx : Nat → Nat) (N : Nat) (A : ps → pr) (y : ps) : pr := match pz_or tx N A y with
  | (none, z) => (none, z)
  | (some s, z) => pz_binL tx N 43 7 (pz_or tx N A) 60 s z
def pz_name (tx : Nat → Nat) (N : Nat) (o pl : Nat) (y : ps) : pr :=
  let a := nx tx N (ps_a y)
  let t := 26 * o + (cn tx N a - 65)
  if isN (cn tx N a) = true then (some (ps_n y), (a + 1, ps_n y + 1, va_up (ps_s y) (ps_n y) (1, t, 0, pl), ss_put (ps_w y) t)) else (none, ps_at y a)
def pz_atom (tx : Nat → Nat) (N m : Nat) (I : Option (ps → pr)) (y : ps) : pr :=
  let a := nx tx N (ps_a y)
  let c := cn tx N a
  match lt c with
  | some l => (some (ps_n y), ps_add y (a + 1) (0, l, 0, a))
  | none =>
    if isN c = true then pz_name tx N m a (ps_at y a)
    else if 48 ≤ c ∧ c < 56 then (if cn tx N (nx tx N (a + 1)) = 46 then pz_name tx N (c - 48) a (ps_at y (nx tx N (a + 1) + 1)) else (none, ps_at y (nx tx N (a + 1))))
    else if c = 91 ∨ c = 40 then (match I with
      | none => (none, ps_at y a)
      | some J => (match J (ps_at y (a + 1)) with
        | (none, z) => (none, z)
        | (some r, z) => if cn tx N (nx tx N (ps_a z)) = (if c = 91 then 93 else 41) then (if c = 91 then (some (ps_n z), ps_add z (nx tx N (ps_a z) + 1) (2, r, 0, a)) else (some r, ps_at z (nx tx N (ps_a z) + 1))) else (none, ps_at z (nx tx N (ps_a z)))))
    else (none, ps_at y a)
def pz_sum (tx : Nat → Nat) (N m : Nat) : Nat → ps → pr
  | 0 => pz_sumA tx N (pz_atom tx N m none)
  | D + 1 => pz_sumA tx N (pz_atom tx N m (some (pz_sum tx N m D)))
/-! the head: type words -/
/-- up to three pairs of brackets: how many, the place; or the place where it fails -/
def pz_br (tx : Nat → Nat) (N : Nat) : Nat → Nat → Nat → Option Nat × Nat
  | 0, t, a => (some t, a)
  | k + 1, t, a => if cn tx N (nx tx N a) = 91 then (if cn tx N (nx tx N (nx tx N a + 1)) = 93 then pz_br tx N k (t + 1) (nx tx N (nx tx N a + 1) + 1) else (none, nx tx N (nx tx N a + 1))) else (some t, nx tx N a)
/-- the word's forms so far are w -/
def pz_wd (tx : Nat → Nat) (N : Nat) : Nat → Int32 → Nat → Option Int32 × Nat
  | 0, _, a => (none, a)
  | k + 1, w, a => match lt (cn tx N (nx tx N a)) with
    | none => (none, nx tx N a)
    | some l => (match pz_br tx N 3 0 (nx tx N a + 1) with
      | (none, b) => (none, b)
      | (some t, b) => if cn tx N (nx tx N b) = 124 then pz_wd tx N k (w ||| (1 <<< (nI (l + 5 * t) &&& 31))) (nx tx N b + 1) else (some (w ||| (1 <<< (nI (l + 5 * t) &&& 31))), nx tx N b))
/-- the head: what is defined, declared, the place of =; the place behind it, or where it fails -/
def pz_hd (tx : Nat → Nat) (N m : Nat) : Option (Int32 × Int32 × Nat) × Nat :=
  let a := nx tx N 0
  let c := cn tx N a
  let eq := fun (df dc : Int32) (b : Nat) => if cn tx N (nx tx N b) = 61 then (some (df, dc, nx tx N b), nx tx N b + 1) else (none, nx tx N b)
  if isN c = true then (if cn tx N (nx tx N (a + 1)) = 58 then (match pz_wd tx N 60 0 (nx tx N (a + 1) + 1) with
      | (none, b) => (none, b)
      | (some w, b) => eq (nI (26 * m + (c - 65))) w b) else eq (nI (26 * m + (c - 65))) (-1) (nx tx N (a + 1))) else eq (-1) (-1) a
def ps_0 (a : Nat) : ps := (a, 0, fun _ => (0, 0, 0, 0), fun _ => 0)
/-- a line that cannot be read from a place on -/
def pz_bad (N a : Nat) : ln_S := (N, -1, -1, -1, nI a, 0, fun _ => (0, 0, 0, 0), fun _ => 0)
/-- the whole line -/
def pz (tx : Nat → Nat) (N m : Nat) : ln_S := match pz_hd tx N m with
  | (none, a) => pz_bad N a
  | (some (df, dc, q), a) => (match pz_sum tx N m 12 (ps_0 a) with
    | (none, z) => pz_bad N (ps_a z)
    | (some _, z) => if cn tx N (nx tx N (ps_a z)) = 0 then (N, df, dc, nI q, -1, ps_n z, ps_s z, ps_w z) else pz_bad N (nx tx N (ps_a z)))
