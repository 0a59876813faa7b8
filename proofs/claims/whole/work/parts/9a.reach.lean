/-! ===== a part of a run: from a frame to another ===== -/
def px_Rch (C : px_C) (mi : Nat) : Nat → px_F → px_S → px_F → px_S → Prop
  | 0, f, S, f', S' => f = f' ∧ S = S'
  | n + 1, f, S, f', S' => (∃ f1 S1, px_step mi f S = some (f1, S1) ∧ px_Rch C mi n f1 S1 f' S') ∨
    ∃ mj As r v1 S1, px_call mi f S = some (mj, As, r) ∧ C mj As S v1 S1 ∧ px_Rch C mi n (f.1 + 3, f.2.1, v1.toList ++ r) S1 f' S'
def px_T (d mi : Nat) (f : px_F) (S : px_S) (K : px_F → px_S → Prop) : Prop := ∃ n f' S', px_Rch (px_Ev d) mi n f S f' S' ∧ K f' S'
theorem px_T.fin {d mi : Nat} {f : px_F} {S : px_S} {K : px_F → px_S → Prop} (h : K f S) : px_T d mi f S K := ⟨0, f, S, ⟨rfl, rfl⟩, h⟩
theorem px_T.step {d mi : Nat} {f f1 : px_F} {S S1 : px_S} {K : px_F → px_S → Prop} (h : px_step mi f S = some (f1, S1)) (k : px_T d mi f1 S1 K) : px_T d mi f S K := by
  obtain ⟨n, f', S', hr, hq⟩ := k
  exact ⟨n + 1, f', S', Or.inl ⟨f1, S1, h, hr⟩, hq⟩
theorem px_T.call {d mi mj : Nat} {f : px_F} {S : px_S} {As r : List Value} {K : px_F → px_S → Prop} (h : px_call mi f S = some (mj, As, r)) (k : px_M d mj As S (fun v S1 => px_T d mi (f.1 + 3, f.2.1, v.toList ++ r) S1 K)) : px_T d mi f S K := by
  obtain ⟨v1, S1, h1, n, f', S', hr, hq⟩ := k
  exact ⟨n + 1, f', S', Or.inr ⟨mj, As, r, v1, S1, h, h1, hr⟩, hq⟩
theorem px_Rch_mo {C : px_C} {mi : Nat} (hC : ∀ mj As S v S', C mj As S v S' → px_Mo S S') : ∀ (n : Nat) (f : px_F) (S : px_S) (f' : px_F) (S' : px_S), px_Rch C mi n f S f' S' → px_Mo S S'
  | 0, f, S, f', S', h => by rw [h.2]; exact px_Mo.rf
  | n + 1, f, S, f', S', h => by
    rcases h with ⟨f1, S1, h1, h2⟩ | ⟨mj, As, r, v1, S1, h1, h2, h3⟩
    · exact (px_step_mo h1).tr (px_Rch_mo hC n _ _ _ _ h2)
    · exact (hC _ _ _ _ _ h2).tr (px_Rch_mo hC n _ _ _ _ h3)
section PXE
variable {p : Program} {l : Launch} {e : Env} {R : Room} {s : State} {m : MethodId} {args : Array Value} {below : List Frame} {meth : Method} {c : Code} {Q : State → Prop}
set_option maxHeartbeats 4000000 in
theorem px_rchW {d mi : Nat} {dC : Nat → ClassId} {dI : Nat → Nat → Nat} {dA : Nat → ClassId} (X : px_Cx p s m args meth c mi dC dI dA)
    {w0 : px_W} {nx0 sl0 : Nat} (hRf : d + 1 ≤ R.frames) (hRl : 100 * (d + 1) + 20 ≤ R.locals) {S' : px_S} {f' : px_F}
    (hc1 : S'.2.1 ≤ nx0 + R.cells) (hc2 : S'.2.2 ≤ sl0 + R.slots)
    (kk : ∀ (H : Heap) (locs : List Loc) (cells slots : Nat) (ls : Array Slot), px_Rl dC dI dA s w0 nx0 sl0 S' H locs cells slots → lv_has ls (px_ml mi) f'.2.1 → W p l e R s m args below meth c H locs cells slots Q (F0 m f'.1 ls f'.2.2)) :
    ∀ (n : Nat) (f : px_F) (S : px_S), px_Rch (px_Ev d) mi n f S f' S' → ∀ (H : Heap) (locs : List Loc) (cells slots : Nat) (ls : Array Slot), px_Rl dC dI dA s w0 nx0 sl0 S H locs cells slots → lv_has ls (px_ml mi) f.2.1 →
      W p l e R s m args below meth c H locs cells slots Q (F0 m f.1 ls f.2.2) := by
  intro n
  induction n with
  | zero =>
    intro f S h H locs cells slots ls hR hl
    obtain ⟨h1, h2⟩ := h
    subst h1 h2
    exact kk H locs cells slots ls hR hl
  | succ n ihn =>
    intro f S h H locs cells slots ls hR hl
    obtain ⟨pc, l0, st⟩ := f
    rcases h with ⟨f1, S1, h1, h2⟩ | ⟨mj, As, r, v1, S1, h1, h2, h3⟩
    · have hmo := px_Rch_mo (px_Ev_mo d) n _ _ _ _ h2
      unfold px_step at h1
      split at h1
      · rename_i i hat
        exact px_s1 X hat h1 hR (Nat.le_trans hmo.1 hc1) (Nat.le_trans hmo.2.1 hc2) (by omega) (by omega) hl (fun H' locs' cells' slots' ls' hR' hl' => ihn f1 S1 h2 H' locs' cells' slots' ls' hR' hl')
      · cases h1
    · have hmo := px_Rch_mo (px_Ev_mo d) n _ _ _ _ h3
      have hm1 := px_Ev_mo d _ _ _ _ _ h2
      obtain ⟨q1, q2, q3, q4, q5, q6, q7⟩ := id hR
      have b1 := hmo.1
      have b2 := hmo.2.1
      have b3 := hm1.1
      have b4 := hm1.2.1
      exact px_back hm1 (px_callW X hRf hRl h1 (px_sound l dC dI dA d _ _ _ _ _ h2) q1 q2 ⟨by omega, by omega⟩ hl) hR (fun H' locs' cells' slots' hR' => ihn _ S1 h3 H' locs' cells' slots' ls hR' hl)
end PXE
