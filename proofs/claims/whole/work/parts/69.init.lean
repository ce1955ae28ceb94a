/-! the start -/
def X0 : XS := (0, 0, fun _ => (false, 0, fun _ _ => 0), fun _ => none)
theorem ci_init {G : zG} {e0 : Nat} {w : zw} {d la ra : Nat} {P : List Nat} (hd : w d = some (.inr (5, [.ref la, .int 0, .ref ra, .int 0]))) (hla : w la = some (.inl (G.2 4, 100, .inr (.inr (.inr (.inr (fun _ => none))))))) (hra : w ra = some (.inl (G.2 5, 16, .inr (.inr (.inr (.inr (fun _ => none))))))) (he : w e0 = none) (g4 : ¬ G.2 4 = G.2 3) (g5 : ¬ G.2 5 = G.2 3) : CI G e0 w d la ra P 0 X0 := by
  refine ⟨Nat.le_refl 0, fun _ => none, fun _ => none, fun _ => (0, 0, 0, 0), fun _ => (0, 0), ⟨Nat.zero_le _, he, g4, g5⟩, hd, hla, hra, fun t ht => absurd ht (Nat.not_lt_zero _), fun k hk => rfl, fun i j hi => ?_, fun j k _ _ _ h => absurd rfl h⟩
  rcases hi with q | ⟨k, -, -, q⟩
  · exact absurd q (Nat.not_lt_zero _)
  · exact absurd rfl q
theorem sumN_0 : ∀ n, sumN (fun _ => 0) n = 0 := by
  intro n
  induction n with
  | zero => rfl
  | succ n ih => show sumN (fun _ => 0) n + 0 = 0; rw [ih]
theorem ri_init {G : zG} {w : zw} {o : Nat} {A : Nat → Nat} (ha : w (A 0) = some (arr13 G 0) ∧ w (A 1) = some (arr13 G 1) ∧ w (A 2) = some (arr13 G 2) ∧ w (A 3) = some (arr13 G 3) ∧ w (A 4) = some (arr13 G 4) ∧ w (A 5) = some (arr13 G 5) ∧ w (A 6) = some (arr13 G 6) ∧ w (A 7) = some (arr13 G 7) ∧ w (A 8) = some (arr13 G 8) ∧ w (A 9) = some (arr13 G 9) ∧ w (A 10) = some (arr13 G 10) ∧ w (A 11) = some (arr13 G 11) ∧ w (A 12) = some (arr13 G 12)) (ho : w o = some (.inr (6, fR A (fun _ => 0) (fun _ => 0)))) : RI G w o A X0 := by
  obtain ⟨a0, a1, a2, a3, a4, a5, a6, a7, a8, a9, a10, a11, a12⟩ := ha
  refine ⟨fun _ => 0, fun _ => 0, fun _ _ => 0, fun _ => 0, fun _ => 0, fun _ => 0, fun _ => 0, fun _ => 0, fun _ => 0, 0, ⟨ho, ⟨a0, a1, a2, a3, a4, a5, a6, a7, a8⟩, a9, a10, a11, a12⟩, ⟨Nat.zero_le _, ?_, Nat.zero_le _, ⟨fun _ => 0, rfl, fun t ht => absurd ht (Nat.not_lt_zero _)⟩, fun k hk => rfl⟩, nI_0.symm, nI_0.symm, fun k _ => nI_0.symm⟩
  rw [sumN_0]
  rfl
