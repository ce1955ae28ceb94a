/-! ArrayList.add on a list of items, with just the room that it takes -/
def gC (n cap : Nat) : Nat := if n < cap then 0 else 1
def gS (n cap : Nat) : Nat := if n < cap then 0 else if cap = 0 then 10 else cap + cap / 2
def gK (n cap : Nat) : Nat := if n < cap then cap else if cap = 0 then 10 else cap + cap / 2
def rmL (n cap : Nat) : Room := { frames := 6, cells := gC n cap, slots := gS n cap, locals := 134 }
theorem gS_room {n cap : Nat} (h : n < cap) : gS n cap = 0 ∧ gC n cap = 0 ∧ gK n cap = cap := by simp [gS, gC, gK, h]
theorem gS_full {n cap : Nat} (h : ¬ n < cap) (h0 : 0 < cap) : gS n cap = cap + cap / 2 ∧ gC n cap = 1 ∧ gK n cap = cap + cap / 2 := by
  have h1 : ¬ cap = 0 := by omega
  simp [gS, gC, gK, h, h1]
set_option maxHeartbeats 1000000 in
theorem c_addL (l : Launch) (G : zG) (n0 e0 : Nat) (w : zw) (il al ar cap : Nat) (V : LV) (x : Nat) (f : Nat → Int32) (hL : LL G e0 w (il, al, ar, cap) V) (hxi : w x = some (.inr (1, fI f))) (hn : V.2.1 ≤ 20000) : Ct l G n0 e0 y_A_add_O b_A_add_O 2 (Option.some FieldType.boolean) (rmL V.2.1 cap) [.ref al, .ref x] w (fun v w1 => ∃ ar2, v = some (.int 1) ∧ LL G e0 w1 (il, al, ar2, gK V.2.1 cap) (V.push f) ∧ (ar2 = ar ∨ w ar2 = none ∧ ∃ y, w1 ar2 = some y) ∧ Fr [al, ar] w w1) := by
  obtain ⟨hi, hc, md, fa, ha, hr, hx⟩ := hL
  obtain ⟨vt, n, its⟩ := V
  dsimp only at hi hc ha hr hx hn ⊢
  rcases hr with ⟨h1, h2, h3⟩ | ⟨h1, h2, h3⟩
  · subst h1 h2 h3
    refine (c_add_first l G n0 ar w al md ha x (fI f) hxi).mono (Nat.le_refl _) (Nat.le_refl _) (Nat.le_refl _) (Nat.le_refl _) ?_
    rintro v w1 ⟨q, rfl, q1, q2, q3, hF⟩
    refine ⟨q, rfl, ⟨hF.keepX hi (by simp [ha]), by simp [LV.push, gK], md + 1, _, q3, Or.inr ⟨q2, by simp [LV.push, gK], Nat.le_refl 10⟩, fun i hi2 => ?_⟩, Or.inr ⟨q1, _, q2⟩, hF.sub (by simp)⟩
    simp only [LV.push] at hi2 ⊢
    obtain rfl : i = 0 := by omega
    exact ⟨x, va_up_self _ _ _, by rw [if_pos rfl]; exact hF.keepX hxi (by simp [ha])⟩
  · by_cases hlt : n < cap
    · obtain ⟨g1, g2, g3⟩ := gS_room hlt
      refine (c_add_room l G n0 e0 w al ar cap n md fa ha h1 hlt (by omega) x (fI f) hxi).mono (by simp [rmL]) (Nat.zero_le _) (Nat.zero_le _) (by simp [rmL]) ?_
      rintro v w1 ⟨rfl, q3, q2, hF⟩
      rw [g3]
      refine ⟨ar, rfl, ⟨hF.keepX hi (by simp [ha, h1]), by simp only [LV.push]; omega, md + 1, _, q3, Or.inr ⟨q2, by simp only [LV.push]; omega, h3⟩, fun i hi2 => ?_⟩, Or.inl rfl, hF⟩
      simp only [LV.push] at hi2 ⊢
      by_cases hin : i = n
      · subst hin
        exact ⟨x, va_up_self _ _ _, by rw [if_pos rfl]; exact hF.keepX hxi (by simp [ha, h1])⟩
      · obtain ⟨y, y1, y2⟩ := hx i (by omega)
        exact ⟨y, by rw [va_up_ne _ _ hin]; exact y1, by rw [if_neg hin]; exact hF.keepX y2 (by simp [ha, h1])⟩
    · obtain rfl : n = cap := by omega
      obtain ⟨g1, g2, g3⟩ := gS_full hlt (by omega)
      refine (c_add_full l G n0 e0 w al ar n md fa ha h1 h3 (by omega) (fun i hi2 y hy => by obtain ⟨y2, z1, z2⟩ := hx i hi2; rw [z1] at hy; cases hy; exact ⟨_, z2⟩) x (fI f) hxi).mono (by simp [rmL]) (by simp [rmL, g2]) (by simp only [rmL, g1]; omega) (by simp [rmL]) ?_
      rintro v w1 ⟨q, rfl, q1, q2, q3, hF⟩
      rw [g3]
      refine ⟨q, rfl, ⟨hF.keepX hi (by simp [ha]), by simp only [LV.push]; omega, md + 1, _, q3, Or.inr ⟨q2, by simp only [LV.push]; omega, by dsimp only; omega⟩, fun i hi2 => ?_⟩, Or.inr ⟨q1, _, q2⟩, hF.sub (by simp)⟩
      simp only [LV.push] at hi2 ⊢
      by_cases hin : i = n
      · subst hin
        exact ⟨x, va_up_self _ _ _, by rw [if_pos rfl]; exact hF.keepX hxi (by simp [ha])⟩
      · obtain ⟨y, y1, y2⟩ := hx i (by omega)
        exact ⟨y, by rw [va_up_ne _ _ hin, pk_cpy_in (by omega) (by omega), Nat.zero_add, Nat.sub_zero]; exact y1, by rw [if_neg hin]; exact hF.keepX y2 (by simp [ha])⟩
theorem gS_le (n cap : Nat) : gS n cap ≤ 10 + cap + cap / 2 ∧ gC n cap ≤ 1 := by
  unfold gS gC
  split
  · omega
  · split <;> omega
/-- what growing costs over a run of adds -/
theorem gS_sum {n cap : Nat} (hc : cap = 0 ∨ 10 ≤ cap) (hn : n ≤ cap) : 4 * cap + gS n cap ≤ 4 * gK n cap ∧ cap / 5 + gC n cap ≤ gK n cap / 5 ∧ (10 ≤ gK n cap) := by
  unfold gS gC gK
  split
  · omega
  · split <;> omega
