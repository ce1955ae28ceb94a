/-! a list of items: where it lies (ItemList, ArrayList, array, places), what it is (vertical, number, items) -/
abbrev LA : Type := Nat × Nat × Nat × Nat
abbrev LV : Type := Bool × Nat × (Nat → Nat → Int32)
def LL (G : zG) (e0 : Nat) (w : zw) (A : LA) (V : LV) : Prop :=
  w A.1 = some (.inr (2, [.int (zi V.1), .ref A.2.1])) ∧ A.2.2.2 ≤ 10 + 2 * V.2.1 ∧ ∃ (md : Int32) (fa : Nat → Option Nat), w A.2.1 = some (.inr (0, fA md (.ref A.2.2.1) (nI V.2.1))) ∧ ((A.2.2.1 = e0 ∧ A.2.2.2 = 0 ∧ V.2.1 = 0) ∨ (w A.2.2.1 = some (.inl (G.2 3, A.2.2.2, .inr (.inr (.inr (.inr fa))))) ∧ V.2.1 ≤ A.2.2.2 ∧ 10 ≤ A.2.2.2)) ∧ ∀ i, i < V.2.1 → ∃ x, fa i = some x ∧ w x = some (.inr (1, fI (V.2.2 i)))
def LV.push (V : LV) (f : Nat → Int32) : LV := (V.1, V.2.1 + 1, fun i => if i = V.2.1 then f else V.2.2 i)
theorem Fr.keepX {S : List Nat} {w w1 : zw} (h : Fr S w w1) {b : Nat} {x : va_E} (hb : w b = some x) (hS : ∀ t ∈ S, w t ≠ some x) : w1 b = some x := h.keep hb (fun q => hS b q hb)
/-- a list that the change doesn't touch stays -/
theorem LL.keep {G : zG} {e0 : Nat} {w w1 : zw} {A : LA} {V : LV} {S : List Nat} (h : LL G e0 w A V) (hF : Fr S w w1) (h1 : A.1 ∉ S) (h2 : A.2.1 ∉ S) (h3 : A.2.2.1 ∉ S ∨ w A.2.2.1 = none) (hI : ∀ t ∈ S, ∀ fs, w t ≠ some (.inr (1, fs))) : LL G e0 w1 A V := by
  obtain ⟨hi, hc, md, fa, ha, hr, hx⟩ := h
  refine ⟨hF.keep hi h1, hc, md, fa, hF.keep ha h2, ?_, fun i hi => ?_⟩
  · rcases hr with hr | hr
    · exact Or.inl hr
    · rcases h3 with h3 | h3
      · exact Or.inr ⟨hF.keep hr.1 h3, hr.2⟩
      · rw [h3] at hr; cases hr.1
  · obtain ⟨x, q1, q2⟩ := hx i hi
    exact ⟨x, q1, hF.keepX q2 (fun t ht => hI t ht _)⟩
def rmJ (cap : Nat) : Room := { frames := 7, cells := 1, slots := 10 + cap + cap / 2, locals := 155 }
theorem c_joinL_no (l : Launch) (G : zG) (n0 e0 : Nat) (w : zw) (d la ra on tot il x cap : Nat) (hd : w d = some (.inr (5, [.ref la, .int (nI on), .ref ra, .int (nI tot)]))) (ht : 4000 ≤ tot) (ht2 : tot < 10000) : Ct l G n0 e0 y_D_join b_D_join 3 (Option.some FieldType.boolean) (rmJ cap) [.ref d, .ref il, .ref x] w (fun v w1 => v = some (.int 0) ∧ w1 = w) :=
  (c_join_no l G n0 e0 w d la ra on tot il x hd ht ht2).mono (Nat.zero_le _) (Nat.zero_le _) (Nat.zero_le _) (Nat.zero_le _) (fun _ _ h => h)
set_option maxHeartbeats 1000000 in
/-- join: the item is the list's last, the desk counts one more -/
theorem c_joinL (l : Launch) (G : zG) (n0 e0 : Nat) (w : zw) (d la ra on tot : Nat) (A : LA) (V : LV) (x : Nat) (f : Nat → Int32) (hd : w d = some (.inr (5, [.ref la, .int (nI on), .ref ra, .int (nI tot)]))) (hL : LL G e0 w A V) (hxi : w x = some (.inr (1, fI f))) (hn : V.2.1 ≤ 20000) (ht : tot < 4000) : Ct l G n0 e0 y_D_join b_D_join 3 (Option.some FieldType.boolean) (rmJ A.2.2.2) [.ref d, .ref A.1, .ref x] w (fun v w1 => v = some (.int 1) ∧ ∃ ar cap, LL G e0 w1 (A.1, A.2.1, ar, cap) (V.push f) ∧ (ar = A.2.2.1 ∨ w ar = none ∧ ∃ y, w1 ar = some y) ∧ w1 d = some (.inr (5, [.ref la, .int (nI on), .ref ra, .int (nI (tot + 1))])) ∧ Fr [d, A.2.1, A.2.2.1] w w1) := by
  obtain ⟨hi, hc, md, fa, ha, hr, hx⟩ := hL
  obtain ⟨il, al, ar, cap⟩ := A
  obtain ⟨vt, n, its⟩ := V
  dsimp only at hi hc ha hr hx hn ⊢
  rcases hr with ⟨h1, h2, h3⟩ | ⟨h1, h2, h3⟩
  · subst h1 h2 h3
    refine (c_join_first l G n0 ar w al md ha x (fI f) hxi d la ra on tot il vt hd hi ht).mono (Nat.le_refl _) (Nat.le_refl _) (Nat.le_refl _) (Nat.le_refl _) ?_
    rintro v w1 ⟨q, rfl, q1, q2, q3, q4, hF⟩
    refine ⟨rfl, q, 10, ⟨hF.keepX hi (by simp [hd, ha]), by simp [LV.push], md + 1, _, q3, Or.inr ⟨q2, by simp [LV.push], Nat.le_refl 10⟩, fun i hi2 => ?_⟩, Or.inr ⟨q1, _, q2⟩, q4, hF.sub (by simp)⟩
    simp only [LV.push] at hi2 ⊢
    obtain rfl : i = 0 := by omega
    exact ⟨x, va_up_self _ _ _, by rw [if_pos rfl]; exact hF.keepX hxi (by simp [hd, ha])⟩
  · by_cases hlt : n < cap
    · refine (c_join_room l G n0 e0 w al ar cap n md fa ha h1 hlt (by omega) x (fI f) hxi d la ra on tot il vt hd hi ht).mono (by simp [rmJ]) (Nat.zero_le _) (Nat.zero_le _) (by simp [rmJ]) ?_
      rintro v w1 ⟨rfl, q2, q3, q4, hF⟩
      refine ⟨rfl, ar, cap, ⟨hF.keepX hi (by simp [hd, ha, h1]), by simp only [LV.push]; omega, md + 1, _, q3, Or.inr ⟨q2, by simp only [LV.push]; omega, h3⟩, fun i hi2 => ?_⟩, Or.inl rfl, q4, hF⟩
      simp only [LV.push] at hi2 ⊢
      by_cases hin : i = n
      · subst hin
        exact ⟨x, va_up_self _ _ _, by rw [if_pos rfl]; exact hF.keepX hxi (by simp [hd, ha, h1])⟩
      · obtain ⟨y, y1, y2⟩ := hx i (by omega)
        exact ⟨y, by rw [va_up_ne _ _ hin]; exact y1, by rw [if_neg hin]; exact hF.keepX y2 (by simp [hd, ha, h1])⟩
    · obtain rfl : n = cap := by omega
      refine (c_join_full l G n0 e0 w al ar n md fa ha h1 h3 (by omega) (fun i hi2 y hy => by obtain ⟨y2, z1, z2⟩ := hx i hi2; rw [z1] at hy; cases hy; exact ⟨_, z2⟩) x (fI f) hxi d la ra on tot il vt hd hi ht).mono (by simp [rmJ]) (by simp [rmJ]) (by simp only [rmJ]; omega) (by simp [rmJ]) ?_
      rintro v w1 ⟨q, rfl, q1, q2, q3, q4, hF⟩
      refine ⟨rfl, q, n + n / 2, ⟨hF.keepX hi (by simp [hd, ha]), by simp only [LV.push]; omega, md + 1, _, q3, Or.inr ⟨q2, by simp only [LV.push]; omega, by dsimp only; omega⟩, fun i hi2 => ?_⟩, Or.inr ⟨q1, _, q2⟩, q4, hF.sub (by simp)⟩
      simp only [LV.push] at hi2 ⊢
      by_cases hin : i = n
      · subst hin
        exact ⟨x, va_up_self _ _ _, by rw [if_pos rfl]; exact hF.keepX hxi (by simp [hd, ha])⟩
      · obtain ⟨y, y1, y2⟩ := hx i (by omega)
        exact ⟨y, by rw [va_up_ne _ _ hin, pk_cpy_in (by omega) (by omega), Nat.zero_add, Nat.sub_zero]; exact y1, by rw [if_neg hin]; exact hF.keepX y2 (by simp [hd, ha])⟩
