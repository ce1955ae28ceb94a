/-- the desk's innermost list has one item more, f; the desk counts one more -/
def ADD (G : zG) (e0 d la ra on tot il al ar : Nat) (V : LV) (f : Nat → Int32) (w w1 : zw) : Prop := ∃ ar2 cap2, LL G e0 w1 (il, al, ar2, cap2) (V.push f) ∧ (ar2 = ar ∨ w ar2 = none ∧ ∃ y, w1 ar2 = some y) ∧ w1 d = some (.inr (5, [.ref la, .int (nI on), .ref ra, .int (nI (tot + 1))])) ∧ Fr [d, al, ar] w w1
def JP (G : zG) (e0 d la ra on tot il al ar : Nat) (V : LV) (f : Nat → Int32) (r : Int32) (w w1 : zw) : Prop := (tot < 4000 ∧ r = 1 ∧ ADD G e0 d la ra on tot il al ar V f w w1) ∨ (4000 ≤ tot ∧ r = 0 ∧ w1 = w)
def AddP (G : zG) (e0 d la ra on tot il al ar : Nat) (V : LV) (good : Bool) (f : Nat → Int32) (r : Int32) (w w1 : zw) : Prop := (good = true ∧ tot < 4000 ∧ r = 1 ∧ ADD G e0 d la ra on tot il al ar V f w w1) ∨ ((good = false ∨ 4000 ≤ tot) ∧ r = 0 ∧ Fr [] w w1)
theorem JP.nar {G : zG} {e0 d la ra on tot il al ar : Nat} {V : LV} {f : Nat → Int32} {r : Int32} {w w1 : zw} (h : JP G e0 d la ra on tot il al ar V f r w w1) : narrow .boolean (.int r) = .int r := by
  rcases h with ⟨-, rfl, -⟩ | ⟨-, rfl, -⟩ <;> rfl
theorem AddP.of {G : zG} {e0 d la ra on tot il al ar : Nat} {V : LV} {good : Bool} {f : Nat → Int32} {r : Int32} {w w2 w1 : zw} (hF : Fr [] w w2) (h : JP G e0 d la ra on tot il al ar V f r w2 w1) (hg : good = true) : AddP G e0 d la ra on tot il al ar V good f r w w1 := by
  rcases h with ⟨h1, h2, ar2, cap2, h3, h4, h5, h6⟩ | ⟨h1, h2, h3⟩
  · refine Or.inl ⟨hg, h1, h2, ar2, cap2, h3, h4.imp_right (fun q => ⟨hF.2 _ q.1, q.2⟩), h5, (hF.sub (by simp)).call h6 (fun t ht => Or.inl ht)⟩
  · subst h3
    exact Or.inr ⟨Or.inr h1, h2, hF⟩
theorem AddP.no {G : zG} {e0 d la ra on tot il al ar : Nat} {V : LV} {good : Bool} {f : Nat → Int32} {w w1 : zw} (hF : Fr [] w w1) (hg : good = false) : AddP G e0 d la ra on tot il al ar V good f 0 w w1 := Or.inr ⟨Or.inl hg, rfl, hF⟩
theorem c_joinU (l : Launch) (G : zG) (n0 e0 : Nat) (w : zw) (d la ra on tot il al ar cap : Nat) (V : LV) (x : Nat) (f : Nat → Int32) (hd : w d = some (.inr (5, [.ref la, .int (nI on), .ref ra, .int (nI tot)]))) (hL : LL G e0 w (il, al, ar, cap) V) (hxi : w x = some (.inr (1, fI f))) (hn : V.2.1 ≤ 20000) (ht : tot < 10000) : Ct l G n0 e0 y_D_join b_D_join 3 (Option.some FieldType.boolean) (rmJ cap) [.ref d, .ref il, .ref x] w (fun v w1 => ∃ r, v = some (.int r) ∧ JP G e0 d la ra on tot il al ar V f r w w1) := by
  by_cases h : tot < 4000
  · refine (c_joinL l G n0 e0 w d la ra on tot (il, al, ar, cap) V x f hd hL hxi hn h).mono (Nat.le_refl _) (Nat.le_refl _) (Nat.le_refl _) (Nat.le_refl _) ?_
    rintro v w1 ⟨rfl, h2⟩
    exact ⟨1, rfl, Or.inl ⟨h, rfl, h2⟩⟩
  · refine (c_joinL_no l G n0 e0 w d la ra on tot il x cap hd (by omega) ht).mono (Nat.le_refl _) (Nat.le_refl _) (Nat.le_refl _) (Nat.le_refl _) ?_
    rintro v w1 ⟨rfl, h2⟩
    exact ⟨0, rfl, Or.inr ⟨by omega, rfl, h2⟩⟩
def rmA (cap : Nat) : Room := { frames := 8, cells := 2, slots := 22 + cap + cap / 2, locals := 180 }
