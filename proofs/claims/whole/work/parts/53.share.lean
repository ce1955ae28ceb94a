/-! the class's set widths are the reference's -/
theorem setW_clamp (x : Int64) : setW x = clampR x := by
  unfold setW clampR
  by_cases h : x < 2147483647
  · rw [if_pos h, if_neg (fun q : (2147483647 : Int64) < x => absurd (Int64.lt_trans h q) (Int64.lt_irrefl))]
  · rw [if_neg h, if_neg (by decide)]
    by_cases e : (2147483647 : Int64) < x
    · rw [if_pos e]
    · have e2 : x = 2147483647 := Int64.le_antisymm (Int64.not_lt.mp e) (Int64.not_lt.mp h)
      rw [if_neg e, e2, if_neg (by decide)]
theorem near_eq {a b : Int64} (hb : 0 < b) : nearL a b = nearR a b := by
  unfold nearL nearR
  rw [if_pos hb]
  by_cases h0 : 0 ≤ a
  · rw [if_pos h0, if_pos h0]
    by_cases h : 0 < a
    · rw [if_pos h]
    · have e : a = 0 := Int64.le_antisymm (Int64.not_lt.mp h) h0
      rw [if_neg h, e, Int64.neg_zero]
  · rw [if_neg h0, if_neg h0, if_neg (fun q => h0 (Int64.le_of_lt q))]
theorem near_off {a b : Int64} (hb : ¬ 0 < b) : nearL a b = 0 := if_neg hb
theorem half_0 {b : Int64} (hb : 0 < b) (hs : szL b = true) : (2 * (0 : Int64) + b) / (2 * b) = 0 := by
  have h1 : b.toInt ≤ 1073741823 := by
    simp only [szL, Bool.and_eq_true, decide_eq_true_eq] at hs
    exact Int64.le_iff_toInt_le.mp hs.2
  have h0 : 0 < b.toInt := Int64.lt_iff_toInt_lt.mp hb
  have h2 : (2 * b).toInt = 2 * b.toInt := by
    rw [Int64.toInt_mul, show (2 : Int64).toInt = 2 from by decide]
    exact Int.bmod_eq_of_le (by omega) (by omega)
  apply Int64.toInt_inj.mp
  rw [Int64.mul_zero, Int64.zero_add, Int64.toInt_div, h2, Int.tdiv_eq_zero_of_lt (by omega) (by omega)]
  decide
theorem nearR_0 {b : Int64} (hb : 0 < b) (hs : szL b = true) : nearR 0 b = 0 := by
  unfold nearR
  rw [if_pos (by decide), half_0 hb hs]
theorem hiO_cong {T U : Nat → Int64} (h : ∀ o, o < 4 → U o = T o) : hiO U = hiO T := by
  unfold hiO
  rw [h 3 (by omega), h 2 (by omega), h 1 (by omega)]
theorem hiO_lt (T : Nat → Int64) : (hiO T).toNatClampNeg < 4 := by
  unfold hiO
  split
  · decide
  · split
    · decide
    · split <;> decide
theorem neg_lt {x : Int64} (h : 0 < x) (hs : szL x = true) : -x < 0 := by
  have h1 : x.toInt ≤ 1073741823 := by
    simp only [szL, Bool.and_eq_true, decide_eq_true_eq] at hs
    exact Int64.le_iff_toInt_le.mp hs.2
  have h0 : 0 < x.toInt := Int64.lt_iff_toInt_lt.mp h
  apply Int64.lt_iff_toInt_lt.mpr
  rw [Int64.toInt_neg, show (0 : Int64).toInt = 0 from by decide, Int.bmod_eq_of_le (by omega) (by omega)]
  omega
theorem shM_at {F : Nat → Nat → Int32} {ps : Nat → Nat} {al1 ee : Int64} {g : Bool} {o1 : Int32} {M : Nat → Int64} {vt : Bool} {n : Nat} {its : Nat → Nat → Int32} (h : Seg vt F ps n its) {i : Nat} (h5 : F 0 (ps i) = 5) : ∀ {k : Nat}, i < k → k ≤ n → shM F ps al1 ee g o1 M k (ps i) = shV F ps al1 ee g o1 i := by
  intro k
  induction k with
  | zero => intro h0; omega
  | succ k ih =>
    intro hk hn
    by_cases e : i = k
    · subst e
      rw [shM_t h5]
      exact if_pos rfl
    · have := ih (by omega) (by omega)
      by_cases e5 : F 0 (ps k) = 5
      · rw [shM_t e5, ← this]
        have := h.le (j := i) (k := k) (by omega) (by omega)
        exact if_neg (by omega)
      · rw [shM_f e5]; exact this
theorem shM_off {F : Nat → Nat → Int32} {ps : Nat → Nat} {al1 ee : Int64} {g : Bool} {o1 : Int32} {M : Nat → Int64} {n : Nat} {p : Nat} (hp : ∀ i, i < n → p ≠ ps i) : ∀ {k : Nat}, k ≤ n → shM F ps al1 ee g o1 M k p = M p := by
  intro k
  induction k with
  | zero => intro _; rfl
  | succ k ih =>
    intro hk
    by_cases e5 : F 0 (ps k) = 5
    · rw [shM_t e5, ← ih (by omega)]
      exact if_neg (hp k (by omega))
    · rw [shM_f e5]; exact ih (by omega)
theorem sgG_zero {u : MT} {ex : Int64} {its : Nat → Nat → Int32} (h : ∀ x : Int64, nearL (sgS u ex * x) (sgW u ex) = 0) : ∀ i, sgG u ex its i = 0 := by
  intro i
  cases i with
  | zero => rfl
  | succ i => exact h _
theorem shV_eq {vt : Bool} {F : Nat → Nat → Int32} {ps : Nat → Nat} {n : Nat} {its : Nat → Nat → Int32} (h : Seg vt F ps n its) {T : Nat → Int64} {sh ex : Int64} {u : MT} (hT : ∀ o, o < 4 → u.2.2.2.2.1 o = T o) (hsh : u.2.2.2.2.2.1 = sh) (zT : ∀ o, o < 4 → szL (T o) = true) (zs : szL sh = true) {i : Nat} (hi : i < n) (h5 : its i 0 = 5) : sgG u ex its (i + 1) - sgG u ex its i = shV F ps (shA T sh ex) (shE sh ex) (decide (0 < ex)) (hiO T) i := by
  have hO := hiO_cong hT
  have hW : sgW u ex = if 0 ≤ ex then T (hiO T).toNatClampNeg else sh := by
    unfold sgW
    rw [hO, hT _ (hiO_lt T), hsh]
  have zW : szL (sgW u ex) = true := by
    rw [hW]
    split
    · exact zT _ (hiO_lt T)
    · exact zs
  by_cases e0 : ex = 0
  · subst e0
    have hz : ∀ i, sgG u 0 its i = 0 := by
      apply sgG_zero
      intro x
      by_cases hp : 0 < sgW u 0
      · have : sgS u 0 = 0 := if_pos (neg_lt hp zW)
        rw [this, Int64.zero_mul, near_eq hp, nearR_0 hp zW]
      · exact near_off hp
    rw [hz, hz]
    unfold shV
    by_cases hg : shG F (shA T sh 0) (decide ((0 : Int64) < 0)) (hiO T) (ps i) = true
    · rw [if_pos hg]
      have ha : shA T sh 0 = sh := if_neg (by decide)
      have hp : 0 < sh := by rw [← ha]; exact (Bool.and_eq_true _ _ ▸ hg : _ ∧ _).1 |> of_decide_eq_true
      have he : shE sh 0 = 0 := by
        unfold shE
        rw [if_neg (by decide), if_neg (fun q => absurd (Int64.lt_trans q (neg_lt hp zs)) (Int64.lt_irrefl))]
      rw [he, Int64.zero_mul, Int64.zero_mul]
      rw [Int64.sub_self, Int64.sub_self]
    · rw [if_neg hg]; rfl
  · have hWA : sgW u ex = shA T sh ex := by
      rw [hW]
      unfold shA
      by_cases hp : 0 < ex
      · rw [if_pos hp, if_pos (Int64.le_of_lt hp)]
      · have : ¬ 0 ≤ ex := fun q => e0 (Int64.le_antisymm (Int64.not_lt.mp hp) q)
        rw [if_neg hp, if_neg this]
    by_cases hp : 0 < shA T sh ex
    · have hS : sgS u ex = shE sh ex := by
        unfold sgS shE
        rw [hWA]
        by_cases hx : 0 < ex
        · rw [if_pos hx, if_pos (Int64.lt_trans (neg_lt hp (hWA ▸ zW)) hx)]
        · have ha : shA T sh ex = sh := if_neg hx
          rw [if_neg hx, ha]
          by_cases h1 : -sh < ex
          · rw [if_pos h1, if_neg (fun q => absurd (Int64.lt_trans h1 q) (Int64.lt_irrefl))]
          · rw [if_neg h1]
            by_cases h2 : ex < -sh
            · rw [if_pos h2]
            · rw [if_neg h2]; exact Int64.le_antisymm (Int64.not_lt.mp h2) (Int64.not_lt.mp h1)
      have hq : ∀ j, j < n → (if F 0 (ps j) = 5 then (shQ F (decide (0 < ex)) (ps j) (shG F (shA T sh ex) (decide (0 < ex)) (hiO T) (ps j))).toInt64 else 0) = sgQ u ex (its j) := by
        intro j hj
        obtain ⟨ok, -, -, hr, -⟩ := h j hj
        unfold sgQ
        rw [hr.1, hO]
        by_cases e5 : its j 0 = 5
        · obtain ⟨r4, r5, r6⟩ := hr.2.2.2.2.2 e5
          rw [if_pos e5]
          unfold shQ shG
          rw [r4, r5, r6, decide_eq_true hp]
          by_cases hx : 0 < ex
          · rw [if_pos (Int64.le_of_lt hx), decide_eq_true hx]
            by_cases eo : its j 7 = hiO T
            · simp [eo]
            · simp [eo]
          · have hx2 : ¬ 0 ≤ ex := fun q => e0 (Int64.le_antisymm (Int64.not_lt.mp hx) q)
            rw [if_neg hx2, decide_eq_false hx]
            simp
        · obtain ⟨z6, z7, z8⟩ := ok.2.2.2.2.2.1 e5
          rw [if_neg e5, z6, z8]
          split
          · split <;> rfl
          · rfl
      have hB : ∀ j, j ≤ n → shB F ps (shA T sh ex) (decide (0 < ex)) (hiO T) j = sgP u ex its j := by
        intro j
        induction j with
        | zero => intro _; rfl
        | succ j ih =>
          intro hj
          have q := hq j (by omega)
          show _ = sgP u ex its j + sgQ u ex (its j)
          rw [← ih (by omega), ← q]
          by_cases e5 : F 0 (ps j) = 5
          · rw [shB_t e5, if_pos e5]
          · rw [shB_f e5, if_neg e5, Int64.add_zero]
      have hG : ∀ j, j ≤ n → sgG u ex its j = nearR (shE sh ex * shB F ps (shA T sh ex) (decide (0 < ex)) (hiO T) j) (shA T sh ex) := by
        intro j hj
        cases j with
        | zero =>
          show 0 = nearR (shE sh ex * 0) _
          rw [Int64.mul_zero, nearR_0 hp (hWA ▸ zW)]
        | succ j =>
          show nearL (sgS u ex * sgP u ex its (j + 1)) (sgW u ex) = _
          rw [hWA, near_eq hp, hS, hB (j + 1) hj]
      rw [hG (i + 1) (by omega), hG i (by omega)]
      unfold shV
      by_cases hg : shG F (shA T sh ex) (decide (0 < ex)) (hiO T) (ps i) = true
      · rw [if_pos hg]
      · rw [if_neg hg]
        have e5 : F 0 (ps i) = 5 := by rw [(h i hi).2.2.2.1.1]; exact h5
        have : shB F ps (shA T sh ex) (decide (0 < ex)) (hiO T) (i + 1) = shB F ps (shA T sh ex) (decide (0 < ex)) (hiO T) i := by
          rw [shB_t e5]
          unfold shQ
          rw [if_neg hg, l0, Int64.add_zero]
        rw [this, Int64.sub_self]
    · have hz : ∀ i, sgG u ex its i = 0 := by
        apply sgG_zero
        intro x
        rw [hWA]
        exact near_off hp
      rw [hz, hz]
      unfold shV
      rw [if_neg (fun q => hp (of_decide_eq_true ((Bool.and_eq_true _ _ ▸ q : _ ∧ _).1)))]
      rfl
theorem seg_share {vt : Bool} {F : Nat → Nat → Int32} {ps : Nat → Nat} {n : Nat} {its : Nat → Nat → Int32} (h : Seg vt F ps n its) {T : Nat → Int64} {sh ex : Int64} {u : MT} (hT : ∀ o, o < 4 → u.2.2.2.2.1 o = T o) (hsh : u.2.2.2.2.2.1 = sh) (zT : ∀ o, o < 4 → szL (T o) = true) (zs : szL sh = true) (M : Nat → Int64) {i : Nat} (hi : i < n) (h5 : its i 0 = 5) : clampR ((F 1 (ps i)).toInt64 + shM F ps (shA T sh ex) (shE sh ex) (decide (0 < ex)) (hiO T) M n (ps i)) = sgX u ex its i := by
  obtain ⟨ok, -, -, hr, -⟩ := h i hi
  have e5 : F 0 (ps i) = 5 := by rw [hr.1]; exact h5
  rw [shM_at h e5 hi (Nat.le_refl _), ← shV_eq h hT hsh zT zs hi h5]
  unfold sgX
  rw [setW_clamp]
  congr 1
  have h4 : its i 4 = 0 := ok.2.2.2.2.2.2.2.2.1 (by rw [h5]; decide)
  rw [hr.2.1, tell_1, h4, if_neg (by decide), if_neg (by rw [h5]; decide)]
  rw [Int64.sub_eq_add_neg, Int64.sub_eq_add_neg, Int64.add_assoc]
