def runOk (vb : Bool) (rn : Int32) : Bool := if vb = true then decide (rn = 0) || decide (rn = 1) else decide (rn = 0) || decide (rn = 2) || decide (rn = 4) || decide (rn = 6)
def sumN (f : Nat → Nat) : Nat → Nat
  | 0 => 0
  | n + 1 => sumN f n + f n
theorem sumI_nI {Z : Nat → Int32} {sz : Nat → Nat} {k : Nat} (h : ∀ j, j < k → Z j = nI (sz j)) : sumI Z k = nI (sumN sz k) := by
  induction k with
  | zero => rfl
  | succ k ih => rw [sumI, ih (fun j hj => h j (by omega)), h k (by omega), nI_add, sumN]
/-- the places of a list's items: each one's span leads to the next -/
def SP (F8 : Nat → Int32) (ps : Nat → Nat) (n : Nat) : Prop := ∀ j, j < n → F8 (ps j) = nI (ps (j + 1) - ps j) ∧ ps j < ps (j + 1)
theorem SP.le {F8 : Nat → Int32} {ps : Nat → Nat} {n : Nat} (h : SP F8 ps n) {j k : Nat} (hjk : j ≤ k) (hk : k ≤ n) : ps j ≤ ps k := by
  induction k with
  | zero => rw [show j = 0 by omega]; exact Nat.le_refl _
  | succ k ih =>
    by_cases hj : j = k + 1
    · rw [hj]; exact Nat.le_refl _
    · exact Nat.le_trans (ih (by omega) (by omega)) (Nat.le_of_lt (h k (by omega)).2)
theorem SP.lt {F8 : Nat → Int32} {ps : Nat → Nat} {n : Nat} (h : SP F8 ps n) {j : Nat} (hj : j < n) : ps j < ps n := Nat.lt_of_lt_of_le (h j hj).2 (h.le (by omega) (Nat.le_refl _))
theorem SP.step {F8 : Nat → Int32} {ps : Nat → Nat} {n : Nat} (h : SP F8 ps n) {j : Nat} (hj : j < n) : nI (ps j) + F8 (ps j) = nI (ps (j + 1)) := by
  rw [(h j hj).1, nI_add]
  have := (h j hj).2
  congr 1
  omega
set_option maxHeartbeats 4000000 in
set_option maxRecDepth 100000 in
theorem r_rule (l : Launch) (G : zG) (n0 e0 : Nat) (w : zw) (o : Nat) (A : Nat → Nat) (S : Nat → Int32) (L : Nat → Int64) (ho : w o = some (.inr (6, fR A S L))) (F : Nat → Nat → Int32) (M : Nat → Int64) (hR : RW G w A F M) (hA : ∀ i j, i < 13 → j < 13 → i ≠ j → A i ≠ A j) (h10 : w (A 10) = some (.inl (G.2 2, 101, .inl (F 10)))) (h11 : w (A 11) = some (.inl (G.2 0, 16, .inl (F 11)))) (en : Nat) (hen : S 2 = nI en) (hen2 : en < 8200) (lists : Nat) (hls : S 1 = nI lists) (hll : lists ≤ 100) (vb : Bool) (hvb : (lists = 0 ∧ vb = false) ∨ ∃ k, lists = k + 1 ∧ F 10 k = zi vb) (x y z rn : Int32) : Ct l G n0 e0 y_R_rule b_R_rule 9 (Option.some FieldType.boolean) ({ frames := 3, cells := 0, slots := 0, locals := 75 }) [.ref o, .int x, .int y, .int z, .int rn] w (fun v w1 => ∃ r, v = some (.int r) ∧ AddR G o A S L F M ((runOk vb rn && (szI x && szI y && szI z)) && decide (¬ lists = 0) && !decide (4000 < S 2 + sumI (F 11) 16 + 1)) en (row9 4 (if rn &&& 1 = 1 then (-2147483648) else x) (if rn &&& 2 = 2 then (-2147483648) else y) (if rn &&& 4 = 4 then (-2147483648) else z) 0 0 0) r w w1) := by
  refine z_ct (by decide) (Nat.le_of_ble_eq_true rfl) ?_
  intro p e s m below meth c ls cx hnm hZ hS hl
  have hx := cx.1
  have hb := cx.2.1
  have hl : lv_has ls 9 [(0, .ref o), (1, .int x), (2, .int y), (3, .int z), (4, .int rn)] := hl
  have J_55 : ∀ (H : Heap) (locs : List Loc) (x55 : Int32), Zw G.1 vwC (zA n0) w H → va_S (zA n0) s.heap H locs → x55 = zi (runOk vb rn) → W p l e ({ frames := 3, cells := 0, slots := 0, locals := 75 }) s m [.ref o, .int x, .int y, .int z, .int rn].toArray below meth c H locs 0 0 (MQ below (zQ G.1 vwC n0 (fun v w1 => ∃ r, v = some (.int r) ∧ AddR G o A S L F M ((runOk vb rn && (szI x && szI y && szI z)) && decide (¬ lists = 0) && !decide (4000 < S 2 + sumI (F 11) 16 + 1)) en (row9 4 (if rn &&& 1 = 1 then (-2147483648) else x) (if rn &&& 2 = 2 then (-2147483648) else y) (if rn &&& 4 = 4 then (-2147483648) else z) 0 0 0) r w w1)) [.ref o, .int x, .int y, .int z, .int rn].toArray s ({ frames := 3, cells := 0, slots := 0, locals := 75 } : Room).cells ({ frames := 3, cells := 0, slots := 0, locals := 75 } : Room).slots (zA n0)) (F0 m 55 ls [.int x55]) := by
    intro H locs x55 hZ hS hx55
    subst hx55
    refine lv_istore (lv' := [(5, .int (zi (runOk vb rn))), (0, .ref o), (1, .int x), (2, .int y), (3, .int z), (4, .int rn)]) hx hb d_R_rule_55 hl (by decide) rfl (fun ls hl => ?_)
    have J_70 : ∀ (H : Heap) (locs : List Loc) (x70 : Int32), Zw G.1 vwC (zA n0) w H → va_S (zA n0) s.heap H locs → x70 = zi (decide (rn &&& 1 = 1)) → W p l e ({ frames := 3, cells := 0, slots := 0, locals := 75 }) s m [.ref o, .int x, .int y, .int z, .int rn].toArray below meth c H locs 0 0 (MQ below (zQ G.1 vwC n0 (fun v w1 => ∃ r, v = some (.int r) ∧ AddR G o A S L F M ((runOk vb rn && (szI x && szI y && szI z)) && decide (¬ lists = 0) && !decide (4000 < S 2 + sumI (F 11) 16 + 1)) en (row9 4 (if rn &&& 1 = 1 then (-2147483648) else x) (if rn &&& 2 = 2 then (-2147483648) else y) (if rn &&& 4 = 4 then (-2147483648) else z) 0 0 0) r w w1)) [.ref o, .int x, .int y, .int z, .int rn].toArray s ({ frames := 3, cells := 0, slots := 0, locals := 75 } : Room).cells ({ frames := 3, cells := 0, slots := 0, locals := 75 } : Room).slots (zA n0)) (F0 m 70 ls [.int x70]) := by
      intro H locs x70 hZ hS hx70
      subst hx70
      refine lv_istore (lv' := [(6, .int (zi (decide (rn &&& 1 = 1)))), (5, .int (zi (runOk vb rn))), (0, .ref o), (1, .int x), (2, .int y), (3, .int z), (4, .int rn)]) hx hb d_R_rule_70 hl (by decide) rfl (fun ls hl => ?_)
      have J_85 : ∀ (H : Heap) (locs : List Loc) (x85 : Int32), Zw G.1 vwC (zA n0) w H → va_S (zA n0) s.heap H locs → x85 = zi (decide (rn &&& 2 = 2)) → W p l e ({ frames := 3, cells := 0, slots := 0, locals := 75 }) s m [.ref o, .int x, .int y, .int z, .int rn].toArray below meth c H locs 0 0 (MQ below (zQ G.1 vwC n0 (fun v w1 => ∃ r, v = some (.int r) ∧ AddR G o A S L F M ((runOk vb rn && (szI x && szI y && szI z)) && decide (¬ lists = 0) && !decide (4000 < S 2 + sumI (F 11) 16 + 1)) en (row9 4 (if rn &&& 1 = 1 then (-2147483648) else x) (if rn &&& 2 = 2 then (-2147483648) else y) (if rn &&& 4 = 4 then (-2147483648) else z) 0 0 0) r w w1)) [.ref o, .int x, .int y, .int z, .int rn].toArray s ({ frames := 3, cells := 0, slots := 0, locals := 75 } : Room).cells ({ frames := 3, cells := 0, slots := 0, locals := 75 } : Room).slots (zA n0)) (F0 m 85 ls [.int x85]) := by
        intro H locs x85 hZ hS hx85
        subst hx85
        refine lv_istore (lv' := [(7, .int (zi (decide (rn &&& 2 = 2)))), (6, .int (zi (decide (rn &&& 1 = 1)))), (5, .int (zi (runOk vb rn))), (0, .ref o), (1, .int x), (2, .int y), (3, .int z), (4, .int rn)]) hx hb d_R_rule_85 hl (by decide) rfl (fun ls hl => ?_)
        have J_100 : ∀ (H : Heap) (locs : List Loc) (x100 : Int32), Zw G.1 vwC (zA n0) w H → va_S (zA n0) s.heap H locs → x100 = zi (decide (rn &&& 4 = 4)) → W p l e ({ frames := 3, cells := 0, slots := 0, locals := 75 }) s m [.ref o, .int x, .int y, .int z, .int rn].toArray below meth c H locs 0 0 (MQ below (zQ G.1 vwC n0 (fun v w1 => ∃ r, v = some (.int r) ∧ AddR G o A S L F M ((runOk vb rn && (szI x && szI y && szI z)) && decide (¬ lists = 0) && !decide (4000 < S 2 + sumI (F 11) 16 + 1)) en (row9 4 (if rn &&& 1 = 1 then (-2147483648) else x) (if rn &&& 2 = 2 then (-2147483648) else y) (if rn &&& 4 = 4 then (-2147483648) else z) 0 0 0) r w w1)) [.ref o, .int x, .int y, .int z, .int rn].toArray s ({ frames := 3, cells := 0, slots := 0, locals := 75 } : Room).cells ({ frames := 3, cells := 0, slots := 0, locals := 75 } : Room).slots (zA n0)) (F0 m 100 ls [.int x100]) := by
          intro H locs x100 hZ hS hx100
          subst hx100
          refine lv_istore (lv' := [(8, .int (zi (decide (rn &&& 4 = 4)))), (7, .int (zi (decide (rn &&& 2 = 2)))), (6, .int (zi (decide (rn &&& 1 = 1)))), (5, .int (zi (runOk vb rn))), (0, .ref o), (1, .int x), (2, .int y), (3, .int z), (4, .int rn)]) hx hb d_R_rule_100 hl (by decide) rfl (fun ls hl => ?_)
          refine lv_aload_n hx hb d_R_rule_102 rfl (lv_at hl 4 rfl) ?_
          have J_134 : ∀ (H : Heap) (locs : List Loc) (x134 : Int32), Zw G.1 vwC (zA n0) w H → va_S (zA n0) s.heap H locs → x134 = zi (runOk vb rn && (szI x && szI y && szI z)) → W p l e ({ frames := 3, cells := 0, slots := 0, locals := 75 }) s m [.ref o, .int x, .int y, .int z, .int rn].toArray below meth c H locs 0 0 (MQ below (zQ G.1 vwC n0 (fun v w1 => ∃ r, v = some (.int r) ∧ AddR G o A S L F M ((runOk vb rn && (szI x && szI y && szI z)) && decide (¬ lists = 0) && !decide (4000 < S 2 + sumI (F 11) 16 + 1)) en (row9 4 (if rn &&& 1 = 1 then (-2147483648) else x) (if rn &&& 2 = 2 then (-2147483648) else y) (if rn &&& 4 = 4 then (-2147483648) else z) 0 0 0) r w w1)) [.ref o, .int x, .int y, .int z, .int rn].toArray s ({ frames := 3, cells := 0, slots := 0, locals := 75 } : Room).cells ({ frames := 3, cells := 0, slots := 0, locals := 75 } : Room).slots (zA n0)) (F0 m 134 ls [.int x134, .ref o]) := by
            intro H locs x134 hZ hS hx134
            subst hx134
            refine lv_iconst (v := 4) hx hb d_R_rule_134 (by decide) ?_
            have J_146 : ∀ (H : Heap) (locs : List Loc) (x146 : Int32), Zw G.1 vwC (zA n0) w H → va_S (zA n0) s.heap H locs → x146 = (if rn &&& 1 = 1 then (-2147483648) else x) → W p l e ({ frames := 3, cells := 0, slots := 0, locals := 75 }) s m [.ref o, .int x, .int y, .int z, .int rn].toArray below meth c H locs 0 0 (MQ below (zQ G.1 vwC n0 (fun v w1 => ∃ r, v = some (.int r) ∧ AddR G o A S L F M ((runOk vb rn && (szI x && szI y && szI z)) && decide (¬ lists = 0) && !decide (4000 < S 2 + sumI (F 11) 16 + 1)) en (row9 4 (if rn &&& 1 = 1 then (-2147483648) else x) (if rn &&& 2 = 2 then (-2147483648) else y) (if rn &&& 4 = 4 then (-2147483648) else z) 0 0 0) r w w1)) [.ref o, .int x, .int y, .int z, .int rn].toArray s ({ frames := 3, cells := 0, slots := 0, locals := 75 } : Room).cells ({ frames := 3, cells := 0, slots := 0, locals := 75 } : Room).slots (zA n0)) (F0 m 146 ls [.int x146, .int 4, .int (zi (runOk vb rn && (szI x && szI y && szI z))), .ref o]) := by
              intro H locs x146 hZ hS hx146
              subst hx146
              have J_157 : ∀ (H : Heap) (locs : List Loc) (x157 : Int32), Zw G.1 vwC (zA n0) w H → va_S (zA n0) s.heap H locs → x157 = (if rn &&& 2 = 2 then (-2147483648) else y) → W p l e ({ frames := 3, cells := 0, slots := 0, locals := 75 }) s m [.ref o, .int x, .int y, .int z, .int rn].toArray below meth c H locs 0 0 (MQ below (zQ G.1 vwC n0 (fun v w1 => ∃ r, v = some (.int r) ∧ AddR G o A S L F M ((runOk vb rn && (szI x && szI y && szI z)) && decide (¬ lists = 0) && !decide (4000 < S 2 + sumI (F 11) 16 + 1)) en (row9 4 (if rn &&& 1 = 1 then (-2147483648) else x) (if rn &&& 2 = 2 then (-2147483648) else y) (if rn &&& 4 = 4 then (-2147483648) else z) 0 0 0) r w w1)) [.ref o, .int x, .int y, .int z, .int rn].toArray s ({ frames := 3, cells := 0, slots := 0, locals := 75 } : Room).cells ({ frames := 3, cells := 0, slots := 0, locals := 75 } : Room).slots (zA n0)) (F0 m 157 ls [.int x157, .int (if rn &&& 1 = 1 then (-2147483648) else x), .int 4, .int (zi (runOk vb rn && (szI x && szI y && szI z))), .ref o]) := by
                intro H locs x157 hZ hS hx157
                subst hx157
                have J_168 : ∀ (H : Heap) (locs : List Loc) (x168 : Int32), Zw G.1 vwC (zA n0) w H → va_S (zA n0) s.heap H locs → x168 = (if rn &&& 4 = 4 then (-2147483648) else z) → W p l e ({ frames := 3, cells := 0, slots := 0, locals := 75 }) s m [.ref o, .int x, .int y, .int z, .int rn].toArray below meth c H locs 0 0 (MQ below (zQ G.1 vwC n0 (fun v w1 => ∃ r, v = some (.int r) ∧ AddR G o A S L F M ((runOk vb rn && (szI x && szI y && szI z)) && decide (¬ lists = 0) && !decide (4000 < S 2 + sumI (F 11) 16 + 1)) en (row9 4 (if rn &&& 1 = 1 then (-2147483648) else x) (if rn &&& 2 = 2 then (-2147483648) else y) (if rn &&& 4 = 4 then (-2147483648) else z) 0 0 0) r w w1)) [.ref o, .int x, .int y, .int z, .int rn].toArray s ({ frames := 3, cells := 0, slots := 0, locals := 75 } : Room).cells ({ frames := 3, cells := 0, slots := 0, locals := 75 } : Room).slots (zA n0)) (F0 m 168 ls [.int x168, .int (if rn &&& 2 = 2 then (-2147483648) else y), .int (if rn &&& 1 = 1 then (-2147483648) else x), .int 4, .int (zi (runOk vb rn && (szI x && szI y && szI z))), .ref o]) := by
                  intro H locs x168 hZ hS hx168
                  subst hx168
                  refine lv_iconst (v := 0) hx hb d_R_rule_168 (by decide) ?_
                  refine lv_iconst (v := 0) hx hb d_R_rule_169 (by decide) ?_
                  refine lv_iconst (v := 0) hx hb d_R_rule_170 (by decide) ?_
                  refine iv_R_82 (As := [.int (zi (runOk vb rn && (szI x && szI y && szI z))), .int 4, .int (if rn &&& 1 = 1 then (-2147483648) else x), .int (if rn &&& 2 = 2 then (-2147483648) else y), .int (if rn &&& 4 = 4 then (-2147483648) else z), .int 0, .int 0, .int 0]) (rest := []) cx (r_add l G n0 e0 w o A S L ho F M hR hA h11 (runOk vb rn && (szI x && szI y && szI z)) 4 (if rn &&& 1 = 1 then (-2147483648) else x) (if rn &&& 2 = 2 then (-2147483648) else y) (if rn &&& 4 = 4 then (-2147483648) else z) 0 0 0 en hen hen2 lists hls hll) ho ⟨(Nat.le_of_ble_eq_true rfl), (Nat.le_of_ble_eq_true rfl)⟩ ⟨(Nat.le_of_ble_eq_true rfl), (Nat.le_of_ble_eq_true rfl)⟩ rfl hl.1 rfl (Nat.le_of_ble_eq_true rfl) d_R_rule_171 hZ hS (fun v w_1 H locs hp_2 hZ hS => ?_)
                  obtain ⟨r, rfl, hj⟩ := hp_2
                  refine W.eq (g2 := F0 m 174 ls [.int r]) rfl ?_
                  exact z_zret cx.1 cx.2.1 cx.rt cx.lk (hj.nar) hS hZ ⟨(Nat.le_of_ble_eq_true rfl), (Nat.le_of_ble_eq_true rfl)⟩ d_R_rule_174 (⟨r, rfl, hj⟩)
                refine lv_iload hx hb d_R_rule_157 (lv_at hl 0 rfl) ?_
                refine lv_if_eq (tgt := 167) hx hb d_R_rule_159 (by decide) (fun c159 => ?_) (fun c159 => ?_)
                · refine lv_iload_n hx hb d_R_rule_167 rfl (lv_at hl 7 rfl) ?_
                  exact J_168 _ _ _ hZ hS (by simp [zi] at c159; simp [c159])
                · refine lc_R_86 cx d_R_rule_162 ?_
                  refine lv_goto (tgt := 168) hx hb d_R_rule_164 (by decide) ?_
                  exact J_168 _ _ _ hZ hS (by simp [zi] at c159; simp [c159])
              refine lv_iload hx hb d_R_rule_146 (lv_at hl 1 rfl) ?_
              refine lv_if_eq (tgt := 156) hx hb d_R_rule_148 (by decide) (fun c148 => ?_) (fun c148 => ?_)
              · refine lv_iload_n hx hb d_R_rule_156 rfl (lv_at hl 6 rfl) ?_
                exact J_157 _ _ _ hZ hS (by simp [zi] at c148; simp [c148])
              · refine lc_R_86 cx d_R_rule_151 ?_
                refine lv_goto (tgt := 157) hx hb d_R_rule_153 (by decide) ?_
                exact J_157 _ _ _ hZ hS (by simp [zi] at c148; simp [c148])
            refine lv_iload hx hb d_R_rule_135 (lv_at hl 2 rfl) ?_
            refine lv_if_eq (tgt := 145) hx hb d_R_rule_137 (by decide) (fun c137 => ?_) (fun c137 => ?_)
            · refine lv_iload_n hx hb d_R_rule_145 rfl (lv_at hl 5 rfl) ?_
              exact J_146 _ _ _ hZ hS (by simp [zi] at c137; simp [c137])
            · refine lc_R_86 cx d_R_rule_140 ?_
              refine lv_goto (tgt := 146) hx hb d_R_rule_142 (by decide) ?_
              exact J_146 _ _ _ hZ hS (by simp [zi] at c137; simp [c137])
          refine lv_iload hx hb d_R_rule_103 (lv_at hl 3 rfl) ?_
          refine lv_if_eq (tgt := 133) hx hb d_R_rule_105 (by decide) (fun c105 => ?_) (fun c105 => ?_)
          · refine lv_iconst (v := 0) hx hb d_R_rule_133 (by decide) ?_
            exact J_134 _ _ _ hZ hS (by have e105 := (zi_0 _).mp c105; simp [zi, e105])
          · refine lv_iload_n hx hb d_R_rule_108 rfl (lv_at hl 5 rfl) ?_
            refine is_R_79 (As := [.int x]) (rest := [.ref o]) cx (r_isSize l G n0 e0 x w) ⟨(Nat.le_of_ble_eq_true rfl), (Nat.le_of_ble_eq_true rfl)⟩ ⟨(Nat.le_of_ble_eq_true rfl), (Nat.le_of_ble_eq_true rfl)⟩ rfl hl.1 rfl (Nat.le_of_ble_eq_true rfl) d_R_rule_109 hZ hS (fun v w_3 H locs hp_4 hZ hS => ?_)
            obtain ⟨rfl, hq⟩ := hp_4
            subst w_3
            refine W.eq (g2 := F0 m 112 ls [.int (zi (szI x)), .ref o]) rfl ?_
            refine lv_if_eq (tgt := 133) hx hb d_R_rule_112 (by decide) (fun c112 => ?_) (fun c112 => ?_)
            · refine lv_iconst (v := 0) hx hb d_R_rule_133 (by decide) ?_
              exact J_134 _ _ _ hZ hS (by have e105 := (zi_n0 _).mp c105; have e112 := (zi_0 _).mp c112; simp [zi, e105, e112])
            · refine lv_iload_n hx hb d_R_rule_115 rfl (lv_at hl 6 rfl) ?_
              refine is_R_79 (As := [.int y]) (rest := [.ref o]) cx (r_isSize l G n0 e0 y w) ⟨(Nat.le_of_ble_eq_true rfl), (Nat.le_of_ble_eq_true rfl)⟩ ⟨(Nat.le_of_ble_eq_true rfl), (Nat.le_of_ble_eq_true rfl)⟩ rfl hl.1 rfl (Nat.le_of_ble_eq_true rfl) d_R_rule_116 hZ hS (fun v w_5 H locs hp_6 hZ hS => ?_)
              obtain ⟨rfl, hq⟩ := hp_6
              subst w_5
              refine W.eq (g2 := F0 m 119 ls [.int (zi (szI y)), .ref o]) rfl ?_
              refine lv_if_eq (tgt := 133) hx hb d_R_rule_119 (by decide) (fun c119 => ?_) (fun c119 => ?_)
              · refine lv_iconst (v := 0) hx hb d_R_rule_133 (by decide) ?_
                exact J_134 _ _ _ hZ hS (by have e105 := (zi_n0 _).mp c105; have e112 := (zi_n0 _).mp c112; have e119 := (zi_0 _).mp c119; simp [zi, e105, e112, e119])
              · refine lv_iload_n hx hb d_R_rule_122 rfl (lv_at hl 7 rfl) ?_
                refine is_R_79 (As := [.int z]) (rest := [.ref o]) cx (r_isSize l G n0 e0 z w) ⟨(Nat.le_of_ble_eq_true rfl), (Nat.le_of_ble_eq_true rfl)⟩ ⟨(Nat.le_of_ble_eq_true rfl), (Nat.le_of_ble_eq_true rfl)⟩ rfl hl.1 rfl (Nat.le_of_ble_eq_true rfl) d_R_rule_123 hZ hS (fun v w_7 H locs hp_8 hZ hS => ?_)
                obtain ⟨rfl, hq⟩ := hp_8
                subst w_7
                refine W.eq (g2 := F0 m 126 ls [.int (zi (szI z)), .ref o]) rfl ?_
                refine lv_if_eq (tgt := 133) hx hb d_R_rule_126 (by decide) (fun c126 => ?_) (fun c126 => ?_)
                · refine lv_iconst (v := 0) hx hb d_R_rule_133 (by decide) ?_
                  exact J_134 _ _ _ hZ hS (by have e105 := (zi_n0 _).mp c105; have e112 := (zi_n0 _).mp c112; have e119 := (zi_n0 _).mp c119; have e126 := (zi_0 _).mp c126; simp [zi, e105, e112, e119, e126])
                · refine lv_iconst (v := 1) hx hb d_R_rule_129 (by decide) ?_
                  refine lv_goto (tgt := 134) hx hb d_R_rule_130 (by decide) ?_
                  exact J_134 _ _ _ hZ hS (by have e105 := (zi_n0 _).mp c105; have e112 := (zi_n0 _).mp c112; have e119 := (zi_n0 _).mp c119; have e126 := (zi_n0 _).mp c126; simp [zi, e105, e112, e119, e126])
        refine lv_iload hx hb d_R_rule_87 (lv_at hl 7 rfl) ?_
        refine lv_iconst (v := 4) hx hb d_R_rule_89 (by decide) ?_
        refine lv_iand hx hb d_R_rule_90 ?_
        refine lv_iconst (v := 4) hx hb d_R_rule_91 (by decide) ?_
        refine lv_icmp_ne (tgt := 99) hx hb d_R_rule_92 (by decide) (fun c92 => ?_) (fun c92 => ?_)
        · refine lv_iconst (v := 0) hx hb d_R_rule_99 (by decide) ?_
          exact J_100 _ _ _ hZ hS (by simp [zi, c92])
        · refine lv_iconst (v := 1) hx hb d_R_rule_95 (by decide) ?_
          refine lv_goto (tgt := 100) hx hb d_R_rule_96 (by decide) ?_
          exact J_100 _ _ _ hZ hS (by simp [zi, c92])
      refine lv_iload hx hb d_R_rule_72 (lv_at hl 6 rfl) ?_
      refine lv_iconst (v := 2) hx hb d_R_rule_74 (by decide) ?_
      refine lv_iand hx hb d_R_rule_75 ?_
      refine lv_iconst (v := 2) hx hb d_R_rule_76 (by decide) ?_
      refine lv_icmp_ne (tgt := 84) hx hb d_R_rule_77 (by decide) (fun c77 => ?_) (fun c77 => ?_)
      · refine lv_iconst (v := 0) hx hb d_R_rule_84 (by decide) ?_
        exact J_85 _ _ _ hZ hS (by simp [zi, c77])
      · refine lv_iconst (v := 1) hx hb d_R_rule_80 (by decide) ?_
        refine lv_goto (tgt := 85) hx hb d_R_rule_81 (by decide) ?_
        exact J_85 _ _ _ hZ hS (by simp [zi, c77])
    refine lv_iload hx hb d_R_rule_57 (lv_at hl 5 rfl) ?_
    refine lv_iconst (v := 1) hx hb d_R_rule_59 (by decide) ?_
    refine lv_iand hx hb d_R_rule_60 ?_
    refine lv_iconst (v := 1) hx hb d_R_rule_61 (by decide) ?_
    refine lv_icmp_ne (tgt := 69) hx hb d_R_rule_62 (by decide) (fun c62 => ?_) (fun c62 => ?_)
    · refine lv_iconst (v := 0) hx hb d_R_rule_69 (by decide) ?_
      exact J_70 _ _ _ hZ hS (by simp [zi, c62])
    · refine lv_iconst (v := 1) hx hb d_R_rule_65 (by decide) ?_
      refine lv_goto (tgt := 70) hx hb d_R_rule_66 (by decide) ?_
      exact J_70 _ _ _ hZ hS (by simp [zi, c62])
  refine lv_aload_n hx hb d_R_rule_0 rfl (lv_at hl 0 rfl) ?_
  refine iv_R_75 (As := []) (rest := []) cx (r_isVertical l G n0 e0 w o A S L ho F h10 lists hls hll vb hvb) ho ⟨(Nat.le_of_ble_eq_true rfl), (Nat.le_of_ble_eq_true rfl)⟩ ⟨(Nat.le_of_ble_eq_true rfl), (Nat.le_of_ble_eq_true rfl)⟩ rfl hl.1 rfl (Nat.le_of_ble_eq_true rfl) d_R_rule_1 hZ hS (fun v w_9 H locs hp_10 hZ hS => ?_)
  obtain ⟨rfl, hq⟩ := hp_10
  subst w_9
  refine W.eq (g2 := F0 m 4 ls [.int (zi vb)]) rfl ?_
  refine lv_if_eq (tgt := 26) hx hb d_R_rule_4 (by decide) (fun c4 => ?_) (fun c4 => ?_)
  · refine lv_iload hx hb d_R_rule_26 (lv_at hl 4 rfl) ?_
    refine lv_if_eq (tgt := 50) hx hb d_R_rule_28 (by decide) (fun c28 => ?_) (fun c28 => ?_)
    · refine lv_iconst (v := 1) hx hb d_R_rule_50 (by decide) ?_
      refine lv_goto (tgt := 55) hx hb d_R_rule_51 (by decide) ?_
      exact J_55 _ _ _ hZ hS (by have e4 := (zi_0 _).mp c4; simp [runOk, zi, e4, c28])
    · refine lv_iload hx hb d_R_rule_31 (lv_at hl 4 rfl) ?_
      refine lv_iconst (v := 2) hx hb d_R_rule_33 (by decide) ?_
      refine lv_icmp_eq (tgt := 50) hx hb d_R_rule_34 (by decide) (fun c34 => ?_) (fun c34 => ?_)
      · refine lv_iconst (v := 1) hx hb d_R_rule_50 (by decide) ?_
        refine lv_goto (tgt := 55) hx hb d_R_rule_51 (by decide) ?_
        exact J_55 _ _ _ hZ hS (by have e4 := (zi_0 _).mp c4; simp [runOk, zi, e4, c28, c34])
      · refine lv_iload hx hb d_R_rule_37 (lv_at hl 4 rfl) ?_
        refine lv_iconst (v := 4) hx hb d_R_rule_39 (by decide) ?_
        refine lv_icmp_eq (tgt := 50) hx hb d_R_rule_40 (by decide) (fun c40 => ?_) (fun c40 => ?_)
        · refine lv_iconst (v := 1) hx hb d_R_rule_50 (by decide) ?_
          refine lv_goto (tgt := 55) hx hb d_R_rule_51 (by decide) ?_
          exact J_55 _ _ _ hZ hS (by have e4 := (zi_0 _).mp c4; simp [runOk, zi, e4, c28, c34, c40])
        · refine lv_iload hx hb d_R_rule_43 (lv_at hl 4 rfl) ?_
          refine lv_bipush (v := 6) hx hb d_R_rule_45 (by decide) ?_
          refine lv_icmp_ne (tgt := 54) hx hb d_R_rule_47 (by decide) (fun c47 => ?_) (fun c47 => ?_)
          · refine lv_iconst (v := 0) hx hb d_R_rule_54 (by decide) ?_
            exact J_55 _ _ _ hZ hS (by have e4 := (zi_0 _).mp c4; simp [runOk, zi, e4, c28, c34, c40, c47])
          · refine lv_iconst (v := 1) hx hb d_R_rule_50 (by decide) ?_
            refine lv_goto (tgt := 55) hx hb d_R_rule_51 (by decide) ?_
            exact J_55 _ _ _ hZ hS (by have e4 := (zi_0 _).mp c4; simp [runOk, zi, e4, c28, c34, c40, c47])
  · refine lv_iload hx hb d_R_rule_7 (lv_at hl 4 rfl) ?_
    refine lv_if_eq (tgt := 18) hx hb d_R_rule_9 (by decide) (fun c9 => ?_) (fun c9 => ?_)
    · refine lv_iconst (v := 1) hx hb d_R_rule_18 (by decide) ?_
      refine lv_goto (tgt := 55) hx hb d_R_rule_19 (by decide) ?_
      exact J_55 _ _ _ hZ hS (by have e4 := (zi_n0 _).mp c4; simp [runOk, zi, e4, c9])
    · refine lv_iload hx hb d_R_rule_12 (lv_at hl 4 rfl) ?_
      refine lv_iconst (v := 1) hx hb d_R_rule_14 (by decide) ?_
      refine lv_icmp_ne (tgt := 22) hx hb d_R_rule_15 (by decide) (fun c15 => ?_) (fun c15 => ?_)
      · refine lv_iconst (v := 0) hx hb d_R_rule_22 (by decide) ?_
        refine lv_goto (tgt := 55) hx hb d_R_rule_23 (by decide) ?_
        exact J_55 _ _ _ hZ hS (by have e4 := (zi_n0 _).mp c4; simp [runOk, zi, e4, c9, c15])
      · refine lv_iconst (v := 1) hx hb d_R_rule_18 (by decide) ?_
        refine lv_goto (tgt := 55) hx hb d_R_rule_19 (by decide) ?_
        exact J_55 _ _ _ hZ hS (by have e4 := (zi_n0 _).mp c4; simp [runOk, zi, e4, c9, c15])
set_option maxHeartbeats 4000000 in
set_option maxRecDepth 100000 in
theorem r_count (l : Launch) (G : zG) (n0 e0 : Nat) (w : zw) (o : Nat) (A : Nat → Nat) (S : Nat → Int32) (L : Nat → Int64) (ho : w o = some (.inr (6, fR A S L))) (Z : Nat → Int32) (h11 : w (A 11) = some (.inl (G.2 0, 16, .inl Z))) (what : Int32) : Ct l G n0 e0 y_R_count b_R_count 2 (Option.some FieldType.int) ({ frames := 1, cells := 0, slots := 0, locals := 22 }) [.ref o, .int what] w (fun v w1 => v = some (.int (if what = 0 then S 1 else if what = 1 then S 2 + sumI Z 16 else (-1))) ∧ w1 o = some (.inr (6, fR A (upd S 0 0) L)) ∧ Fr [o] w w1) := by
  refine z_ct (by decide) (Nat.le_of_ble_eq_true rfl) ?_
  intro p e s m below meth c ls cx hnm hZ hS hl
  have hx := cx.1
  have hb := cx.2.1
  have hl : lv_has ls 2 [(0, .ref o), (1, .int what)] := hl
  have hF : Fr [o] w w := Fr.rf
  refine lv_aload_n hx hb d_R_count_0 rfl (lv_at hl 0 rfl) ?_
  refine lv_iconst (v := 0) hx hb d_R_count_1 (by decide) ?_
  refine pf_R_51 cx hZ hS ho (Nat.le_of_ble_eq_true rfl) d_R_count_2 (fun w_1 H locs hw_2 hZ hS => ?_)
  have hk_3 : w_1 (A 11) = some (.inl (G.2 0, 16, .inl Z)) := up_ne hw_2 h11 (z_ne h11 ho (by simp))
  have hF := hF.put hw_2 (Or.inl (by simp))
  have hc_4 : w_1 o = some (.inr (6, [.int 0, .ref (A 0), .ref (A 1), .ref (A 2), .ref (A 3), .ref (A 4), .ref (A 5), .ref (A 6), .ref (A 7), .ref (A 8), .int (S 1), .ref (A 9), .ref (A 10), .int (S 2), .ref (A 11), .long (L 0), .long (L 1), .long (L 2), .long (L 3), .ref (A 12), .long (L 4)])) := up_self hw_2
  refine lv_iload_n hx hb d_R_count_5 rfl (lv_at hl 1 rfl) ?_
  refine lv_if_ne (tgt := 16) hx hb d_R_count_6 (by decide) (fun c6 => ?_) (fun c6 => ?_)
  · refine lv_iload_n hx hb d_R_count_16 rfl (lv_at hl 1 rfl) ?_
    refine lv_iconst (v := 1) hx hb d_R_count_17 (by decide) ?_
    refine lv_icmp_ne (tgt := 33) hx hb d_R_count_18 (by decide) (fun c18 => ?_) (fun c18 => ?_)
    · refine lv_iconst (v := -1) hx hb d_R_count_33 (by decide) ?_
      exact z_iret cx.1 cx.2.1 cx.rt cx.lk hS hZ ⟨(Nat.le_of_ble_eq_true rfl), (Nat.le_of_ble_eq_true rfl)⟩ d_R_count_34 (⟨by simp [c6, c18], hc_4, hF⟩)
    · refine lv_aload_n hx hb d_R_count_21 rfl (lv_at hl 0 rfl) ?_
      refine gf_R_61 cx hZ hc_4 rfl d_R_count_22 ?_
      refine lv_aload_n hx hb d_R_count_25 rfl (lv_at hl 0 rfl) ?_
      refine iv_R_64 (As := []) (rest := [.int (S 2)]) cx (r_shelved l G n0 e0 w_1 o A (upd S 0 0) L hc_4 (fun _ => Z) hk_3) hc_4 ⟨(Nat.le_of_ble_eq_true rfl), (Nat.le_of_ble_eq_true rfl)⟩ ⟨(Nat.le_of_ble_eq_true rfl), (Nat.le_of_ble_eq_true rfl)⟩ rfl hl.1 rfl (Nat.le_of_ble_eq_true rfl) d_R_count_26 hZ hS (fun v w_5 H locs hp_6 hZ hS => ?_)
      obtain ⟨rfl, hq⟩ := hp_6
      subst w_5
      refine W.eq (g2 := F0 m 29 ls [.int (sumI Z 16), .int (S 2)]) rfl ?_
      refine lv_iadd hx hb d_R_count_29 ?_
      refine lv_goto (tgt := 34) hx hb d_R_count_30 (by decide) ?_
      exact z_iret cx.1 cx.2.1 cx.rt cx.lk hS hZ ⟨(Nat.le_of_ble_eq_true rfl), (Nat.le_of_ble_eq_true rfl)⟩ d_R_count_34 (⟨by simp [c6, c18], hc_4, hF⟩)
  · refine lv_aload_n hx hb d_R_count_9 rfl (lv_at hl 0 rfl) ?_
    refine gf_R_68 cx hZ hc_4 rfl d_R_count_10 ?_
    refine lv_goto (tgt := 34) hx hb d_R_count_13 (by decide) ?_
    exact z_iret cx.1 cx.2.1 cx.rt cx.lk hS hZ ⟨(Nat.le_of_ble_eq_true rfl), (Nat.le_of_ble_eq_true rfl)⟩ d_R_count_34 (⟨by simp [c6], hc_4, hF⟩)
set_option maxHeartbeats 4000000 in
set_option maxRecDepth 100000 in
theorem r_items (l : Launch) (G : zG) (n0 e0 : Nat) (w : zw) (o : Nat) (A : Nat → Nat) (S : Nat → Int32) (L : Nat → Int64) (ho : w o = some (.inr (6, fR A S L))) (F : Nat → Nat → Int32) (h8 : w (A 8) = some (.inl (G.2 0, 8200, .inl (F 8)))) (ps : Nat → Nat) (n : Nat) (hps : SP (F 8) ps n) (hpe : ps n ≤ 8200) (at1 : Nat) (hat : at1 + 1 = ps 0) (hat2 : F 8 at1 = nI (ps n - at1))  : Ct l G n0 e0 y_R_items b_R_items 4 (Option.some FieldType.int) ({ frames := 0, cells := 0, slots := 0, locals := 0 }) [.ref o, .int (nI at1)] w (fun v w1 => v = some (.int (nI n)) ∧ w1 = w) := by
  refine z_ct (by decide) (Nat.le_of_ble_eq_true rfl) ?_
  intro p e s m below meth c ls cx hnm hZ hS hl
  have hx := cx.1
  have hb := cx.2.1
  have hl : lv_has ls 4 [(0, .ref o), (1, .int (nI at1))] := hl
  have hle := hps.le (Nat.zero_le n) (Nat.le_refl _)
  refine lv_iconst (v := 0) hx hb d_R_items_0 (by decide) ?_
  refine lv_istore_n (lv' := [(2, .int 0), (0, .ref o), (1, .int (nI at1))]) hx hb d_R_items_1 rfl hl (by decide) rfl (fun ls hl => ?_)
  refine lv_iload_n hx hb d_R_items_2 rfl (lv_at hl 2 rfl) ?_
  refine lv_iconst (v := 1) hx hb d_R_items_3 (by decide) ?_
  refine lv_iadd hx hb d_R_items_4 ?_
  rw [show (((nI at1) + 1) : Int32) = nI (ps 0) from by rw [← hat]; exact nI_1 at1]
  refine lv_istore_n (lv' := [(3, .int (nI (ps 0))), (2, .int 0), (0, .ref o), (1, .int (nI at1))]) hx hb d_R_items_5 rfl hl (by decide) rfl (fun ls hl => ?_)
  have loop : ∀ (j i : Nat) (H : Heap) (locs : List Loc) (ls : Array Slot), i + j = n → Zw G.1 vwC (zA n0) w H → va_S (zA n0) s.heap H locs → lv_has ls 4 [(2, .int (nI i)), (3, .int (nI (ps i))), (0, .ref o), (1, .int (nI at1))] → W p l e ({ frames := 0, cells := 0, slots := 0, locals := 0 }) s m [.ref o, .int (nI at1)].toArray below meth c H locs 0 0 (MQ below (zQ G.1 vwC n0 (fun v w1 => v = some (.int (nI n)) ∧ w1 = w)) [.ref o, .int (nI at1)].toArray s ({ frames := 0, cells := 0, slots := 0, locals := 0 } : Room).cells ({ frames := 0, cells := 0, slots := 0, locals := 0 } : Room).slots (zA n0)) (F0 m 6 ls []) := by
    intro j
    induction j with
    | zero =>
      intro i H locs ls hij hZ hS hl
      have hin : i = n := by omega
      refine lv_iload_n hx hb d_R_items_6 rfl (lv_at hl 1 rfl) ?_
      refine lv_iload_n hx hb d_R_items_7 rfl (lv_at hl 3 rfl) ?_
      refine lv_aload_n hx hb d_R_items_8 rfl (lv_at hl 2 rfl) ?_
      refine gf_R_35 cx hZ ho rfl d_R_items_9 ?_
      refine lv_iload_n hx hb d_R_items_12 rfl (lv_at hl 3 rfl) ?_
      refine ld_i cx hZ h8 (vp_in_nI (by omega) (by omega)) d_R_items_13 ?_
      rw [show (((F 8) (nI at1).toNatClampNeg) : Int32) = F 8 at1 from by rw [nI_clamp (by omega)]]
      refine lv_iadd hx hb d_R_items_14 ?_
      rw [show (((nI at1) + (F 8 at1)) : Int32) = nI (ps n) from by rw [hat2, nI_add]; congr 1; omega]
      refine lv_icmp_ge (tgt := 33) hx hb d_R_items_15 (by decide) (fun c15 => ?_) (fun c15 => ?_)
      · refine lv_iload_n hx hb d_R_items_33 rfl (lv_at hl 0 rfl) ?_
        exact z_iret cx.1 cx.2.1 cx.rt cx.lk hS hZ ⟨(Nat.le_of_ble_eq_true rfl), (Nat.le_of_ble_eq_true rfl)⟩ d_R_items_34 (⟨by rw [hin], rfl⟩)
      · exact absurd (nI_le (by rw [hin]; exact Nat.le_refl _) (by rw [hin]; omega)) c15
    | succ j ih =>
      intro i H locs ls hij hZ hS hl
      refine lv_iload_n hx hb d_R_items_6 rfl (lv_at hl 1 rfl) ?_
      refine lv_iload_n hx hb d_R_items_7 rfl (lv_at hl 3 rfl) ?_
      refine lv_aload_n hx hb d_R_items_8 rfl (lv_at hl 2 rfl) ?_
      refine gf_R_35 cx hZ ho rfl d_R_items_9 ?_
      refine lv_iload_n hx hb d_R_items_12 rfl (lv_at hl 3 rfl) ?_
      refine ld_i cx hZ h8 (vp_in_nI (by omega) (by omega)) d_R_items_13 ?_
      rw [show (((F 8) (nI at1).toNatClampNeg) : Int32) = F 8 at1 from by rw [nI_clamp (by omega)]]
      refine lv_iadd hx hb d_R_items_14 ?_
      rw [show (((nI at1) + (F 8 at1)) : Int32) = nI (ps n) from by rw [hat2, nI_add]; congr 1; omega]
      refine lv_icmp_ge (tgt := 33) hx hb d_R_items_15 (by decide) (fun c15 => ?_) (fun c15 => ?_)
      · exact absurd c15 (nI_ge (hps.lt (by omega)) (by omega))
      · refine lv_iinc (v := ((nI i) + 1)) (lv' := [(2, .int ((nI i) + 1)), (3, .int (nI (ps i))), (0, .ref o), (1, .int (nI at1))]) hx hb d_R_items_18 hl (k := 0) rfl rfl (by decide) rfl (fun ls hl => ?_)
        refine lv_iload_n hx hb d_R_items_21 rfl (lv_at hl 1 rfl) ?_
        refine lv_aload_n hx hb d_R_items_22 rfl (lv_at hl 2 rfl) ?_
        refine gf_R_35 cx hZ ho rfl d_R_items_23 ?_
        refine lv_iload_n hx hb d_R_items_26 rfl (lv_at hl 1 rfl) ?_
        refine ld_i cx hZ h8 (vp_in_nI (by have := hps.lt (show i < n by omega); omega) (by omega)) d_R_items_27 ?_
        rw [show (((F 8) (nI (ps i)).toNatClampNeg) : Int32) = F 8 (ps i) from by rw [nI_clamp (by have := hps.le (show i ≤ n by omega) (Nat.le_refl _); omega)]]
        refine lv_iadd hx hb d_R_items_28 ?_
        rw [show (((nI (ps i)) + (F 8 (ps i))) : Int32) = nI (ps (i + 1)) from hps.step (by omega)]
        refine lv_istore_n (lv' := [(3, .int (nI (ps (i + 1)))), (2, .int ((nI i) + 1)), (0, .ref o), (1, .int (nI at1))]) hx hb d_R_items_29 rfl hl (by decide) rfl (fun ls hl => ?_)
        refine lv_goto (tgt := 6) hx hb d_R_items_30 (by decide) ?_
        exact ih (i + 1) _ _ _ (by omega) hZ hS (lv_sub hl [1, 0, 2, 3] (by rw [← nI_1 i]; rfl))
  exact loop n 0 _ _ _ (by omega) hZ hS (lv_sub hl [1, 0, 2, 3] rfl)
