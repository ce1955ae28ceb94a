theorem r_isVertical (l : Launch) (G : zG) (n0 e0 : Nat) (w : zw) (o : Nat) (A : Nat → Nat) (S : Nat → Int32) (L : Nat → Int64) (ho : w o = some (.inr (6, fR A S L))) (F : Nat → Nat → Int32) (h10 : w (A 10) = some (.inl (G.2 2, 101, .inl (F 10)))) (lists : Nat) (hls : S 1 = nI lists) (hll : lists ≤ 100) (vb : Bool) (hvb : (lists = 0 ∧ vb = false) ∨ ∃ k, lists = k + 1 ∧ F 10 k = zi vb) : Ct l G n0 e0 y_R_isVertical b_R_isVertical 1 (Option.some FieldType.boolean) { frames := 0, cells := 0, slots := 0, locals := 0 } [.ref o] w (fun v w1 => v = some (.int (zi vb)) ∧ w1 = w) := by
  rcases hvb with ⟨h1, h2⟩ | ⟨k, h1, h2⟩
  · subst h1 h2
    exact r_isVertical_0 l G n0 e0 w o A S L ho (by rw [hls]; decide)
  · subst h1
    exact r_isVertical_1 l G n0 e0 w o A S L ho F h10 k (by omega) hls vb h2
theorem AddR.nar {G : zG} {o : Nat} {A : Nat → Nat} {S : Nat → Int32} {L : Nat → Int64} {F : Nat → Nat → Int32} {M : Nat → Int64} {good : Bool} {en : Nat} {r9 : Nat → Int32} {r : Int32} {w w1 : zw} (h : AddR G o A S L F M good en r9 r w w1) : narrow .boolean (.int r) = .int r := by
  rcases h with ⟨-, rfl, -⟩ | ⟨-, rfl, -⟩ <;> rfl
theorem AddR.as {G : zG} {o : Nat} {A : Nat → Nat} {S : Nat → Int32} {L : Nat → Int64} {F : Nat → Nat → Int32} {M : Nat → Int64} {g g2 : Bool} {b c : Bool} {en : Nat} {r9 : Nat → Int32} {r : Int32} {w w1 : zw} (h : AddR G o A S L F M (g && b && c) en r9 r w w1) (e : g2 = g) : AddR G o A S L F M (g2 && b && c) en r9 r w w1 := by rw [e]; exact h
set_option maxHeartbeats 4000000 in
set_option maxRecDepth 100000 in
theorem r_character (l : Launch) (G : zG) (n0 e0 : Nat) (w : zw) (o : Nat) (A : Nat → Nat) (S : Nat → Int32) (L : Nat → Int64) (ho : w o = some (.inr (6, fR A S L))) (F : Nat → Nat → Int32) (M : Nat → Int64) (hR : RW G w A F M) (hA : ∀ i j, i < 13 → j < 13 → i ≠ j → A i ≠ A j) (h10 : w (A 10) = some (.inl (G.2 2, 101, .inl (F 10)))) (h11 : w (A 11) = some (.inl (G.2 0, 16, .inl (F 11)))) (en : Nat) (hen : S 2 = nI en) (hen2 : en < 8200) (lists : Nat) (hls : S 1 = nI lists) (hll : lists ≤ 100) (vb : Bool) (hvb : (lists = 0 ∧ vb = false) ∨ ∃ k, lists = k + 1 ∧ F 10 k = zi vb) (x y z : Int32) : Ct l G n0 e0 y_R_character b_R_character 4 (Option.some FieldType.boolean) ({ frames := 3, cells := 0, slots := 0, locals := 75 }) [.ref o, .int x, .int y, .int z] w (fun v w1 => ∃ r, v = some (.int r) ∧ AddR G o A S L F M ((!vb && (szI x && szI y && szI z)) && decide (¬ lists = 0) && !decide (4000 < S 2 + sumI (F 11) 16 + 1)) en (row9 1 x y z 0 0 0) r w w1) := by
  refine z_ct (by decide) (Nat.le_of_ble_eq_true rfl) ?_
  intro p e s m below meth c ls cx hnm hZ hS hl
  have hx := cx.1
  have hb := cx.2.1
  have hl : lv_has ls 4 [(0, .ref o), (1, .int x), (2, .int y), (3, .int z)] := hl
  refine lv_aload_n hx hb d_R_character_0 rfl (lv_at hl 0 rfl) ?_
  refine lv_aload_n hx hb d_R_character_1 rfl (lv_at hl 0 rfl) ?_
  refine iv_R_75 (As := []) (rest := [.ref o]) cx (r_isVertical l G n0 e0 w o A S L ho F h10 lists hls hll vb hvb) ho ⟨(Nat.le_of_ble_eq_true rfl), (Nat.le_of_ble_eq_true rfl)⟩ ⟨(Nat.le_of_ble_eq_true rfl), (Nat.le_of_ble_eq_true rfl)⟩ rfl hl.1 rfl (Nat.le_of_ble_eq_true rfl) d_R_character_2 hZ hS (fun v w_1 H locs hp_2 hZ hS => ?_)
  obtain ⟨rfl, hq⟩ := hp_2
  subst w_1
  refine W.eq (g2 := F0 m 5 ls [.int (zi vb), .ref o]) rfl ?_
  refine lv_if_ne (tgt := 33) hx hb d_R_character_5 (by decide) (fun c5 => ?_) (fun c5 => ?_)
  · refine lv_iconst (v := 0) hx hb d_R_character_33 (by decide) ?_
    refine lv_iconst (v := 1) hx hb d_R_character_34 (by decide) ?_
    refine lv_iload_n hx hb d_R_character_35 rfl (lv_at hl 1 rfl) ?_
    refine lv_iload_n hx hb d_R_character_36 rfl (lv_at hl 2 rfl) ?_
    refine lv_iload_n hx hb d_R_character_37 rfl (lv_at hl 3 rfl) ?_
    refine lv_iconst (v := 0) hx hb d_R_character_38 (by decide) ?_
    refine lv_iconst (v := 0) hx hb d_R_character_39 (by decide) ?_
    refine lv_iconst (v := 0) hx hb d_R_character_40 (by decide) ?_
    refine iv_R_82 (As := [.int 0, .int 1, .int x, .int y, .int z, .int 0, .int 0, .int 0]) (rest := []) cx (r_add l G n0 e0 w o A S L ho F M hR hA h11 false 1 x y z 0 0 0 en hen hen2 lists hls hll) ho ⟨(Nat.le_of_ble_eq_true rfl), (Nat.le_of_ble_eq_true rfl)⟩ ⟨(Nat.le_of_ble_eq_true rfl), (Nat.le_of_ble_eq_true rfl)⟩ rfl hl.1 rfl (Nat.le_of_ble_eq_true rfl) d_R_character_41 hZ hS (fun v w_3 H locs hp_4 hZ hS => ?_)
    obtain ⟨r, rfl, hj⟩ := hp_4
    refine W.eq (g2 := F0 m 44 ls [.int r]) rfl ?_
    exact z_zret cx.1 cx.2.1 cx.rt cx.lk (hj.nar) hS hZ ⟨(Nat.le_of_ble_eq_true rfl), (Nat.le_of_ble_eq_true rfl)⟩ d_R_character_44 (⟨r, rfl, hj.as (by have e5 := (zi_n0 _).mp c5; simp [e5])⟩)
  · refine lv_iload_n hx hb d_R_character_8 rfl (lv_at hl 1 rfl) ?_
    refine is_R_79 (As := [.int x]) (rest := [.ref o]) cx (r_isSize l G n0 e0 x w) ⟨(Nat.le_of_ble_eq_true rfl), (Nat.le_of_ble_eq_true rfl)⟩ ⟨(Nat.le_of_ble_eq_true rfl), (Nat.le_of_ble_eq_true rfl)⟩ rfl hl.1 rfl (Nat.le_of_ble_eq_true rfl) d_R_character_9 hZ hS (fun v w_5 H locs hp_6 hZ hS => ?_)
    obtain ⟨rfl, hq⟩ := hp_6
    subst w_5
    refine W.eq (g2 := F0 m 12 ls [.int (zi (szI x)), .ref o]) rfl ?_
    refine lv_if_eq (tgt := 33) hx hb d_R_character_12 (by decide) (fun c12 => ?_) (fun c12 => ?_)
    · refine lv_iconst (v := 0) hx hb d_R_character_33 (by decide) ?_
      refine lv_iconst (v := 1) hx hb d_R_character_34 (by decide) ?_
      refine lv_iload_n hx hb d_R_character_35 rfl (lv_at hl 1 rfl) ?_
      refine lv_iload_n hx hb d_R_character_36 rfl (lv_at hl 2 rfl) ?_
      refine lv_iload_n hx hb d_R_character_37 rfl (lv_at hl 3 rfl) ?_
      refine lv_iconst (v := 0) hx hb d_R_character_38 (by decide) ?_
      refine lv_iconst (v := 0) hx hb d_R_character_39 (by decide) ?_
      refine lv_iconst (v := 0) hx hb d_R_character_40 (by decide) ?_
      refine iv_R_82 (As := [.int 0, .int 1, .int x, .int y, .int z, .int 0, .int 0, .int 0]) (rest := []) cx (r_add l G n0 e0 w o A S L ho F M hR hA h11 false 1 x y z 0 0 0 en hen hen2 lists hls hll) ho ⟨(Nat.le_of_ble_eq_true rfl), (Nat.le_of_ble_eq_true rfl)⟩ ⟨(Nat.le_of_ble_eq_true rfl), (Nat.le_of_ble_eq_true rfl)⟩ rfl hl.1 rfl (Nat.le_of_ble_eq_true rfl) d_R_character_41 hZ hS (fun v w_7 H locs hp_8 hZ hS => ?_)
      obtain ⟨r, rfl, hj⟩ := hp_8
      refine W.eq (g2 := F0 m 44 ls [.int r]) rfl ?_
      exact z_zret cx.1 cx.2.1 cx.rt cx.lk (hj.nar) hS hZ ⟨(Nat.le_of_ble_eq_true rfl), (Nat.le_of_ble_eq_true rfl)⟩ d_R_character_44 (⟨r, rfl, hj.as (by have e5 := (zi_0 _).mp c5; have e12 := (zi_0 _).mp c12; simp [e5, e12])⟩)
    · refine lv_iload_n hx hb d_R_character_15 rfl (lv_at hl 2 rfl) ?_
      refine is_R_79 (As := [.int y]) (rest := [.ref o]) cx (r_isSize l G n0 e0 y w) ⟨(Nat.le_of_ble_eq_true rfl), (Nat.le_of_ble_eq_true rfl)⟩ ⟨(Nat.le_of_ble_eq_true rfl), (Nat.le_of_ble_eq_true rfl)⟩ rfl hl.1 rfl (Nat.le_of_ble_eq_true rfl) d_R_character_16 hZ hS (fun v w_9 H locs hp_10 hZ hS => ?_)
      obtain ⟨rfl, hq⟩ := hp_10
      subst w_9
      refine W.eq (g2 := F0 m 19 ls [.int (zi (szI y)), .ref o]) rfl ?_
      refine lv_if_eq (tgt := 33) hx hb d_R_character_19 (by decide) (fun c19 => ?_) (fun c19 => ?_)
      · refine lv_iconst (v := 0) hx hb d_R_character_33 (by decide) ?_
        refine lv_iconst (v := 1) hx hb d_R_character_34 (by decide) ?_
        refine lv_iload_n hx hb d_R_character_35 rfl (lv_at hl 1 rfl) ?_
        refine lv_iload_n hx hb d_R_character_36 rfl (lv_at hl 2 rfl) ?_
        refine lv_iload_n hx hb d_R_character_37 rfl (lv_at hl 3 rfl) ?_
        refine lv_iconst (v := 0) hx hb d_R_character_38 (by decide) ?_
        refine lv_iconst (v := 0) hx hb d_R_character_39 (by decide) ?_
        refine lv_iconst (v := 0) hx hb d_R_character_40 (by decide) ?_
        refine iv_R_82 (As := [.int 0, .int 1, .int x, .int y, .int z, .int 0, .int 0, .int 0]) (rest := []) cx (r_add l G n0 e0 w o A S L ho F M hR hA h11 false 1 x y z 0 0 0 en hen hen2 lists hls hll) ho ⟨(Nat.le_of_ble_eq_true rfl), (Nat.le_of_ble_eq_true rfl)⟩ ⟨(Nat.le_of_ble_eq_true rfl), (Nat.le_of_ble_eq_true rfl)⟩ rfl hl.1 rfl (Nat.le_of_ble_eq_true rfl) d_R_character_41 hZ hS (fun v w_11 H locs hp_12 hZ hS => ?_)
        obtain ⟨r, rfl, hj⟩ := hp_12
        refine W.eq (g2 := F0 m 44 ls [.int r]) rfl ?_
        exact z_zret cx.1 cx.2.1 cx.rt cx.lk (hj.nar) hS hZ ⟨(Nat.le_of_ble_eq_true rfl), (Nat.le_of_ble_eq_true rfl)⟩ d_R_character_44 (⟨r, rfl, hj.as (by have e5 := (zi_0 _).mp c5; have e12 := (zi_n0 _).mp c12; have e19 := (zi_0 _).mp c19; simp [e5, e12, e19])⟩)
      · refine lv_iload_n hx hb d_R_character_22 rfl (lv_at hl 3 rfl) ?_
        refine is_R_79 (As := [.int z]) (rest := [.ref o]) cx (r_isSize l G n0 e0 z w) ⟨(Nat.le_of_ble_eq_true rfl), (Nat.le_of_ble_eq_true rfl)⟩ ⟨(Nat.le_of_ble_eq_true rfl), (Nat.le_of_ble_eq_true rfl)⟩ rfl hl.1 rfl (Nat.le_of_ble_eq_true rfl) d_R_character_23 hZ hS (fun v w_13 H locs hp_14 hZ hS => ?_)
        obtain ⟨rfl, hq⟩ := hp_14
        subst w_13
        refine W.eq (g2 := F0 m 26 ls [.int (zi (szI z)), .ref o]) rfl ?_
        refine lv_if_eq (tgt := 33) hx hb d_R_character_26 (by decide) (fun c26 => ?_) (fun c26 => ?_)
        · refine lv_iconst (v := 0) hx hb d_R_character_33 (by decide) ?_
          refine lv_iconst (v := 1) hx hb d_R_character_34 (by decide) ?_
          refine lv_iload_n hx hb d_R_character_35 rfl (lv_at hl 1 rfl) ?_
          refine lv_iload_n hx hb d_R_character_36 rfl (lv_at hl 2 rfl) ?_
          refine lv_iload_n hx hb d_R_character_37 rfl (lv_at hl 3 rfl) ?_
          refine lv_iconst (v := 0) hx hb d_R_character_38 (by decide) ?_
          refine lv_iconst (v := 0) hx hb d_R_character_39 (by decide) ?_
          refine lv_iconst (v := 0) hx hb d_R_character_40 (by decide) ?_
          refine iv_R_82 (As := [.int 0, .int 1, .int x, .int y, .int z, .int 0, .int 0, .int 0]) (rest := []) cx (r_add l G n0 e0 w o A S L ho F M hR hA h11 false 1 x y z 0 0 0 en hen hen2 lists hls hll) ho ⟨(Nat.le_of_ble_eq_true rfl), (Nat.le_of_ble_eq_true rfl)⟩ ⟨(Nat.le_of_ble_eq_true rfl), (Nat.le_of_ble_eq_true rfl)⟩ rfl hl.1 rfl (Nat.le_of_ble_eq_true rfl) d_R_character_41 hZ hS (fun v w_15 H locs hp_16 hZ hS => ?_)
          obtain ⟨r, rfl, hj⟩ := hp_16
          refine W.eq (g2 := F0 m 44 ls [.int r]) rfl ?_
          exact z_zret cx.1 cx.2.1 cx.rt cx.lk (hj.nar) hS hZ ⟨(Nat.le_of_ble_eq_true rfl), (Nat.le_of_ble_eq_true rfl)⟩ d_R_character_44 (⟨r, rfl, hj.as (by have e5 := (zi_0 _).mp c5; have e12 := (zi_n0 _).mp c12; have e19 := (zi_n0 _).mp c19; have e26 := (zi_0 _).mp c26; simp [e5, e12, e19, e26])⟩)
        · refine lv_iconst (v := 1) hx hb d_R_character_29 (by decide) ?_
          refine lv_goto (tgt := 34) hx hb d_R_character_30 (by decide) ?_
          refine lv_iconst (v := 1) hx hb d_R_character_34 (by decide) ?_
          refine lv_iload_n hx hb d_R_character_35 rfl (lv_at hl 1 rfl) ?_
          refine lv_iload_n hx hb d_R_character_36 rfl (lv_at hl 2 rfl) ?_
          refine lv_iload_n hx hb d_R_character_37 rfl (lv_at hl 3 rfl) ?_
          refine lv_iconst (v := 0) hx hb d_R_character_38 (by decide) ?_
          refine lv_iconst (v := 0) hx hb d_R_character_39 (by decide) ?_
          refine lv_iconst (v := 0) hx hb d_R_character_40 (by decide) ?_
          refine iv_R_82 (As := [.int 1, .int 1, .int x, .int y, .int z, .int 0, .int 0, .int 0]) (rest := []) cx (r_add l G n0 e0 w o A S L ho F M hR hA h11 true 1 x y z 0 0 0 en hen hen2 lists hls hll) ho ⟨(Nat.le_of_ble_eq_true rfl), (Nat.le_of_ble_eq_true rfl)⟩ ⟨(Nat.le_of_ble_eq_true rfl), (Nat.le_of_ble_eq_true rfl)⟩ rfl hl.1 rfl (Nat.le_of_ble_eq_true rfl) d_R_character_41 hZ hS (fun v w_17 H locs hp_18 hZ hS => ?_)
          obtain ⟨r, rfl, hj⟩ := hp_18
          refine W.eq (g2 := F0 m 44 ls [.int r]) rfl ?_
          exact z_zret cx.1 cx.2.1 cx.rt cx.lk (hj.nar) hS hZ ⟨(Nat.le_of_ble_eq_true rfl), (Nat.le_of_ble_eq_true rfl)⟩ d_R_character_44 (⟨r, rfl, hj.as (by have e5 := (zi_0 _).mp c5; have e12 := (zi_n0 _).mp c12; have e19 := (zi_n0 _).mp c19; have e26 := (zi_n0 _).mp c26; simp [e5, e12, e19, e26])⟩)
set_option maxHeartbeats 4000000 in
set_option maxRecDepth 100000 in
theorem r_kern (l : Launch) (G : zG) (n0 e0 : Nat) (w : zw) (o : Nat) (A : Nat → Nat) (S : Nat → Int32) (L : Nat → Int64) (ho : w o = some (.inr (6, fR A S L))) (F : Nat → Nat → Int32) (M : Nat → Int64) (hR : RW G w A F M) (hA : ∀ i j, i < 13 → j < 13 → i ≠ j → A i ≠ A j) (h10 : w (A 10) = some (.inl (G.2 2, 101, .inl (F 10)))) (h11 : w (A 11) = some (.inl (G.2 0, 16, .inl (F 11)))) (en : Nat) (hen : S 2 = nI en) (hen2 : en < 8200) (lists : Nat) (hls : S 1 = nI lists) (hll : lists ≤ 100) (x : Int32) : Ct l G n0 e0 y_R_kern b_R_kern 2 (Option.some FieldType.boolean) ({ frames := 3, cells := 0, slots := 0, locals := 75 }) [.ref o, .int x] w (fun v w1 => ∃ r, v = some (.int r) ∧ AddR G o A S L F M ((szI x) && decide (¬ lists = 0) && !decide (4000 < S 2 + sumI (F 11) 16 + 1)) en (row9 6 x 0 0 0 0 0) r w w1) := by
  refine z_ct (by decide) (Nat.le_of_ble_eq_true rfl) ?_
  intro p e s m below meth c ls cx hnm hZ hS hl
  have hx := cx.1
  have hb := cx.2.1
  have hl : lv_has ls 2 [(0, .ref o), (1, .int x)] := hl
  refine lv_aload_n hx hb d_R_kern_0 rfl (lv_at hl 0 rfl) ?_
  refine lv_iload_n hx hb d_R_kern_1 rfl (lv_at hl 1 rfl) ?_
  refine is_R_79 (As := [.int x]) (rest := [.ref o]) cx (r_isSize l G n0 e0 x w) ⟨(Nat.le_of_ble_eq_true rfl), (Nat.le_of_ble_eq_true rfl)⟩ ⟨(Nat.le_of_ble_eq_true rfl), (Nat.le_of_ble_eq_true rfl)⟩ rfl hl.1 rfl (Nat.le_of_ble_eq_true rfl) d_R_kern_2 hZ hS (fun v w_1 H locs hp_2 hZ hS => ?_)
  obtain ⟨rfl, hq⟩ := hp_2
  subst w_1
  refine W.eq (g2 := F0 m 5 ls [.int (zi (szI x)), .ref o]) rfl ?_
  refine lv_bipush (v := 6) hx hb d_R_kern_5 (by decide) ?_
  refine lv_iload_n hx hb d_R_kern_7 rfl (lv_at hl 1 rfl) ?_
  refine lv_iconst (v := 0) hx hb d_R_kern_8 (by decide) ?_
  refine lv_iconst (v := 0) hx hb d_R_kern_9 (by decide) ?_
  refine lv_iconst (v := 0) hx hb d_R_kern_10 (by decide) ?_
  refine lv_iconst (v := 0) hx hb d_R_kern_11 (by decide) ?_
  refine lv_iconst (v := 0) hx hb d_R_kern_12 (by decide) ?_
  refine iv_R_82 (As := [.int (zi (szI x)), .int 6, .int x, .int 0, .int 0, .int 0, .int 0, .int 0]) (rest := []) cx (r_add l G n0 e0 w o A S L ho F M hR hA h11 (szI x) 6 x 0 0 0 0 0 en hen hen2 lists hls hll) ho ⟨(Nat.le_of_ble_eq_true rfl), (Nat.le_of_ble_eq_true rfl)⟩ ⟨(Nat.le_of_ble_eq_true rfl), (Nat.le_of_ble_eq_true rfl)⟩ rfl hl.1 rfl (Nat.le_of_ble_eq_true rfl) d_R_kern_13 hZ hS (fun v w_3 H locs hp_4 hZ hS => ?_)
  obtain ⟨r, rfl, hj⟩ := hp_4
  refine W.eq (g2 := F0 m 16 ls [.int r]) rfl ?_
  exact z_zret cx.1 cx.2.1 cx.rt cx.lk (hj.nar) hS hZ ⟨(Nat.le_of_ble_eq_true rfl), (Nat.le_of_ble_eq_true rfl)⟩ d_R_kern_16 (⟨r, rfl, hj.as (rfl)⟩)
set_option maxHeartbeats 4000000 in
set_option maxRecDepth 100000 in
theorem r_penalty (l : Launch) (G : zG) (n0 e0 : Nat) (w : zw) (o : Nat) (A : Nat → Nat) (S : Nat → Int32) (L : Nat → Int64) (ho : w o = some (.inr (6, fR A S L))) (F : Nat → Nat → Int32) (M : Nat → Int64) (hR : RW G w A F M) (hA : ∀ i j, i < 13 → j < 13 → i ≠ j → A i ≠ A j) (h10 : w (A 10) = some (.inl (G.2 2, 101, .inl (F 10)))) (h11 : w (A 11) = some (.inl (G.2 0, 16, .inl (F 11)))) (en : Nat) (hen : S 2 = nI en) (hen2 : en < 8200) (lists : Nat) (hls : S 1 = nI lists) (hll : lists ≤ 100) (x : Int32) : Ct l G n0 e0 y_R_penalty b_R_penalty 2 (Option.some FieldType.boolean) ({ frames := 3, cells := 0, slots := 0, locals := 75 }) [.ref o, .int x] w (fun v w1 => ∃ r, v = some (.int r) ∧ AddR G o A S L F M ((true) && decide (¬ lists = 0) && !decide (4000 < S 2 + sumI (F 11) 16 + 1)) en (row9 7 x 0 0 0 0 0) r w w1) := by
  refine z_ct (by decide) (Nat.le_of_ble_eq_true rfl) ?_
  intro p e s m below meth c ls cx hnm hZ hS hl
  have hx := cx.1
  have hb := cx.2.1
  have hl : lv_has ls 2 [(0, .ref o), (1, .int x)] := hl
  refine lv_aload_n hx hb d_R_penalty_0 rfl (lv_at hl 0 rfl) ?_
  refine lv_iconst (v := 1) hx hb d_R_penalty_1 (by decide) ?_
  refine lv_bipush (v := 7) hx hb d_R_penalty_2 (by decide) ?_
  refine lv_iload_n hx hb d_R_penalty_4 rfl (lv_at hl 1 rfl) ?_
  refine lv_iconst (v := 0) hx hb d_R_penalty_5 (by decide) ?_
  refine lv_iconst (v := 0) hx hb d_R_penalty_6 (by decide) ?_
  refine lv_iconst (v := 0) hx hb d_R_penalty_7 (by decide) ?_
  refine lv_iconst (v := 0) hx hb d_R_penalty_8 (by decide) ?_
  refine lv_iconst (v := 0) hx hb d_R_penalty_9 (by decide) ?_
  refine iv_R_82 (As := [.int 1, .int 7, .int x, .int 0, .int 0, .int 0, .int 0, .int 0]) (rest := []) cx (r_add l G n0 e0 w o A S L ho F M hR hA h11 true 7 x 0 0 0 0 0 en hen hen2 lists hls hll) ho ⟨(Nat.le_of_ble_eq_true rfl), (Nat.le_of_ble_eq_true rfl)⟩ ⟨(Nat.le_of_ble_eq_true rfl), (Nat.le_of_ble_eq_true rfl)⟩ rfl hl.1 rfl (Nat.le_of_ble_eq_true rfl) d_R_penalty_10 hZ hS (fun v w_1 H locs hp_2 hZ hS => ?_)
  obtain ⟨r, rfl, hj⟩ := hp_2
  refine W.eq (g2 := F0 m 13 ls [.int r]) rfl ?_
  exact z_zret cx.1 cx.2.1 cx.rt cx.lk (hj.nar) hS hZ ⟨(Nat.le_of_ble_eq_true rfl), (Nat.le_of_ble_eq_true rfl)⟩ d_R_penalty_13 (⟨r, rfl, hj.as (rfl)⟩)
set_option maxHeartbeats 4000000 in
set_option maxRecDepth 100000 in
theorem r_glue (l : Launch) (G : zG) (n0 e0 : Nat) (w : zw) (o : Nat) (A : Nat → Nat) (S : Nat → Int32) (L : Nat → Int64) (ho : w o = some (.inr (6, fR A S L))) (F : Nat → Nat → Int32) (M : Nat → Int64) (hR : RW G w A F M) (hA : ∀ i j, i < 13 → j < 13 → i ≠ j → A i ≠ A j) (h10 : w (A 10) = some (.inl (G.2 2, 101, .inl (F 10)))) (h11 : w (A 11) = some (.inl (G.2 0, 16, .inl (F 11)))) (en : Nat) (hen : S 2 = nI en) (hen2 : en < 8200) (lists : Nat) (hls : S 1 = nI lists) (hll : lists ≤ 100) (x st2 o2 sh : Int32) : Ct l G n0 e0 y_R_glue b_R_glue 5 (Option.some FieldType.boolean) ({ frames := 3, cells := 0, slots := 0, locals := 75 }) [.ref o, .int x, .int st2, .int o2, .int sh] w (fun v w1 => ∃ r, v = some (.int r) ∧ AddR G o A S L F M (((szI x && szI st2 && szI sh) && !decide (st2 < 0) && !decide (sh < 0) && !decide (o2 < 0) && decide (o2 < 4)) && decide (¬ lists = 0) && !decide (4000 < S 2 + sumI (F 11) 16 + 1)) en (row9 5 x 0 0 st2 o2 sh) r w w1) := by
  refine z_ct (by decide) (Nat.le_of_ble_eq_true rfl) ?_
  intro p e s m below meth c ls cx hnm hZ hS hl
  have hx := cx.1
  have hb := cx.2.1
  have hl : lv_has ls 5 [(0, .ref o), (1, .int x), (2, .int st2), (3, .int o2), (4, .int sh)] := hl
  refine lv_aload_n hx hb d_R_glue_0 rfl (lv_at hl 0 rfl) ?_
  refine lv_iload_n hx hb d_R_glue_1 rfl (lv_at hl 1 rfl) ?_
  refine is_R_79 (As := [.int x]) (rest := [.ref o]) cx (r_isSize l G n0 e0 x w) ⟨(Nat.le_of_ble_eq_true rfl), (Nat.le_of_ble_eq_true rfl)⟩ ⟨(Nat.le_of_ble_eq_true rfl), (Nat.le_of_ble_eq_true rfl)⟩ rfl hl.1 rfl (Nat.le_of_ble_eq_true rfl) d_R_glue_2 hZ hS (fun v w_1 H locs hp_2 hZ hS => ?_)
  obtain ⟨rfl, hq⟩ := hp_2
  subst w_1
  refine W.eq (g2 := F0 m 5 ls [.int (zi (szI x)), .ref o]) rfl ?_
  refine lv_if_eq (tgt := 45) hx hb d_R_glue_5 (by decide) (fun c5 => ?_) (fun c5 => ?_)
  · refine lv_iconst (v := 0) hx hb d_R_glue_45 (by decide) ?_
    refine lv_iconst (v := 5) hx hb d_R_glue_46 (by decide) ?_
    refine lv_iload_n hx hb d_R_glue_47 rfl (lv_at hl 1 rfl) ?_
    refine lv_iconst (v := 0) hx hb d_R_glue_48 (by decide) ?_
    refine lv_iconst (v := 0) hx hb d_R_glue_49 (by decide) ?_
    refine lv_iload_n hx hb d_R_glue_50 rfl (lv_at hl 2 rfl) ?_
    refine lv_iload_n hx hb d_R_glue_51 rfl (lv_at hl 3 rfl) ?_
    refine lv_iload hx hb d_R_glue_52 (lv_at hl 4 rfl) ?_
    refine iv_R_82 (As := [.int 0, .int 5, .int x, .int 0, .int 0, .int st2, .int o2, .int sh]) (rest := []) cx (r_add l G n0 e0 w o A S L ho F M hR hA h11 false 5 x 0 0 st2 o2 sh en hen hen2 lists hls hll) ho ⟨(Nat.le_of_ble_eq_true rfl), (Nat.le_of_ble_eq_true rfl)⟩ ⟨(Nat.le_of_ble_eq_true rfl), (Nat.le_of_ble_eq_true rfl)⟩ rfl hl.1 rfl (Nat.le_of_ble_eq_true rfl) d_R_glue_54 hZ hS (fun v w_3 H locs hp_4 hZ hS => ?_)
    obtain ⟨r, rfl, hj⟩ := hp_4
    refine W.eq (g2 := F0 m 57 ls [.int r]) rfl ?_
    exact z_zret cx.1 cx.2.1 cx.rt cx.lk (hj.nar) hS hZ ⟨(Nat.le_of_ble_eq_true rfl), (Nat.le_of_ble_eq_true rfl)⟩ d_R_glue_57 (⟨r, rfl, hj.as (by have e5 := (zi_0 _).mp c5; simp [e5])⟩)
  · refine lv_iload_n hx hb d_R_glue_8 rfl (lv_at hl 2 rfl) ?_
    refine is_R_79 (As := [.int st2]) (rest := [.ref o]) cx (r_isSize l G n0 e0 st2 w) ⟨(Nat.le_of_ble_eq_true rfl), (Nat.le_of_ble_eq_true rfl)⟩ ⟨(Nat.le_of_ble_eq_true rfl), (Nat.le_of_ble_eq_true rfl)⟩ rfl hl.1 rfl (Nat.le_of_ble_eq_true rfl) d_R_glue_9 hZ hS (fun v w_5 H locs hp_6 hZ hS => ?_)
    obtain ⟨rfl, hq⟩ := hp_6
    subst w_5
    refine W.eq (g2 := F0 m 12 ls [.int (zi (szI st2)), .ref o]) rfl ?_
    refine lv_if_eq (tgt := 45) hx hb d_R_glue_12 (by decide) (fun c12 => ?_) (fun c12 => ?_)
    · refine lv_iconst (v := 0) hx hb d_R_glue_45 (by decide) ?_
      refine lv_iconst (v := 5) hx hb d_R_glue_46 (by decide) ?_
      refine lv_iload_n hx hb d_R_glue_47 rfl (lv_at hl 1 rfl) ?_
      refine lv_iconst (v := 0) hx hb d_R_glue_48 (by decide) ?_
      refine lv_iconst (v := 0) hx hb d_R_glue_49 (by decide) ?_
      refine lv_iload_n hx hb d_R_glue_50 rfl (lv_at hl 2 rfl) ?_
      refine lv_iload_n hx hb d_R_glue_51 rfl (lv_at hl 3 rfl) ?_
      refine lv_iload hx hb d_R_glue_52 (lv_at hl 4 rfl) ?_
      refine iv_R_82 (As := [.int 0, .int 5, .int x, .int 0, .int 0, .int st2, .int o2, .int sh]) (rest := []) cx (r_add l G n0 e0 w o A S L ho F M hR hA h11 false 5 x 0 0 st2 o2 sh en hen hen2 lists hls hll) ho ⟨(Nat.le_of_ble_eq_true rfl), (Nat.le_of_ble_eq_true rfl)⟩ ⟨(Nat.le_of_ble_eq_true rfl), (Nat.le_of_ble_eq_true rfl)⟩ rfl hl.1 rfl (Nat.le_of_ble_eq_true rfl) d_R_glue_54 hZ hS (fun v w_7 H locs hp_8 hZ hS => ?_)
      obtain ⟨r, rfl, hj⟩ := hp_8
      refine W.eq (g2 := F0 m 57 ls [.int r]) rfl ?_
      exact z_zret cx.1 cx.2.1 cx.rt cx.lk (hj.nar) hS hZ ⟨(Nat.le_of_ble_eq_true rfl), (Nat.le_of_ble_eq_true rfl)⟩ d_R_glue_57 (⟨r, rfl, hj.as (by have e5 := (zi_n0 _).mp c5; have e12 := (zi_0 _).mp c12; simp [e5, e12])⟩)
    · refine lv_iload hx hb d_R_glue_15 (lv_at hl 4 rfl) ?_
      refine is_R_79 (As := [.int sh]) (rest := [.ref o]) cx (r_isSize l G n0 e0 sh w) ⟨(Nat.le_of_ble_eq_true rfl), (Nat.le_of_ble_eq_true rfl)⟩ ⟨(Nat.le_of_ble_eq_true rfl), (Nat.le_of_ble_eq_true rfl)⟩ rfl hl.1 rfl (Nat.le_of_ble_eq_true rfl) d_R_glue_17 hZ hS (fun v w_9 H locs hp_10 hZ hS => ?_)
      obtain ⟨rfl, hq⟩ := hp_10
      subst w_9
      refine W.eq (g2 := F0 m 20 ls [.int (zi (szI sh)), .ref o]) rfl ?_
      refine lv_if_eq (tgt := 45) hx hb d_R_glue_20 (by decide) (fun c20 => ?_) (fun c20 => ?_)
      · refine lv_iconst (v := 0) hx hb d_R_glue_45 (by decide) ?_
        refine lv_iconst (v := 5) hx hb d_R_glue_46 (by decide) ?_
        refine lv_iload_n hx hb d_R_glue_47 rfl (lv_at hl 1 rfl) ?_
        refine lv_iconst (v := 0) hx hb d_R_glue_48 (by decide) ?_
        refine lv_iconst (v := 0) hx hb d_R_glue_49 (by decide) ?_
        refine lv_iload_n hx hb d_R_glue_50 rfl (lv_at hl 2 rfl) ?_
        refine lv_iload_n hx hb d_R_glue_51 rfl (lv_at hl 3 rfl) ?_
        refine lv_iload hx hb d_R_glue_52 (lv_at hl 4 rfl) ?_
        refine iv_R_82 (As := [.int 0, .int 5, .int x, .int 0, .int 0, .int st2, .int o2, .int sh]) (rest := []) cx (r_add l G n0 e0 w o A S L ho F M hR hA h11 false 5 x 0 0 st2 o2 sh en hen hen2 lists hls hll) ho ⟨(Nat.le_of_ble_eq_true rfl), (Nat.le_of_ble_eq_true rfl)⟩ ⟨(Nat.le_of_ble_eq_true rfl), (Nat.le_of_ble_eq_true rfl)⟩ rfl hl.1 rfl (Nat.le_of_ble_eq_true rfl) d_R_glue_54 hZ hS (fun v w_11 H locs hp_12 hZ hS => ?_)
        obtain ⟨r, rfl, hj⟩ := hp_12
        refine W.eq (g2 := F0 m 57 ls [.int r]) rfl ?_
        exact z_zret cx.1 cx.2.1 cx.rt cx.lk (hj.nar) hS hZ ⟨(Nat.le_of_ble_eq_true rfl), (Nat.le_of_ble_eq_true rfl)⟩ d_R_glue_57 (⟨r, rfl, hj.as (by have e5 := (zi_n0 _).mp c5; have e12 := (zi_n0 _).mp c12; have e20 := (zi_0 _).mp c20; simp [e5, e12, e20])⟩)
      · refine lv_iload_n hx hb d_R_glue_23 rfl (lv_at hl 2 rfl) ?_
        refine lv_if_lt (tgt := 45) hx hb d_R_glue_24 (by decide) (fun c24 => ?_) (fun c24 => ?_)
        · refine lv_iconst (v := 0) hx hb d_R_glue_45 (by decide) ?_
          refine lv_iconst (v := 5) hx hb d_R_glue_46 (by decide) ?_
          refine lv_iload_n hx hb d_R_glue_47 rfl (lv_at hl 1 rfl) ?_
          refine lv_iconst (v := 0) hx hb d_R_glue_48 (by decide) ?_
          refine lv_iconst (v := 0) hx hb d_R_glue_49 (by decide) ?_
          refine lv_iload_n hx hb d_R_glue_50 rfl (lv_at hl 2 rfl) ?_
          refine lv_iload_n hx hb d_R_glue_51 rfl (lv_at hl 3 rfl) ?_
          refine lv_iload hx hb d_R_glue_52 (lv_at hl 4 rfl) ?_
          refine iv_R_82 (As := [.int 0, .int 5, .int x, .int 0, .int 0, .int st2, .int o2, .int sh]) (rest := []) cx (r_add l G n0 e0 w o A S L ho F M hR hA h11 false 5 x 0 0 st2 o2 sh en hen hen2 lists hls hll) ho ⟨(Nat.le_of_ble_eq_true rfl), (Nat.le_of_ble_eq_true rfl)⟩ ⟨(Nat.le_of_ble_eq_true rfl), (Nat.le_of_ble_eq_true rfl)⟩ rfl hl.1 rfl (Nat.le_of_ble_eq_true rfl) d_R_glue_54 hZ hS (fun v w_13 H locs hp_14 hZ hS => ?_)
          obtain ⟨r, rfl, hj⟩ := hp_14
          refine W.eq (g2 := F0 m 57 ls [.int r]) rfl ?_
          exact z_zret cx.1 cx.2.1 cx.rt cx.lk (hj.nar) hS hZ ⟨(Nat.le_of_ble_eq_true rfl), (Nat.le_of_ble_eq_true rfl)⟩ d_R_glue_57 (⟨r, rfl, hj.as (by have e5 := (zi_n0 _).mp c5; have e12 := (zi_n0 _).mp c12; have e20 := (zi_n0 _).mp c20; have e24 := c24; simp [e5, e12, e20, e24])⟩)
        · refine lv_iload hx hb d_R_glue_27 (lv_at hl 4 rfl) ?_
          refine lv_if_lt (tgt := 45) hx hb d_R_glue_29 (by decide) (fun c29 => ?_) (fun c29 => ?_)
          · refine lv_iconst (v := 0) hx hb d_R_glue_45 (by decide) ?_
            refine lv_iconst (v := 5) hx hb d_R_glue_46 (by decide) ?_
            refine lv_iload_n hx hb d_R_glue_47 rfl (lv_at hl 1 rfl) ?_
            refine lv_iconst (v := 0) hx hb d_R_glue_48 (by decide) ?_
            refine lv_iconst (v := 0) hx hb d_R_glue_49 (by decide) ?_
            refine lv_iload_n hx hb d_R_glue_50 rfl (lv_at hl 2 rfl) ?_
            refine lv_iload_n hx hb d_R_glue_51 rfl (lv_at hl 3 rfl) ?_
            refine lv_iload hx hb d_R_glue_52 (lv_at hl 4 rfl) ?_
            refine iv_R_82 (As := [.int 0, .int 5, .int x, .int 0, .int 0, .int st2, .int o2, .int sh]) (rest := []) cx (r_add l G n0 e0 w o A S L ho F M hR hA h11 false 5 x 0 0 st2 o2 sh en hen hen2 lists hls hll) ho ⟨(Nat.le_of_ble_eq_true rfl), (Nat.le_of_ble_eq_true rfl)⟩ ⟨(Nat.le_of_ble_eq_true rfl), (Nat.le_of_ble_eq_true rfl)⟩ rfl hl.1 rfl (Nat.le_of_ble_eq_true rfl) d_R_glue_54 hZ hS (fun v w_15 H locs hp_16 hZ hS => ?_)
            obtain ⟨r, rfl, hj⟩ := hp_16
            refine W.eq (g2 := F0 m 57 ls [.int r]) rfl ?_
            exact z_zret cx.1 cx.2.1 cx.rt cx.lk (hj.nar) hS hZ ⟨(Nat.le_of_ble_eq_true rfl), (Nat.le_of_ble_eq_true rfl)⟩ d_R_glue_57 (⟨r, rfl, hj.as (by have e5 := (zi_n0 _).mp c5; have e12 := (zi_n0 _).mp c12; have e20 := (zi_n0 _).mp c20; have e24 := c24; have e29 := c29; simp [e5, e12, e20, e24, e29])⟩)
          · refine lv_iload_n hx hb d_R_glue_32 rfl (lv_at hl 3 rfl) ?_
            refine lv_if_lt (tgt := 45) hx hb d_R_glue_33 (by decide) (fun c33 => ?_) (fun c33 => ?_)
            · refine lv_iconst (v := 0) hx hb d_R_glue_45 (by decide) ?_
              refine lv_iconst (v := 5) hx hb d_R_glue_46 (by decide) ?_
              refine lv_iload_n hx hb d_R_glue_47 rfl (lv_at hl 1 rfl) ?_
              refine lv_iconst (v := 0) hx hb d_R_glue_48 (by decide) ?_
              refine lv_iconst (v := 0) hx hb d_R_glue_49 (by decide) ?_
              refine lv_iload_n hx hb d_R_glue_50 rfl (lv_at hl 2 rfl) ?_
              refine lv_iload_n hx hb d_R_glue_51 rfl (lv_at hl 3 rfl) ?_
              refine lv_iload hx hb d_R_glue_52 (lv_at hl 4 rfl) ?_
              refine iv_R_82 (As := [.int 0, .int 5, .int x, .int 0, .int 0, .int st2, .int o2, .int sh]) (rest := []) cx (r_add l G n0 e0 w o A S L ho F M hR hA h11 false 5 x 0 0 st2 o2 sh en hen hen2 lists hls hll) ho ⟨(Nat.le_of_ble_eq_true rfl), (Nat.le_of_ble_eq_true rfl)⟩ ⟨(Nat.le_of_ble_eq_true rfl), (Nat.le_of_ble_eq_true rfl)⟩ rfl hl.1 rfl (Nat.le_of_ble_eq_true rfl) d_R_glue_54 hZ hS (fun v w_17 H locs hp_18 hZ hS => ?_)
              obtain ⟨r, rfl, hj⟩ := hp_18
              refine W.eq (g2 := F0 m 57 ls [.int r]) rfl ?_
              exact z_zret cx.1 cx.2.1 cx.rt cx.lk (hj.nar) hS hZ ⟨(Nat.le_of_ble_eq_true rfl), (Nat.le_of_ble_eq_true rfl)⟩ d_R_glue_57 (⟨r, rfl, hj.as (by have e5 := (zi_n0 _).mp c5; have e12 := (zi_n0 _).mp c12; have e20 := (zi_n0 _).mp c20; have e24 := c24; have e29 := c29; have e33 := c33; simp [e5, e12, e20, e24, e29, e33])⟩)
            · refine lv_iload_n hx hb d_R_glue_36 rfl (lv_at hl 3 rfl) ?_
              refine lv_iconst (v := 4) hx hb d_R_glue_37 (by decide) ?_
              refine lv_icmp_ge (tgt := 45) hx hb d_R_glue_38 (by decide) (fun c38 => ?_) (fun c38 => ?_)
              · refine lv_iconst (v := 0) hx hb d_R_glue_45 (by decide) ?_
                refine lv_iconst (v := 5) hx hb d_R_glue_46 (by decide) ?_
                refine lv_iload_n hx hb d_R_glue_47 rfl (lv_at hl 1 rfl) ?_
                refine lv_iconst (v := 0) hx hb d_R_glue_48 (by decide) ?_
                refine lv_iconst (v := 0) hx hb d_R_glue_49 (by decide) ?_
                refine lv_iload_n hx hb d_R_glue_50 rfl (lv_at hl 2 rfl) ?_
                refine lv_iload_n hx hb d_R_glue_51 rfl (lv_at hl 3 rfl) ?_
                refine lv_iload hx hb d_R_glue_52 (lv_at hl 4 rfl) ?_
                refine iv_R_82 (As := [.int 0, .int 5, .int x, .int 0, .int 0, .int st2, .int o2, .int sh]) (rest := []) cx (r_add l G n0 e0 w o A S L ho F M hR hA h11 false 5 x 0 0 st2 o2 sh en hen hen2 lists hls hll) ho ⟨(Nat.le_of_ble_eq_true rfl), (Nat.le_of_ble_eq_true rfl)⟩ ⟨(Nat.le_of_ble_eq_true rfl), (Nat.le_of_ble_eq_true rfl)⟩ rfl hl.1 rfl (Nat.le_of_ble_eq_true rfl) d_R_glue_54 hZ hS (fun v w_19 H locs hp_20 hZ hS => ?_)
                obtain ⟨r, rfl, hj⟩ := hp_20
                refine W.eq (g2 := F0 m 57 ls [.int r]) rfl ?_
                exact z_zret cx.1 cx.2.1 cx.rt cx.lk (hj.nar) hS hZ ⟨(Nat.le_of_ble_eq_true rfl), (Nat.le_of_ble_eq_true rfl)⟩ d_R_glue_57 (⟨r, rfl, hj.as (by have e5 := (zi_n0 _).mp c5; have e12 := (zi_n0 _).mp c12; have e20 := (zi_n0 _).mp c20; have e24 := c24; have e29 := c29; have e33 := c33; have e38 := Int32.not_lt.mpr c38; simp [e5, e12, e20, e24, e29, e33, e38])⟩)
              · refine lv_iconst (v := 1) hx hb d_R_glue_41 (by decide) ?_
                refine lv_goto (tgt := 46) hx hb d_R_glue_42 (by decide) ?_
                refine lv_iconst (v := 5) hx hb d_R_glue_46 (by decide) ?_
                refine lv_iload_n hx hb d_R_glue_47 rfl (lv_at hl 1 rfl) ?_
                refine lv_iconst (v := 0) hx hb d_R_glue_48 (by decide) ?_
                refine lv_iconst (v := 0) hx hb d_R_glue_49 (by decide) ?_
                refine lv_iload_n hx hb d_R_glue_50 rfl (lv_at hl 2 rfl) ?_
                refine lv_iload_n hx hb d_R_glue_51 rfl (lv_at hl 3 rfl) ?_
                refine lv_iload hx hb d_R_glue_52 (lv_at hl 4 rfl) ?_
                refine iv_R_82 (As := [.int 1, .int 5, .int x, .int 0, .int 0, .int st2, .int o2, .int sh]) (rest := []) cx (r_add l G n0 e0 w o A S L ho F M hR hA h11 true 5 x 0 0 st2 o2 sh en hen hen2 lists hls hll) ho ⟨(Nat.le_of_ble_eq_true rfl), (Nat.le_of_ble_eq_true rfl)⟩ ⟨(Nat.le_of_ble_eq_true rfl), (Nat.le_of_ble_eq_true rfl)⟩ rfl hl.1 rfl (Nat.le_of_ble_eq_true rfl) d_R_glue_54 hZ hS (fun v w_21 H locs hp_22 hZ hS => ?_)
                obtain ⟨r, rfl, hj⟩ := hp_22
                refine W.eq (g2 := F0 m 57 ls [.int r]) rfl ?_
                exact z_zret cx.1 cx.2.1 cx.rt cx.lk (hj.nar) hS hZ ⟨(Nat.le_of_ble_eq_true rfl), (Nat.le_of_ble_eq_true rfl)⟩ d_R_glue_57 (⟨r, rfl, hj.as (by have e5 := (zi_n0 _).mp c5; have e12 := (zi_n0 _).mp c12; have e20 := (zi_n0 _).mp c20; have e24 := c24; have e29 := c29; have e33 := c33; have e38 := Int32.not_le.mp c38; simp [e5, e12, e20, e24, e29, e33, e38])⟩)
