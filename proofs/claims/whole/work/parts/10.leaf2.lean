def nearL (a whole : Int64) : Int64 := if 0 < whole then (if 0 ≤ a then (2 * (if 0 < a then a else -a) + whole) / (2 * whole) else -((2 * (if 0 < a then a else -a) + whole) / (2 * whole))) else 0
abbrev fB (li sw : Nat) (f : Nat → Int32) : List Value := [.ref li, .ref sw, .int (f 0), .int (f 1), .int (f 2), .int (f 3), .int (f 4)]
def tellB (vt : Bool) (n : Int32) (f : Nat → Int32) (what : Int32) : Int32 := if what = 0 then (if vt then 2 else 1) else if what = 1 then f 2 else if what = 2 then f 3 else if what = 3 then f 4 else if what = 4 then n else f 0
set_option maxHeartbeats 4000000 in
set_option maxRecDepth 100000 in
theorem c_near (l : Launch) (G : zG) (n0 e0 : Nat) (a whole : Int64) (w : zw) (hne : 0 < whole → ¬ 2 * whole = 0) : Ct l G n0 e0 y_D_near b_D_near 6 (Option.some FieldType.long) ({ frames := 1, cells := 0, slots := 0, locals := 17 }) [.long a, .long whole] w (fun v w1 => v = some (.long (nearL a whole)) ∧ w1 = w) := by
  refine z_ct (by decide) (Nat.le_of_ble_eq_true rfl) ?_
  intro p e s m below meth c ls cx hnm hZ hS hl
  have hx := cx.1
  have hb := cx.2.1
  have hl : lv_has ls 6 [(0, .long a), (2, .long whole)] := hl
  refine lv_lload_n hx hb d_D_near_0 rfl (lv_at hl 1 rfl) ?_
  refine lv_lconst (v := 0) hx hb d_D_near_1 (by decide) ?_
  refine W.lcmp hx hb d_D_near_2 ?_
  refine lv_if_gt (tgt := 8) hx hb d_D_near_3 (by decide) (fun c3 => ?_) (fun c3 => ?_)
  · have c3 := (lg_cmp_gt _ _).mp c3
    refine lc_D_230 cx d_D_near_8 ?_
    refine lv_lload_n hx hb d_D_near_11 rfl (lv_at hl 0 rfl) ?_
    refine mm_D_232 cx hl.1 d_D_near_12 (Nat.le_of_ble_eq_true rfl) (Nat.le_of_ble_eq_true rfl) (Nat.le_of_ble_eq_true rfl) (Nat.le_of_ble_eq_true rfl) ?_
    refine lv_lmul hx hb d_D_near_15 ?_
    refine lv_lload_n hx hb d_D_near_16 rfl (lv_at hl 1 rfl) ?_
    refine lv_ladd hx hb d_D_near_17 ?_
    refine lc_D_230 cx d_D_near_18 ?_
    refine lv_lload_n hx hb d_D_near_21 rfl (lv_at hl 1 rfl) ?_
    refine lv_lmul hx hb d_D_near_22 ?_
    refine lv_ldiv hx hb d_D_near_23 (hne c3) ?_
    refine lv_lstore (lv' := [(4, .long (((2 * (if 0 < a then a else -a)) + whole) / (2 * whole))), (0, .long a), (2, .long whole)]) hx hb d_D_near_24 hl (by decide) rfl (fun ls hl => ?_)
    refine lv_lload_n hx hb d_D_near_26 rfl (lv_at hl 1 rfl) ?_
    refine lv_lconst (v := 0) hx hb d_D_near_27 (by decide) ?_
    refine W.lcmp hx hb d_D_near_28 ?_
    refine lv_if_ge (tgt := 38) hx hb d_D_near_29 (by decide) (fun c29 => ?_) (fun c29 => ?_)
    · have c29 := (lg_cmp_ge _ _).mp c29
      refine lv_lload hx hb d_D_near_38 (lv_at hl 0 rfl) ?_
      exact z_lret cx.1 cx.2.1 cx.rt cx.lk hS hZ ⟨(Nat.le_of_ble_eq_true rfl), (Nat.le_of_ble_eq_true rfl)⟩ d_D_near_40 (by first | exact ⟨by rw [nearL, if_neg c3], rfl⟩ | exact ⟨by rw [nearL, if_pos c3, if_pos c29], rfl⟩ | exact ⟨by rw [nearL, if_pos c3, if_neg c29], rfl⟩)
    · have c29 := fun q => c29 ((lg_cmp_ge _ _).mpr q)
      refine lv_lload hx hb d_D_near_32 (lv_at hl 0 rfl) ?_
      refine lv_lneg hx hb d_D_near_34 ?_
      refine lv_goto (tgt := 40) hx hb d_D_near_35 (by decide) ?_
      exact z_lret cx.1 cx.2.1 cx.rt cx.lk hS hZ ⟨(Nat.le_of_ble_eq_true rfl), (Nat.le_of_ble_eq_true rfl)⟩ d_D_near_40 (by first | exact ⟨by rw [nearL, if_neg c3], rfl⟩ | exact ⟨by rw [nearL, if_pos c3, if_pos c29], rfl⟩ | exact ⟨by rw [nearL, if_pos c3, if_neg c29], rfl⟩)
  · have c3 := fun q => c3 ((lg_cmp_gt _ _).mpr q)
    refine lv_lconst (v := 0) hx hb d_D_near_6 (by decide) ?_
    exact z_lret cx.1 cx.2.1 cx.rt cx.lk hS hZ ⟨(Nat.le_of_ble_eq_true rfl), (Nat.le_of_ble_eq_true rfl)⟩ d_D_near_7 (by first | exact ⟨by rw [nearL, if_neg c3], rfl⟩ | exact ⟨by rw [nearL, if_pos c3, if_pos c29], rfl⟩ | exact ⟨by rw [nearL, if_pos c3, if_neg c29], rfl⟩)
set_option maxHeartbeats 4000000 in
set_option maxRecDepth 100000 in
theorem c_I_init (l : Launch) (G : zG) (n0 e0 : Nat) (w : zw) (a : Nat) (k x h d : Int32) (ha : w a = some (.inr (1, [.int 0, .int 0, .int 0, .int 0, .int 0, .int 0, .int 0, .int 0, .int 0, .int 0, .int 0, .int 0]))) : Ct l G n0 e0 y_I_init b_I_init 5 (Option.none : Option FieldType) ({ frames := 1, cells := 0, slots := 0, locals := 12 }) [.ref a, .int k, .int x, .int h, .int d] w (fun v w1 => v = none ∧ w1 = va_up w a (some (.inr (1, fI (mkI k x h d 0 0 0 0 0 0 0 0))))) := by
  refine z_ct (by decide) (Nat.le_of_ble_eq_true rfl) ?_
  intro p e s m below meth c ls cx hnm hZ hS hl
  have hx := cx.1
  have hb := cx.2.1
  have hl : lv_has ls 5 [(0, .ref a), (1, .int k), (2, .int x), (3, .int h), (4, .int d)] := hl
  refine lv_aload_n hx hb d_I_init_0 rfl (lv_at hl 0 rfl) ?_
  refine oi_I_3 cx hl.1 d_I_init_1 (Nat.le_of_ble_eq_true rfl) (Nat.le_of_ble_eq_true rfl) ?_
  refine W.eq (g2 := F0 m 4 ls []) rfl ?_
  refine lv_aload_n hx hb d_I_init_4 rfl (lv_at hl 0 rfl) ?_
  refine lv_iload_n hx hb d_I_init_5 rfl (lv_at hl 1 rfl) ?_
  refine pf_I_9 cx hnm hZ hS ha (Nat.le_of_ble_eq_true rfl) d_I_init_6 (fun w_1 H locs hw_2 hZ hS => ?_)
  have hc_3 : w_1 a = some (.inr (1, [.int k, .int 0, .int 0, .int 0, .int 0, .int 0, .int 0, .int 0, .int 0, .int 0, .int 0, .int 0])) := up_self hw_2
  refine lv_aload_n hx hb d_I_init_9 rfl (lv_at hl 0 rfl) ?_
  refine lv_iload_n hx hb d_I_init_10 rfl (lv_at hl 2 rfl) ?_
  refine pf_I_15 cx hnm hZ hS hc_3 (Nat.le_of_ble_eq_true rfl) d_I_init_11 (fun w_4 H locs hw_5 hZ hS => ?_)
  have hc_6 : w_4 a = some (.inr (1, [.int k, .int x, .int 0, .int 0, .int 0, .int 0, .int 0, .int 0, .int 0, .int 0, .int 0, .int 0])) := up_self hw_5
  refine lv_aload_n hx hb d_I_init_14 rfl (lv_at hl 0 rfl) ?_
  refine lv_iload_n hx hb d_I_init_15 rfl (lv_at hl 3 rfl) ?_
  refine pf_I_18 cx hnm hZ hS hc_6 (Nat.le_of_ble_eq_true rfl) d_I_init_16 (fun w_7 H locs hw_8 hZ hS => ?_)
  have hc_9 : w_7 a = some (.inr (1, [.int k, .int x, .int h, .int 0, .int 0, .int 0, .int 0, .int 0, .int 0, .int 0, .int 0, .int 0])) := up_self hw_8
  refine lv_aload_n hx hb d_I_init_19 rfl (lv_at hl 0 rfl) ?_
  refine lv_iload hx hb d_I_init_20 (lv_at hl 4 rfl) ?_
  refine pf_I_21 cx hnm hZ hS hc_9 (Nat.le_of_ble_eq_true rfl) d_I_init_22 (fun w_10 H locs hw_11 hZ hS => ?_)
  have hc_12 : w_10 a = some (.inr (1, [.int k, .int x, .int h, .int d, .int 0, .int 0, .int 0, .int 0, .int 0, .int 0, .int 0, .int 0])) := up_self hw_11
  exact z_vret cx.1 cx.2.1 cx.rt cx.lk hS hZ ⟨(Nat.le_of_ble_eq_true rfl), (Nat.le_of_ble_eq_true rfl)⟩ d_I_init_25 (⟨rfl, by rw [hw_11, hw_8, hw_5, hw_2]; first | done | (simp only [bx_uu]; done) | (simp only [bx_uu]; rfl) | rfl⟩)
set_option maxHeartbeats 4000000 in
set_option maxRecDepth 100000 in
theorem c_ofRule (l : Launch) (G : zG) (n0 e0 : Nat) (w : zw) (x h d r : Int32) : Ct l G n0 e0 y_I_ofRule b_I_ofRule 5 (Option.some (FieldType.object "BoxDesk$Item")) ({ frames := 2, cells := 1, slots := 12, locals := 36 }) [.int x, .int h, .int d, .int r] w (fun v w1 => ∃ q, v = some (.ref q) ∧ w q = none ∧ w1 = va_up w q (some (.inr (1, fI (mkI 4 x h d r 0 0 0 0 0 0 0))))) := by
  refine z_ct (by decide) (Nat.le_of_ble_eq_true rfl) ?_
  intro p e s m below meth c ls cx hnm hZ hS hl
  have hx := cx.1
  have hb := cx.2.1
  have hl : lv_has ls 5 [(0, .int x), (1, .int h), (2, .int d), (3, .int r)] := hl
  refine nw_I_10_o cx hZ hS (Nat.le_of_ble_eq_true rfl) (Nat.le_of_ble_eq_true rfl) d_I_ofRule_0 (fun q_1 w_2 H hq_4 hw_3 hZ hS => ?_)
  have hc_5 : w_2 q_1 = some (.inr (1, [.int 0, .int 0, .int 0, .int 0, .int 0, .int 0, .int 0, .int 0, .int 0, .int 0, .int 0, .int 0])) := up_self hw_3
  refine lv_dup hx hb d_I_ofRule_3 rfl ?_
  refine lv_iconst (v := 4) hx hb d_I_ofRule_4 (by decide) ?_
  refine lv_iload_n hx hb d_I_ofRule_5 rfl (lv_at hl 0 rfl) ?_
  refine lv_iload_n hx hb d_I_ofRule_6 rfl (lv_at hl 1 rfl) ?_
  refine lv_iload_n hx hb d_I_ofRule_7 rfl (lv_at hl 2 rfl) ?_
  refine ip_I_24 (As := [.int 4, .int x, .int h, .int d]) (rest := [.ref q_1]) cx (c_I_init l G n0 e0 w_2 q_1 4 x h d hc_5) ⟨(Nat.le_of_ble_eq_true rfl), (Nat.le_of_ble_eq_true rfl)⟩ ⟨(Nat.le_of_ble_eq_true rfl), (Nat.le_of_ble_eq_true rfl)⟩ rfl hl.1 rfl (Nat.le_of_ble_eq_true rfl) d_I_ofRule_8 hZ hS (fun v w_6 H locs hp_7 hZ hS => ?_)
  obtain ⟨rfl, hw_8⟩ := hp_7
  have hc_9 : w_6 q_1 = some (.inr (1, [.int 4, .int x, .int h, .int d, .int 0, .int 0, .int 0, .int 0, .int 0, .int 0, .int 0, .int 0])) := up_self hw_8
  refine W.eq (g2 := F0 m 11 ls [.ref q_1]) rfl ?_
  refine lv_astore (lv' := [(4, .ref q_1), (0, .int x), (1, .int h), (2, .int d), (3, .int r)]) hx hb d_I_ofRule_11 hl (by decide) rfl (fun ls hl => ?_)
  refine lv_aload hx hb d_I_ofRule_13 (lv_at hl 0 rfl) ?_
  refine lv_iload_n hx hb d_I_ofRule_15 rfl (lv_at hl 4 rfl) ?_
  refine pf_I_27 cx hZ hS hc_9 (Nat.le_of_ble_eq_true rfl) d_I_ofRule_16 (fun w_10 H locs hw_11 hZ hS => ?_)
  have hc_12 : w_10 q_1 = some (.inr (1, [.int 4, .int x, .int h, .int d, .int r, .int 0, .int 0, .int 0, .int 0, .int 0, .int 0, .int 0])) := up_self hw_11
  refine lv_aload hx hb d_I_ofRule_19 (lv_at hl 0 rfl) ?_
  exact z_aret cx.1 cx.2.1 cx.rt cx.lk (by first | exact Or.inl ⟨_, rfl⟩ | exact Or.inr ⟨_, rfl⟩) (by first | exact Or.inl rfl | exact Or.inr ⟨_, rfl⟩) hS hZ ⟨(Nat.le_of_ble_eq_true rfl), (Nat.le_of_ble_eq_true rfl)⟩ d_I_ofRule_21 (⟨q_1, rfl, hq_4, by rw [hw_11, hw_8, hw_3]; first | done | (simp only [bx_uu]; done) | (simp only [bx_uu]; rfl) | rfl⟩)
set_option maxHeartbeats 4000000 in
set_option maxRecDepth 100000 in
theorem c_ofGlue (l : Launch) (G : zG) (n0 e0 : Nat) (w : zw) (x st o sh : Int32) : Ct l G n0 e0 y_I_ofGlue b_I_ofGlue 5 (Option.some (FieldType.object "BoxDesk$Item")) ({ frames := 2, cells := 1, slots := 12, locals := 36 }) [.int x, .int st, .int o, .int sh] w (fun v w1 => ∃ q, v = some (.ref q) ∧ w q = none ∧ w1 = va_up w q (some (.inr (1, fI (mkI 5 x 0 0 0 0 st o sh 0 0 0))))) := by
  refine z_ct (by decide) (Nat.le_of_ble_eq_true rfl) ?_
  intro p e s m below meth c ls cx hnm hZ hS hl
  have hx := cx.1
  have hb := cx.2.1
  have hl : lv_has ls 5 [(0, .int x), (1, .int st), (2, .int o), (3, .int sh)] := hl
  refine nw_I_10_o cx hZ hS (Nat.le_of_ble_eq_true rfl) (Nat.le_of_ble_eq_true rfl) d_I_ofGlue_0 (fun q_1 w_2 H hq_4 hw_3 hZ hS => ?_)
  have hc_5 : w_2 q_1 = some (.inr (1, [.int 0, .int 0, .int 0, .int 0, .int 0, .int 0, .int 0, .int 0, .int 0, .int 0, .int 0, .int 0])) := up_self hw_3
  refine lv_dup hx hb d_I_ofGlue_3 rfl ?_
  refine lv_iconst (v := 5) hx hb d_I_ofGlue_4 (by decide) ?_
  refine lv_iload_n hx hb d_I_ofGlue_5 rfl (lv_at hl 0 rfl) ?_
  refine lv_iconst (v := 0) hx hb d_I_ofGlue_6 (by decide) ?_
  refine lv_iconst (v := 0) hx hb d_I_ofGlue_7 (by decide) ?_
  refine ip_I_24 (As := [.int 5, .int x, .int 0, .int 0]) (rest := [.ref q_1]) cx (c_I_init l G n0 e0 w_2 q_1 5 x 0 0 hc_5) ⟨(Nat.le_of_ble_eq_true rfl), (Nat.le_of_ble_eq_true rfl)⟩ ⟨(Nat.le_of_ble_eq_true rfl), (Nat.le_of_ble_eq_true rfl)⟩ rfl hl.1 rfl (Nat.le_of_ble_eq_true rfl) d_I_ofGlue_8 hZ hS (fun v w_6 H locs hp_7 hZ hS => ?_)
  obtain ⟨rfl, hw_8⟩ := hp_7
  have hc_9 : w_6 q_1 = some (.inr (1, [.int 5, .int x, .int 0, .int 0, .int 0, .int 0, .int 0, .int 0, .int 0, .int 0, .int 0, .int 0])) := up_self hw_8
  refine W.eq (g2 := F0 m 11 ls [.ref q_1]) rfl ?_
  refine lv_astore (lv' := [(4, .ref q_1), (0, .int x), (1, .int st), (2, .int o), (3, .int sh)]) hx hb d_I_ofGlue_11 hl (by decide) rfl (fun ls hl => ?_)
  refine lv_aload hx hb d_I_ofGlue_13 (lv_at hl 0 rfl) ?_
  refine lv_iload_n hx hb d_I_ofGlue_15 rfl (lv_at hl 2 rfl) ?_
  refine pf_I_30 cx hZ hS hc_9 (Nat.le_of_ble_eq_true rfl) d_I_ofGlue_16 (fun w_10 H locs hw_11 hZ hS => ?_)
  have hc_12 : w_10 q_1 = some (.inr (1, [.int 5, .int x, .int 0, .int 0, .int 0, .int 0, .int st, .int 0, .int 0, .int 0, .int 0, .int 0])) := up_self hw_11
  refine lv_aload hx hb d_I_ofGlue_19 (lv_at hl 0 rfl) ?_
  refine lv_iload_n hx hb d_I_ofGlue_21 rfl (lv_at hl 3 rfl) ?_
  refine pf_I_33 cx hZ hS hc_12 (Nat.le_of_ble_eq_true rfl) d_I_ofGlue_22 (fun w_13 H locs hw_14 hZ hS => ?_)
  have hc_15 : w_13 q_1 = some (.inr (1, [.int 5, .int x, .int 0, .int 0, .int 0, .int 0, .int st, .int o, .int 0, .int 0, .int 0, .int 0])) := up_self hw_14
  refine lv_aload hx hb d_I_ofGlue_25 (lv_at hl 0 rfl) ?_
  refine lv_iload_n hx hb d_I_ofGlue_27 rfl (lv_at hl 4 rfl) ?_
  refine pf_I_36 cx hZ hS hc_15 (Nat.le_of_ble_eq_true rfl) d_I_ofGlue_28 (fun w_16 H locs hw_17 hZ hS => ?_)
  have hc_18 : w_16 q_1 = some (.inr (1, [.int 5, .int x, .int 0, .int 0, .int 0, .int 0, .int st, .int o, .int sh, .int 0, .int 0, .int 0])) := up_self hw_17
  refine lv_aload hx hb d_I_ofGlue_31 (lv_at hl 0 rfl) ?_
  exact z_aret cx.1 cx.2.1 cx.rt cx.lk (by first | exact Or.inl ⟨_, rfl⟩ | exact Or.inr ⟨_, rfl⟩) (by first | exact Or.inl rfl | exact Or.inr ⟨_, rfl⟩) hS hZ ⟨(Nat.le_of_ble_eq_true rfl), (Nat.le_of_ble_eq_true rfl)⟩ d_I_ofGlue_33 (⟨q_1, rfl, hq_4, by rw [hw_17, hw_14, hw_11, hw_8, hw_3]; first | done | (simp only [bx_uu]; done) | (simp only [bx_uu]; rfl) | rfl⟩)
set_option maxHeartbeats 4000000 in
set_option maxRecDepth 100000 in
theorem c_ofPenalty (l : Launch) (G : zG) (n0 e0 : Nat) (w : zw) (x : Int32) : Ct l G n0 e0 y_I_ofPenalty b_I_ofPenalty 2 (Option.some (FieldType.object "BoxDesk$Item")) ({ frames := 2, cells := 1, slots := 12, locals := 36 }) [.int x] w (fun v w1 => ∃ q, v = some (.ref q) ∧ w q = none ∧ w1 = va_up w q (some (.inr (1, fI (mkI 7 0 0 0 0 x 0 0 0 0 0 0))))) := by
  refine z_ct (by decide) (Nat.le_of_ble_eq_true rfl) ?_
  intro p e s m below meth c ls cx hnm hZ hS hl
  have hx := cx.1
  have hb := cx.2.1
  have hl : lv_has ls 2 [(0, .int x)] := hl
  refine nw_I_10_o cx hZ hS (Nat.le_of_ble_eq_true rfl) (Nat.le_of_ble_eq_true rfl) d_I_ofPenalty_0 (fun q_1 w_2 H hq_4 hw_3 hZ hS => ?_)
  have hc_5 : w_2 q_1 = some (.inr (1, [.int 0, .int 0, .int 0, .int 0, .int 0, .int 0, .int 0, .int 0, .int 0, .int 0, .int 0, .int 0])) := up_self hw_3
  refine lv_dup hx hb d_I_ofPenalty_3 rfl ?_
  refine lv_bipush (v := 7) hx hb d_I_ofPenalty_4 (by decide) ?_
  refine lv_iconst (v := 0) hx hb d_I_ofPenalty_6 (by decide) ?_
  refine lv_iconst (v := 0) hx hb d_I_ofPenalty_7 (by decide) ?_
  refine lv_iconst (v := 0) hx hb d_I_ofPenalty_8 (by decide) ?_
  refine ip_I_24 (As := [.int 7, .int 0, .int 0, .int 0]) (rest := [.ref q_1]) cx (c_I_init l G n0 e0 w_2 q_1 7 0 0 0 hc_5) ⟨(Nat.le_of_ble_eq_true rfl), (Nat.le_of_ble_eq_true rfl)⟩ ⟨(Nat.le_of_ble_eq_true rfl), (Nat.le_of_ble_eq_true rfl)⟩ rfl hl.1 rfl (Nat.le_of_ble_eq_true rfl) d_I_ofPenalty_9 hZ hS (fun v w_6 H locs hp_7 hZ hS => ?_)
  obtain ⟨rfl, hw_8⟩ := hp_7
  have hc_9 : w_6 q_1 = some (.inr (1, [.int 7, .int 0, .int 0, .int 0, .int 0, .int 0, .int 0, .int 0, .int 0, .int 0, .int 0, .int 0])) := up_self hw_8
  refine W.eq (g2 := F0 m 12 ls [.ref q_1]) rfl ?_
  refine lv_astore_n (lv' := [(1, .ref q_1), (0, .int x)]) hx hb d_I_ofPenalty_12 rfl hl (by decide) rfl (fun ls hl => ?_)
  refine lv_aload_n hx hb d_I_ofPenalty_13 rfl (lv_at hl 0 rfl) ?_
  refine lv_iload_n hx hb d_I_ofPenalty_14 rfl (lv_at hl 1 rfl) ?_
  refine pf_I_39 cx hZ hS hc_9 (Nat.le_of_ble_eq_true rfl) d_I_ofPenalty_15 (fun w_10 H locs hw_11 hZ hS => ?_)
  have hc_12 : w_10 q_1 = some (.inr (1, [.int 7, .int 0, .int 0, .int 0, .int 0, .int x, .int 0, .int 0, .int 0, .int 0, .int 0, .int 0])) := up_self hw_11
  refine lv_aload_n hx hb d_I_ofPenalty_18 rfl (lv_at hl 0 rfl) ?_
  exact z_aret cx.1 cx.2.1 cx.rt cx.lk (by first | exact Or.inl ⟨_, rfl⟩ | exact Or.inr ⟨_, rfl⟩) (by first | exact Or.inl rfl | exact Or.inr ⟨_, rfl⟩) hS hZ ⟨(Nat.le_of_ble_eq_true rfl), (Nat.le_of_ble_eq_true rfl)⟩ d_I_ofPenalty_19 (⟨q_1, rfl, hq_4, by rw [hw_11, hw_8, hw_3]; first | done | (simp only [bx_uu]; done) | (simp only [bx_uu]; rfl) | rfl⟩)
set_option maxHeartbeats 4000000 in
set_option maxRecDepth 100000 in
theorem c_ofBox (l : Launch) (G : zG) (n0 e0 : Nat) (w : zw) (b li sw al : Nat) (f : Nat → Int32) (vt : Bool) (shift : Int32) (hb0 : w b = some (.inr (4, fB li sw f))) (hli : w li = some (.inr (2, [.int (zi vt), .ref al]))) : Ct l G n0 e0 y_I_ofBox b_I_ofBox 3 (Option.some (FieldType.object "BoxDesk$Item")) ({ frames := 2, cells := 1, slots := 12, locals := 36 }) [.ref b, .int shift] w (fun v w1 => ∃ q, v = some (.ref q) ∧ w q = none ∧ w1 = va_up w q (some (.inr (1, fI (mkI (if vt then 3 else 2) (f 2) (f 3) (f 4) 0 0 0 0 0 shift (f 0) (f 1)))))) := by
  refine z_ct (by decide) (Nat.le_of_ble_eq_true rfl) ?_
  intro p e s m below meth c ls cx hnm hZ hS hl
  have hx := cx.1
  have hb := cx.2.1
  have hl : lv_has ls 3 [(0, .ref b), (1, .int shift)] := hl
  refine nw_I_10_o cx hZ hS (Nat.le_of_ble_eq_true rfl) (Nat.le_of_ble_eq_true rfl) d_I_ofBox_0 (fun q_1 w_2 H hq_4 hw_3 hZ hS => ?_)
  have hk_5 : w_2 b = some (.inr (4, [.ref li, .ref sw, .int (f 0), .int (f 1), .int (f 2), .int (f 3), .int (f 4)])) := up_ne hw_3 hb0 (z_neN hb0 hq_4)
  have hk_6 : w_2 li = some (.inr (2, [.int (zi vt), .ref al])) := up_ne hw_3 hli (z_neN hli hq_4)
  have hc_7 : w_2 q_1 = some (.inr (1, [.int 0, .int 0, .int 0, .int 0, .int 0, .int 0, .int 0, .int 0, .int 0, .int 0, .int 0, .int 0])) := up_self hw_3
  refine lv_dup hx hb d_I_ofBox_3 rfl ?_
  refine lv_aload_n hx hb d_I_ofBox_4 rfl (lv_at hl 0 rfl) ?_
  refine gf_I_42 cx hZ hk_5 rfl d_I_ofBox_5 ?_
  refine gf_I_48 cx hZ hk_6 rfl d_I_ofBox_8 ?_
  refine lv_if_eq (tgt := 18) hx hb d_I_ofBox_11 (by decide) (fun c11 => ?_) (fun c11 => ?_)
  · refine lv_iconst (v := 2) hx hb d_I_ofBox_18 (by decide) ?_
    refine lv_aload_n hx hb d_I_ofBox_19 rfl (lv_at hl 0 rfl) ?_
    refine gf_I_54 cx hZ hk_5 rfl d_I_ofBox_20 ?_
    refine lv_aload_n hx hb d_I_ofBox_23 rfl (lv_at hl 0 rfl) ?_
    refine gf_I_55 cx hZ hk_5 rfl d_I_ofBox_24 ?_
    refine lv_aload_n hx hb d_I_ofBox_27 rfl (lv_at hl 0 rfl) ?_
    refine gf_I_56 cx hZ hk_5 rfl d_I_ofBox_28 ?_
    refine ip_I_24 (As := [.int 2, .int (f 2), .int (f 3), .int (f 4)]) (rest := [.ref q_1]) cx (c_I_init l G n0 e0 w_2 q_1 2 (f 2) (f 3) (f 4) hc_7) ⟨(Nat.le_of_ble_eq_true rfl), (Nat.le_of_ble_eq_true rfl)⟩ ⟨(Nat.le_of_ble_eq_true rfl), (Nat.le_of_ble_eq_true rfl)⟩ rfl hl.1 rfl (Nat.le_of_ble_eq_true rfl) d_I_ofBox_31 hZ hS (fun v w_8 H locs hp_9 hZ hS => ?_)
    obtain ⟨rfl, hw_10⟩ := hp_9
    have hk_11 : w_8 b = some (.inr (4, [.ref li, .ref sw, .int (f 0), .int (f 1), .int (f 2), .int (f 3), .int (f 4)])) := up_ne hw_10 hk_5 (z_ne hk_5 hc_7 (by simp))
    have hk_12 : w_8 li = some (.inr (2, [.int (zi vt), .ref al])) := up_ne hw_10 hk_6 (z_ne hk_6 hc_7 (by simp))
    have hc_13 : w_8 q_1 = some (.inr (1, [.int 2, .int (f 2), .int (f 3), .int (f 4), .int 0, .int 0, .int 0, .int 0, .int 0, .int 0, .int 0, .int 0])) := up_self hw_10
    refine W.eq (g2 := F0 m 34 ls [.ref q_1]) rfl ?_
    refine lv_astore_n (lv' := [(2, .ref q_1), (0, .ref b), (1, .int shift)]) hx hb d_I_ofBox_34 rfl hl (by decide) rfl (fun ls hl => ?_)
    refine lv_aload_n hx hb d_I_ofBox_35 rfl (lv_at hl 0 rfl) ?_
    refine lv_iload_n hx hb d_I_ofBox_36 rfl (lv_at hl 2 rfl) ?_
    refine pf_I_57 cx hZ hS hc_13 (Nat.le_of_ble_eq_true rfl) d_I_ofBox_37 (fun w_14 H locs hw_15 hZ hS => ?_)
    have hk_16 : w_14 b = some (.inr (4, [.ref li, .ref sw, .int (f 0), .int (f 1), .int (f 2), .int (f 3), .int (f 4)])) := up_ne hw_15 hk_11 (z_ne hk_11 hc_13 (by simp))
    have hk_17 : w_14 li = some (.inr (2, [.int (zi vt), .ref al])) := up_ne hw_15 hk_12 (z_ne hk_12 hc_13 (by simp))
    have hc_18 : w_14 q_1 = some (.inr (1, [.int 2, .int (f 2), .int (f 3), .int (f 4), .int 0, .int 0, .int 0, .int 0, .int 0, .int shift, .int 0, .int 0])) := up_self hw_15
    refine lv_aload_n hx hb d_I_ofBox_40 rfl (lv_at hl 0 rfl) ?_
    refine lv_aload_n hx hb d_I_ofBox_41 rfl (lv_at hl 1 rfl) ?_
    refine gf_I_60 cx hZ hk_16 rfl d_I_ofBox_42 ?_
    refine pf_I_63 cx hZ hS hc_18 (Nat.le_of_ble_eq_true rfl) d_I_ofBox_45 (fun w_19 H locs hw_20 hZ hS => ?_)
    have hk_21 : w_19 b = some (.inr (4, [.ref li, .ref sw, .int (f 0), .int (f 1), .int (f 2), .int (f 3), .int (f 4)])) := up_ne hw_20 hk_16 (z_ne hk_16 hc_18 (by simp))
    have hk_22 : w_19 li = some (.inr (2, [.int (zi vt), .ref al])) := up_ne hw_20 hk_17 (z_ne hk_17 hc_18 (by simp))
    have hc_23 : w_19 q_1 = some (.inr (1, [.int 2, .int (f 2), .int (f 3), .int (f 4), .int 0, .int 0, .int 0, .int 0, .int 0, .int shift, .int (f 0), .int 0])) := up_self hw_20
    refine lv_aload_n hx hb d_I_ofBox_48 rfl (lv_at hl 0 rfl) ?_
    refine lv_aload_n hx hb d_I_ofBox_49 rfl (lv_at hl 1 rfl) ?_
    refine gf_I_64 cx hZ hk_21 rfl d_I_ofBox_50 ?_
    refine pf_I_67 cx hZ hS hc_23 (Nat.le_of_ble_eq_true rfl) d_I_ofBox_53 (fun w_24 H locs hw_25 hZ hS => ?_)
    have hk_26 : w_24 b = some (.inr (4, [.ref li, .ref sw, .int (f 0), .int (f 1), .int (f 2), .int (f 3), .int (f 4)])) := up_ne hw_25 hk_21 (z_ne hk_21 hc_23 (by simp))
    have hk_27 : w_24 li = some (.inr (2, [.int (zi vt), .ref al])) := up_ne hw_25 hk_22 (z_ne hk_22 hc_23 (by simp))
    have hc_28 : w_24 q_1 = some (.inr (1, [.int 2, .int (f 2), .int (f 3), .int (f 4), .int 0, .int 0, .int 0, .int 0, .int 0, .int shift, .int (f 0), .int (f 1)])) := up_self hw_25
    refine lv_aload_n hx hb d_I_ofBox_56 rfl (lv_at hl 0 rfl) ?_
    exact z_aret cx.1 cx.2.1 cx.rt cx.lk (by first | exact Or.inl ⟨_, rfl⟩ | exact Or.inr ⟨_, rfl⟩) (by first | exact Or.inl rfl | exact Or.inr ⟨_, rfl⟩) hS hZ ⟨(Nat.le_of_ble_eq_true rfl), (Nat.le_of_ble_eq_true rfl)⟩ d_I_ofBox_57 (⟨q_1, rfl, hq_4, by have ev := (zi_0 vt).mp c11; subst ev; rw [hw_25, hw_20, hw_15, hw_10, hw_3]; simp only [bx_uu]; rfl⟩)
  · refine lv_iconst (v := 3) hx hb d_I_ofBox_14 (by decide) ?_
    refine lv_goto (tgt := 19) hx hb d_I_ofBox_15 (by decide) ?_
    refine lv_aload_n hx hb d_I_ofBox_19 rfl (lv_at hl 0 rfl) ?_
    refine gf_I_54 cx hZ hk_5 rfl d_I_ofBox_20 ?_
    refine lv_aload_n hx hb d_I_ofBox_23 rfl (lv_at hl 0 rfl) ?_
    refine gf_I_55 cx hZ hk_5 rfl d_I_ofBox_24 ?_
    refine lv_aload_n hx hb d_I_ofBox_27 rfl (lv_at hl 0 rfl) ?_
    refine gf_I_56 cx hZ hk_5 rfl d_I_ofBox_28 ?_
    refine ip_I_24 (As := [.int 3, .int (f 2), .int (f 3), .int (f 4)]) (rest := [.ref q_1]) cx (c_I_init l G n0 e0 w_2 q_1 3 (f 2) (f 3) (f 4) hc_7) ⟨(Nat.le_of_ble_eq_true rfl), (Nat.le_of_ble_eq_true rfl)⟩ ⟨(Nat.le_of_ble_eq_true rfl), (Nat.le_of_ble_eq_true rfl)⟩ rfl hl.1 rfl (Nat.le_of_ble_eq_true rfl) d_I_ofBox_31 hZ hS (fun v w_29 H locs hp_30 hZ hS => ?_)
    obtain ⟨rfl, hw_31⟩ := hp_30
    have hk_32 : w_29 b = some (.inr (4, [.ref li, .ref sw, .int (f 0), .int (f 1), .int (f 2), .int (f 3), .int (f 4)])) := up_ne hw_31 hk_5 (z_ne hk_5 hc_7 (by simp))
    have hk_33 : w_29 li = some (.inr (2, [.int (zi vt), .ref al])) := up_ne hw_31 hk_6 (z_ne hk_6 hc_7 (by simp))
    have hc_34 : w_29 q_1 = some (.inr (1, [.int 3, .int (f 2), .int (f 3), .int (f 4), .int 0, .int 0, .int 0, .int 0, .int 0, .int 0, .int 0, .int 0])) := up_self hw_31
    refine W.eq (g2 := F0 m 34 ls [.ref q_1]) rfl ?_
    refine lv_astore_n (lv' := [(2, .ref q_1), (0, .ref b), (1, .int shift)]) hx hb d_I_ofBox_34 rfl hl (by decide) rfl (fun ls hl => ?_)
    refine lv_aload_n hx hb d_I_ofBox_35 rfl (lv_at hl 0 rfl) ?_
    refine lv_iload_n hx hb d_I_ofBox_36 rfl (lv_at hl 2 rfl) ?_
    refine pf_I_57 cx hZ hS hc_34 (Nat.le_of_ble_eq_true rfl) d_I_ofBox_37 (fun w_35 H locs hw_36 hZ hS => ?_)
    have hk_37 : w_35 b = some (.inr (4, [.ref li, .ref sw, .int (f 0), .int (f 1), .int (f 2), .int (f 3), .int (f 4)])) := up_ne hw_36 hk_32 (z_ne hk_32 hc_34 (by simp))
    have hk_38 : w_35 li = some (.inr (2, [.int (zi vt), .ref al])) := up_ne hw_36 hk_33 (z_ne hk_33 hc_34 (by simp))
    have hc_39 : w_35 q_1 = some (.inr (1, [.int 3, .int (f 2), .int (f 3), .int (f 4), .int 0, .int 0, .int 0, .int 0, .int 0, .int shift, .int 0, .int 0])) := up_self hw_36
    refine lv_aload_n hx hb d_I_ofBox_40 rfl (lv_at hl 0 rfl) ?_
    refine lv_aload_n hx hb d_I_ofBox_41 rfl (lv_at hl 1 rfl) ?_
    refine gf_I_60 cx hZ hk_37 rfl d_I_ofBox_42 ?_
    refine pf_I_63 cx hZ hS hc_39 (Nat.le_of_ble_eq_true rfl) d_I_ofBox_45 (fun w_40 H locs hw_41 hZ hS => ?_)
    have hk_42 : w_40 b = some (.inr (4, [.ref li, .ref sw, .int (f 0), .int (f 1), .int (f 2), .int (f 3), .int (f 4)])) := up_ne hw_41 hk_37 (z_ne hk_37 hc_39 (by simp))
    have hk_43 : w_40 li = some (.inr (2, [.int (zi vt), .ref al])) := up_ne hw_41 hk_38 (z_ne hk_38 hc_39 (by simp))
    have hc_44 : w_40 q_1 = some (.inr (1, [.int 3, .int (f 2), .int (f 3), .int (f 4), .int 0, .int 0, .int 0, .int 0, .int 0, .int shift, .int (f 0), .int 0])) := up_self hw_41
    refine lv_aload_n hx hb d_I_ofBox_48 rfl (lv_at hl 0 rfl) ?_
    refine lv_aload_n hx hb d_I_ofBox_49 rfl (lv_at hl 1 rfl) ?_
    refine gf_I_64 cx hZ hk_42 rfl d_I_ofBox_50 ?_
    refine pf_I_67 cx hZ hS hc_44 (Nat.le_of_ble_eq_true rfl) d_I_ofBox_53 (fun w_45 H locs hw_46 hZ hS => ?_)
    have hk_47 : w_45 b = some (.inr (4, [.ref li, .ref sw, .int (f 0), .int (f 1), .int (f 2), .int (f 3), .int (f 4)])) := up_ne hw_46 hk_42 (z_ne hk_42 hc_44 (by simp))
    have hk_48 : w_45 li = some (.inr (2, [.int (zi vt), .ref al])) := up_ne hw_46 hk_43 (z_ne hk_43 hc_44 (by simp))
    have hc_49 : w_45 q_1 = some (.inr (1, [.int 3, .int (f 2), .int (f 3), .int (f 4), .int 0, .int 0, .int 0, .int 0, .int 0, .int shift, .int (f 0), .int (f 1)])) := up_self hw_46
    refine lv_aload_n hx hb d_I_ofBox_56 rfl (lv_at hl 0 rfl) ?_
    exact z_aret cx.1 cx.2.1 cx.rt cx.lk (by first | exact Or.inl ⟨_, rfl⟩ | exact Or.inr ⟨_, rfl⟩) (by first | exact Or.inl rfl | exact Or.inr ⟨_, rfl⟩) hS hZ ⟨(Nat.le_of_ble_eq_true rfl), (Nat.le_of_ble_eq_true rfl)⟩ d_I_ofBox_57 (⟨q_1, rfl, hq_4, by have ev := (zi_n0 vt).mp c11; subst ev; rw [hw_46, hw_41, hw_36, hw_31, hw_3]; simp only [bx_uu]; rfl⟩)
