set_option maxHeartbeats 4000000 in
set_option maxRecDepth 100000 in
theorem c_character (l : Launch) (G : zG) (n0 e0 : Nat) (w : zw) (d la ra k tot il al ar cap : Nat) (V : LV) (fl : Nat → Option Nat) (hd : w d = some (.inr (5, [.ref la, .int (nI (k + 1)), .ref ra, .int (nI tot)]))) (hla : w la = some (.inl (G.2 4, 100, .inr (.inr (.inr (.inr fl)))))) (hk : k < 100) (hil : fl k = some il) (hL : LL G e0 w (il, al, ar, cap) V) (hn : V.2.1 ≤ 20000) (ht : tot < 10000) (x y z : Int32) : Ct l G n0 e0 y_D_character b_D_character 5 (Option.some FieldType.boolean) (rmA cap) [.ref d, .int x, .int y, .int z] w (fun v w1 => ∃ r, v = some (.int r) ∧ AddP G e0 d la ra (k + 1) tot il al ar V (!V.1 && (szI x && szI y && szI z)) (mkI 1 x y z 0 0 0 0 0 0 0 0) r w w1) := by
  refine z_ct (by decide) (Nat.le_of_ble_eq_true rfl) ?_
  intro p e s m below meth c ls cx hnm hZ hS hl
  have hx := cx.1
  have hb := cx.2.1
  have hl : lv_has ls 5 [(0, .ref d), (1, .int x), (2, .int y), (3, .int z)] := hl
  have hF : Fr [] w w := Fr.rf
  refine lv_aload_n hx hb d_D_character_0 rfl (lv_at hl 0 rfl) ?_
  refine iv_D_28 (As := []) (rest := []) cx (c_innermost_1 l G n0 e0 w d la ra k tot fl (fun _ => none) hd hla hk il hil) hd ⟨(Nat.le_of_ble_eq_true rfl), (Nat.le_of_ble_eq_true rfl)⟩ ⟨(by dsimp only [rmA, rmJ]; omega), (by dsimp only [rmA, rmJ]; omega)⟩ rfl hl.1 rfl (Nat.le_of_ble_eq_true rfl) d_D_character_1 hZ hS (fun v w_1 H locs hp_2 hZ hS => ?_)
  obtain ⟨rfl, hq⟩ := hp_2
  subst w_1
  refine W.eq (g2 := F0 m 4 ls [.ref il]) rfl ?_
  refine lv_astore (lv' := [(4, .ref il), (0, .ref d), (1, .int x), (2, .int y), (3, .int z)]) hx hb d_D_character_4 hl (by decide) rfl (fun ls hl => ?_)
  refine lv_aload hx hb d_D_character_6 (lv_at hl 0 rfl) ?_
  refine lv_ifnull hx hb d_D_character_8 ?_
  refine lv_aload hx hb d_D_character_11 (lv_at hl 0 rfl) ?_
  refine gf_D_32 cx hZ hL.1 rfl d_D_character_13 ?_
  refine lv_if_ne (tgt := 28) hx hb d_D_character_16 (by decide) (fun c16 => ?_) (fun c16 => ?_)
  · refine lv_iconst (v := 0) hx hb d_D_character_28 (by decide) ?_
    exact z_zret cx.1 cx.2.1 cx.rt cx.lk (by first | rfl | (simp [narrow]; done) | simp_all [narrow]) hS hZ ⟨(by dsimp only [rmA, rmJ]; omega), (by dsimp only [rmA, rmJ]; omega)⟩ d_D_character_29 (⟨0, rfl, AddP.no hF (by have h := (zi_n0 _).mp c16; simp [h])⟩)
  · refine lv_iload_n hx hb d_D_character_19 rfl (lv_at hl 2 rfl) ?_
    refine lv_iload_n hx hb d_D_character_20 rfl (lv_at hl 3 rfl) ?_
    refine lv_iload_n hx hb d_D_character_21 rfl (lv_at hl 4 rfl) ?_
    refine is_D_36 (As := [.int x, .int y, .int z]) (rest := []) cx (c_areSizes l G n0 e0 x y z w) ⟨(Nat.le_of_ble_eq_true rfl), (Nat.le_of_ble_eq_true rfl)⟩ ⟨(by dsimp only [rmA, rmJ]; omega), (by dsimp only [rmA, rmJ]; omega)⟩ rfl hl.1 rfl (Nat.le_of_ble_eq_true rfl) d_D_character_22 hZ hS (fun v w_3 H locs hp_4 hZ hS => ?_)
    obtain ⟨rfl, hq⟩ := hp_4
    subst w_3
    refine W.eq (g2 := F0 m 25 ls [.int (zi (szI x && szI y && szI z))]) rfl ?_
    refine lv_if_ne (tgt := 30) hx hb d_D_character_25 (by decide) (fun c25 => ?_) (fun c25 => ?_)
    · refine lv_aload_n hx hb d_D_character_30 rfl (lv_at hl 1 rfl) ?_
      refine lv_aload hx hb d_D_character_31 (lv_at hl 0 rfl) ?_
      refine nw_D_40_o cx hZ hS (by dsimp only [rmA, rmJ]; omega) (by dsimp only [rmA, rmJ]; omega) d_D_character_33 (fun q_5 w_6 H hq_8 hw_7 hZ hS => ?_)
      have hk_9 : w_6 d = some (.inr (5, [.ref la, .int (nI (k + 1)), .ref ra, .int (nI tot)])) := up_ne hw_7 hd (z_neN hd hq_8)
      have hk_10 : w_6 il = some (.inr (2, [.int (zi V.1), .ref al])) := up_ne hw_7 hL.1 (z_neN hL.1 hq_8)
      have hk_11 : w_6 la = some (.inl (G.2 4, 100, .inr (.inr (.inr (.inr fl))))) := up_ne hw_7 hla (z_neN hla hq_8)
      have hn_12 := hF.2 _ hq_8
      have hF := hF.put hw_7 (Or.inr hn_12)
      have hc_13 : w_6 q_5 = some (.inr (1, [.int 0, .int 0, .int 0, .int 0, .int 0, .int 0, .int 0, .int 0, .int 0, .int 0, .int 0, .int 0])) := up_self hw_7
      refine lv_dup hx hb d_D_character_36 rfl ?_
      refine lv_iconst (v := 1) hx hb d_D_character_37 (by decide) ?_
      refine lv_iload_n hx hb d_D_character_38 rfl (lv_at hl 2 rfl) ?_
      refine lv_iload_n hx hb d_D_character_39 rfl (lv_at hl 3 rfl) ?_
      refine lv_iload_n hx hb d_D_character_40 rfl (lv_at hl 4 rfl) ?_
      refine ip_D_42 (As := [.int 1, .int x, .int y, .int z]) (rest := [.ref q_5, .ref il, .ref d]) cx (c_I_init l G n0 e0 w_6 q_5 1 x y z hc_13) ⟨(Nat.le_of_ble_eq_true rfl), (Nat.le_of_ble_eq_true rfl)⟩ ⟨(by dsimp only [rmA, rmJ]; omega), (by dsimp only [rmA, rmJ]; omega)⟩ rfl hl.1 rfl (Nat.le_of_ble_eq_true rfl) d_D_character_41 hZ hS (fun v w_14 H locs hp_15 hZ hS => ?_)
      obtain ⟨rfl, hw_16⟩ := hp_15
      have hk_17 : w_14 d = some (.inr (5, [.ref la, .int (nI (k + 1)), .ref ra, .int (nI tot)])) := up_ne hw_16 hk_9 (z_neN hd hn_12)
      have hk_18 : w_14 il = some (.inr (2, [.int (zi V.1), .ref al])) := up_ne hw_16 hk_10 (z_neN hL.1 hn_12)
      have hk_19 : w_14 la = some (.inl (G.2 4, 100, .inr (.inr (.inr (.inr fl))))) := up_ne hw_16 hk_11 ((z_neN hla hn_12))
      have hF := hF.put hw_16 (Or.inr hn_12)
      have hc_20 : w_14 q_5 = some (.inr (1, [.int 1, .int x, .int y, .int z, .int 0, .int 0, .int 0, .int 0, .int 0, .int 0, .int 0, .int 0])) := up_self hw_16
      refine W.eq (g2 := F0 m 44 ls [.ref q_5, .ref il, .ref d]) rfl ?_
      have hF0_21 := hF
      refine iv_D_45 (As := [.ref il, .ref q_5]) (rest := []) cx (c_joinU l G n0 e0 w_14 d la ra (k + 1) tot il al ar cap V q_5 (mkI 1 x y z 0 0 0 0 0 0 0 0) hk_17 (hL.keep hF (by simp) (by simp) (Or.inl (by simp)) (by simp)) hc_20 hn ht) hk_17 ⟨(Nat.le_of_ble_eq_true rfl), (Nat.le_of_ble_eq_true rfl)⟩ ⟨(by dsimp only [rmA, rmJ]; omega), (by dsimp only [rmA, rmJ]; omega)⟩ rfl hl.1 rfl (Nat.le_of_ble_eq_true rfl) d_D_character_44 hZ hS (fun v w_22 H locs hp_23 hZ hS => ?_)
      obtain ⟨r, rfl, hj⟩ := hp_23
      refine W.eq (g2 := F0 m 47 ls [.int r]) rfl ?_
      exact z_zret cx.1 cx.2.1 cx.rt cx.lk (hj.nar) hS hZ ⟨(by dsimp only [rmA, rmJ]; omega), (by dsimp only [rmA, rmJ]; omega)⟩ d_D_character_47 (⟨r, rfl, AddP.of hF0_21 hj (by have h1 := (zi_0 _).mp c16; have h2 := (zi_n0 _).mp c25; simp only [h1, h2, Bool.not_false, Bool.and_self])⟩)
    · refine lv_iconst (v := 0) hx hb d_D_character_28 (by decide) ?_
      exact z_zret cx.1 cx.2.1 cx.rt cx.lk (by first | rfl | (simp [narrow]; done) | simp_all [narrow]) hS hZ ⟨(by dsimp only [rmA, rmJ]; omega), (by dsimp only [rmA, rmJ]; omega)⟩ d_D_character_29 (⟨0, rfl, AddP.no hF (by have h := (zi_0 _).mp c25; simp only [h, Bool.and_false])⟩)
set_option maxHeartbeats 4000000 in
set_option maxRecDepth 100000 in
theorem c_character_0 (l : Launch) (G : zG) (n0 e0 : Nat) (w : zw) (d la ra tot : Nat) (hd : w d = some (.inr (5, [.ref la, .int (nI 0), .ref ra, .int (nI tot)]))) (x y z : Int32) : Ct l G n0 e0 y_D_character b_D_character 5 (Option.some FieldType.boolean) (rmA 0) [.ref d, .int x, .int y, .int z] w (fun v w1 => v = some (.int 0) ∧ w1 = w) := by
  refine z_ct (by decide) (Nat.le_of_ble_eq_true rfl) ?_
  intro p e s m below meth c ls cx hnm hZ hS hl
  have hx := cx.1
  have hb := cx.2.1
  have hl : lv_has ls 5 [(0, .ref d), (1, .int x), (2, .int y), (3, .int z)] := hl
  refine lv_aload_n hx hb d_D_character_0 rfl (lv_at hl 0 rfl) ?_
  refine iv_D_28 (As := []) (rest := []) cx (c_innermost_0 l G n0 e0 w d la ra 0 tot (fun _ => none) (fun _ => none) hd rfl) hd ⟨(Nat.le_of_ble_eq_true rfl), (Nat.le_of_ble_eq_true rfl)⟩ ⟨(by dsimp only [rmA]; omega), (by dsimp only [rmA]; omega)⟩ rfl hl.1 rfl (Nat.le_of_ble_eq_true rfl) d_D_character_1 hZ hS (fun v w_1 H locs hp_2 hZ hS => ?_)
  obtain ⟨rfl, hq⟩ := hp_2
  subst w_1
  refine W.eq (g2 := F0 m 4 ls [.null]) rfl ?_
  refine lv_astoreN (lv' := [(4, .null), (0, .ref d), (1, .int x), (2, .int y), (3, .int z)]) hx hb d_D_character_4 hl (by decide) rfl (fun ls hl => ?_)
  refine lv_aloadN hx hb d_D_character_6 (lv_at hl 0 rfl) ?_
  refine lv_ifnullN (tgt := 28) hx hb d_D_character_8 (by decide) ?_
  refine lv_iconst (v := 0) hx hb d_D_character_28 (by decide) ?_
  exact z_zret cx.1 cx.2.1 cx.rt cx.lk (by first | rfl | (simp [narrow]; done) | simp_all [narrow]) hS hZ ⟨(by dsimp only [rmA]; omega), (by dsimp only [rmA]; omega)⟩ d_D_character_29 (⟨rfl, rfl⟩)
set_option maxHeartbeats 4000000 in
set_option maxRecDepth 100000 in
theorem c_rule (l : Launch) (G : zG) (n0 e0 : Nat) (w : zw) (d la ra k tot il al ar cap : Nat) (V : LV) (fl : Nat → Option Nat) (hd : w d = some (.inr (5, [.ref la, .int (nI (k + 1)), .ref ra, .int (nI tot)]))) (hla : w la = some (.inl (G.2 4, 100, .inr (.inr (.inr (.inr fl)))))) (hk : k < 100) (hil : fl k = some il) (hL : LL G e0 w (il, al, ar, cap) V) (hn : V.2.1 ≤ 20000) (ht : tot < 10000) (x y z rn : Int32) : Ct l G n0 e0 y_D_rule b_D_rule 7 (Option.some FieldType.boolean) (rmA cap) [.ref d, .int x, .int y, .int z, .int rn] w (fun v w1 => ∃ r, v = some (.int r) ∧ AddP G e0 d la ra (k + 1) tot il al ar V ((szI x && szI y && szI z) && decide (rn &&& ((if V.1 = true then 1 else 6) ^^^ (-1)) = 0)) (mkI 4 x y z rn 0 0 0 0 0 0 0) r w w1) := by
  refine z_ct (by decide) (Nat.le_of_ble_eq_true rfl) ?_
  intro p e s m below meth c ls cx hnm hZ hS hl
  have hx := cx.1
  have hb := cx.2.1
  have hl : lv_has ls 7 [(0, .ref d), (1, .int x), (2, .int y), (3, .int z), (4, .int rn)] := hl
  have hF : Fr [] w w := Fr.rf
  refine lv_aload_n hx hb d_D_rule_0 rfl (lv_at hl 0 rfl) ?_
  refine iv_D_28 (As := []) (rest := []) cx (c_innermost_1 l G n0 e0 w d la ra k tot fl (fun _ => none) hd hla hk il hil) hd ⟨(Nat.le_of_ble_eq_true rfl), (Nat.le_of_ble_eq_true rfl)⟩ ⟨(by dsimp only [rmA, rmJ]; omega), (by dsimp only [rmA, rmJ]; omega)⟩ rfl hl.1 rfl (Nat.le_of_ble_eq_true rfl) d_D_rule_1 hZ hS (fun v w_1 H locs hp_2 hZ hS => ?_)
  obtain ⟨rfl, hq⟩ := hp_2
  subst w_1
  refine W.eq (g2 := F0 m 4 ls [.ref il]) rfl ?_
  refine lv_astore (lv' := [(5, .ref il), (0, .ref d), (1, .int x), (2, .int y), (3, .int z), (4, .int rn)]) hx hb d_D_rule_4 hl (by decide) rfl (fun ls hl => ?_)
  refine lv_aload hx hb d_D_rule_6 (lv_at hl 0 rfl) ?_
  refine lv_ifnull hx hb d_D_rule_8 ?_
  refine lv_iload_n hx hb d_D_rule_11 rfl (lv_at hl 2 rfl) ?_
  refine lv_iload_n hx hb d_D_rule_12 rfl (lv_at hl 3 rfl) ?_
  refine lv_iload_n hx hb d_D_rule_13 rfl (lv_at hl 4 rfl) ?_
  refine is_D_36 (As := [.int x, .int y, .int z]) (rest := []) cx (c_areSizes l G n0 e0 x y z w) ⟨(Nat.le_of_ble_eq_true rfl), (Nat.le_of_ble_eq_true rfl)⟩ ⟨(by dsimp only [rmA, rmJ]; omega), (by dsimp only [rmA, rmJ]; omega)⟩ rfl hl.1 rfl (Nat.le_of_ble_eq_true rfl) d_D_rule_14 hZ hS (fun v w_3 H locs hp_4 hZ hS => ?_)
  obtain ⟨rfl, hq⟩ := hp_4
  subst w_3
  refine W.eq (g2 := F0 m 17 ls [.int (zi (szI x && szI y && szI z))]) rfl ?_
  refine lv_if_ne (tgt := 22) hx hb d_D_rule_17 (by decide) (fun c17 => ?_) (fun c17 => ?_)
  · refine lv_aload hx hb d_D_rule_22 (lv_at hl 0 rfl) ?_
    refine gf_D_32 cx hZ hL.1 rfl d_D_rule_24 ?_
    refine lv_if_eq (tgt := 34) hx hb d_D_rule_27 (by decide) (fun c27 => ?_) (fun c27 => ?_)
    · refine lv_bipush (v := 6) hx hb d_D_rule_34 (by decide) ?_
      refine lv_istore (lv' := [(6, .int 6), (5, .ref il), (0, .ref d), (1, .int x), (2, .int y), (3, .int z), (4, .int rn)]) hx hb d_D_rule_36 hl (by decide) rfl (fun ls hl => ?_)
      refine lv_iload hx hb d_D_rule_38 (lv_at hl 6 rfl) ?_
      refine lv_iload hx hb d_D_rule_40 (lv_at hl 0 rfl) ?_
      refine lv_iconst (v := -1) hx hb d_D_rule_42 (by decide) ?_
      refine lv_ixor hx hb d_D_rule_43 ?_
      refine lv_iand hx hb d_D_rule_44 ?_
      refine lv_if_eq (tgt := 50) hx hb d_D_rule_45 (by decide) (fun c45 => ?_) (fun c45 => ?_)
      · refine lv_aload_n hx hb d_D_rule_50 rfl (lv_at hl 2 rfl) ?_
        refine lv_aload hx hb d_D_rule_51 (lv_at hl 1 rfl) ?_
        refine lv_iload_n hx hb d_D_rule_53 rfl (lv_at hl 3 rfl) ?_
        refine lv_iload_n hx hb d_D_rule_54 rfl (lv_at hl 4 rfl) ?_
        refine lv_iload_n hx hb d_D_rule_55 rfl (lv_at hl 5 rfl) ?_
        refine lv_iload hx hb d_D_rule_56 (lv_at hl 6 rfl) ?_
        refine is_D_49 (As := [.int x, .int y, .int z, .int rn]) (rest := [.ref il, .ref d]) cx (c_ofRule l G n0 e0 w x y z rn) ⟨(Nat.le_of_ble_eq_true rfl), (Nat.le_of_ble_eq_true rfl)⟩ ⟨(by dsimp only [rmA, rmJ]; omega), (by dsimp only [rmA, rmJ]; omega)⟩ rfl hl.1 rfl (Nat.le_of_ble_eq_true rfl) d_D_rule_58 hZ hS (fun v w_6 H locs hp_7 hZ hS => ?_)
        obtain ⟨q_5, rfl, hq_8, hw_9⟩ := hp_7
        have hk_10 : w_6 d = some (.inr (5, [.ref la, .int (nI (k + 1)), .ref ra, .int (nI tot)])) := up_ne hw_9 hd (z_neN hd hq_8)
        have hk_11 : w_6 il = some (.inr (2, [.int (zi V.1), .ref al])) := up_ne hw_9 hL.1 (z_neN hL.1 hq_8)
        have hk_12 : w_6 la = some (.inl (G.2 4, 100, .inr (.inr (.inr (.inr fl))))) := up_ne hw_9 hla (z_neN hla hq_8)
        have hn_13 := hF.2 _ hq_8
        have hF := hF.put hw_9 (Or.inr hn_13)
        have hc_14 : w_6 q_5 = some (.inr (1, [.int 4, .int x, .int y, .int z, .int rn, .int 0, .int 0, .int 0, .int 0, .int 0, .int 0, .int 0])) := up_self hw_9
        refine W.eq (g2 := F0 m 61 ls [.ref q_5, .ref il, .ref d]) rfl ?_
        have hF0_15 := hF
        refine iv_D_45 (As := [.ref il, .ref q_5]) (rest := []) cx (c_joinU l G n0 e0 w_6 d la ra (k + 1) tot il al ar cap V q_5 (mkI 4 x y z rn 0 0 0 0 0 0 0) hk_10 (hL.keep hF (by simp) (by simp) (Or.inl (by simp)) (by simp)) hc_14 hn ht) hk_10 ⟨(Nat.le_of_ble_eq_true rfl), (Nat.le_of_ble_eq_true rfl)⟩ ⟨(by dsimp only [rmA, rmJ]; omega), (by dsimp only [rmA, rmJ]; omega)⟩ rfl hl.1 rfl (Nat.le_of_ble_eq_true rfl) d_D_rule_61 hZ hS (fun v w_16 H locs hp_17 hZ hS => ?_)
        obtain ⟨r, rfl, hj⟩ := hp_17
        refine W.eq (g2 := F0 m 64 ls [.int r]) rfl ?_
        exact z_zret cx.1 cx.2.1 cx.rt cx.lk (hj.nar) hS hZ ⟨(by dsimp only [rmA, rmJ]; omega), (by dsimp only [rmA, rmJ]; omega)⟩ d_D_rule_64 (⟨r, rfl, AddP.of hF0_15 hj (by have h2 := (zi_n0 _).mp c17; first | (have hv := (zi_0 _).mp c27; simp only [h2, hv, Bool.true_and, decide_eq_true_eq]; exact c45) | (have hv := (zi_n0 _).mp c27; simp only [h2, hv, Bool.true_and, decide_eq_true_eq]; exact c45))⟩)
      · refine lv_iconst (v := 0) hx hb d_D_rule_48 (by decide) ?_
        exact z_zret cx.1 cx.2.1 cx.rt cx.lk (by first | rfl | (simp [narrow]; done) | simp_all [narrow]) hS hZ ⟨(by dsimp only [rmA, rmJ]; omega), (by dsimp only [rmA, rmJ]; omega)⟩ d_D_rule_49 (⟨0, rfl, AddP.no hF (by have hv := (zi_0 _).mp c27; simp only [hv]; simp only [Bool.and_eq_false_iff, decide_eq_false_iff_not]; exact Or.inr c45)⟩)
    · refine lv_iconst (v := 1) hx hb d_D_rule_30 (by decide) ?_
      refine lv_goto (tgt := 36) hx hb d_D_rule_31 (by decide) ?_
      refine lv_istore (lv' := [(6, .int 1), (5, .ref il), (0, .ref d), (1, .int x), (2, .int y), (3, .int z), (4, .int rn)]) hx hb d_D_rule_36 hl (by decide) rfl (fun ls hl => ?_)
      refine lv_iload hx hb d_D_rule_38 (lv_at hl 6 rfl) ?_
      refine lv_iload hx hb d_D_rule_40 (lv_at hl 0 rfl) ?_
      refine lv_iconst (v := -1) hx hb d_D_rule_42 (by decide) ?_
      refine lv_ixor hx hb d_D_rule_43 ?_
      refine lv_iand hx hb d_D_rule_44 ?_
      refine lv_if_eq (tgt := 50) hx hb d_D_rule_45 (by decide) (fun c45 => ?_) (fun c45 => ?_)
      · refine lv_aload_n hx hb d_D_rule_50 rfl (lv_at hl 2 rfl) ?_
        refine lv_aload hx hb d_D_rule_51 (lv_at hl 1 rfl) ?_
        refine lv_iload_n hx hb d_D_rule_53 rfl (lv_at hl 3 rfl) ?_
        refine lv_iload_n hx hb d_D_rule_54 rfl (lv_at hl 4 rfl) ?_
        refine lv_iload_n hx hb d_D_rule_55 rfl (lv_at hl 5 rfl) ?_
        refine lv_iload hx hb d_D_rule_56 (lv_at hl 6 rfl) ?_
        refine is_D_49 (As := [.int x, .int y, .int z, .int rn]) (rest := [.ref il, .ref d]) cx (c_ofRule l G n0 e0 w x y z rn) ⟨(Nat.le_of_ble_eq_true rfl), (Nat.le_of_ble_eq_true rfl)⟩ ⟨(by dsimp only [rmA, rmJ]; omega), (by dsimp only [rmA, rmJ]; omega)⟩ rfl hl.1 rfl (Nat.le_of_ble_eq_true rfl) d_D_rule_58 hZ hS (fun v w_19 H locs hp_20 hZ hS => ?_)
        obtain ⟨q_18, rfl, hq_21, hw_22⟩ := hp_20
        have hk_23 : w_19 d = some (.inr (5, [.ref la, .int (nI (k + 1)), .ref ra, .int (nI tot)])) := up_ne hw_22 hd (z_neN hd hq_21)
        have hk_24 : w_19 il = some (.inr (2, [.int (zi V.1), .ref al])) := up_ne hw_22 hL.1 (z_neN hL.1 hq_21)
        have hk_25 : w_19 la = some (.inl (G.2 4, 100, .inr (.inr (.inr (.inr fl))))) := up_ne hw_22 hla (z_neN hla hq_21)
        have hn_26 := hF.2 _ hq_21
        have hF := hF.put hw_22 (Or.inr hn_26)
        have hc_27 : w_19 q_18 = some (.inr (1, [.int 4, .int x, .int y, .int z, .int rn, .int 0, .int 0, .int 0, .int 0, .int 0, .int 0, .int 0])) := up_self hw_22
        refine W.eq (g2 := F0 m 61 ls [.ref q_18, .ref il, .ref d]) rfl ?_
        have hF0_28 := hF
        refine iv_D_45 (As := [.ref il, .ref q_18]) (rest := []) cx (c_joinU l G n0 e0 w_19 d la ra (k + 1) tot il al ar cap V q_18 (mkI 4 x y z rn 0 0 0 0 0 0 0) hk_23 (hL.keep hF (by simp) (by simp) (Or.inl (by simp)) (by simp)) hc_27 hn ht) hk_23 ⟨(Nat.le_of_ble_eq_true rfl), (Nat.le_of_ble_eq_true rfl)⟩ ⟨(by dsimp only [rmA, rmJ]; omega), (by dsimp only [rmA, rmJ]; omega)⟩ rfl hl.1 rfl (Nat.le_of_ble_eq_true rfl) d_D_rule_61 hZ hS (fun v w_29 H locs hp_30 hZ hS => ?_)
        obtain ⟨r, rfl, hj⟩ := hp_30
        refine W.eq (g2 := F0 m 64 ls [.int r]) rfl ?_
        exact z_zret cx.1 cx.2.1 cx.rt cx.lk (hj.nar) hS hZ ⟨(by dsimp only [rmA, rmJ]; omega), (by dsimp only [rmA, rmJ]; omega)⟩ d_D_rule_64 (⟨r, rfl, AddP.of hF0_28 hj (by have h2 := (zi_n0 _).mp c17; first | (have hv := (zi_0 _).mp c27; simp only [h2, hv, Bool.true_and, decide_eq_true_eq]; exact c45) | (have hv := (zi_n0 _).mp c27; simp only [h2, hv, Bool.true_and, decide_eq_true_eq]; exact c45))⟩)
      · refine lv_iconst (v := 0) hx hb d_D_rule_48 (by decide) ?_
        exact z_zret cx.1 cx.2.1 cx.rt cx.lk (by first | rfl | (simp [narrow]; done) | simp_all [narrow]) hS hZ ⟨(by dsimp only [rmA, rmJ]; omega), (by dsimp only [rmA, rmJ]; omega)⟩ d_D_rule_49 (⟨0, rfl, AddP.no hF (by have hv := (zi_n0 _).mp c27; simp only [hv]; simp only [Bool.and_eq_false_iff, decide_eq_false_iff_not]; exact Or.inr c45)⟩)
  · refine lv_iconst (v := 0) hx hb d_D_rule_20 (by decide) ?_
    exact z_zret cx.1 cx.2.1 cx.rt cx.lk (by first | rfl | (simp [narrow]; done) | simp_all [narrow]) hS hZ ⟨(by dsimp only [rmA, rmJ]; omega), (by dsimp only [rmA, rmJ]; omega)⟩ d_D_rule_21 (⟨0, rfl, AddP.no hF (by have h := (zi_0 _).mp c17; simp only [h, Bool.false_and])⟩)
set_option maxHeartbeats 4000000 in
set_option maxRecDepth 100000 in
theorem c_rule_0 (l : Launch) (G : zG) (n0 e0 : Nat) (w : zw) (d la ra tot : Nat) (hd : w d = some (.inr (5, [.ref la, .int (nI 0), .ref ra, .int (nI tot)]))) (x y z rn : Int32) : Ct l G n0 e0 y_D_rule b_D_rule 7 (Option.some FieldType.boolean) (rmA 0) [.ref d, .int x, .int y, .int z, .int rn] w (fun v w1 => v = some (.int 0) ∧ w1 = w) := by
  refine z_ct (by decide) (Nat.le_of_ble_eq_true rfl) ?_
  intro p e s m below meth c ls cx hnm hZ hS hl
  have hx := cx.1
  have hb := cx.2.1
  have hl : lv_has ls 7 [(0, .ref d), (1, .int x), (2, .int y), (3, .int z), (4, .int rn)] := hl
  refine lv_aload_n hx hb d_D_rule_0 rfl (lv_at hl 0 rfl) ?_
  refine iv_D_28 (As := []) (rest := []) cx (c_innermost_0 l G n0 e0 w d la ra 0 tot (fun _ => none) (fun _ => none) hd rfl) hd ⟨(Nat.le_of_ble_eq_true rfl), (Nat.le_of_ble_eq_true rfl)⟩ ⟨(by dsimp only [rmA]; omega), (by dsimp only [rmA]; omega)⟩ rfl hl.1 rfl (Nat.le_of_ble_eq_true rfl) d_D_rule_1 hZ hS (fun v w_1 H locs hp_2 hZ hS => ?_)
  obtain ⟨rfl, hq⟩ := hp_2
  subst w_1
  refine W.eq (g2 := F0 m 4 ls [.null]) rfl ?_
  refine lv_astoreN (lv' := [(5, .null), (0, .ref d), (1, .int x), (2, .int y), (3, .int z), (4, .int rn)]) hx hb d_D_rule_4 hl (by decide) rfl (fun ls hl => ?_)
  refine lv_aloadN hx hb d_D_rule_6 (lv_at hl 0 rfl) ?_
  refine lv_ifnullN (tgt := 20) hx hb d_D_rule_8 (by decide) ?_
  refine lv_iconst (v := 0) hx hb d_D_rule_20 (by decide) ?_
  exact z_zret cx.1 cx.2.1 cx.rt cx.lk (by first | rfl | (simp [narrow]; done) | simp_all [narrow]) hS hZ ⟨(by dsimp only [rmA]; omega), (by dsimp only [rmA]; omega)⟩ d_D_rule_21 (⟨rfl, rfl⟩)
set_option maxHeartbeats 4000000 in
set_option maxRecDepth 100000 in
theorem c_glue (l : Launch) (G : zG) (n0 e0 : Nat) (w : zw) (d la ra k tot il al ar cap : Nat) (V : LV) (fl : Nat → Option Nat) (hd : w d = some (.inr (5, [.ref la, .int (nI (k + 1)), .ref ra, .int (nI tot)]))) (hla : w la = some (.inl (G.2 4, 100, .inr (.inr (.inr (.inr fl)))))) (hk : k < 100) (hil : fl k = some il) (hL : LL G e0 w (il, al, ar, cap) V) (hn : V.2.1 ≤ 20000) (ht : tot < 10000) (x st o sh : Int32) : Ct l G n0 e0 y_D_glue b_D_glue 6 (Option.some FieldType.boolean) (rmA cap) [.ref d, .int x, .int st, .int o, .int sh] w (fun v w1 => ∃ r, v = some (.int r) ∧ AddP G e0 d la ra (k + 1) tot il al ar V ((szI x && szI st && szI sh) && !decide (st < 0) && !decide (sh < 0) && !decide (o < 0) && decide (o < 4)) (mkI 5 x 0 0 0 0 st o sh 0 0 0) r w w1) := by
  refine z_ct (by decide) (Nat.le_of_ble_eq_true rfl) ?_
  intro p e s m below meth c ls cx hnm hZ hS hl
  have hx := cx.1
  have hb := cx.2.1
  have hl : lv_has ls 6 [(0, .ref d), (1, .int x), (2, .int st), (3, .int o), (4, .int sh)] := hl
  have hF : Fr [] w w := Fr.rf
  refine lv_aload_n hx hb d_D_glue_0 rfl (lv_at hl 0 rfl) ?_
  refine iv_D_28 (As := []) (rest := []) cx (c_innermost_1 l G n0 e0 w d la ra k tot fl (fun _ => none) hd hla hk il hil) hd ⟨(Nat.le_of_ble_eq_true rfl), (Nat.le_of_ble_eq_true rfl)⟩ ⟨(by dsimp only [rmA, rmJ]; omega), (by dsimp only [rmA, rmJ]; omega)⟩ rfl hl.1 rfl (Nat.le_of_ble_eq_true rfl) d_D_glue_1 hZ hS (fun v w_1 H locs hp_2 hZ hS => ?_)
  obtain ⟨rfl, hq⟩ := hp_2
  subst w_1
  refine W.eq (g2 := F0 m 4 ls [.ref il]) rfl ?_
  refine lv_astore (lv' := [(5, .ref il), (0, .ref d), (1, .int x), (2, .int st), (3, .int o), (4, .int sh)]) hx hb d_D_glue_4 hl (by decide) rfl (fun ls hl => ?_)
  refine lv_aload hx hb d_D_glue_6 (lv_at hl 0 rfl) ?_
  refine lv_ifnull hx hb d_D_glue_8 ?_
  refine lv_iload_n hx hb d_D_glue_11 rfl (lv_at hl 2 rfl) ?_
  refine lv_iload_n hx hb d_D_glue_12 rfl (lv_at hl 3 rfl) ?_
  refine lv_iload hx hb d_D_glue_13 (lv_at hl 5 rfl) ?_
  refine is_D_36 (As := [.int x, .int st, .int sh]) (rest := []) cx (c_areSizes l G n0 e0 x st sh w) ⟨(Nat.le_of_ble_eq_true rfl), (Nat.le_of_ble_eq_true rfl)⟩ ⟨(by dsimp only [rmA, rmJ]; omega), (by dsimp only [rmA, rmJ]; omega)⟩ rfl hl.1 rfl (Nat.le_of_ble_eq_true rfl) d_D_glue_15 hZ hS (fun v w_3 H locs hp_4 hZ hS => ?_)
  obtain ⟨rfl, hq⟩ := hp_4
  subst w_3
  refine W.eq (g2 := F0 m 18 ls [.int (zi (szI x && szI st && szI sh))]) rfl ?_
  refine lv_if_ne (tgt := 23) hx hb d_D_glue_18 (by decide) (fun c18 => ?_) (fun c18 => ?_)
  · refine lv_iload_n hx hb d_D_glue_23 rfl (lv_at hl 3 rfl) ?_
    refine lv_if_lt (tgt := 41) hx hb d_D_glue_24 (by decide) (fun c24 => ?_) (fun c24 => ?_)
    · refine lv_iconst (v := 0) hx hb d_D_glue_41 (by decide) ?_
      exact z_zret cx.1 cx.2.1 cx.rt cx.lk (by first | rfl | (simp [narrow]; done) | simp_all [narrow]) hS hZ ⟨(by dsimp only [rmA, rmJ]; omega), (by dsimp only [rmA, rmJ]; omega)⟩ d_D_glue_42 (⟨0, rfl, AddP.no hF (by simp [c24])⟩)
    · refine lv_iload hx hb d_D_glue_27 (lv_at hl 5 rfl) ?_
      refine lv_if_lt (tgt := 41) hx hb d_D_glue_29 (by decide) (fun c29 => ?_) (fun c29 => ?_)
      · refine lv_iconst (v := 0) hx hb d_D_glue_41 (by decide) ?_
        exact z_zret cx.1 cx.2.1 cx.rt cx.lk (by first | rfl | (simp [narrow]; done) | simp_all [narrow]) hS hZ ⟨(by dsimp only [rmA, rmJ]; omega), (by dsimp only [rmA, rmJ]; omega)⟩ d_D_glue_42 (⟨0, rfl, AddP.no hF (by simp [c29])⟩)
      · refine lv_iload_n hx hb d_D_glue_32 rfl (lv_at hl 4 rfl) ?_
        refine lv_if_lt (tgt := 41) hx hb d_D_glue_33 (by decide) (fun c33 => ?_) (fun c33 => ?_)
        · refine lv_iconst (v := 0) hx hb d_D_glue_41 (by decide) ?_
          exact z_zret cx.1 cx.2.1 cx.rt cx.lk (by first | rfl | (simp [narrow]; done) | simp_all [narrow]) hS hZ ⟨(by dsimp only [rmA, rmJ]; omega), (by dsimp only [rmA, rmJ]; omega)⟩ d_D_glue_42 (⟨0, rfl, AddP.no hF (by simp [c33])⟩)
        · refine lv_iload_n hx hb d_D_glue_36 rfl (lv_at hl 4 rfl) ?_
          refine lv_iconst (v := 4) hx hb d_D_glue_37 (by decide) ?_
          refine lv_icmp_lt (tgt := 43) hx hb d_D_glue_38 (by decide) (fun c38 => ?_) (fun c38 => ?_)
          · refine lv_aload_n hx hb d_D_glue_43 rfl (lv_at hl 1 rfl) ?_
            refine lv_aload hx hb d_D_glue_44 (lv_at hl 0 rfl) ?_
            refine lv_iload_n hx hb d_D_glue_46 rfl (lv_at hl 2 rfl) ?_
            refine lv_iload_n hx hb d_D_glue_47 rfl (lv_at hl 3 rfl) ?_
            refine lv_iload_n hx hb d_D_glue_48 rfl (lv_at hl 4 rfl) ?_
            refine lv_iload hx hb d_D_glue_49 (lv_at hl 5 rfl) ?_
            refine is_D_53 (As := [.int x, .int st, .int o, .int sh]) (rest := [.ref il, .ref d]) cx (c_ofGlue l G n0 e0 w x st o sh) ⟨(Nat.le_of_ble_eq_true rfl), (Nat.le_of_ble_eq_true rfl)⟩ ⟨(by dsimp only [rmA, rmJ]; omega), (by dsimp only [rmA, rmJ]; omega)⟩ rfl hl.1 rfl (Nat.le_of_ble_eq_true rfl) d_D_glue_51 hZ hS (fun v w_6 H locs hp_7 hZ hS => ?_)
            obtain ⟨q_5, rfl, hq_8, hw_9⟩ := hp_7
            have hk_10 : w_6 d = some (.inr (5, [.ref la, .int (nI (k + 1)), .ref ra, .int (nI tot)])) := up_ne hw_9 hd (z_neN hd hq_8)
            have hk_11 : w_6 il = some (.inr (2, [.int (zi V.1), .ref al])) := up_ne hw_9 hL.1 (z_neN hL.1 hq_8)
            have hk_12 : w_6 la = some (.inl (G.2 4, 100, .inr (.inr (.inr (.inr fl))))) := up_ne hw_9 hla (z_neN hla hq_8)
            have hn_13 := hF.2 _ hq_8
            have hF := hF.put hw_9 (Or.inr hn_13)
            have hc_14 : w_6 q_5 = some (.inr (1, [.int 5, .int x, .int 0, .int 0, .int 0, .int 0, .int st, .int o, .int sh, .int 0, .int 0, .int 0])) := up_self hw_9
            refine W.eq (g2 := F0 m 54 ls [.ref q_5, .ref il, .ref d]) rfl ?_
            have hF0_15 := hF
            refine iv_D_45 (As := [.ref il, .ref q_5]) (rest := []) cx (c_joinU l G n0 e0 w_6 d la ra (k + 1) tot il al ar cap V q_5 (mkI 5 x 0 0 0 0 st o sh 0 0 0) hk_10 (hL.keep hF (by simp) (by simp) (Or.inl (by simp)) (by simp)) hc_14 hn ht) hk_10 ⟨(Nat.le_of_ble_eq_true rfl), (Nat.le_of_ble_eq_true rfl)⟩ ⟨(by dsimp only [rmA, rmJ]; omega), (by dsimp only [rmA, rmJ]; omega)⟩ rfl hl.1 rfl (Nat.le_of_ble_eq_true rfl) d_D_glue_54 hZ hS (fun v w_16 H locs hp_17 hZ hS => ?_)
            obtain ⟨r, rfl, hj⟩ := hp_17
            refine W.eq (g2 := F0 m 57 ls [.int r]) rfl ?_
            exact z_zret cx.1 cx.2.1 cx.rt cx.lk (hj.nar) hS hZ ⟨(by dsimp only [rmA, rmJ]; omega), (by dsimp only [rmA, rmJ]; omega)⟩ d_D_glue_57 (⟨r, rfl, AddP.of hF0_15 hj (by have h := (zi_n0 _).mp c18; simp [h, c24, c29, c33, c38])⟩)
          · refine lv_iconst (v := 0) hx hb d_D_glue_41 (by decide) ?_
            exact z_zret cx.1 cx.2.1 cx.rt cx.lk (by first | rfl | (simp [narrow]; done) | simp_all [narrow]) hS hZ ⟨(by dsimp only [rmA, rmJ]; omega), (by dsimp only [rmA, rmJ]; omega)⟩ d_D_glue_42 (⟨0, rfl, AddP.no hF (by simp [c38])⟩)
  · refine lv_iconst (v := 0) hx hb d_D_glue_21 (by decide) ?_
    exact z_zret cx.1 cx.2.1 cx.rt cx.lk (by first | rfl | (simp [narrow]; done) | simp_all [narrow]) hS hZ ⟨(by dsimp only [rmA, rmJ]; omega), (by dsimp only [rmA, rmJ]; omega)⟩ d_D_glue_22 (⟨0, rfl, AddP.no hF (by have h := (zi_0 _).mp c18; simp only [h, Bool.false_and])⟩)
set_option maxHeartbeats 4000000 in
set_option maxRecDepth 100000 in
theorem c_glue_0 (l : Launch) (G : zG) (n0 e0 : Nat) (w : zw) (d la ra tot : Nat) (hd : w d = some (.inr (5, [.ref la, .int (nI 0), .ref ra, .int (nI tot)]))) (x st o sh : Int32) : Ct l G n0 e0 y_D_glue b_D_glue 6 (Option.some FieldType.boolean) (rmA 0) [.ref d, .int x, .int st, .int o, .int sh] w (fun v w1 => v = some (.int 0) ∧ w1 = w) := by
  refine z_ct (by decide) (Nat.le_of_ble_eq_true rfl) ?_
  intro p e s m below meth c ls cx hnm hZ hS hl
  have hx := cx.1
  have hb := cx.2.1
  have hl : lv_has ls 6 [(0, .ref d), (1, .int x), (2, .int st), (3, .int o), (4, .int sh)] := hl
  refine lv_aload_n hx hb d_D_glue_0 rfl (lv_at hl 0 rfl) ?_
  refine iv_D_28 (As := []) (rest := []) cx (c_innermost_0 l G n0 e0 w d la ra 0 tot (fun _ => none) (fun _ => none) hd rfl) hd ⟨(Nat.le_of_ble_eq_true rfl), (Nat.le_of_ble_eq_true rfl)⟩ ⟨(by dsimp only [rmA]; omega), (by dsimp only [rmA]; omega)⟩ rfl hl.1 rfl (Nat.le_of_ble_eq_true rfl) d_D_glue_1 hZ hS (fun v w_1 H locs hp_2 hZ hS => ?_)
  obtain ⟨rfl, hq⟩ := hp_2
  subst w_1
  refine W.eq (g2 := F0 m 4 ls [.null]) rfl ?_
  refine lv_astoreN (lv' := [(5, .null), (0, .ref d), (1, .int x), (2, .int st), (3, .int o), (4, .int sh)]) hx hb d_D_glue_4 hl (by decide) rfl (fun ls hl => ?_)
  refine lv_aloadN hx hb d_D_glue_6 (lv_at hl 0 rfl) ?_
  refine lv_ifnullN (tgt := 21) hx hb d_D_glue_8 (by decide) ?_
  refine lv_iconst (v := 0) hx hb d_D_glue_21 (by decide) ?_
  exact z_zret cx.1 cx.2.1 cx.rt cx.lk (by first | rfl | (simp [narrow]; done) | simp_all [narrow]) hS hZ ⟨(by dsimp only [rmA]; omega), (by dsimp only [rmA]; omega)⟩ d_D_glue_22 (⟨rfl, rfl⟩)
set_option maxHeartbeats 4000000 in
set_option maxRecDepth 100000 in
theorem c_kern (l : Launch) (G : zG) (n0 e0 : Nat) (w : zw) (d la ra k tot il al ar cap : Nat) (V : LV) (fl : Nat → Option Nat) (hd : w d = some (.inr (5, [.ref la, .int (nI (k + 1)), .ref ra, .int (nI tot)]))) (hla : w la = some (.inl (G.2 4, 100, .inr (.inr (.inr (.inr fl)))))) (hk : k < 100) (hil : fl k = some il) (hL : LL G e0 w (il, al, ar, cap) V) (hn : V.2.1 ≤ 20000) (ht : tot < 10000) (x : Int32) : Ct l G n0 e0 y_D_kern b_D_kern 3 (Option.some FieldType.boolean) (rmA cap) [.ref d, .int x] w (fun v w1 => ∃ r, v = some (.int r) ∧ AddP G e0 d la ra (k + 1) tot il al ar V (szI x) (mkI 6 x 0 0 0 0 0 0 0 0 0 0) r w w1) := by
  refine z_ct (by decide) (Nat.le_of_ble_eq_true rfl) ?_
  intro p e s m below meth c ls cx hnm hZ hS hl
  have hx := cx.1
  have hb := cx.2.1
  have hl : lv_has ls 3 [(0, .ref d), (1, .int x)] := hl
  have hF : Fr [] w w := Fr.rf
  refine lv_aload_n hx hb d_D_kern_0 rfl (lv_at hl 0 rfl) ?_
  refine iv_D_28 (As := []) (rest := []) cx (c_innermost_1 l G n0 e0 w d la ra k tot fl (fun _ => none) hd hla hk il hil) hd ⟨(Nat.le_of_ble_eq_true rfl), (Nat.le_of_ble_eq_true rfl)⟩ ⟨(by dsimp only [rmA, rmJ]; omega), (by dsimp only [rmA, rmJ]; omega)⟩ rfl hl.1 rfl (Nat.le_of_ble_eq_true rfl) d_D_kern_1 hZ hS (fun v w_1 H locs hp_2 hZ hS => ?_)
  obtain ⟨rfl, hq⟩ := hp_2
  subst w_1
  refine W.eq (g2 := F0 m 4 ls [.ref il]) rfl ?_
  refine lv_astore_n (lv' := [(2, .ref il), (0, .ref d), (1, .int x)]) hx hb d_D_kern_4 rfl hl (by decide) rfl (fun ls hl => ?_)
  refine lv_aload_n hx hb d_D_kern_5 rfl (lv_at hl 0 rfl) ?_
  refine lv_ifnull hx hb d_D_kern_6 ?_
  refine lv_iload_n hx hb d_D_kern_9 rfl (lv_at hl 2 rfl) ?_
  refine lv_i2l hx hb d_D_kern_10 rfl ?_
  refine is_D_56 (As := [.long x.toInt64]) (rest := []) cx (c_isSize l G n0 e0 x.toInt64 w) ⟨(Nat.le_of_ble_eq_true rfl), (Nat.le_of_ble_eq_true rfl)⟩ ⟨(by dsimp only [rmA, rmJ]; omega), (by dsimp only [rmA, rmJ]; omega)⟩ rfl hl.1 rfl (Nat.le_of_ble_eq_true rfl) d_D_kern_11 hZ hS (fun v w_3 H locs hp_4 hZ hS => ?_)
  obtain ⟨rfl, hq⟩ := hp_4
  subst w_3
  refine W.eq (g2 := F0 m 14 ls [.int (zi (szL x.toInt64))]) rfl ?_
  refine lv_if_ne (tgt := 19) hx hb d_D_kern_14 (by decide) (fun c14 => ?_) (fun c14 => ?_)
  · refine lv_aload_n hx hb d_D_kern_19 rfl (lv_at hl 1 rfl) ?_
    refine lv_aload_n hx hb d_D_kern_20 rfl (lv_at hl 0 rfl) ?_
    refine nw_D_40_o cx hZ hS (by dsimp only [rmA, rmJ]; omega) (by dsimp only [rmA, rmJ]; omega) d_D_kern_21 (fun q_5 w_6 H hq_8 hw_7 hZ hS => ?_)
    have hk_9 : w_6 d = some (.inr (5, [.ref la, .int (nI (k + 1)), .ref ra, .int (nI tot)])) := up_ne hw_7 hd (z_neN hd hq_8)
    have hk_10 : w_6 il = some (.inr (2, [.int (zi V.1), .ref al])) := up_ne hw_7 hL.1 (z_neN hL.1 hq_8)
    have hk_11 : w_6 la = some (.inl (G.2 4, 100, .inr (.inr (.inr (.inr fl))))) := up_ne hw_7 hla (z_neN hla hq_8)
    have hn_12 := hF.2 _ hq_8
    have hF := hF.put hw_7 (Or.inr hn_12)
    have hc_13 : w_6 q_5 = some (.inr (1, [.int 0, .int 0, .int 0, .int 0, .int 0, .int 0, .int 0, .int 0, .int 0, .int 0, .int 0, .int 0])) := up_self hw_7
    refine lv_dup hx hb d_D_kern_24 rfl ?_
    refine lv_bipush (v := 6) hx hb d_D_kern_25 (by decide) ?_
    refine lv_iload_n hx hb d_D_kern_27 rfl (lv_at hl 2 rfl) ?_
    refine lv_iconst (v := 0) hx hb d_D_kern_28 (by decide) ?_
    refine lv_iconst (v := 0) hx hb d_D_kern_29 (by decide) ?_
    refine ip_D_42 (As := [.int 6, .int x, .int 0, .int 0]) (rest := [.ref q_5, .ref il, .ref d]) cx (c_I_init l G n0 e0 w_6 q_5 6 x 0 0 hc_13) ⟨(Nat.le_of_ble_eq_true rfl), (Nat.le_of_ble_eq_true rfl)⟩ ⟨(by dsimp only [rmA, rmJ]; omega), (by dsimp only [rmA, rmJ]; omega)⟩ rfl hl.1 rfl (Nat.le_of_ble_eq_true rfl) d_D_kern_30 hZ hS (fun v w_14 H locs hp_15 hZ hS => ?_)
    obtain ⟨rfl, hw_16⟩ := hp_15
    have hk_17 : w_14 d = some (.inr (5, [.ref la, .int (nI (k + 1)), .ref ra, .int (nI tot)])) := up_ne hw_16 hk_9 (z_neN hd hn_12)
    have hk_18 : w_14 il = some (.inr (2, [.int (zi V.1), .ref al])) := up_ne hw_16 hk_10 (z_neN hL.1 hn_12)
    have hk_19 : w_14 la = some (.inl (G.2 4, 100, .inr (.inr (.inr (.inr fl))))) := up_ne hw_16 hk_11 ((z_neN hla hn_12))
    have hF := hF.put hw_16 (Or.inr hn_12)
    have hc_20 : w_14 q_5 = some (.inr (1, [.int 6, .int x, .int 0, .int 0, .int 0, .int 0, .int 0, .int 0, .int 0, .int 0, .int 0, .int 0])) := up_self hw_16
    refine W.eq (g2 := F0 m 33 ls [.ref q_5, .ref il, .ref d]) rfl ?_
    have hF0_21 := hF
    refine iv_D_45 (As := [.ref il, .ref q_5]) (rest := []) cx (c_joinU l G n0 e0 w_14 d la ra (k + 1) tot il al ar cap V q_5 (mkI 6 x 0 0 0 0 0 0 0 0 0 0) hk_17 (hL.keep hF (by simp) (by simp) (Or.inl (by simp)) (by simp)) hc_20 hn ht) hk_17 ⟨(Nat.le_of_ble_eq_true rfl), (Nat.le_of_ble_eq_true rfl)⟩ ⟨(by dsimp only [rmA, rmJ]; omega), (by dsimp only [rmA, rmJ]; omega)⟩ rfl hl.1 rfl (Nat.le_of_ble_eq_true rfl) d_D_kern_33 hZ hS (fun v w_22 H locs hp_23 hZ hS => ?_)
    obtain ⟨r, rfl, hj⟩ := hp_23
    refine W.eq (g2 := F0 m 36 ls [.int r]) rfl ?_
    exact z_zret cx.1 cx.2.1 cx.rt cx.lk (hj.nar) hS hZ ⟨(by dsimp only [rmA, rmJ]; omega), (by dsimp only [rmA, rmJ]; omega)⟩ d_D_kern_36 (⟨r, rfl, AddP.of hF0_21 hj ((zi_n0 _).mp c14)⟩)
  · refine lv_iconst (v := 0) hx hb d_D_kern_17 (by decide) ?_
    exact z_zret cx.1 cx.2.1 cx.rt cx.lk (by first | rfl | (simp [narrow]; done) | simp_all [narrow]) hS hZ ⟨(by dsimp only [rmA, rmJ]; omega), (by dsimp only [rmA, rmJ]; omega)⟩ d_D_kern_18 (⟨0, rfl, AddP.no hF ((zi_0 _).mp c14)⟩)
set_option maxHeartbeats 4000000 in
set_option maxRecDepth 100000 in
theorem c_kern_0 (l : Launch) (G : zG) (n0 e0 : Nat) (w : zw) (d la ra tot : Nat) (hd : w d = some (.inr (5, [.ref la, .int (nI 0), .ref ra, .int (nI tot)]))) (x : Int32) : Ct l G n0 e0 y_D_kern b_D_kern 3 (Option.some FieldType.boolean) (rmA 0) [.ref d, .int x] w (fun v w1 => v = some (.int 0) ∧ w1 = w) := by
  refine z_ct (by decide) (Nat.le_of_ble_eq_true rfl) ?_
  intro p e s m below meth c ls cx hnm hZ hS hl
  have hx := cx.1
  have hb := cx.2.1
  have hl : lv_has ls 3 [(0, .ref d), (1, .int x)] := hl
  refine lv_aload_n hx hb d_D_kern_0 rfl (lv_at hl 0 rfl) ?_
  refine iv_D_28 (As := []) (rest := []) cx (c_innermost_0 l G n0 e0 w d la ra 0 tot (fun _ => none) (fun _ => none) hd rfl) hd ⟨(Nat.le_of_ble_eq_true rfl), (Nat.le_of_ble_eq_true rfl)⟩ ⟨(by dsimp only [rmA]; omega), (by dsimp only [rmA]; omega)⟩ rfl hl.1 rfl (Nat.le_of_ble_eq_true rfl) d_D_kern_1 hZ hS (fun v w_1 H locs hp_2 hZ hS => ?_)
  obtain ⟨rfl, hq⟩ := hp_2
  subst w_1
  refine W.eq (g2 := F0 m 4 ls [.null]) rfl ?_
  refine lv_astore_nN (lv' := [(2, .null), (0, .ref d), (1, .int x)]) hx hb d_D_kern_4 rfl hl (by decide) rfl (fun ls hl => ?_)
  refine lv_aload_nN hx hb d_D_kern_5 rfl (lv_at hl 0 rfl) ?_
  refine lv_ifnullN (tgt := 17) hx hb d_D_kern_6 (by decide) ?_
  refine lv_iconst (v := 0) hx hb d_D_kern_17 (by decide) ?_
  exact z_zret cx.1 cx.2.1 cx.rt cx.lk (by first | rfl | (simp [narrow]; done) | simp_all [narrow]) hS hZ ⟨(by dsimp only [rmA]; omega), (by dsimp only [rmA]; omega)⟩ d_D_kern_18 (⟨rfl, rfl⟩)
set_option maxHeartbeats 4000000 in
set_option maxRecDepth 100000 in
theorem c_penalty (l : Launch) (G : zG) (n0 e0 : Nat) (w : zw) (d la ra k tot il al ar cap : Nat) (V : LV) (fl : Nat → Option Nat) (hd : w d = some (.inr (5, [.ref la, .int (nI (k + 1)), .ref ra, .int (nI tot)]))) (hla : w la = some (.inl (G.2 4, 100, .inr (.inr (.inr (.inr fl)))))) (hk : k < 100) (hil : fl k = some il) (hL : LL G e0 w (il, al, ar, cap) V) (hn : V.2.1 ≤ 20000) (ht : tot < 10000) (x : Int32) : Ct l G n0 e0 y_D_penalty b_D_penalty 3 (Option.some FieldType.boolean) (rmA cap) [.ref d, .int x] w (fun v w1 => ∃ r, v = some (.int r) ∧ AddP G e0 d la ra (k + 1) tot il al ar V (true) (mkI 7 0 0 0 0 x 0 0 0 0 0 0) r w w1) := by
  refine z_ct (by decide) (Nat.le_of_ble_eq_true rfl) ?_
  intro p e s m below meth c ls cx hnm hZ hS hl
  have hx := cx.1
  have hb := cx.2.1
  have hl : lv_has ls 3 [(0, .ref d), (1, .int x)] := hl
  have hF : Fr [] w w := Fr.rf
  refine lv_aload_n hx hb d_D_penalty_0 rfl (lv_at hl 0 rfl) ?_
  refine iv_D_28 (As := []) (rest := []) cx (c_innermost_1 l G n0 e0 w d la ra k tot fl (fun _ => none) hd hla hk il hil) hd ⟨(Nat.le_of_ble_eq_true rfl), (Nat.le_of_ble_eq_true rfl)⟩ ⟨(by dsimp only [rmA, rmJ]; omega), (by dsimp only [rmA, rmJ]; omega)⟩ rfl hl.1 rfl (Nat.le_of_ble_eq_true rfl) d_D_penalty_1 hZ hS (fun v w_1 H locs hp_2 hZ hS => ?_)
  obtain ⟨rfl, hq⟩ := hp_2
  subst w_1
  refine W.eq (g2 := F0 m 4 ls [.ref il]) rfl ?_
  refine lv_astore_n (lv' := [(2, .ref il), (0, .ref d), (1, .int x)]) hx hb d_D_penalty_4 rfl hl (by decide) rfl (fun ls hl => ?_)
  refine lv_aload_n hx hb d_D_penalty_5 rfl (lv_at hl 0 rfl) ?_
  refine lv_ifnonnull (tgt := 11) hx hb d_D_penalty_6 (by decide) ?_
  refine lv_aload_n hx hb d_D_penalty_11 rfl (lv_at hl 1 rfl) ?_
  refine lv_aload_n hx hb d_D_penalty_12 rfl (lv_at hl 0 rfl) ?_
  refine lv_iload_n hx hb d_D_penalty_13 rfl (lv_at hl 2 rfl) ?_
  refine is_D_60 (As := [.int x]) (rest := [.ref il, .ref d]) cx (c_ofPenalty l G n0 e0 w x) ⟨(Nat.le_of_ble_eq_true rfl), (Nat.le_of_ble_eq_true rfl)⟩ ⟨(by dsimp only [rmA, rmJ]; omega), (by dsimp only [rmA, rmJ]; omega)⟩ rfl hl.1 rfl (Nat.le_of_ble_eq_true rfl) d_D_penalty_14 hZ hS (fun v w_4 H locs hp_5 hZ hS => ?_)
  obtain ⟨q_3, rfl, hq_6, hw_7⟩ := hp_5
  have hk_8 : w_4 d = some (.inr (5, [.ref la, .int (nI (k + 1)), .ref ra, .int (nI tot)])) := up_ne hw_7 hd (z_neN hd hq_6)
  have hk_9 : w_4 il = some (.inr (2, [.int (zi V.1), .ref al])) := up_ne hw_7 hL.1 (z_neN hL.1 hq_6)
  have hk_10 : w_4 la = some (.inl (G.2 4, 100, .inr (.inr (.inr (.inr fl))))) := up_ne hw_7 hla (z_neN hla hq_6)
  have hn_11 := hF.2 _ hq_6
  have hF := hF.put hw_7 (Or.inr hn_11)
  have hc_12 : w_4 q_3 = some (.inr (1, [.int 7, .int 0, .int 0, .int 0, .int 0, .int x, .int 0, .int 0, .int 0, .int 0, .int 0, .int 0])) := up_self hw_7
  refine W.eq (g2 := F0 m 17 ls [.ref q_3, .ref il, .ref d]) rfl ?_
  have hF0_13 := hF
  refine iv_D_45 (As := [.ref il, .ref q_3]) (rest := []) cx (c_joinU l G n0 e0 w_4 d la ra (k + 1) tot il al ar cap V q_3 (mkI 7 0 0 0 0 x 0 0 0 0 0 0) hk_8 (hL.keep hF (by simp) (by simp) (Or.inl (by simp)) (by simp)) hc_12 hn ht) hk_8 ⟨(Nat.le_of_ble_eq_true rfl), (Nat.le_of_ble_eq_true rfl)⟩ ⟨(by dsimp only [rmA, rmJ]; omega), (by dsimp only [rmA, rmJ]; omega)⟩ rfl hl.1 rfl (Nat.le_of_ble_eq_true rfl) d_D_penalty_17 hZ hS (fun v w_14 H locs hp_15 hZ hS => ?_)
  obtain ⟨r, rfl, hj⟩ := hp_15
  refine W.eq (g2 := F0 m 20 ls [.int r]) rfl ?_
  exact z_zret cx.1 cx.2.1 cx.rt cx.lk (hj.nar) hS hZ ⟨(by dsimp only [rmA, rmJ]; omega), (by dsimp only [rmA, rmJ]; omega)⟩ d_D_penalty_20 (⟨r, rfl, AddP.of hF0_13 hj (rfl)⟩)
set_option maxHeartbeats 4000000 in
set_option maxRecDepth 100000 in
theorem c_penalty_0 (l : Launch) (G : zG) (n0 e0 : Nat) (w : zw) (d la ra tot : Nat) (hd : w d = some (.inr (5, [.ref la, .int (nI 0), .ref ra, .int (nI tot)]))) (x : Int32) : Ct l G n0 e0 y_D_penalty b_D_penalty 3 (Option.some FieldType.boolean) (rmA 0) [.ref d, .int x] w (fun v w1 => v = some (.int 0) ∧ w1 = w) := by
  refine z_ct (by decide) (Nat.le_of_ble_eq_true rfl) ?_
  intro p e s m below meth c ls cx hnm hZ hS hl
  have hx := cx.1
  have hb := cx.2.1
  have hl : lv_has ls 3 [(0, .ref d), (1, .int x)] := hl
  refine lv_aload_n hx hb d_D_penalty_0 rfl (lv_at hl 0 rfl) ?_
  refine iv_D_28 (As := []) (rest := []) cx (c_innermost_0 l G n0 e0 w d la ra 0 tot (fun _ => none) (fun _ => none) hd rfl) hd ⟨(Nat.le_of_ble_eq_true rfl), (Nat.le_of_ble_eq_true rfl)⟩ ⟨(by dsimp only [rmA]; omega), (by dsimp only [rmA]; omega)⟩ rfl hl.1 rfl (Nat.le_of_ble_eq_true rfl) d_D_penalty_1 hZ hS (fun v w_1 H locs hp_2 hZ hS => ?_)
  obtain ⟨rfl, hq⟩ := hp_2
  subst w_1
  refine W.eq (g2 := F0 m 4 ls [.null]) rfl ?_
  refine lv_astore_nN (lv' := [(2, .null), (0, .ref d), (1, .int x)]) hx hb d_D_penalty_4 rfl hl (by decide) rfl (fun ls hl => ?_)
  refine lv_aload_nN hx hb d_D_penalty_5 rfl (lv_at hl 0 rfl) ?_
  refine lv_ifnonnullN hx hb d_D_penalty_6 ?_
  refine lv_iconst (v := 0) hx hb d_D_penalty_9 (by decide) ?_
  exact z_zret cx.1 cx.2.1 cx.rt cx.lk (by first | rfl | (simp [narrow]; done) | simp_all [narrow]) hS hZ ⟨(by dsimp only [rmA]; omega), (by dsimp only [rmA]; omega)⟩ d_D_penalty_10 (⟨rfl, rfl⟩)
