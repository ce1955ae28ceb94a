def itemC (f : Nat → Int32) (x : Int32) (what : Int32) : Int32 := if f 0 = 5 ∧ what = 1 then x else tellI f what
set_option maxHeartbeats 4000000 in
set_option maxRecDepth 100000 in
theorem c_about_bad (l : Launch) (hTr : l.stackTraces = false) (G : zG) (n0 e0 : Nat) (w : zw) (d la ra on tot : Nat) (fr : Nat → Option Nat) (hd : w d = some (.inr (5, [.ref la, .int (nI on), .ref ra, .int (nI tot)]))) (hra : w ra = some (.inl (G.2 5, 16, .inr (.inr (.inr (.inr fr)))))) (kk what : Int32) (hbad : (regB kk && whatB what) = false)  : CtT l G n0 e0 y_D_about b_D_about 4 (Option.some FieldType.int) ({ frames := 6, cells := 1, slots := 6, locals := 90 }) [.ref d, .int kk, .int what] w (fun _ _ => False) (fun X w1 => X = nIOB ∧ w1 = w) := by
  refine z_ctT (by decide) (Nat.le_of_ble_eq_true rfl) ?_
  intro p e s m below meth c ls cx hT hEx hnm hZ hS hl
  have hx := cx.1
  have hb := cx.2.1
  have hl : lv_has ls 4 [(0, .ref d), (1, .int kk), (2, .int what)] := hl
  refine lv_iload_n hx hb d_D_about_0 rfl (lv_at hl 1 rfl) ?_
  refine is_D_71 (As := [.int kk]) (rest := []) cx (c_isRegister l G n0 e0 kk w) ⟨(Nat.le_of_ble_eq_true rfl), (Nat.le_of_ble_eq_true rfl)⟩ ⟨(Nat.le_of_ble_eq_true rfl), (Nat.le_of_ble_eq_true rfl)⟩ rfl hl.1 rfl (Nat.le_of_ble_eq_true rfl) d_D_about_1 hZ hS (fun v w_1 H locs hp_2 hZ hS => ?_)
  obtain ⟨rfl, hq⟩ := hp_2
  subst w_1
  refine W.eq (g2 := F0 m 4 ls [.int (zi (regB kk))]) rfl ?_
  refine lv_if_eq (tgt := 16) hx hb d_D_about_4 (by decide) (fun c4 => ?_) (fun c4 => ?_)
  · exact z_throw (X := nIOB) (ic := 156) (ix := 152) (is := 154) cx hT hTr hEx (by decide) tw_568 tw_569 tw_22 (fun U h1 h2 h3 => own_IOB h1 h2 h3) (fun U h => h.2.2.2.1.2.2.2.1) hl.1 hZ hS (⟨rfl, rfl⟩) (Nat.le_of_ble_eq_true rfl) (Nat.le_of_ble_eq_true rfl) (Nat.le_refl _) (Nat.le_refl _) (Nat.le_of_ble_eq_true rfl) (Nat.le_of_ble_eq_true rfl) d_D_about_16 d_D_about_19 d_D_about_20 d_D_about_22 d_D_about_25
  · refine lv_iload_n hx hb d_D_about_7 rfl (lv_at hl 2 rfl) ?_
    refine lv_if_lt (tgt := 16) hx hb d_D_about_8 (by decide) (fun c8 => ?_) (fun c8 => ?_)
    · exact z_throw (X := nIOB) (ic := 156) (ix := 152) (is := 154) cx hT hTr hEx (by decide) tw_568 tw_569 tw_22 (fun U h1 h2 h3 => own_IOB h1 h2 h3) (fun U h => h.2.2.2.1.2.2.2.1) hl.1 hZ hS (⟨rfl, rfl⟩) (Nat.le_of_ble_eq_true rfl) (Nat.le_of_ble_eq_true rfl) (Nat.le_refl _) (Nat.le_refl _) (Nat.le_of_ble_eq_true rfl) (Nat.le_of_ble_eq_true rfl) d_D_about_16 d_D_about_19 d_D_about_20 d_D_about_22 d_D_about_25
    · refine lv_iload_n hx hb d_D_about_11 rfl (lv_at hl 2 rfl) ?_
      refine lv_iconst (v := 5) hx hb d_D_about_12 (by decide) ?_
      refine lv_icmp_le (tgt := 26) hx hb d_D_about_13 (by decide) (fun c13 => ?_) (fun c13 => ?_)
      · exact absurd hbad (by rw [(zi_n0 _).mp c4, whatB_in c8 c13]; decide)
      · exact z_throw (X := nIOB) (ic := 156) (ix := 152) (is := 154) cx hT hTr hEx (by decide) tw_568 tw_569 tw_22 (fun U h1 h2 h3 => own_IOB h1 h2 h3) (fun U h => h.2.2.2.1.2.2.2.1) hl.1 hZ hS (⟨rfl, rfl⟩) (Nat.le_of_ble_eq_true rfl) (Nat.le_of_ble_eq_true rfl) (Nat.le_refl _) (Nat.le_refl _) (Nat.le_of_ble_eq_true rfl) (Nat.le_of_ble_eq_true rfl) d_D_about_16 d_D_about_19 d_D_about_20 d_D_about_22 d_D_about_25
set_option maxHeartbeats 4000000 in
set_option maxRecDepth 100000 in
theorem c_about_void (l : Launch) (hTr : l.stackTraces = false) (G : zG) (n0 e0 : Nat) (w : zw) (d la ra on tot : Nat) (fr : Nat → Option Nat) (hd : w d = some (.inr (5, [.ref la, .int (nI on), .ref ra, .int (nI tot)]))) (hra : w ra = some (.inl (G.2 5, 16, .inr (.inr (.inr (.inr fr)))))) (kk : Nat) (hkk : kk < 16) (hv : fr kk = none) (what : Int32) (hwh : whatB what = true)  : CtT l G n0 e0 y_D_about b_D_about 4 (Option.some FieldType.int) ({ frames := 6, cells := 1, slots := 6, locals := 90 }) [.ref d, .int (nI kk), .int what] w (fun v w1 => v = some (.int 0) ∧ w1 = w) (fun _ _ => False) := by
  refine z_ctT (by decide) (Nat.le_of_ble_eq_true rfl) ?_
  intro p e s m below meth c ls cx hT hEx hnm hZ hS hl
  have hx := cx.1
  have hb := cx.2.1
  have hl : lv_has ls 4 [(0, .ref d), (1, .int (nI kk)), (2, .int what)] := hl
  refine lv_iload_n hx hb d_D_about_0 rfl (lv_at hl 1 rfl) ?_
  refine is_D_71 (As := [.int (nI kk)]) (rest := []) cx (c_isRegister l G n0 e0 (nI kk) w) ⟨(Nat.le_of_ble_eq_true rfl), (Nat.le_of_ble_eq_true rfl)⟩ ⟨(Nat.le_of_ble_eq_true rfl), (Nat.le_of_ble_eq_true rfl)⟩ rfl hl.1 rfl (Nat.le_of_ble_eq_true rfl) d_D_about_1 hZ hS (fun v w_1 H locs hp_2 hZ hS => ?_)
  obtain ⟨rfl, hq⟩ := hp_2
  subst w_1
  refine W.eq (g2 := F0 m 4 ls [.int (zi (regB (nI kk)))]) rfl ?_
  refine lv_if_eq (tgt := 16) hx hb d_D_about_4 (by decide) (fun c4 => ?_) (fun c4 => ?_)
  · exact absurd ((zi_0 _).mp c4) (by rw [regB_nI hkk]; decide)
  · refine lv_iload_n hx hb d_D_about_7 rfl (lv_at hl 2 rfl) ?_
    refine lv_if_lt (tgt := 16) hx hb d_D_about_8 (by decide) (fun c8 => ?_) (fun c8 => ?_)
    · exact absurd c8 (whatB_of hwh).1
    · refine lv_iload_n hx hb d_D_about_11 rfl (lv_at hl 2 rfl) ?_
      refine lv_iconst (v := 5) hx hb d_D_about_12 (by decide) ?_
      refine lv_icmp_le (tgt := 26) hx hb d_D_about_13 (by decide) (fun c13 => ?_) (fun c13 => ?_)
      · refine lv_aload_n hx hb d_D_about_26 rfl (lv_at hl 0 rfl) ?_
        refine gf_D_17 cx hZ hd rfl d_D_about_27 ?_
        refine lv_iload_n hx hb d_D_about_30 rfl (lv_at hl 1 rfl) ?_
        refine ld_q5 cx hZ hra (vp_in_nI hkk (by omega)) d_D_about_31 ?_
        rw [show fr (nI kk).toNatClampNeg = none from by rw [nI_clamp (by omega)]; exact hv]
        refine W.eq (g2 := F0 m 32 ls [.null]) rfl ?_
        refine lv_astore_nN (lv' := [(3, .null), (0, .ref d), (1, .int (nI kk)), (2, .int what)]) hx hb d_D_about_32 rfl hl (by decide) rfl (fun ls hl => ?_)
        refine lv_aload_nN hx hb d_D_about_33 rfl (lv_at hl 0 rfl) ?_
        refine lv_ifnonnullN hx hb d_D_about_34 ?_
        refine lv_iconst (v := 0) hx hb d_D_about_37 (by decide) ?_
        refine lv_goto (tgt := 46) hx hb d_D_about_38 (by decide) ?_
        exact z_iretT cx.1 cx.2.1 cx.rt cx.lk hS hZ ⟨(Nat.le_of_ble_eq_true rfl), (Nat.le_of_ble_eq_true rfl)⟩ d_D_about_46 (⟨rfl, rfl⟩)
      · exact absurd (whatB_of hwh).2 c13
set_option maxHeartbeats 4000000 in
set_option maxRecDepth 100000 in
theorem c_about (l : Launch) (hTr : l.stackTraces = false) (G : zG) (n0 e0 : Nat) (w : zw) (d la ra on tot : Nat) (fr : Nat → Option Nat) (hd : w d = some (.inr (5, [.ref la, .int (nI on), .ref ra, .int (nI tot)]))) (hra : w ra = some (.inl (G.2 5, 16, .inr (.inr (.inr (.inr fr)))))) (kk : Nat) (hkk : kk < 16) (b li sw al ar cap : Nat) (f : Nat → Int32) (V : LV) (hv : fr kk = some b) (hb0 : w b = some (.inr (4, fB li sw f))) (hL : LL G e0 w (li, al, ar, cap) V) (what : Int32) (hwh : whatB what = true)  : CtT l G n0 e0 y_D_about b_D_about 4 (Option.some FieldType.int) ({ frames := 6, cells := 1, slots := 6, locals := 90 }) [.ref d, .int (nI kk), .int what] w (fun v w1 => v = some (.int (tellB V.1 (nI V.2.1) f what)) ∧ w1 = w) (fun _ _ => False) := by
  refine z_ctT (by decide) (Nat.le_of_ble_eq_true rfl) ?_
  intro p e s m below meth c ls cx hT hEx hnm hZ hS hl
  have hx := cx.1
  have hb := cx.2.1
  have hl : lv_has ls 4 [(0, .ref d), (1, .int (nI kk)), (2, .int what)] := hl
  obtain ⟨_, _, md, fa, hal, hr, hx2⟩ := id hL
  dsimp only at hal hr hx2
  refine lv_iload_n hx hb d_D_about_0 rfl (lv_at hl 1 rfl) ?_
  refine is_D_71 (As := [.int (nI kk)]) (rest := []) cx (c_isRegister l G n0 e0 (nI kk) w) ⟨(Nat.le_of_ble_eq_true rfl), (Nat.le_of_ble_eq_true rfl)⟩ ⟨(Nat.le_of_ble_eq_true rfl), (Nat.le_of_ble_eq_true rfl)⟩ rfl hl.1 rfl (Nat.le_of_ble_eq_true rfl) d_D_about_1 hZ hS (fun v w_1 H locs hp_2 hZ hS => ?_)
  obtain ⟨rfl, hq⟩ := hp_2
  subst w_1
  refine W.eq (g2 := F0 m 4 ls [.int (zi (regB (nI kk)))]) rfl ?_
  refine lv_if_eq (tgt := 16) hx hb d_D_about_4 (by decide) (fun c4 => ?_) (fun c4 => ?_)
  · exact absurd ((zi_0 _).mp c4) (by rw [regB_nI hkk]; decide)
  · refine lv_iload_n hx hb d_D_about_7 rfl (lv_at hl 2 rfl) ?_
    refine lv_if_lt (tgt := 16) hx hb d_D_about_8 (by decide) (fun c8 => ?_) (fun c8 => ?_)
    · exact absurd c8 (whatB_of hwh).1
    · refine lv_iload_n hx hb d_D_about_11 rfl (lv_at hl 2 rfl) ?_
      refine lv_iconst (v := 5) hx hb d_D_about_12 (by decide) ?_
      refine lv_icmp_le (tgt := 26) hx hb d_D_about_13 (by decide) (fun c13 => ?_) (fun c13 => ?_)
      · refine lv_aload_n hx hb d_D_about_26 rfl (lv_at hl 0 rfl) ?_
        refine gf_D_17 cx hZ hd rfl d_D_about_27 ?_
        refine lv_iload_n hx hb d_D_about_30 rfl (lv_at hl 1 rfl) ?_
        refine ld_q5 cx hZ hra (vp_in_nI hkk (by omega)) d_D_about_31 ?_
        rw [show fr (nI kk).toNatClampNeg = some b from by rw [nI_clamp (by omega)]; exact hv]
        refine W.eq (g2 := F0 m 32 ls [.ref b]) rfl ?_
        refine lv_astore_n (lv' := [(3, .ref b), (0, .ref d), (1, .int (nI kk)), (2, .int what)]) hx hb d_D_about_32 rfl hl (by decide) rfl (fun ls hl => ?_)
        refine lv_aload_n hx hb d_D_about_33 rfl (lv_at hl 0 rfl) ?_
        refine lv_ifnonnull (tgt := 41) hx hb d_D_about_34 (by decide) ?_
        refine lv_aload_n hx hb d_D_about_41 rfl (lv_at hl 0 rfl) ?_
        refine lv_iload_n hx hb d_D_about_42 rfl (lv_at hl 3 rfl) ?_
        refine iv_D_157 (As := [.int what]) (rest := []) cx (c_tellB l G n0 e0 w b li sw al ar f V.1 md (nI V.2.1) what hb0 hL.1 hal) hb0 ⟨(Nat.le_of_ble_eq_true rfl), (Nat.le_of_ble_eq_true rfl)⟩ ⟨(Nat.le_of_ble_eq_true rfl), (Nat.le_of_ble_eq_true rfl)⟩ rfl hl.1 rfl (Nat.le_of_ble_eq_true rfl) d_D_about_43 hZ hS (fun v w_3 H locs hp_4 hZ hS => ?_)
        obtain ⟨rfl, hq⟩ := hp_4
        subst w_3
        refine W.eq (g2 := F0 m 46 ls [.int (tellB V.1 (nI V.2.1) f what)]) rfl ?_
        exact z_iretT cx.1 cx.2.1 cx.rt cx.lk hS hZ ⟨(Nat.le_of_ble_eq_true rfl), (Nat.le_of_ble_eq_true rfl)⟩ d_D_about_46 (⟨rfl, rfl⟩)
      · exact absurd (whatB_of hwh).2 c13
set_option maxHeartbeats 4000000 in
set_option maxRecDepth 100000 in
theorem c_item_out (l : Launch) (hTr : l.stackTraces = false) (G : zG) (n0 e0 : Nat) (w : zw) (d la ra on tot : Nat) (fr : Nat → Option Nat) (hd : w d = some (.inr (5, [.ref la, .int (nI on), .ref ra, .int (nI tot)]))) (hra : w ra = some (.inl (G.2 5, 16, .inr (.inr (.inr (.inr fr)))))) (kk : Int32) (hkk : regB kk = false) (ii what : Int32)  : CtT l G n0 e0 y_D_item b_D_item 7 (Option.some FieldType.int) ({ frames := 6, cells := 1, slots := 6, locals := 90 }) [.ref d, .int kk, .int ii, .int what] w (fun _ _ => False) (fun X w1 => X = nIOB ∧ w1 = w) := by
  refine z_ctT (by decide) (Nat.le_of_ble_eq_true rfl) ?_
  intro p e s m below meth c ls cx hT hEx hnm hZ hS hl
  have hx := cx.1
  have hb := cx.2.1
  have hl : lv_has ls 7 [(0, .ref d), (1, .int kk), (2, .int ii), (3, .int what)] := hl
  refine lv_aload_n hx hb d_D_item_0 rfl (lv_at hl 0 rfl) ?_
  refine lv_iload_n hx hb d_D_item_1 rfl (lv_at hl 1 rfl) ?_
  refine iv_D_113 (As := [.int kk]) (rest := []) cx (c_boxIn_out l G n0 e0 w d la ra on tot (fun _ => none) (fun _ => none) hd kk hkk) hd ⟨(Nat.le_of_ble_eq_true rfl), (Nat.le_of_ble_eq_true rfl)⟩ ⟨(Nat.le_of_ble_eq_true rfl), (Nat.le_of_ble_eq_true rfl)⟩ rfl hl.1 rfl (Nat.le_of_ble_eq_true rfl) d_D_item_2 hZ hS (fun v w_1 H locs hp_2 hZ hS => ?_)
  obtain ⟨rfl, hq⟩ := hp_2
  subst w_1
  refine W.eq (g2 := F0 m 5 ls [.null]) rfl ?_
  refine lv_astoreN (lv' := [(4, .null), (0, .ref d), (1, .int kk), (2, .int ii), (3, .int what)]) hx hb d_D_item_5 hl (by decide) rfl (fun ls hl => ?_)
  refine lv_aloadN hx hb d_D_item_7 (lv_at hl 0 rfl) ?_
  refine lv_ifnullN (tgt := 40) hx hb d_D_item_9 (by decide) ?_
  exact z_throw (X := nIOB) (ic := 156) (ix := 152) (is := 161) cx hT hTr hEx (by decide) tw_568 tw_569 tw_22 (fun U h1 h2 h3 => own_IOB h1 h2 h3) (fun U h => h.2.2.2.1.2.2.2.2) hl.1 hZ hS (⟨rfl, rfl⟩) (Nat.le_of_ble_eq_true rfl) (Nat.le_of_ble_eq_true rfl) (Nat.le_refl _) (Nat.le_refl _) (Nat.le_of_ble_eq_true rfl) (Nat.le_of_ble_eq_true rfl) d_D_item_40 d_D_item_43 d_D_item_44 d_D_item_46 d_D_item_49
set_option maxHeartbeats 4000000 in
set_option maxRecDepth 100000 in
theorem c_item_void (l : Launch) (hTr : l.stackTraces = false) (G : zG) (n0 e0 : Nat) (w : zw) (d la ra on tot : Nat) (fr : Nat → Option Nat) (hd : w d = some (.inr (5, [.ref la, .int (nI on), .ref ra, .int (nI tot)]))) (hra : w ra = some (.inl (G.2 5, 16, .inr (.inr (.inr (.inr fr)))))) (kk : Nat) (hkk : kk < 16) (hv : fr kk = none) (ii what : Int32)  : CtT l G n0 e0 y_D_item b_D_item 7 (Option.some FieldType.int) ({ frames := 6, cells := 1, slots := 6, locals := 90 }) [.ref d, .int (nI kk), .int ii, .int what] w (fun _ _ => False) (fun X w1 => X = nIOB ∧ w1 = w) := by
  refine z_ctT (by decide) (Nat.le_of_ble_eq_true rfl) ?_
  intro p e s m below meth c ls cx hT hEx hnm hZ hS hl
  have hx := cx.1
  have hb := cx.2.1
  have hl : lv_has ls 7 [(0, .ref d), (1, .int (nI kk)), (2, .int ii), (3, .int what)] := hl
  refine lv_aload_n hx hb d_D_item_0 rfl (lv_at hl 0 rfl) ?_
  refine lv_iload_n hx hb d_D_item_1 rfl (lv_at hl 1 rfl) ?_
  refine iv_D_113 (As := [.int (nI kk)]) (rest := []) cx (c_boxIn_void l G n0 e0 w d la ra on tot (fun _ => none) fr hd hra kk hkk hv) hd ⟨(Nat.le_of_ble_eq_true rfl), (Nat.le_of_ble_eq_true rfl)⟩ ⟨(Nat.le_of_ble_eq_true rfl), (Nat.le_of_ble_eq_true rfl)⟩ rfl hl.1 rfl (Nat.le_of_ble_eq_true rfl) d_D_item_2 hZ hS (fun v w_1 H locs hp_2 hZ hS => ?_)
  obtain ⟨rfl, hq⟩ := hp_2
  subst w_1
  refine W.eq (g2 := F0 m 5 ls [.null]) rfl ?_
  refine lv_astoreN (lv' := [(4, .null), (0, .ref d), (1, .int (nI kk)), (2, .int ii), (3, .int what)]) hx hb d_D_item_5 hl (by decide) rfl (fun ls hl => ?_)
  refine lv_aloadN hx hb d_D_item_7 (lv_at hl 0 rfl) ?_
  refine lv_ifnullN (tgt := 40) hx hb d_D_item_9 (by decide) ?_
  exact z_throw (X := nIOB) (ic := 156) (ix := 152) (is := 161) cx hT hTr hEx (by decide) tw_568 tw_569 tw_22 (fun U h1 h2 h3 => own_IOB h1 h2 h3) (fun U h => h.2.2.2.1.2.2.2.2) hl.1 hZ hS (⟨rfl, rfl⟩) (Nat.le_of_ble_eq_true rfl) (Nat.le_of_ble_eq_true rfl) (Nat.le_refl _) (Nat.le_refl _) (Nat.le_of_ble_eq_true rfl) (Nat.le_of_ble_eq_true rfl) d_D_item_40 d_D_item_43 d_D_item_44 d_D_item_46 d_D_item_49
set_option maxHeartbeats 4000000 in
set_option maxRecDepth 100000 in
theorem c_item_bad (l : Launch) (hTr : l.stackTraces = false) (G : zG) (n0 e0 : Nat) (w : zw) (d la ra on tot : Nat) (fr : Nat → Option Nat) (hd : w d = some (.inr (5, [.ref la, .int (nI on), .ref ra, .int (nI tot)]))) (hra : w ra = some (.inl (G.2 5, 16, .inr (.inr (.inr (.inr fr)))))) (kk : Nat) (hkk : kk < 16) (b li sw al ar cap : Nat) (f : Nat → Int32) (V : LV) (hv : fr kk = some b) (hb0 : w b = some (.inr (4, fB li sw f))) (hL : LL G e0 w (li, al, ar, cap) V) (ii what : Int32) (hbad : ii < 0 ∨ whatB what = false ∨ ¬ ii < nI V.2.1)  : CtT l G n0 e0 y_D_item b_D_item 7 (Option.some FieldType.int) ({ frames := 6, cells := 1, slots := 6, locals := 90 }) [.ref d, .int (nI kk), .int ii, .int what] w (fun _ _ => False) (fun X w1 => X = nIOB ∧ w1 = w) := by
  refine z_ctT (by decide) (Nat.le_of_ble_eq_true rfl) ?_
  intro p e s m below meth c ls cx hT hEx hnm hZ hS hl
  have hx := cx.1
  have hb := cx.2.1
  have hl : lv_has ls 7 [(0, .ref d), (1, .int (nI kk)), (2, .int ii), (3, .int what)] := hl
  obtain ⟨_, _, md, fa, hal, hr, hx2⟩ := id hL
  dsimp only at hal hr hx2
  refine lv_aload_n hx hb d_D_item_0 rfl (lv_at hl 0 rfl) ?_
  refine lv_iload_n hx hb d_D_item_1 rfl (lv_at hl 1 rfl) ?_
  refine iv_D_113 (As := [.int (nI kk)]) (rest := []) cx (c_boxIn_some l G n0 e0 w d la ra on tot (fun _ => none) fr hd hra kk hkk b hv) hd ⟨(Nat.le_of_ble_eq_true rfl), (Nat.le_of_ble_eq_true rfl)⟩ ⟨(Nat.le_of_ble_eq_true rfl), (Nat.le_of_ble_eq_true rfl)⟩ rfl hl.1 rfl (Nat.le_of_ble_eq_true rfl) d_D_item_2 hZ hS (fun v w_1 H locs hp_2 hZ hS => ?_)
  obtain ⟨rfl, hq⟩ := hp_2
  subst w_1
  refine W.eq (g2 := F0 m 5 ls [.ref b]) rfl ?_
  refine lv_astore (lv' := [(4, .ref b), (0, .ref d), (1, .int (nI kk)), (2, .int ii), (3, .int what)]) hx hb d_D_item_5 hl (by decide) rfl (fun ls hl => ?_)
  refine lv_aload hx hb d_D_item_7 (lv_at hl 0 rfl) ?_
  refine lv_ifnull hx hb d_D_item_9 ?_
  refine lv_iload_n hx hb d_D_item_12 rfl (lv_at hl 3 rfl) ?_
  refine lv_if_lt (tgt := 40) hx hb d_D_item_13 (by decide) (fun c13 => ?_) (fun c13 => ?_)
  · exact z_throw (X := nIOB) (ic := 156) (ix := 152) (is := 161) cx hT hTr hEx (by decide) tw_568 tw_569 tw_22 (fun U h1 h2 h3 => own_IOB h1 h2 h3) (fun U h => h.2.2.2.1.2.2.2.2) hl.1 hZ hS (⟨rfl, rfl⟩) (Nat.le_of_ble_eq_true rfl) (Nat.le_of_ble_eq_true rfl) (Nat.le_refl _) (Nat.le_refl _) (Nat.le_of_ble_eq_true rfl) (Nat.le_of_ble_eq_true rfl) d_D_item_40 d_D_item_43 d_D_item_44 d_D_item_46 d_D_item_49
  · refine lv_iload_n hx hb d_D_item_16 rfl (lv_at hl 3 rfl) ?_
    refine lv_aload hx hb d_D_item_17 (lv_at hl 0 rfl) ?_
    refine gf_D_131 cx hZ hb0 rfl d_D_item_19 ?_
    refine gf_D_117 cx hZ hL.1 rfl d_D_item_22 ?_
    refine iv_D_135 (As := []) (rest := [.int ii]) cx (c_A_size l G n0 e0 w al md (.ref ar) (nI V.2.1) hal) hal ⟨(Nat.le_of_ble_eq_true rfl), (Nat.le_of_ble_eq_true rfl)⟩ ⟨(Nat.le_of_ble_eq_true rfl), (Nat.le_of_ble_eq_true rfl)⟩ rfl hl.1 rfl (Nat.le_of_ble_eq_true rfl) d_D_item_25 hZ hS (fun v w_3 H locs hp_4 hZ hS => ?_)
    obtain ⟨rfl, hq⟩ := hp_4
    subst w_3
    refine W.eq (g2 := F0 m 28 ls [.int (nI V.2.1), .int ii]) rfl ?_
    refine lv_icmp_ge (tgt := 40) hx hb d_D_item_28 (by decide) (fun c28 => ?_) (fun c28 => ?_)
    · exact z_throw (X := nIOB) (ic := 156) (ix := 152) (is := 161) cx hT hTr hEx (by decide) tw_568 tw_569 tw_22 (fun U h1 h2 h3 => own_IOB h1 h2 h3) (fun U h => h.2.2.2.1.2.2.2.2) hl.1 hZ hS (⟨rfl, rfl⟩) (Nat.le_of_ble_eq_true rfl) (Nat.le_of_ble_eq_true rfl) (Nat.le_refl _) (Nat.le_refl _) (Nat.le_of_ble_eq_true rfl) (Nat.le_of_ble_eq_true rfl) d_D_item_40 d_D_item_43 d_D_item_44 d_D_item_46 d_D_item_49
    · refine lv_iload_n hx hb d_D_item_31 rfl (lv_at hl 4 rfl) ?_
      refine lv_if_lt (tgt := 40) hx hb d_D_item_32 (by decide) (fun c32 => ?_) (fun c32 => ?_)
      · exact z_throw (X := nIOB) (ic := 156) (ix := 152) (is := 161) cx hT hTr hEx (by decide) tw_568 tw_569 tw_22 (fun U h1 h2 h3 => own_IOB h1 h2 h3) (fun U h => h.2.2.2.1.2.2.2.2) hl.1 hZ hS (⟨rfl, rfl⟩) (Nat.le_of_ble_eq_true rfl) (Nat.le_of_ble_eq_true rfl) (Nat.le_refl _) (Nat.le_refl _) (Nat.le_of_ble_eq_true rfl) (Nat.le_of_ble_eq_true rfl) d_D_item_40 d_D_item_43 d_D_item_44 d_D_item_46 d_D_item_49
      · refine lv_iload_n hx hb d_D_item_35 rfl (lv_at hl 4 rfl) ?_
        refine lv_iconst (v := 5) hx hb d_D_item_36 (by decide) ?_
        refine lv_icmp_le (tgt := 50) hx hb d_D_item_37 (by decide) (fun c37 => ?_) (fun c37 => ?_)
        · exact absurd hbad (by rw [whatB_in c32 c37]; simp [c13, Int32.not_le.mp c28])
        · exact z_throw (X := nIOB) (ic := 156) (ix := 152) (is := 161) cx hT hTr hEx (by decide) tw_568 tw_569 tw_22 (fun U h1 h2 h3 => own_IOB h1 h2 h3) (fun U h => h.2.2.2.1.2.2.2.2) hl.1 hZ hS (⟨rfl, rfl⟩) (Nat.le_of_ble_eq_true rfl) (Nat.le_of_ble_eq_true rfl) (Nat.le_refl _) (Nat.le_refl _) (Nat.le_of_ble_eq_true rfl) (Nat.le_of_ble_eq_true rfl) d_D_item_40 d_D_item_43 d_D_item_44 d_D_item_46 d_D_item_49
set_option maxHeartbeats 4000000 in
set_option maxRecDepth 100000 in
theorem c_item (l : Launch) (hTr : l.stackTraces = false) (G : zG) (n0 e0 : Nat) (w : zw) (d la ra on tot : Nat) (fr : Nat → Option Nat) (hd : w d = some (.inr (5, [.ref la, .int (nI on), .ref ra, .int (nI tot)]))) (hra : w ra = some (.inl (G.2 5, 16, .inr (.inr (.inr (.inr fr)))))) (kk : Nat) (hkk : kk < 16) (b li sw al ar cap : Nat) (f : Nat → Int32) (V : LV) (hv : fr kk = some b) (hb0 : w b = some (.inr (4, fB li sw f))) (hL : LL G e0 w (li, al, ar, cap) V) (fw : Nat → Int32) (hsw : w sw = some (.inl (G.2 0, V.2.1, .inl fw))) (hcap : cap ≤ 100000) (jj : Nat) (hjj : jj < V.2.1) (what : Int32) (hwh : whatB what = true)  : CtT l G n0 e0 y_D_item b_D_item 7 (Option.some FieldType.int) ({ frames := 6, cells := 1, slots := 6, locals := 90 }) [.ref d, .int (nI kk), .int (nI jj), .int what] w (fun v w1 => v = some (.int (itemC (V.2.2 jj) (fw jj) what)) ∧ w1 = w) (fun _ _ => False) := by
  refine z_ctT (by decide) (Nat.le_of_ble_eq_true rfl) ?_
  intro p e s m below meth c ls cx hT hEx hnm hZ hS hl
  have hx := cx.1
  have hb := cx.2.1
  have hl : lv_has ls 7 [(0, .ref d), (1, .int (nI kk)), (2, .int (nI jj)), (3, .int what)] := hl
  obtain ⟨_, _, md, fa, hal, hr, hx2⟩ := id hL
  dsimp only at hal hr hx2
  obtain ⟨x, hfx, hxi⟩ := hx2 jj hjj
  obtain ⟨har, hcn, _⟩ := hr.resolve_left (fun q => by omega)
  refine lv_aload_n hx hb d_D_item_0 rfl (lv_at hl 0 rfl) ?_
  refine lv_iload_n hx hb d_D_item_1 rfl (lv_at hl 1 rfl) ?_
  refine iv_D_113 (As := [.int (nI kk)]) (rest := []) cx (c_boxIn_some l G n0 e0 w d la ra on tot (fun _ => none) fr hd hra kk hkk b hv) hd ⟨(Nat.le_of_ble_eq_true rfl), (Nat.le_of_ble_eq_true rfl)⟩ ⟨(Nat.le_of_ble_eq_true rfl), (Nat.le_of_ble_eq_true rfl)⟩ rfl hl.1 rfl (Nat.le_of_ble_eq_true rfl) d_D_item_2 hZ hS (fun v w_1 H locs hp_2 hZ hS => ?_)
  obtain ⟨rfl, hq⟩ := hp_2
  subst w_1
  refine W.eq (g2 := F0 m 5 ls [.ref b]) rfl ?_
  refine lv_astore (lv' := [(4, .ref b), (0, .ref d), (1, .int (nI kk)), (2, .int (nI jj)), (3, .int what)]) hx hb d_D_item_5 hl (by decide) rfl (fun ls hl => ?_)
  refine lv_aload hx hb d_D_item_7 (lv_at hl 0 rfl) ?_
  refine lv_ifnull hx hb d_D_item_9 ?_
  refine lv_iload_n hx hb d_D_item_12 rfl (lv_at hl 3 rfl) ?_
  refine lv_if_lt (tgt := 40) hx hb d_D_item_13 (by decide) (fun c13 => ?_) (fun c13 => ?_)
  · exact absurd c13 (nI_pos (by omega))
  · refine lv_iload_n hx hb d_D_item_16 rfl (lv_at hl 3 rfl) ?_
    refine lv_aload hx hb d_D_item_17 (lv_at hl 0 rfl) ?_
    refine gf_D_131 cx hZ hb0 rfl d_D_item_19 ?_
    refine gf_D_117 cx hZ hL.1 rfl d_D_item_22 ?_
    refine iv_D_135 (As := []) (rest := [.int (nI jj)]) cx (c_A_size l G n0 e0 w al md (.ref ar) (nI V.2.1) hal) hal ⟨(Nat.le_of_ble_eq_true rfl), (Nat.le_of_ble_eq_true rfl)⟩ ⟨(Nat.le_of_ble_eq_true rfl), (Nat.le_of_ble_eq_true rfl)⟩ rfl hl.1 rfl (Nat.le_of_ble_eq_true rfl) d_D_item_25 hZ hS (fun v w_3 H locs hp_4 hZ hS => ?_)
    obtain ⟨rfl, hq⟩ := hp_4
    subst w_3
    refine W.eq (g2 := F0 m 28 ls [.int (nI V.2.1), .int (nI jj)]) rfl ?_
    refine lv_icmp_ge (tgt := 40) hx hb d_D_item_28 (by decide) (fun c28 => ?_) (fun c28 => ?_)
    · exact absurd c28 (nI_ge hjj (by omega))
    · refine lv_iload_n hx hb d_D_item_31 rfl (lv_at hl 4 rfl) ?_
      refine lv_if_lt (tgt := 40) hx hb d_D_item_32 (by decide) (fun c32 => ?_) (fun c32 => ?_)
      · exact absurd c32 (whatB_of hwh).1
      · refine lv_iload_n hx hb d_D_item_35 rfl (lv_at hl 4 rfl) ?_
        refine lv_iconst (v := 5) hx hb d_D_item_36 (by decide) ?_
        refine lv_icmp_le (tgt := 50) hx hb d_D_item_37 (by decide) (fun c37 => ?_) (fun c37 => ?_)
        · refine lv_aload hx hb d_D_item_50 (lv_at hl 0 rfl) ?_
          refine gf_D_131 cx hZ hb0 rfl d_D_item_52 ?_
          refine gf_D_117 cx hZ hL.1 rfl d_D_item_55 ?_
          refine lv_iload_n hx hb d_D_item_58 rfl (lv_at hl 3 rfl) ?_
          refine iv_D_139 (As := [.int (nI jj)]) (rest := []) cx (c_A_get l G n0 e0 w al ar cap md (nI V.2.1) fa hal har (nI jj) x (nI_pos (by omega)) (nI_lt hjj (by omega)) (vp_in_nI (by omega) (by omega)) (by rw [nI_clamp (by omega)]; exact hfx)) hal ⟨(Nat.le_of_ble_eq_true rfl), (Nat.le_of_ble_eq_true rfl)⟩ ⟨(Nat.le_of_ble_eq_true rfl), (Nat.le_of_ble_eq_true rfl)⟩ rfl hl.1 rfl (Nat.le_of_ble_eq_true rfl) d_D_item_59 hZ hS (fun v w_5 H locs hp_6 hZ hS => ?_)
          obtain ⟨rfl, hq⟩ := hp_6
          subst w_5
          refine W.eq (g2 := F0 m 62 ls [.ref x]) rfl ?_
          refine kc_D_40 cx hZ hxi d_D_item_62 ?_
          refine lv_astore (lv' := [(5, .ref x), (4, .ref b), (0, .ref d), (1, .int (nI kk)), (2, .int (nI jj)), (3, .int what)]) hx hb d_D_item_65 hl (by decide) rfl (fun ls hl => ?_)
          refine lv_aload hx hb d_D_item_67 (lv_at hl 0 rfl) ?_
          refine gf_D_163 cx hZ hxi rfl d_D_item_69 ?_
          refine lv_iconst (v := 5) hx hb d_D_item_72 (by decide) ?_
          refine lv_icmp_ne (tgt := 95) hx hb d_D_item_73 (by decide) (fun c73 => ?_) (fun c73 => ?_)
          · refine lv_iconst (v := 0) hx hb d_D_item_95 (by decide) ?_
            refine lv_istore (lv' := [(6, .int 0), (5, .ref x), (4, .ref b), (0, .ref d), (1, .int (nI kk)), (2, .int (nI jj)), (3, .int what)]) hx hb d_D_item_96 hl (by decide) rfl (fun ls hl => ?_)
            refine lv_iload hx hb d_D_item_98 (lv_at hl 0 rfl) ?_
            refine lv_if_eq (tgt := 113) hx hb d_D_item_100 (by decide) (fun c100 => ?_) (fun c100 => ?_)
            · refine lv_aload hx hb d_D_item_113 (lv_at hl 1 rfl) ?_
              refine lv_iload_n hx hb d_D_item_115 rfl (lv_at hl 6 rfl) ?_
              refine iv_D_170 (As := [.int what]) (rest := []) cx (c_tellI l G n0 e0 w x (V.2.2 jj) what hxi) hxi ⟨(Nat.le_of_ble_eq_true rfl), (Nat.le_of_ble_eq_true rfl)⟩ ⟨(Nat.le_of_ble_eq_true rfl), (Nat.le_of_ble_eq_true rfl)⟩ rfl hl.1 rfl (Nat.le_of_ble_eq_true rfl) d_D_item_116 hZ hS (fun v w_7 H locs hp_8 hZ hS => ?_)
              obtain ⟨rfl, hq⟩ := hp_8
              subst w_7
              refine W.eq (g2 := F0 m 119 ls [.int (tellI (V.2.2 jj) what)]) rfl ?_
              exact z_iretT cx.1 cx.2.1 cx.rt cx.lk hS hZ ⟨(Nat.le_of_ble_eq_true rfl), (Nat.le_of_ble_eq_true rfl)⟩ d_D_item_119 (⟨by rw [itemC, if_neg (fun q => c73 q.1)], rfl⟩)
            · exact absurd c100 (by decide)
          · refine lv_iload_n hx hb d_D_item_76 rfl (lv_at hl 5 rfl) ?_
            refine lv_iconst (v := 1) hx hb d_D_item_77 (by decide) ?_
            refine lv_icmp_ne (tgt := 95) hx hb d_D_item_78 (by decide) (fun c78 => ?_) (fun c78 => ?_)
            · refine lv_iconst (v := 0) hx hb d_D_item_95 (by decide) ?_
              refine lv_istore (lv' := [(6, .int 0), (5, .ref x), (4, .ref b), (0, .ref d), (1, .int (nI kk)), (2, .int (nI jj)), (3, .int what)]) hx hb d_D_item_96 hl (by decide) rfl (fun ls hl => ?_)
              refine lv_iload hx hb d_D_item_98 (lv_at hl 0 rfl) ?_
              refine lv_if_eq (tgt := 113) hx hb d_D_item_100 (by decide) (fun c100 => ?_) (fun c100 => ?_)
              · refine lv_aload hx hb d_D_item_113 (lv_at hl 1 rfl) ?_
                refine lv_iload_n hx hb d_D_item_115 rfl (lv_at hl 6 rfl) ?_
                refine iv_D_170 (As := [.int what]) (rest := []) cx (c_tellI l G n0 e0 w x (V.2.2 jj) what hxi) hxi ⟨(Nat.le_of_ble_eq_true rfl), (Nat.le_of_ble_eq_true rfl)⟩ ⟨(Nat.le_of_ble_eq_true rfl), (Nat.le_of_ble_eq_true rfl)⟩ rfl hl.1 rfl (Nat.le_of_ble_eq_true rfl) d_D_item_116 hZ hS (fun v w_9 H locs hp_10 hZ hS => ?_)
                obtain ⟨rfl, hq⟩ := hp_10
                subst w_9
                refine W.eq (g2 := F0 m 119 ls [.int (tellI (V.2.2 jj) what)]) rfl ?_
                exact z_iretT cx.1 cx.2.1 cx.rt cx.lk hS hZ ⟨(Nat.le_of_ble_eq_true rfl), (Nat.le_of_ble_eq_true rfl)⟩ d_D_item_119 (⟨by rw [itemC, if_neg (fun q => c78 q.2)], rfl⟩)
              · exact absurd c100 (by decide)
            · refine lv_iload_n hx hb d_D_item_81 rfl (lv_at hl 4 rfl) ?_
              refine lv_aload hx hb d_D_item_82 (lv_at hl 1 rfl) ?_
              refine gf_D_166 cx hZ hb0 rfl d_D_item_84 ?_
              refine len_i cx hZ hsw d_D_item_87 ?_
              refine lv_icmp_ge (tgt := 95) hx hb d_D_item_88 (by decide) (fun c88 => ?_) (fun c88 => ?_)
              · exact absurd c88 (nI_ge hjj (by omega))
              · refine lv_iconst (v := 1) hx hb d_D_item_91 (by decide) ?_
                refine lv_goto (tgt := 96) hx hb d_D_item_92 (by decide) ?_
                refine lv_istore (lv' := [(6, .int 1), (5, .ref x), (4, .ref b), (0, .ref d), (1, .int (nI kk)), (2, .int (nI jj)), (3, .int what)]) hx hb d_D_item_96 hl (by decide) rfl (fun ls hl => ?_)
                refine lv_iload hx hb d_D_item_98 (lv_at hl 0 rfl) ?_
                refine lv_if_eq (tgt := 113) hx hb d_D_item_100 (by decide) (fun c100 => ?_) (fun c100 => ?_)
                · exact absurd c100 (by decide)
                · refine lv_aload hx hb d_D_item_103 (lv_at hl 2 rfl) ?_
                  refine gf_D_166 cx hZ hb0 rfl d_D_item_105 ?_
                  refine lv_iload_n hx hb d_D_item_108 rfl (lv_at hl 5 rfl) ?_
                  refine ld_i cx hZ hsw (vp_in_nI hjj (by omega)) d_D_item_109 ?_
                  refine lv_goto (tgt := 119) hx hb d_D_item_110 (by decide) ?_
                  exact z_iretT cx.1 cx.2.1 cx.rt cx.lk hS hZ ⟨(Nat.le_of_ble_eq_true rfl), (Nat.le_of_ble_eq_true rfl)⟩ d_D_item_119 (⟨by rw [itemC, if_pos ⟨c73, c78⟩, nI_clamp (by omega)], rfl⟩)
        · exact absurd (whatB_of hwh).2 c37
