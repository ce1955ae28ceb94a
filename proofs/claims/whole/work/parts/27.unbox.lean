theorem gK_le {n cap : Nat} (h : n ≤ cap) (h2 : cap ≤ 10 + 2 * n) : gK n cap ≤ 10 + 2 * (n + 1) := by
  unfold gK
  split
  · omega
  · split <;> omega
def rmU (n : Nat) : Room := { frames := 7, cells := (10 + 2 * n) / 5 + 1, slots := 4 * (10 + 2 * n), locals := 160 }
/-- the box's items joined the innermost list -/
def UnbP (G : zG) (e0 d la ra on tot il al ar : Nat) (V V2 : LV) (fr2 : Nat → Option Nat) (w w1 : zw) : Prop := ∃ ar3 cap3, LL G e0 w1 (il, al, ar3, cap3) (appN V V2 V2.2.1) ∧ (ar3 = ar ∨ w ar3 = none) ∧ w1 d = some (.inr (5, [.ref la, .int (nI on), .ref ra, .int (nI tot)])) ∧ w1 ra = some (.inl (G.2 5, 16, .inr (.inr (.inr (.inr fr2))))) ∧ Fr [d, ra, al, ar] w w1
theorem zi_inj {a b : Bool} : zi a = zi b ↔ a = b := by cases a <;> cases b <;> decide
set_option maxHeartbeats 4000000 in
set_option maxRecDepth 100000 in
theorem c_unbox_0out (l : Launch) (G : zG) (n0 e0 : Nat) (w : zw) (d la ra t : Nat) (fl fr : Nat → Option Nat) (hd : w d = some (.inr (5, [.ref la, .int (nI 0), .ref ra, .int (nI (t + 1))]))) (hla : w la = some (.inl (G.2 4, 100, .inr (.inr (.inr (.inr fl)))))) (hra : w ra = some (.inl (G.2 5, 16, .inr (.inr (.inr (.inr fr)))))) (kk : Int32) (hkk : regB kk = false)  : Ct l G n0 e0 y_D_unbox b_D_unbox 6 (Option.some FieldType.boolean) (rmU 0) [.ref d, .int kk] w (fun v w1 => v = some (.int 0) ∧ w1 = w) := by
  refine z_ct (by decide) (Nat.le_of_ble_eq_true rfl) ?_
  intro p e s m below meth c ls cx hnm hZ hS hl
  have hx := cx.1
  have hb := cx.2.1
  have hl : lv_has ls 6 [(0, .ref d), (1, .int kk)] := hl
  refine lv_aload_n hx hb d_D_unbox_0 rfl (lv_at hl 0 rfl) ?_
  refine iv_D_28 (As := []) (rest := []) cx (c_innermost_0 l G n0 e0 w d la ra 0 (t + 1) (fun _ => none) (fun _ => none) hd rfl) hd ⟨(Nat.le_of_ble_eq_true rfl), (Nat.le_of_ble_eq_true rfl)⟩ ⟨(by dsimp only [rmU]; omega), (by dsimp only [rmU]; omega)⟩ rfl hl.1 rfl (Nat.le_of_ble_eq_true rfl) d_D_unbox_1 hZ hS (fun v w_1 H locs hp_2 hZ hS => ?_)
  obtain ⟨rfl, hq⟩ := hp_2
  subst w_1
  refine W.eq (g2 := F0 m 4 ls [.null]) rfl ?_
  refine lv_astore_nN (lv' := [(2, .null), (0, .ref d), (1, .int kk)]) hx hb d_D_unbox_4 rfl hl (by decide) rfl (fun ls hl => ?_)
  refine lv_aload_n hx hb d_D_unbox_5 rfl (lv_at hl 1 rfl) ?_
  refine lv_iload_n hx hb d_D_unbox_6 rfl (lv_at hl 2 rfl) ?_
  refine iv_D_113 (As := [.int kk]) (rest := []) cx (c_boxIn_out l G n0 e0 w d la ra 0 (t + 1) (fun _ => none) (fun _ => none) hd kk hkk) hd ⟨(Nat.le_of_ble_eq_true rfl), (Nat.le_of_ble_eq_true rfl)⟩ ⟨(by dsimp only [rmU]; omega), (by dsimp only [rmU]; omega)⟩ rfl hl.1 rfl (Nat.le_of_ble_eq_true rfl) d_D_unbox_7 hZ hS (fun v w_3 H locs hp_4 hZ hS => ?_)
  obtain ⟨rfl, hq⟩ := hp_4
  subst w_3
  refine W.eq (g2 := F0 m 10 ls [.null]) rfl ?_
  refine lv_astore_nN (lv' := [(3, .null), (2, .null), (0, .ref d), (1, .int kk)]) hx hb d_D_unbox_10 rfl hl (by decide) rfl (fun ls hl => ?_)
  refine lv_aload_nN hx hb d_D_unbox_11 rfl (lv_at hl 1 rfl) ?_
  refine lv_ifnullN (tgt := 33) hx hb d_D_unbox_12 (by decide) ?_
  refine lv_iconst (v := 0) hx hb d_D_unbox_33 (by decide) ?_
  exact z_zret cx.1 cx.2.1 cx.rt cx.lk (by first | rfl | (simp [narrow]; done) | simp_all [narrow]) hS hZ ⟨(by dsimp only [rmU]; omega), (by dsimp only [rmU]; omega)⟩ d_D_unbox_34 (⟨rfl, rfl⟩)
set_option maxHeartbeats 4000000 in
set_option maxRecDepth 100000 in
theorem c_unbox_0void (l : Launch) (G : zG) (n0 e0 : Nat) (w : zw) (d la ra t : Nat) (fl fr : Nat → Option Nat) (hd : w d = some (.inr (5, [.ref la, .int (nI 0), .ref ra, .int (nI (t + 1))]))) (hla : w la = some (.inl (G.2 4, 100, .inr (.inr (.inr (.inr fl)))))) (hra : w ra = some (.inl (G.2 5, 16, .inr (.inr (.inr (.inr fr)))))) (kk : Nat) (hkk : kk < 16) (hv : fr kk = none)  : Ct l G n0 e0 y_D_unbox b_D_unbox 6 (Option.some FieldType.boolean) (rmU 0) [.ref d, .int (nI kk)] w (fun v w1 => v = some (.int 0) ∧ w1 = w) := by
  refine z_ct (by decide) (Nat.le_of_ble_eq_true rfl) ?_
  intro p e s m below meth c ls cx hnm hZ hS hl
  have hx := cx.1
  have hb := cx.2.1
  have hl : lv_has ls 6 [(0, .ref d), (1, .int (nI kk))] := hl
  refine lv_aload_n hx hb d_D_unbox_0 rfl (lv_at hl 0 rfl) ?_
  refine iv_D_28 (As := []) (rest := []) cx (c_innermost_0 l G n0 e0 w d la ra 0 (t + 1) (fun _ => none) (fun _ => none) hd rfl) hd ⟨(Nat.le_of_ble_eq_true rfl), (Nat.le_of_ble_eq_true rfl)⟩ ⟨(by dsimp only [rmU]; omega), (by dsimp only [rmU]; omega)⟩ rfl hl.1 rfl (Nat.le_of_ble_eq_true rfl) d_D_unbox_1 hZ hS (fun v w_1 H locs hp_2 hZ hS => ?_)
  obtain ⟨rfl, hq⟩ := hp_2
  subst w_1
  refine W.eq (g2 := F0 m 4 ls [.null]) rfl ?_
  refine lv_astore_nN (lv' := [(2, .null), (0, .ref d), (1, .int (nI kk))]) hx hb d_D_unbox_4 rfl hl (by decide) rfl (fun ls hl => ?_)
  refine lv_aload_n hx hb d_D_unbox_5 rfl (lv_at hl 1 rfl) ?_
  refine lv_iload_n hx hb d_D_unbox_6 rfl (lv_at hl 2 rfl) ?_
  refine iv_D_113 (As := [.int (nI kk)]) (rest := []) cx (c_boxIn_void l G n0 e0 w d la ra 0 (t + 1) (fun _ => none) fr hd hra kk hkk hv) hd ⟨(Nat.le_of_ble_eq_true rfl), (Nat.le_of_ble_eq_true rfl)⟩ ⟨(by dsimp only [rmU]; omega), (by dsimp only [rmU]; omega)⟩ rfl hl.1 rfl (Nat.le_of_ble_eq_true rfl) d_D_unbox_7 hZ hS (fun v w_3 H locs hp_4 hZ hS => ?_)
  obtain ⟨rfl, hq⟩ := hp_4
  subst w_3
  refine W.eq (g2 := F0 m 10 ls [.null]) rfl ?_
  refine lv_astore_nN (lv' := [(3, .null), (2, .null), (0, .ref d), (1, .int (nI kk))]) hx hb d_D_unbox_10 rfl hl (by decide) rfl (fun ls hl => ?_)
  refine lv_aload_nN hx hb d_D_unbox_11 rfl (lv_at hl 1 rfl) ?_
  refine lv_ifnullN (tgt := 33) hx hb d_D_unbox_12 (by decide) ?_
  refine lv_iconst (v := 0) hx hb d_D_unbox_33 (by decide) ?_
  exact z_zret cx.1 cx.2.1 cx.rt cx.lk (by first | rfl | (simp [narrow]; done) | simp_all [narrow]) hS hZ ⟨(by dsimp only [rmU]; omega), (by dsimp only [rmU]; omega)⟩ d_D_unbox_34 (⟨rfl, rfl⟩)
set_option maxHeartbeats 4000000 in
set_option maxRecDepth 100000 in
theorem c_unbox_0some (l : Launch) (G : zG) (n0 e0 : Nat) (w : zw) (d la ra t : Nat) (fl fr : Nat → Option Nat) (hd : w d = some (.inr (5, [.ref la, .int (nI 0), .ref ra, .int (nI (t + 1))]))) (hla : w la = some (.inl (G.2 4, 100, .inr (.inr (.inr (.inr fl)))))) (hra : w ra = some (.inl (G.2 5, 16, .inr (.inr (.inr (.inr fr)))))) (kk b li sw al2 ar2 cap2 : Nat) (f : Nat → Int32) (V2 : LV) (hkk : kk < 16) (hv : fr kk = some b) (hb0 : w b = some (.inr (4, fB li sw f))) (hB : LL G e0 w (li, al2, ar2, cap2) V2)  : Ct l G n0 e0 y_D_unbox b_D_unbox 6 (Option.some FieldType.boolean) (rmU 0) [.ref d, .int (nI kk)] w (fun v w1 => v = some (.int 0) ∧ w1 = w) := by
  refine z_ct (by decide) (Nat.le_of_ble_eq_true rfl) ?_
  intro p e s m below meth c ls cx hnm hZ hS hl
  have hx := cx.1
  have hb := cx.2.1
  have hl : lv_has ls 6 [(0, .ref d), (1, .int (nI kk))] := hl
  refine lv_aload_n hx hb d_D_unbox_0 rfl (lv_at hl 0 rfl) ?_
  refine iv_D_28 (As := []) (rest := []) cx (c_innermost_0 l G n0 e0 w d la ra 0 (t + 1) (fun _ => none) (fun _ => none) hd rfl) hd ⟨(Nat.le_of_ble_eq_true rfl), (Nat.le_of_ble_eq_true rfl)⟩ ⟨(by dsimp only [rmU]; omega), (by dsimp only [rmU]; omega)⟩ rfl hl.1 rfl (Nat.le_of_ble_eq_true rfl) d_D_unbox_1 hZ hS (fun v w_1 H locs hp_2 hZ hS => ?_)
  obtain ⟨rfl, hq⟩ := hp_2
  subst w_1
  refine W.eq (g2 := F0 m 4 ls [.null]) rfl ?_
  refine lv_astore_nN (lv' := [(2, .null), (0, .ref d), (1, .int (nI kk))]) hx hb d_D_unbox_4 rfl hl (by decide) rfl (fun ls hl => ?_)
  refine lv_aload_n hx hb d_D_unbox_5 rfl (lv_at hl 1 rfl) ?_
  refine lv_iload_n hx hb d_D_unbox_6 rfl (lv_at hl 2 rfl) ?_
  refine iv_D_113 (As := [.int (nI kk)]) (rest := []) cx (c_boxIn_some l G n0 e0 w d la ra 0 (t + 1) (fun _ => none) fr hd hra kk hkk b hv) hd ⟨(Nat.le_of_ble_eq_true rfl), (Nat.le_of_ble_eq_true rfl)⟩ ⟨(by dsimp only [rmU]; omega), (by dsimp only [rmU]; omega)⟩ rfl hl.1 rfl (Nat.le_of_ble_eq_true rfl) d_D_unbox_7 hZ hS (fun v w_3 H locs hp_4 hZ hS => ?_)
  obtain ⟨rfl, hq⟩ := hp_4
  subst w_3
  refine W.eq (g2 := F0 m 10 ls [.ref b]) rfl ?_
  refine lv_astore_n (lv' := [(3, .ref b), (2, .null), (0, .ref d), (1, .int (nI kk))]) hx hb d_D_unbox_10 rfl hl (by decide) rfl (fun ls hl => ?_)
  refine lv_aload_nN hx hb d_D_unbox_11 rfl (lv_at hl 1 rfl) ?_
  refine lv_ifnullN (tgt := 33) hx hb d_D_unbox_12 (by decide) ?_
  refine lv_iconst (v := 0) hx hb d_D_unbox_33 (by decide) ?_
  exact z_zret cx.1 cx.2.1 cx.rt cx.lk (by first | rfl | (simp [narrow]; done) | simp_all [narrow]) hS hZ ⟨(by dsimp only [rmU]; omega), (by dsimp only [rmU]; omega)⟩ d_D_unbox_34 (⟨rfl, rfl⟩)
set_option maxHeartbeats 4000000 in
set_option maxRecDepth 100000 in
theorem c_unbox_1out (l : Launch) (G : zG) (n0 e0 : Nat) (w : zw) (d la ra t : Nat) (fl fr : Nat → Option Nat) (k il al ar cap : Nat) (V : LV) (hd : w d = some (.inr (5, [.ref la, .int (nI (k + 1)), .ref ra, .int (nI (t + 1))]))) (hla : w la = some (.inl (G.2 4, 100, .inr (.inr (.inr (.inr fl)))))) (hra : w ra = some (.inl (G.2 5, 16, .inr (.inr (.inr (.inr fr)))))) (hk : k < 100) (hil : fl k = some il) (hL : LL G e0 w (il, al, ar, cap) V) (kk : Int32) (hkk : regB kk = false)  : Ct l G n0 e0 y_D_unbox b_D_unbox 6 (Option.some FieldType.boolean) (rmU 0) [.ref d, .int kk] w (fun v w1 => v = some (.int 0) ∧ w1 = w) := by
  refine z_ct (by decide) (Nat.le_of_ble_eq_true rfl) ?_
  intro p e s m below meth c ls cx hnm hZ hS hl
  have hx := cx.1
  have hb := cx.2.1
  have hl : lv_has ls 6 [(0, .ref d), (1, .int kk)] := hl
  refine lv_aload_n hx hb d_D_unbox_0 rfl (lv_at hl 0 rfl) ?_
  refine iv_D_28 (As := []) (rest := []) cx (c_innermost_1 l G n0 e0 w d la ra k (t + 1) fl (fun _ => none) hd hla hk il hil) hd ⟨(Nat.le_of_ble_eq_true rfl), (Nat.le_of_ble_eq_true rfl)⟩ ⟨(by dsimp only [rmU]; omega), (by dsimp only [rmU]; omega)⟩ rfl hl.1 rfl (Nat.le_of_ble_eq_true rfl) d_D_unbox_1 hZ hS (fun v w_1 H locs hp_2 hZ hS => ?_)
  obtain ⟨rfl, hq⟩ := hp_2
  subst w_1
  refine W.eq (g2 := F0 m 4 ls [.ref il]) rfl ?_
  refine lv_astore_n (lv' := [(2, .ref il), (0, .ref d), (1, .int kk)]) hx hb d_D_unbox_4 rfl hl (by decide) rfl (fun ls hl => ?_)
  refine lv_aload_n hx hb d_D_unbox_5 rfl (lv_at hl 1 rfl) ?_
  refine lv_iload_n hx hb d_D_unbox_6 rfl (lv_at hl 2 rfl) ?_
  refine iv_D_113 (As := [.int kk]) (rest := []) cx (c_boxIn_out l G n0 e0 w d la ra (k + 1) (t + 1) (fun _ => none) (fun _ => none) hd kk hkk) hd ⟨(Nat.le_of_ble_eq_true rfl), (Nat.le_of_ble_eq_true rfl)⟩ ⟨(by dsimp only [rmU]; omega), (by dsimp only [rmU]; omega)⟩ rfl hl.1 rfl (Nat.le_of_ble_eq_true rfl) d_D_unbox_7 hZ hS (fun v w_3 H locs hp_4 hZ hS => ?_)
  obtain ⟨rfl, hq⟩ := hp_4
  subst w_3
  refine W.eq (g2 := F0 m 10 ls [.null]) rfl ?_
  refine lv_astore_nN (lv' := [(3, .null), (2, .ref il), (0, .ref d), (1, .int kk)]) hx hb d_D_unbox_10 rfl hl (by decide) rfl (fun ls hl => ?_)
  refine lv_aload_n hx hb d_D_unbox_11 rfl (lv_at hl 1 rfl) ?_
  refine lv_ifnull hx hb d_D_unbox_12 ?_
  refine lv_aload_nN hx hb d_D_unbox_15 rfl (lv_at hl 0 rfl) ?_
  refine lv_ifnullN (tgt := 33) hx hb d_D_unbox_16 (by decide) ?_
  refine lv_iconst (v := 0) hx hb d_D_unbox_33 (by decide) ?_
  exact z_zret cx.1 cx.2.1 cx.rt cx.lk (by first | rfl | (simp [narrow]; done) | simp_all [narrow]) hS hZ ⟨(by dsimp only [rmU]; omega), (by dsimp only [rmU]; omega)⟩ d_D_unbox_34 (⟨rfl, rfl⟩)
set_option maxHeartbeats 4000000 in
set_option maxRecDepth 100000 in
theorem c_unbox_1void (l : Launch) (G : zG) (n0 e0 : Nat) (w : zw) (d la ra t : Nat) (fl fr : Nat → Option Nat) (k il al ar cap : Nat) (V : LV) (hd : w d = some (.inr (5, [.ref la, .int (nI (k + 1)), .ref ra, .int (nI (t + 1))]))) (hla : w la = some (.inl (G.2 4, 100, .inr (.inr (.inr (.inr fl)))))) (hra : w ra = some (.inl (G.2 5, 16, .inr (.inr (.inr (.inr fr)))))) (hk : k < 100) (hil : fl k = some il) (hL : LL G e0 w (il, al, ar, cap) V) (kk : Nat) (hkk : kk < 16) (hv : fr kk = none)  : Ct l G n0 e0 y_D_unbox b_D_unbox 6 (Option.some FieldType.boolean) (rmU 0) [.ref d, .int (nI kk)] w (fun v w1 => v = some (.int 0) ∧ w1 = w) := by
  refine z_ct (by decide) (Nat.le_of_ble_eq_true rfl) ?_
  intro p e s m below meth c ls cx hnm hZ hS hl
  have hx := cx.1
  have hb := cx.2.1
  have hl : lv_has ls 6 [(0, .ref d), (1, .int (nI kk))] := hl
  refine lv_aload_n hx hb d_D_unbox_0 rfl (lv_at hl 0 rfl) ?_
  refine iv_D_28 (As := []) (rest := []) cx (c_innermost_1 l G n0 e0 w d la ra k (t + 1) fl (fun _ => none) hd hla hk il hil) hd ⟨(Nat.le_of_ble_eq_true rfl), (Nat.le_of_ble_eq_true rfl)⟩ ⟨(by dsimp only [rmU]; omega), (by dsimp only [rmU]; omega)⟩ rfl hl.1 rfl (Nat.le_of_ble_eq_true rfl) d_D_unbox_1 hZ hS (fun v w_1 H locs hp_2 hZ hS => ?_)
  obtain ⟨rfl, hq⟩ := hp_2
  subst w_1
  refine W.eq (g2 := F0 m 4 ls [.ref il]) rfl ?_
  refine lv_astore_n (lv' := [(2, .ref il), (0, .ref d), (1, .int (nI kk))]) hx hb d_D_unbox_4 rfl hl (by decide) rfl (fun ls hl => ?_)
  refine lv_aload_n hx hb d_D_unbox_5 rfl (lv_at hl 1 rfl) ?_
  refine lv_iload_n hx hb d_D_unbox_6 rfl (lv_at hl 2 rfl) ?_
  refine iv_D_113 (As := [.int (nI kk)]) (rest := []) cx (c_boxIn_void l G n0 e0 w d la ra (k + 1) (t + 1) (fun _ => none) fr hd hra kk hkk hv) hd ⟨(Nat.le_of_ble_eq_true rfl), (Nat.le_of_ble_eq_true rfl)⟩ ⟨(by dsimp only [rmU]; omega), (by dsimp only [rmU]; omega)⟩ rfl hl.1 rfl (Nat.le_of_ble_eq_true rfl) d_D_unbox_7 hZ hS (fun v w_3 H locs hp_4 hZ hS => ?_)
  obtain ⟨rfl, hq⟩ := hp_4
  subst w_3
  refine W.eq (g2 := F0 m 10 ls [.null]) rfl ?_
  refine lv_astore_nN (lv' := [(3, .null), (2, .ref il), (0, .ref d), (1, .int (nI kk))]) hx hb d_D_unbox_10 rfl hl (by decide) rfl (fun ls hl => ?_)
  refine lv_aload_n hx hb d_D_unbox_11 rfl (lv_at hl 1 rfl) ?_
  refine lv_ifnull hx hb d_D_unbox_12 ?_
  refine lv_aload_nN hx hb d_D_unbox_15 rfl (lv_at hl 0 rfl) ?_
  refine lv_ifnullN (tgt := 33) hx hb d_D_unbox_16 (by decide) ?_
  refine lv_iconst (v := 0) hx hb d_D_unbox_33 (by decide) ?_
  exact z_zret cx.1 cx.2.1 cx.rt cx.lk (by first | rfl | (simp [narrow]; done) | simp_all [narrow]) hS hZ ⟨(by dsimp only [rmU]; omega), (by dsimp only [rmU]; omega)⟩ d_D_unbox_34 (⟨rfl, rfl⟩)
set_option maxHeartbeats 4000000 in
set_option maxRecDepth 100000 in
theorem c_unbox_1some (l : Launch) (G : zG) (n0 e0 : Nat) (w : zw) (d la ra t : Nat) (fl fr : Nat → Option Nat) (k il al ar cap : Nat) (V : LV) (hd : w d = some (.inr (5, [.ref la, .int (nI (k + 1)), .ref ra, .int (nI (t + 1))]))) (hla : w la = some (.inl (G.2 4, 100, .inr (.inr (.inr (.inr fl)))))) (hra : w ra = some (.inl (G.2 5, 16, .inr (.inr (.inr (.inr fr)))))) (hk : k < 100) (hil : fl k = some il) (hL : LL G e0 w (il, al, ar, cap) V) (kk b li sw al2 ar2 cap2 : Nat) (f : Nat → Int32) (V2 : LV) (hkk : kk < 16) (hv : fr kk = some b) (hb0 : w b = some (.inr (4, fB li sw f))) (hB : LL G e0 w (li, al2, ar2, cap2) V2) (hn : V.2.1 + V2.2.1 ≤ 10000) (hne1 : al2 ≠ al) (hne2 : ar2 ≠ ar ∨ ar2 = e0)  : Ct l G n0 e0 y_D_unbox b_D_unbox 6 (Option.some FieldType.boolean) (rmU (V.2.1 + V2.2.1)) [.ref d, .int (nI kk)] w (fun v w1 => ∃ r, v = some (.int r) ∧ ((V2.1 = V.1 ∧ r = 1 ∧ UnbP G e0 d la ra (k + 1) t il al ar V V2 (va_up fr kk none) w w1) ∨ (V2.1 ≠ V.1 ∧ r = 0 ∧ w1 = w))) := by
  refine z_ct (by decide) (Nat.le_of_ble_eq_true rfl) ?_
  intro p e s m below meth c ls cx hnm hZ hS hl
  have hx := cx.1
  have hb := cx.2.1
  have hl : lv_has ls 6 [(0, .ref d), (1, .int (nI kk))] := hl
  have hZ0 := hZ
  have hF : Fr [d, ra, al, ar] w w := Fr.rf
  refine lv_aload_n hx hb d_D_unbox_0 rfl (lv_at hl 0 rfl) ?_
  refine iv_D_28 (As := []) (rest := []) cx (c_innermost_1 l G n0 e0 w d la ra k (t + 1) fl (fun _ => none) hd hla hk il hil) hd ⟨(Nat.le_of_ble_eq_true rfl), (Nat.le_of_ble_eq_true rfl)⟩ ⟨(by first | (dsimp only [rmU]; omega) | (show _ + gC (V.2.1 + i) cap1 ≤ _; dsimp only [rmU]; omega) | (show _ + gS (V.2.1 + i) cap1 ≤ _; dsimp only [rmU]; omega)), (by first | (dsimp only [rmU]; omega) | (show _ + gC (V.2.1 + i) cap1 ≤ _; dsimp only [rmU]; omega) | (show _ + gS (V.2.1 + i) cap1 ≤ _; dsimp only [rmU]; omega))⟩ rfl hl.1 rfl (Nat.le_of_ble_eq_true rfl) d_D_unbox_1 hZ hS (fun v w_1 H locs hp_2 hZ hS => ?_)
  obtain ⟨rfl, hq⟩ := hp_2
  subst w_1
  refine W.eq (g2 := F0 m 4 ls [.ref il]) rfl ?_
  refine lv_astore_n (lv' := [(2, .ref il), (0, .ref d), (1, .int (nI kk))]) hx hb d_D_unbox_4 rfl hl (by decide) rfl (fun ls hl => ?_)
  refine lv_aload_n hx hb d_D_unbox_5 rfl (lv_at hl 1 rfl) ?_
  refine lv_iload_n hx hb d_D_unbox_6 rfl (lv_at hl 2 rfl) ?_
  refine iv_D_113 (As := [.int (nI kk)]) (rest := []) cx (c_boxIn_some l G n0 e0 w d la ra (k + 1) (t + 1) (fun _ => none) fr hd hra kk hkk b hv) hd ⟨(Nat.le_of_ble_eq_true rfl), (Nat.le_of_ble_eq_true rfl)⟩ ⟨(by first | (dsimp only [rmU]; omega) | (show _ + gC (V.2.1 + i) cap1 ≤ _; dsimp only [rmU]; omega) | (show _ + gS (V.2.1 + i) cap1 ≤ _; dsimp only [rmU]; omega)), (by first | (dsimp only [rmU]; omega) | (show _ + gC (V.2.1 + i) cap1 ≤ _; dsimp only [rmU]; omega) | (show _ + gS (V.2.1 + i) cap1 ≤ _; dsimp only [rmU]; omega))⟩ rfl hl.1 rfl (Nat.le_of_ble_eq_true rfl) d_D_unbox_7 hZ hS (fun v w_3 H locs hp_4 hZ hS => ?_)
  obtain ⟨rfl, hq⟩ := hp_4
  subst w_3
  refine W.eq (g2 := F0 m 10 ls [.ref b]) rfl ?_
  refine lv_astore_n (lv' := [(3, .ref b), (2, .ref il), (0, .ref d), (1, .int (nI kk))]) hx hb d_D_unbox_10 rfl hl (by decide) rfl (fun ls hl => ?_)
  refine lv_aload_n hx hb d_D_unbox_11 rfl (lv_at hl 1 rfl) ?_
  refine lv_ifnull hx hb d_D_unbox_12 ?_
  refine lv_aload_n hx hb d_D_unbox_15 rfl (lv_at hl 0 rfl) ?_
  refine lv_ifnull hx hb d_D_unbox_16 ?_
  refine lv_aload_n hx hb d_D_unbox_19 rfl (lv_at hl 0 rfl) ?_
  refine gf_D_131 cx hZ hb0 rfl d_D_unbox_20 ?_
  refine gf_D_32 cx hZ hB.1 rfl d_D_unbox_23 ?_
  refine lv_aload_n hx hb d_D_unbox_26 rfl (lv_at hl 1 rfl) ?_
  refine gf_D_32 cx hZ hL.1 rfl d_D_unbox_27 ?_
  refine lv_icmp_eq (tgt := 35) hx hb d_D_unbox_30 (by decide) (fun c30 => ?_) (fun c30 => ?_)
  · refine lv_aload_n hx hb d_D_unbox_35 rfl (lv_at hl 0 rfl) ?_
    refine gf_D_131 cx hZ hb0 rfl d_D_unbox_36 ?_
    refine gf_D_117 cx hZ hB.1 rfl d_D_unbox_39 ?_
    refine lv_astore (lv' := [(4, .ref al2), (3, .ref b), (2, .ref il), (0, .ref d), (1, .int (nI kk))]) hx hb d_D_unbox_42 hl (by decide) rfl (fun ls hl => ?_)
    refine lv_iconst (v := 0) hx hb d_D_unbox_44 (by decide) ?_
    refine lv_istore (lv' := [(5, .int 0), (4, .ref al2), (3, .ref b), (2, .ref il), (0, .ref d), (1, .int (nI kk))]) hx hb d_D_unbox_45 hl (by decide) rfl (fun ls hl => ?_)
    have loop : ∀ (j i : Nat) (ar1 cap1 : Nat) (w2 : zw) (H : Heap) (locs : List Loc) (cells slots : Nat) (ls : Array Slot), i + j = V2.2.1 → Zw G.1 vwC (zA n0) w2 H → va_S (zA n0) s.heap H locs → Fr [al, ar] w w2 → LL G e0 w2 (il, al, ar1, cap1) (appN V V2 i) → LL G e0 w2 (li, al2, ar2, cap2) V2 → (ar2 ≠ ar1 ∨ ar2 = e0) → (ar1 = ar ∨ w ar1 = none) → cells ≤ cap1 / 5 → slots ≤ 4 * cap1 → lv_has ls 6 [(5, .int (nI i)), (4, .ref al2), (0, .ref d), (1, .int (nI kk)), (2, .ref il), (3, .ref b)] → W p l e ((rmU (V.2.1 + V2.2.1))) s m [.ref d, .int (nI kk)].toArray below meth c H locs cells slots (MQ below (zQ G.1 vwC n0 (fun v w1 => ∃ r, v = some (.int r) ∧ ((V2.1 = V.1 ∧ r = 1 ∧ UnbP G e0 d la ra (k + 1) t il al ar V V2 (va_up fr kk none) w w1) ∨ (V2.1 ≠ V.1 ∧ r = 0 ∧ w1 = w)))) [.ref d, .int (nI kk)].toArray s ((rmU (V.2.1 + V2.2.1)) : Room).cells ((rmU (V.2.1 + V2.2.1)) : Room).slots (zA n0)) (F0 m 47 ls []) := by
      intro j
      induction j with
      | zero =>
        intro i ar1 cap1 w2 H locs cells slots ls hij hZ hS hE hLi hBi hne har1 hcl hsl hl
        have he := cx.ez hZ
        have he0 := cx.ez hZ0
        obtain ⟨hli2, hcapB, md2, fa2, hal2, hr2, hx2⟩ := id hBi
        obtain ⟨hil2, hcapA, mdA, faA, halA, hrA, _⟩ := id hLi
        dsimp only at hli2 hcapB hal2 hr2 hx2 hil2 hcapA halA hrA
        have hnA : (appN V V2 i).2.1 = V.2.1 + i := rfl
        have hk_5 : w2 d = some (.inr (5, [.ref la, .int (nI (k + 1)), .ref ra, .int (nI (t + 1))])) := hE.keep hd (hL.notin he0 hd (by simp) (by simp))
        have hk_6 : w2 b = some (.inr (4, [.ref li, .ref sw, .int (f 0), .int (f 1), .int (f 2), .int (f 3), .int (f 4)])) := hE.keep hb0 (hL.notin he0 hb0 (by simp) (by simp))
        have hk_7 : w2 ra = some (.inl (G.2 5, 16, .inr (.inr (.inr (.inr fr))))) := hE.keep hra (hL.notin he0 hra (by simp) (by simp [cx.g53]))
        have hin : i = V2.2.1 := by omega
        have hF := (hE.sub (T := [d, ra, al, ar]) (by intro t ht; simp only [List.mem_cons, List.not_mem_nil, or_false] at ht ⊢; rcases ht with rfl | rfl <;> simp))
        refine lv_iload hx hb d_D_unbox_47 (lv_at hl 0 rfl) ?_
        refine lv_aload hx hb d_D_unbox_49 (lv_at hl 1 rfl) ?_
        refine iv_D_135 (As := []) (rest := [.int (nI i)]) cx (c_A_size l G n0 e0 w2 al2 md2 (.ref ar2) (nI V2.2.1) hal2) hal2 ⟨(Nat.le_of_ble_eq_true rfl), (Nat.le_of_ble_eq_true rfl)⟩ ⟨(by first | (dsimp only [rmU]; omega) | (show _ + gC (V.2.1 + i) cap1 ≤ _; dsimp only [rmU]; omega) | (show _ + gS (V.2.1 + i) cap1 ≤ _; dsimp only [rmU]; omega)), (by first | (dsimp only [rmU]; omega) | (show _ + gC (V.2.1 + i) cap1 ≤ _; dsimp only [rmU]; omega) | (show _ + gS (V.2.1 + i) cap1 ≤ _; dsimp only [rmU]; omega))⟩ rfl hl.1 rfl (Nat.le_of_ble_eq_true rfl) d_D_unbox_51 hZ hS (fun v w_8 H locs hp_9 hZ hS => ?_)
        obtain ⟨rfl, hq⟩ := hp_9
        subst w_8
        refine W.eq (g2 := F0 m 54 ls [.int (nI V2.2.1), .int (nI i)]) rfl ?_
        refine lv_icmp_ge (tgt := 81) hx hb d_D_unbox_54 (by decide) (fun c54 => ?_) (fun c54 => ?_)
        · refine lv_aload_n hx hb d_D_unbox_81 rfl (lv_at hl 2 rfl) ?_
          refine lv_dup hx hb d_D_unbox_82 rfl ?_
          refine gf_D_94 cx hZ hk_5 rfl d_D_unbox_83 ?_
          refine lv_iconst (v := 1) hx hb d_D_unbox_86 (by decide) ?_
          refine lv_isub hx hb d_D_unbox_87 ?_
          rw [show (((nI (t + 1)) - 1) : Int32) = nI t from nI_pred t]
          refine pf_D_94 cx hZ hS hk_5 (Nat.le_of_ble_eq_true rfl) d_D_unbox_88 (fun w_10 H locs hw_11 hZ hS => ?_)
          have hk_12 : w_10 il = some (.inr (2, [.int (zi (appN V V2 i).1), .ref al])) := up_ne hw_11 hil2 (z_ne hil2 hk_5 (by simp))
          have hk_13 : w_10 al2 = some (.inr (0, [.int md2, .ref ar2, .int (nI V2.2.1)])) := up_ne hw_11 hal2 (z_ne hal2 hk_5 (by simp))
          have hk_14 : w_10 al = some (.inr (0, [.int mdA, .ref ar1, .int (nI (appN V V2 i).2.1)])) := up_ne hw_11 halA (z_ne halA hk_5 (by simp))
          have hk_15 : w_10 b = some (.inr (4, [.ref li, .ref sw, .int (f 0), .int (f 1), .int (f 2), .int (f 3), .int (f 4)])) := up_ne hw_11 hk_6 (z_ne hk_6 hk_5 (by simp))
          have hk_16 : w_10 ra = some (.inl (G.2 5, 16, .inr (.inr (.inr (.inr fr))))) := up_ne hw_11 hk_7 (z_ne hk_7 hk_5 (by simp))
          have hF := hF.put hw_11 (Or.inl (by simp))
          have hc_17 : w_10 d = some (.inr (5, [.ref la, .int (nI (k + 1)), .ref ra, .int (nI t)])) := up_self hw_11
          refine lv_aload_n hx hb d_D_unbox_91 rfl (lv_at hl 2 rfl) ?_
          refine gf_D_17 cx hZ hc_17 rfl d_D_unbox_92 ?_
          refine lv_iload_n hx hb d_D_unbox_95 rfl (lv_at hl 3 rfl) ?_
          refine lv_null hx hb d_D_unbox_96 ?_
          refine st_qN5 cx hZ hS hk_16 (vp_in_nI hkk (by omega)) d_D_unbox_97 (fun w_18 H locs hw_19 hZ hS => ?_)
          have hk_20 : w_18 il = some (.inr (2, [.int (zi (appN V V2 i).1), .ref al])) := up_ne hw_19 hk_12 (z_ne hk_12 hk_16 (by simp))
          have hk_21 : w_18 al2 = some (.inr (0, [.int md2, .ref ar2, .int (nI V2.2.1)])) := up_ne hw_19 hk_13 (z_ne hk_13 hk_16 (by simp))
          have hk_22 : w_18 al = some (.inr (0, [.int mdA, .ref ar1, .int (nI (appN V V2 i).2.1)])) := up_ne hw_19 hk_14 (z_ne hk_14 hk_16 (by simp))
          have hk_23 : w_18 d = some (.inr (5, [.ref la, .int (nI (k + 1)), .ref ra, .int (nI t)])) := up_ne hw_19 hc_17 (z_ne hc_17 hk_16 (by simp))
          have hk_24 : w_18 b = some (.inr (4, [.ref li, .ref sw, .int (f 0), .int (f 1), .int (f 2), .int (f 3), .int (f 4)])) := up_ne hw_19 hk_15 (z_ne hk_15 hk_16 (by simp))
          have hF := hF.put hw_19 (Or.inl (by simp))
          have hc_25 : w_18 ra = some (.inl (G.2 5, 16, .inr (.inr (.inr (.inr (va_up fr (nI kk).toNatClampNeg none)))))) := up_self hw_19
          refine lv_iconst (v := 1) hx hb d_D_unbox_98 (by decide) ?_
          exact z_zret cx.1 cx.2.1 cx.rt cx.lk (by first | rfl | (simp [narrow]; done) | simp_all [narrow]) hS hZ ⟨(by first | (dsimp only [rmU]; omega) | (show _ + gC (V.2.1 + i) cap1 ≤ _; dsimp only [rmU]; omega) | (show _ + gS (V.2.1 + i) cap1 ≤ _; dsimp only [rmU]; omega)), (by first | (dsimp only [rmU]; omega) | (show _ + gC (V.2.1 + i) cap1 ≤ _; dsimp only [rmU]; omega) | (show _ + gS (V.2.1 + i) cap1 ≤ _; dsimp only [rmU]; omega))⟩ d_D_unbox_99 (⟨1, rfl, Or.inl ⟨(zi_inj.mp c30), rfl, ar1, cap1, (by have hq := hLi.keepX (((Fr.rf (S := [d, ra]) (w := w2)).put hw_11 (Or.inl (by simp))).put hw_19 (Or.inl (by simp))) (List.forall_mem_cons.mpr ⟨⟨_, hk_5, by simp, by simp, by simp, by simp⟩, List.forall_mem_cons.mpr ⟨⟨_, hk_7, by simp, by simp, by simp, by simp [cx.g53]⟩, fun _ h => absurd h List.not_mem_nil⟩⟩); rw [hin] at hq; exact hq), har1, hk_23, (by have := hc_25; rw [nI_clamp (by omega)] at this; exact this), hF⟩⟩)
        · exact absurd (nI_le (show V2.2.1 ≤ i by omega) (by omega)) c54
      | succ j ih =>
        intro i ar1 cap1 w2 H locs cells slots ls hij hZ hS hE hLi hBi hne har1 hcl hsl hl
        have he := cx.ez hZ
        have he0 := cx.ez hZ0
        obtain ⟨hli2, hcapB, md2, fa2, hal2, hr2, hx2⟩ := id hBi
        obtain ⟨hil2, hcapA, mdA, faA, halA, hrA, _⟩ := id hLi
        dsimp only at hli2 hcapB hal2 hr2 hx2 hil2 hcapA halA hrA
        have hnA : (appN V V2 i).2.1 = V.2.1 + i := rfl
        have hk_26 : w2 d = some (.inr (5, [.ref la, .int (nI (k + 1)), .ref ra, .int (nI (t + 1))])) := hE.keep hd (hL.notin he0 hd (by simp) (by simp))
        have hk_27 : w2 b = some (.inr (4, [.ref li, .ref sw, .int (f 0), .int (f 1), .int (f 2), .int (f 3), .int (f 4)])) := hE.keep hb0 (hL.notin he0 hb0 (by simp) (by simp))
        have hk_28 : w2 ra = some (.inl (G.2 5, 16, .inr (.inr (.inr (.inr fr))))) := hE.keep hra (hL.notin he0 hra (by simp) (by simp [cx.g53]))
        have hin : i < V2.2.1 := by omega
        obtain ⟨x, hfx, hxi⟩ := hx2 i hin
        obtain ⟨hra2, hr2a, hr2b⟩ := hr2.resolve_left (fun z => by omega)
        have hlenA : V.2.1 + i ≤ cap1 := by rcases hrA with ⟨_, z, z2⟩ | ⟨_, z, _⟩ <;> omega
        have hcapz : cap1 = 0 ∨ 10 ≤ cap1 := by rcases hrA with ⟨_, z, _⟩ | ⟨_, _, z⟩ <;> omega
        obtain ⟨gs1, gs2, gs3⟩ := gS_sum hcapz hlenA
        rw [hnA] at hcapA
        have gs4 := gK_le hlenA hcapA
        refine lv_iload hx hb d_D_unbox_47 (lv_at hl 0 rfl) ?_
        refine lv_aload hx hb d_D_unbox_49 (lv_at hl 1 rfl) ?_
        refine iv_D_135 (As := []) (rest := [.int (nI i)]) cx (c_A_size l G n0 e0 w2 al2 md2 (.ref ar2) (nI V2.2.1) hal2) hal2 ⟨(Nat.le_of_ble_eq_true rfl), (Nat.le_of_ble_eq_true rfl)⟩ ⟨(by first | (dsimp only [rmU]; omega) | (show _ + gC (V.2.1 + i) cap1 ≤ _; dsimp only [rmU]; omega) | (show _ + gS (V.2.1 + i) cap1 ≤ _; dsimp only [rmU]; omega)), (by first | (dsimp only [rmU]; omega) | (show _ + gC (V.2.1 + i) cap1 ≤ _; dsimp only [rmU]; omega) | (show _ + gS (V.2.1 + i) cap1 ≤ _; dsimp only [rmU]; omega))⟩ rfl hl.1 rfl (Nat.le_of_ble_eq_true rfl) d_D_unbox_51 hZ hS (fun v w_29 H locs hp_30 hZ hS => ?_)
        obtain ⟨rfl, hq⟩ := hp_30
        subst w_29
        refine W.eq (g2 := F0 m 54 ls [.int (nI V2.2.1), .int (nI i)]) rfl ?_
        refine lv_icmp_ge (tgt := 81) hx hb d_D_unbox_54 (by decide) (fun c54 => ?_) (fun c54 => ?_)
        · exact absurd c54 (nI_ge hin (by omega))
        · refine lv_aload_n hx hb d_D_unbox_57 rfl (lv_at hl 4 rfl) ?_
          refine gf_D_117 cx hZ hil2 rfl d_D_unbox_58 ?_
          refine lv_aload hx hb d_D_unbox_61 (lv_at hl 1 rfl) ?_
          refine lv_iload hx hb d_D_unbox_63 (lv_at hl 0 rfl) ?_
          refine iv_D_139 (As := [.int (nI i)]) (rest := [.ref al]) cx (c_A_get l G n0 e0 w2 al2 ar2 cap2 md2 (nI V2.2.1) fa2 hal2 hra2 (nI i) x (nI_pos (by omega)) (nI_lt hin (by omega)) (vp_in_nI (by omega) (by omega)) (by rw [nI_clamp (by omega)]; exact hfx)) hal2 ⟨(Nat.le_of_ble_eq_true rfl), (Nat.le_of_ble_eq_true rfl)⟩ ⟨(by first | (dsimp only [rmU]; omega) | (show _ + gC (V.2.1 + i) cap1 ≤ _; dsimp only [rmU]; omega) | (show _ + gS (V.2.1 + i) cap1 ≤ _; dsimp only [rmU]; omega)), (by first | (dsimp only [rmU]; omega) | (show _ + gC (V.2.1 + i) cap1 ≤ _; dsimp only [rmU]; omega) | (show _ + gS (V.2.1 + i) cap1 ≤ _; dsimp only [rmU]; omega))⟩ rfl hl.1 rfl (Nat.le_of_ble_eq_true rfl) d_D_unbox_65 hZ hS (fun v w_31 H locs hp_32 hZ hS => ?_)
          obtain ⟨rfl, hq⟩ := hp_32
          subst w_31
          refine W.eq (g2 := F0 m 68 ls [.ref x, .ref al]) rfl ?_
          refine kc_D_40 cx hZ hxi d_D_unbox_68 ?_
          refine iv_D_125 (As := [.ref x]) (rest := []) cx (c_addL l G n0 e0 w2 il al ar1 cap1 (appN V V2 i) x (V2.2.2 i) hLi hxi (by rw [hnA]; omega)) halA ⟨(Nat.le_of_ble_eq_true rfl), (Nat.le_of_ble_eq_true rfl)⟩ ⟨(by first | (dsimp only [rmU]; omega) | (show _ + gC (V.2.1 + i) cap1 ≤ _; dsimp only [rmU]; omega) | (show _ + gS (V.2.1 + i) cap1 ≤ _; dsimp only [rmU]; omega)), (by first | (dsimp only [rmU]; omega) | (show _ + gC (V.2.1 + i) cap1 ≤ _; dsimp only [rmU]; omega) | (show _ + gS (V.2.1 + i) cap1 ≤ _; dsimp only [rmU]; omega))⟩ rfl hl.1 rfl (Nat.le_of_ble_eq_true rfl) d_D_unbox_71 hZ hS (fun v w_33 H locs hp_34 hZ hS => ?_)
          obtain ⟨ar3, rfl, hL3, har3a, hf3⟩ := hp_34
          have hcs1 : ∀ q, q + (rmL (appN V V2 i).2.1 cap1).slots = q + gS (V.2.1 + i) cap1 := fun q => rfl
          have hcs2 : ∀ q, q + (rmL (appN V V2 i).2.1 cap1).cells = q + gC (V.2.1 + i) cap1 := fun q => rfl
          rw [appN_s, hnA] at hL3
          have hB3 := hLi.two hBi he hne1 hne hf3
          have hE3 : Fr [al, ar] w w_33 := hE.call hf3 (List.forall_mem_cons.mpr ⟨Or.inl (by simp), List.forall_mem_cons.mpr ⟨har1.imp_left (fun z => by rw [z]; simp), fun _ h => absurd h List.not_mem_nil⟩⟩)
          have hne3 : ar2 ≠ ar3 ∨ ar2 = e0 := har3a.elim (fun z => by rw [z]; exact hne) (fun z => Or.inl (fun q => by rw [← q, hra2] at z; cases z.1))
          have har3 : ar3 = ar ∨ w ar3 = none := har3a.elim (fun z => by rw [z]; exact har1) (fun z => Or.inr (hE.2 _ z.1))
          refine W.eq (g2 := F0 m 74 ls [.int 1]) rfl ?_
          refine lv_pop hx hb d_D_unbox_74 rfl ?_
          refine lv_iinc (v := ((nI i) + 1)) (lv' := [(5, .int ((nI i) + 1)), (4, .ref al2), (0, .ref d), (1, .int (nI kk)), (2, .ref il), (3, .ref b)]) hx hb d_D_unbox_75 hl (k := 0) rfl rfl (by decide) rfl (fun ls hl => ?_)
          refine lv_goto (tgt := 47) hx hb d_D_unbox_78 (by decide) ?_
          exact ih (i + 1) _ _ _ _ _ _ _ _ (by omega) hZ hS hE3 hL3 hB3 hne3 har3 (by show cells + 0 + 0 + gC (V.2.1 + i) cap1 ≤ _; omega) (by show slots + 0 + 0 + gS (V.2.1 + i) cap1 ≤ _; omega) (lv_sub hl [0, 1, 2, 3, 4, 5] (by rw [← nI_1 i]; rfl))
    exact loop V2.2.1 0 ar cap _ _ _ _ _ _ (by omega) hZ hS Fr.rf (appN_0 hL) hB hne2 (Or.inl rfl) (Nat.zero_le _) (Nat.zero_le _) (lv_sub hl [0, 1, 4, 5, 3, 2] rfl)
  · refine lv_iconst (v := 0) hx hb d_D_unbox_33 (by decide) ?_
    exact z_zret cx.1 cx.2.1 cx.rt cx.lk (by first | rfl | (simp [narrow]; done) | simp_all [narrow]) hS hZ ⟨(by first | (dsimp only [rmU]; omega) | (show _ + gC (V.2.1 + i) cap1 ≤ _; dsimp only [rmU]; omega) | (show _ + gS (V.2.1 + i) cap1 ≤ _; dsimp only [rmU]; omega)), (by first | (dsimp only [rmU]; omega) | (show _ + gC (V.2.1 + i) cap1 ≤ _; dsimp only [rmU]; omega) | (show _ + gS (V.2.1 + i) cap1 ≤ _; dsimp only [rmU]; omega))⟩ d_D_unbox_34 (⟨0, rfl, Or.inr ⟨fun z => c30 (by rw [z]), rfl, rfl⟩⟩)
