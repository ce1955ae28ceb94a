/-- a box joined the innermost list; n more items; the registers are fr2 -/
def PutP (G : zG) (e0 d la ra on tot il al ar : Nat) (V : LV) (f : Nat → Int32) (fr2 : Nat → Option Nat) (w w1 : zw) : Prop := ∃ ar2 cap2, LL G e0 w1 (il, al, ar2, cap2) (V.push f) ∧ (ar2 = ar ∨ w ar2 = none) ∧ w1 d = some (.inr (5, [.ref la, .int (nI on), .ref ra, .int (nI tot)])) ∧ w1 ra = some (.inl (G.2 5, 16, .inr (.inr (.inr (.inr fr2))))) ∧ Fr [d, ra, al, ar] w w1
def rmP (cap : Nat) : Room := { frames := 7, cells := 2, slots := 22 + cap + cap / 2, locals := 160 }
def boxF (vt : Bool) (f : Nat → Int32) (shift : Int32) : Nat → Int32 := mkI (if vt = true then 3 else 2) (f 2) (f 3) (f 4) 0 0 0 0 0 shift (f 0) (f 1)
theorem put_room {tot wi : Nat} (ht : tot < 10000) (hw : wi < 10000) : nI tot + (1 + nI wi) = nI (tot + (1 + wi)) := by
  rw [show (1 : Int32) = nI 1 from by decide, nI_add, nI_add]
theorem put_room2 {tot wi : Nat} {x : Int32} (h : x = nI wi) : nI tot + (1 + x) = nI (tot + (1 + wi)) := by
  rw [h, show (1 : Int32) = nI 1 from by decide, nI_add, nI_add]
theorem put_room0 {tot : Nat} : nI tot + 0 = nI (tot + 0) := by
  rw [show (0 : Int32) = nI 0 from by decide, nI_add]
/-- a change of cells that no list is made of -/
theorem LL.keepX {G : zG} {e0 : Nat} {w w1 : zw} {A : LA} {V : LV} {S : List Nat} (h : LL G e0 w A V) (hF : Fr S w w1) (hS : ∀ t ∈ S, ∃ y, w t = some y ∧ (∀ fs, y ≠ .inr (0, fs)) ∧ (∀ fs, y ≠ .inr (1, fs)) ∧ (∀ fs, y ≠ .inr (2, fs)) ∧ ∀ k d, y ≠ .inl (G.2 3, k, d)) : LL G e0 w1 A V := by
  obtain ⟨hi, hc, md, fa, ha, hr, hx⟩ := h
  refine ⟨hF.keep hi (fun q => ?_), hc, md, fa, hF.keep ha (fun q => ?_), hr.imp_right (fun z => ⟨hF.keep z.1 (fun q => ?_), z.2⟩), fun i hi => ?_⟩
  · obtain ⟨y, y1, -, -, y2, -⟩ := hS _ q
    rw [hi] at y1; exact y2 _ (Option.some.inj y1).symm
  · obtain ⟨y, y1, y2, -⟩ := hS _ q
    rw [ha] at y1; exact y2 _ (Option.some.inj y1).symm
  · obtain ⟨y, y1, -, -, -, y2⟩ := hS _ q
    rw [z.1] at y1; exact y2 _ _ (Option.some.inj y1).symm
  · obtain ⟨x, q1, q2⟩ := hx i hi
    refine ⟨x, q1, hF.keepX q2 (fun t ht z => ?_)⟩
    obtain ⟨y, y1, -, y2, -⟩ := hS t ht
    rw [y1] at z; exact y2 _ (Option.some.inj z)
theorem le4000 {n : Nat} (h : n ≤ 4000) : nI n ≤ (4000 : Int32) := by
  rw [show (4000 : Int32) = nI 4000 from by decide]; exact nI_le h (by decide)
theorem nle4000 {n : Nat} (h : 4000 < n) (h2 : n < 2 ^ 31) : ¬ nI n ≤ (4000 : Int32) := by
  rw [show (4000 : Int32) = nI 4000 from by decide]; exact nI_ge h h2
set_option maxHeartbeats 4000000 in
set_option maxRecDepth 100000 in
theorem c_put_0out0 (l : Launch) (G : zG) (n0 e0 : Nat) (w : zw) (d la ra tot : Nat) (fl fr : Nat → Option Nat) (shift : Int32) (hd : w d = some (.inr (5, [.ref la, .int (nI 0), .ref ra, .int (nI tot)]))) (hla : w la = some (.inl (G.2 4, 100, .inr (.inr (.inr (.inr fl)))))) (hra : w ra = some (.inl (G.2 5, 16, .inr (.inr (.inr (.inr fr)))))) (kk : Int32) (hkk : regB kk = false)  : Ct l G n0 e0 y_D_put b_D_put 7 (Option.some FieldType.boolean) (rmP 0) [.ref d, .int kk, .int shift, .int 0] w (fun v w1 => v = some (.int 0) ∧ w1 = w) := by
  refine z_ct (by decide) (Nat.le_of_ble_eq_true rfl) ?_
  intro p e s m below meth c ls cx hnm hZ hS hl
  have hx := cx.1
  have hb := cx.2.1
  have hl : lv_has ls 7 [(0, .ref d), (1, .int kk), (2, .int shift), (3, .int 0)] := hl
  refine lv_aload_n hx hb d_D_put_0 rfl (lv_at hl 0 rfl) ?_
  refine iv_D_28 (As := []) (rest := []) cx (c_innermost_0 l G n0 e0 w d la ra 0 tot (fun _ => none) (fun _ => none) hd rfl) hd ⟨(Nat.le_of_ble_eq_true rfl), (Nat.le_of_ble_eq_true rfl)⟩ ⟨(by dsimp only [rmP]; omega), (by dsimp only [rmP]; omega)⟩ rfl hl.1 rfl (Nat.le_of_ble_eq_true rfl) d_D_put_1 hZ hS (fun v w_1 H locs hp_2 hZ hS => ?_)
  obtain ⟨rfl, hq⟩ := hp_2
  subst w_1
  refine W.eq (g2 := F0 m 4 ls [.null]) rfl ?_
  refine lv_astoreN (lv' := [(4, .null), (0, .ref d), (1, .int kk), (2, .int shift), (3, .int 0)]) hx hb d_D_put_4 hl (by decide) rfl (fun ls hl => ?_)
  refine lv_aload_n hx hb d_D_put_6 rfl (lv_at hl 1 rfl) ?_
  refine lv_iload_n hx hb d_D_put_7 rfl (lv_at hl 2 rfl) ?_
  refine iv_D_113 (As := [.int kk]) (rest := []) cx (c_boxIn_out l G n0 e0 w d la ra 0 tot (fun _ => none) (fun _ => none) hd kk hkk) hd ⟨(Nat.le_of_ble_eq_true rfl), (Nat.le_of_ble_eq_true rfl)⟩ ⟨(by dsimp only [rmP]; omega), (by dsimp only [rmP]; omega)⟩ rfl hl.1 rfl (Nat.le_of_ble_eq_true rfl) d_D_put_8 hZ hS (fun v w_3 H locs hp_4 hZ hS => ?_)
  obtain ⟨rfl, hq⟩ := hp_4
  subst w_3
  refine W.eq (g2 := F0 m 11 ls [.null]) rfl ?_
  refine lv_astoreN (lv' := [(5, .null), (4, .null), (0, .ref d), (1, .int kk), (2, .int shift), (3, .int 0)]) hx hb d_D_put_11 hl (by decide) rfl (fun ls hl => ?_)
  refine lv_aloadN hx hb d_D_put_13 (lv_at hl 1 rfl) ?_
  refine lv_ifnullN (tgt := 31) hx hb d_D_put_15 (by decide) ?_
  refine lv_iconst (v := 0) hx hb d_D_put_31 (by decide) ?_
  exact z_zret cx.1 cx.2.1 cx.rt cx.lk (by first | rfl | (simp [narrow]; done) | simp_all [narrow]) hS hZ ⟨(by dsimp only [rmP]; omega), (by dsimp only [rmP]; omega)⟩ d_D_put_32 (⟨rfl, rfl⟩)
set_option maxHeartbeats 4000000 in
set_option maxRecDepth 100000 in
theorem c_put_0out1 (l : Launch) (G : zG) (n0 e0 : Nat) (w : zw) (d la ra tot : Nat) (fl fr : Nat → Option Nat) (shift : Int32) (hd : w d = some (.inr (5, [.ref la, .int (nI 0), .ref ra, .int (nI tot)]))) (hla : w la = some (.inl (G.2 4, 100, .inr (.inr (.inr (.inr fl)))))) (hra : w ra = some (.inl (G.2 5, 16, .inr (.inr (.inr (.inr fr)))))) (kk : Int32) (hkk : regB kk = false)  : Ct l G n0 e0 y_D_put b_D_put 7 (Option.some FieldType.boolean) (rmP 0) [.ref d, .int kk, .int shift, .int 1] w (fun v w1 => v = some (.int 0) ∧ w1 = w) := by
  refine z_ct (by decide) (Nat.le_of_ble_eq_true rfl) ?_
  intro p e s m below meth c ls cx hnm hZ hS hl
  have hx := cx.1
  have hb := cx.2.1
  have hl : lv_has ls 7 [(0, .ref d), (1, .int kk), (2, .int shift), (3, .int 1)] := hl
  refine lv_aload_n hx hb d_D_put_0 rfl (lv_at hl 0 rfl) ?_
  refine iv_D_28 (As := []) (rest := []) cx (c_innermost_0 l G n0 e0 w d la ra 0 tot (fun _ => none) (fun _ => none) hd rfl) hd ⟨(Nat.le_of_ble_eq_true rfl), (Nat.le_of_ble_eq_true rfl)⟩ ⟨(by dsimp only [rmP]; omega), (by dsimp only [rmP]; omega)⟩ rfl hl.1 rfl (Nat.le_of_ble_eq_true rfl) d_D_put_1 hZ hS (fun v w_1 H locs hp_2 hZ hS => ?_)
  obtain ⟨rfl, hq⟩ := hp_2
  subst w_1
  refine W.eq (g2 := F0 m 4 ls [.null]) rfl ?_
  refine lv_astoreN (lv' := [(4, .null), (0, .ref d), (1, .int kk), (2, .int shift), (3, .int 1)]) hx hb d_D_put_4 hl (by decide) rfl (fun ls hl => ?_)
  refine lv_aload_n hx hb d_D_put_6 rfl (lv_at hl 1 rfl) ?_
  refine lv_iload_n hx hb d_D_put_7 rfl (lv_at hl 2 rfl) ?_
  refine iv_D_113 (As := [.int kk]) (rest := []) cx (c_boxIn_out l G n0 e0 w d la ra 0 tot (fun _ => none) (fun _ => none) hd kk hkk) hd ⟨(Nat.le_of_ble_eq_true rfl), (Nat.le_of_ble_eq_true rfl)⟩ ⟨(by dsimp only [rmP]; omega), (by dsimp only [rmP]; omega)⟩ rfl hl.1 rfl (Nat.le_of_ble_eq_true rfl) d_D_put_8 hZ hS (fun v w_3 H locs hp_4 hZ hS => ?_)
  obtain ⟨rfl, hq⟩ := hp_4
  subst w_3
  refine W.eq (g2 := F0 m 11 ls [.null]) rfl ?_
  refine lv_astoreN (lv' := [(5, .null), (4, .null), (0, .ref d), (1, .int kk), (2, .int shift), (3, .int 1)]) hx hb d_D_put_11 hl (by decide) rfl (fun ls hl => ?_)
  refine lv_aloadN hx hb d_D_put_13 (lv_at hl 1 rfl) ?_
  refine lv_ifnullN (tgt := 31) hx hb d_D_put_15 (by decide) ?_
  refine lv_iconst (v := 0) hx hb d_D_put_31 (by decide) ?_
  exact z_zret cx.1 cx.2.1 cx.rt cx.lk (by first | rfl | (simp [narrow]; done) | simp_all [narrow]) hS hZ ⟨(by dsimp only [rmP]; omega), (by dsimp only [rmP]; omega)⟩ d_D_put_32 (⟨rfl, rfl⟩)
set_option maxHeartbeats 4000000 in
set_option maxRecDepth 100000 in
theorem c_put_0void0 (l : Launch) (G : zG) (n0 e0 : Nat) (w : zw) (d la ra tot : Nat) (fl fr : Nat → Option Nat) (shift : Int32) (hd : w d = some (.inr (5, [.ref la, .int (nI 0), .ref ra, .int (nI tot)]))) (hla : w la = some (.inl (G.2 4, 100, .inr (.inr (.inr (.inr fl)))))) (hra : w ra = some (.inl (G.2 5, 16, .inr (.inr (.inr (.inr fr)))))) (kk : Nat) (hkk : kk < 16) (hv : fr kk = none)  : Ct l G n0 e0 y_D_put b_D_put 7 (Option.some FieldType.boolean) (rmP 0) [.ref d, .int (nI kk), .int shift, .int 0] w (fun v w1 => v = some (.int 0) ∧ w1 = w) := by
  refine z_ct (by decide) (Nat.le_of_ble_eq_true rfl) ?_
  intro p e s m below meth c ls cx hnm hZ hS hl
  have hx := cx.1
  have hb := cx.2.1
  have hl : lv_has ls 7 [(0, .ref d), (1, .int (nI kk)), (2, .int shift), (3, .int 0)] := hl
  refine lv_aload_n hx hb d_D_put_0 rfl (lv_at hl 0 rfl) ?_
  refine iv_D_28 (As := []) (rest := []) cx (c_innermost_0 l G n0 e0 w d la ra 0 tot (fun _ => none) (fun _ => none) hd rfl) hd ⟨(Nat.le_of_ble_eq_true rfl), (Nat.le_of_ble_eq_true rfl)⟩ ⟨(by dsimp only [rmP]; omega), (by dsimp only [rmP]; omega)⟩ rfl hl.1 rfl (Nat.le_of_ble_eq_true rfl) d_D_put_1 hZ hS (fun v w_1 H locs hp_2 hZ hS => ?_)
  obtain ⟨rfl, hq⟩ := hp_2
  subst w_1
  refine W.eq (g2 := F0 m 4 ls [.null]) rfl ?_
  refine lv_astoreN (lv' := [(4, .null), (0, .ref d), (1, .int (nI kk)), (2, .int shift), (3, .int 0)]) hx hb d_D_put_4 hl (by decide) rfl (fun ls hl => ?_)
  refine lv_aload_n hx hb d_D_put_6 rfl (lv_at hl 1 rfl) ?_
  refine lv_iload_n hx hb d_D_put_7 rfl (lv_at hl 2 rfl) ?_
  refine iv_D_113 (As := [.int (nI kk)]) (rest := []) cx (c_boxIn_void l G n0 e0 w d la ra 0 tot (fun _ => none) fr hd hra kk hkk hv) hd ⟨(Nat.le_of_ble_eq_true rfl), (Nat.le_of_ble_eq_true rfl)⟩ ⟨(by dsimp only [rmP]; omega), (by dsimp only [rmP]; omega)⟩ rfl hl.1 rfl (Nat.le_of_ble_eq_true rfl) d_D_put_8 hZ hS (fun v w_3 H locs hp_4 hZ hS => ?_)
  obtain ⟨rfl, hq⟩ := hp_4
  subst w_3
  refine W.eq (g2 := F0 m 11 ls [.null]) rfl ?_
  refine lv_astoreN (lv' := [(5, .null), (4, .null), (0, .ref d), (1, .int (nI kk)), (2, .int shift), (3, .int 0)]) hx hb d_D_put_11 hl (by decide) rfl (fun ls hl => ?_)
  refine lv_aloadN hx hb d_D_put_13 (lv_at hl 1 rfl) ?_
  refine lv_ifnullN (tgt := 31) hx hb d_D_put_15 (by decide) ?_
  refine lv_iconst (v := 0) hx hb d_D_put_31 (by decide) ?_
  exact z_zret cx.1 cx.2.1 cx.rt cx.lk (by first | rfl | (simp [narrow]; done) | simp_all [narrow]) hS hZ ⟨(by dsimp only [rmP]; omega), (by dsimp only [rmP]; omega)⟩ d_D_put_32 (⟨rfl, rfl⟩)
set_option maxHeartbeats 4000000 in
set_option maxRecDepth 100000 in
theorem c_put_0void1 (l : Launch) (G : zG) (n0 e0 : Nat) (w : zw) (d la ra tot : Nat) (fl fr : Nat → Option Nat) (shift : Int32) (hd : w d = some (.inr (5, [.ref la, .int (nI 0), .ref ra, .int (nI tot)]))) (hla : w la = some (.inl (G.2 4, 100, .inr (.inr (.inr (.inr fl)))))) (hra : w ra = some (.inl (G.2 5, 16, .inr (.inr (.inr (.inr fr)))))) (kk : Nat) (hkk : kk < 16) (hv : fr kk = none)  : Ct l G n0 e0 y_D_put b_D_put 7 (Option.some FieldType.boolean) (rmP 0) [.ref d, .int (nI kk), .int shift, .int 1] w (fun v w1 => v = some (.int 0) ∧ w1 = w) := by
  refine z_ct (by decide) (Nat.le_of_ble_eq_true rfl) ?_
  intro p e s m below meth c ls cx hnm hZ hS hl
  have hx := cx.1
  have hb := cx.2.1
  have hl : lv_has ls 7 [(0, .ref d), (1, .int (nI kk)), (2, .int shift), (3, .int 1)] := hl
  refine lv_aload_n hx hb d_D_put_0 rfl (lv_at hl 0 rfl) ?_
  refine iv_D_28 (As := []) (rest := []) cx (c_innermost_0 l G n0 e0 w d la ra 0 tot (fun _ => none) (fun _ => none) hd rfl) hd ⟨(Nat.le_of_ble_eq_true rfl), (Nat.le_of_ble_eq_true rfl)⟩ ⟨(by dsimp only [rmP]; omega), (by dsimp only [rmP]; omega)⟩ rfl hl.1 rfl (Nat.le_of_ble_eq_true rfl) d_D_put_1 hZ hS (fun v w_1 H locs hp_2 hZ hS => ?_)
  obtain ⟨rfl, hq⟩ := hp_2
  subst w_1
  refine W.eq (g2 := F0 m 4 ls [.null]) rfl ?_
  refine lv_astoreN (lv' := [(4, .null), (0, .ref d), (1, .int (nI kk)), (2, .int shift), (3, .int 1)]) hx hb d_D_put_4 hl (by decide) rfl (fun ls hl => ?_)
  refine lv_aload_n hx hb d_D_put_6 rfl (lv_at hl 1 rfl) ?_
  refine lv_iload_n hx hb d_D_put_7 rfl (lv_at hl 2 rfl) ?_
  refine iv_D_113 (As := [.int (nI kk)]) (rest := []) cx (c_boxIn_void l G n0 e0 w d la ra 0 tot (fun _ => none) fr hd hra kk hkk hv) hd ⟨(Nat.le_of_ble_eq_true rfl), (Nat.le_of_ble_eq_true rfl)⟩ ⟨(by dsimp only [rmP]; omega), (by dsimp only [rmP]; omega)⟩ rfl hl.1 rfl (Nat.le_of_ble_eq_true rfl) d_D_put_8 hZ hS (fun v w_3 H locs hp_4 hZ hS => ?_)
  obtain ⟨rfl, hq⟩ := hp_4
  subst w_3
  refine W.eq (g2 := F0 m 11 ls [.null]) rfl ?_
  refine lv_astoreN (lv' := [(5, .null), (4, .null), (0, .ref d), (1, .int (nI kk)), (2, .int shift), (3, .int 1)]) hx hb d_D_put_11 hl (by decide) rfl (fun ls hl => ?_)
  refine lv_aloadN hx hb d_D_put_13 (lv_at hl 1 rfl) ?_
  refine lv_ifnullN (tgt := 31) hx hb d_D_put_15 (by decide) ?_
  refine lv_iconst (v := 0) hx hb d_D_put_31 (by decide) ?_
  exact z_zret cx.1 cx.2.1 cx.rt cx.lk (by first | rfl | (simp [narrow]; done) | simp_all [narrow]) hS hZ ⟨(by dsimp only [rmP]; omega), (by dsimp only [rmP]; omega)⟩ d_D_put_32 (⟨rfl, rfl⟩)
set_option maxHeartbeats 4000000 in
set_option maxRecDepth 100000 in
theorem c_put_0some0 (l : Launch) (G : zG) (n0 e0 : Nat) (w : zw) (d la ra tot : Nat) (fl fr : Nat → Option Nat) (shift : Int32) (hd : w d = some (.inr (5, [.ref la, .int (nI 0), .ref ra, .int (nI tot)]))) (hla : w la = some (.inl (G.2 4, 100, .inr (.inr (.inr (.inr fl)))))) (hra : w ra = some (.inl (G.2 5, 16, .inr (.inr (.inr (.inr fr)))))) (kk b li sw al2 wi : Nat) (f : Nat → Int32) (vt : Bool) (hkk : kk < 16) (hv : fr kk = some b) (hb0 : w b = some (.inr (4, fB li sw f))) (hli : w li = some (.inr (2, [.int (zi vt), .ref al2]))) (hwi : f 0 = nI wi) (hw2 : wi < 10000)  : Ct l G n0 e0 y_D_put b_D_put 7 (Option.some FieldType.boolean) (rmP 0) [.ref d, .int (nI kk), .int shift, .int 0] w (fun v w1 => v = some (.int 0) ∧ w1 = w) := by
  refine z_ct (by decide) (Nat.le_of_ble_eq_true rfl) ?_
  intro p e s m below meth c ls cx hnm hZ hS hl
  have hx := cx.1
  have hb := cx.2.1
  have hl : lv_has ls 7 [(0, .ref d), (1, .int (nI kk)), (2, .int shift), (3, .int 0)] := hl
  refine lv_aload_n hx hb d_D_put_0 rfl (lv_at hl 0 rfl) ?_
  refine iv_D_28 (As := []) (rest := []) cx (c_innermost_0 l G n0 e0 w d la ra 0 tot (fun _ => none) (fun _ => none) hd rfl) hd ⟨(Nat.le_of_ble_eq_true rfl), (Nat.le_of_ble_eq_true rfl)⟩ ⟨(by dsimp only [rmP]; omega), (by dsimp only [rmP]; omega)⟩ rfl hl.1 rfl (Nat.le_of_ble_eq_true rfl) d_D_put_1 hZ hS (fun v w_1 H locs hp_2 hZ hS => ?_)
  obtain ⟨rfl, hq⟩ := hp_2
  subst w_1
  refine W.eq (g2 := F0 m 4 ls [.null]) rfl ?_
  refine lv_astoreN (lv' := [(4, .null), (0, .ref d), (1, .int (nI kk)), (2, .int shift), (3, .int 0)]) hx hb d_D_put_4 hl (by decide) rfl (fun ls hl => ?_)
  refine lv_aload_n hx hb d_D_put_6 rfl (lv_at hl 1 rfl) ?_
  refine lv_iload_n hx hb d_D_put_7 rfl (lv_at hl 2 rfl) ?_
  refine iv_D_113 (As := [.int (nI kk)]) (rest := []) cx (c_boxIn_some l G n0 e0 w d la ra 0 tot (fun _ => none) fr hd hra kk hkk b hv) hd ⟨(Nat.le_of_ble_eq_true rfl), (Nat.le_of_ble_eq_true rfl)⟩ ⟨(by dsimp only [rmP]; omega), (by dsimp only [rmP]; omega)⟩ rfl hl.1 rfl (Nat.le_of_ble_eq_true rfl) d_D_put_8 hZ hS (fun v w_3 H locs hp_4 hZ hS => ?_)
  obtain ⟨rfl, hq⟩ := hp_4
  subst w_3
  refine W.eq (g2 := F0 m 11 ls [.ref b]) rfl ?_
  refine lv_astore (lv' := [(5, .ref b), (4, .null), (0, .ref d), (1, .int (nI kk)), (2, .int shift), (3, .int 0)]) hx hb d_D_put_11 hl (by decide) rfl (fun ls hl => ?_)
  refine lv_aloadN hx hb d_D_put_13 (lv_at hl 1 rfl) ?_
  refine lv_ifnullN (tgt := 31) hx hb d_D_put_15 (by decide) ?_
  refine lv_iconst (v := 0) hx hb d_D_put_31 (by decide) ?_
  exact z_zret cx.1 cx.2.1 cx.rt cx.lk (by first | rfl | (simp [narrow]; done) | simp_all [narrow]) hS hZ ⟨(by dsimp only [rmP]; omega), (by dsimp only [rmP]; omega)⟩ d_D_put_32 (⟨rfl, rfl⟩)
set_option maxHeartbeats 4000000 in
set_option maxRecDepth 100000 in
theorem c_put_0some1 (l : Launch) (G : zG) (n0 e0 : Nat) (w : zw) (d la ra tot : Nat) (fl fr : Nat → Option Nat) (shift : Int32) (hd : w d = some (.inr (5, [.ref la, .int (nI 0), .ref ra, .int (nI tot)]))) (hla : w la = some (.inl (G.2 4, 100, .inr (.inr (.inr (.inr fl)))))) (hra : w ra = some (.inl (G.2 5, 16, .inr (.inr (.inr (.inr fr)))))) (kk b li sw al2 wi : Nat) (f : Nat → Int32) (vt : Bool) (hkk : kk < 16) (hv : fr kk = some b) (hb0 : w b = some (.inr (4, fB li sw f))) (hli : w li = some (.inr (2, [.int (zi vt), .ref al2]))) (hwi : f 0 = nI wi) (hw2 : wi < 10000)  : Ct l G n0 e0 y_D_put b_D_put 7 (Option.some FieldType.boolean) (rmP 0) [.ref d, .int (nI kk), .int shift, .int 1] w (fun v w1 => v = some (.int 0) ∧ w1 = w) := by
  refine z_ct (by decide) (Nat.le_of_ble_eq_true rfl) ?_
  intro p e s m below meth c ls cx hnm hZ hS hl
  have hx := cx.1
  have hb := cx.2.1
  have hl : lv_has ls 7 [(0, .ref d), (1, .int (nI kk)), (2, .int shift), (3, .int 1)] := hl
  refine lv_aload_n hx hb d_D_put_0 rfl (lv_at hl 0 rfl) ?_
  refine iv_D_28 (As := []) (rest := []) cx (c_innermost_0 l G n0 e0 w d la ra 0 tot (fun _ => none) (fun _ => none) hd rfl) hd ⟨(Nat.le_of_ble_eq_true rfl), (Nat.le_of_ble_eq_true rfl)⟩ ⟨(by dsimp only [rmP]; omega), (by dsimp only [rmP]; omega)⟩ rfl hl.1 rfl (Nat.le_of_ble_eq_true rfl) d_D_put_1 hZ hS (fun v w_1 H locs hp_2 hZ hS => ?_)
  obtain ⟨rfl, hq⟩ := hp_2
  subst w_1
  refine W.eq (g2 := F0 m 4 ls [.null]) rfl ?_
  refine lv_astoreN (lv' := [(4, .null), (0, .ref d), (1, .int (nI kk)), (2, .int shift), (3, .int 1)]) hx hb d_D_put_4 hl (by decide) rfl (fun ls hl => ?_)
  refine lv_aload_n hx hb d_D_put_6 rfl (lv_at hl 1 rfl) ?_
  refine lv_iload_n hx hb d_D_put_7 rfl (lv_at hl 2 rfl) ?_
  refine iv_D_113 (As := [.int (nI kk)]) (rest := []) cx (c_boxIn_some l G n0 e0 w d la ra 0 tot (fun _ => none) fr hd hra kk hkk b hv) hd ⟨(Nat.le_of_ble_eq_true rfl), (Nat.le_of_ble_eq_true rfl)⟩ ⟨(by dsimp only [rmP]; omega), (by dsimp only [rmP]; omega)⟩ rfl hl.1 rfl (Nat.le_of_ble_eq_true rfl) d_D_put_8 hZ hS (fun v w_3 H locs hp_4 hZ hS => ?_)
  obtain ⟨rfl, hq⟩ := hp_4
  subst w_3
  refine W.eq (g2 := F0 m 11 ls [.ref b]) rfl ?_
  refine lv_astore (lv' := [(5, .ref b), (4, .null), (0, .ref d), (1, .int (nI kk)), (2, .int shift), (3, .int 1)]) hx hb d_D_put_11 hl (by decide) rfl (fun ls hl => ?_)
  refine lv_aloadN hx hb d_D_put_13 (lv_at hl 1 rfl) ?_
  refine lv_ifnullN (tgt := 31) hx hb d_D_put_15 (by decide) ?_
  refine lv_iconst (v := 0) hx hb d_D_put_31 (by decide) ?_
  exact z_zret cx.1 cx.2.1 cx.rt cx.lk (by first | rfl | (simp [narrow]; done) | simp_all [narrow]) hS hZ ⟨(by dsimp only [rmP]; omega), (by dsimp only [rmP]; omega)⟩ d_D_put_32 (⟨rfl, rfl⟩)
set_option maxHeartbeats 4000000 in
set_option maxRecDepth 100000 in
theorem c_put_1out0 (l : Launch) (G : zG) (n0 e0 : Nat) (w : zw) (d la ra tot : Nat) (fl fr : Nat → Option Nat) (shift : Int32) (k il al ar cap : Nat) (V : LV) (hd : w d = some (.inr (5, [.ref la, .int (nI (k + 1)), .ref ra, .int (nI tot)]))) (hla : w la = some (.inl (G.2 4, 100, .inr (.inr (.inr (.inr fl)))))) (hra : w ra = some (.inl (G.2 5, 16, .inr (.inr (.inr (.inr fr)))))) (hk : k < 100) (hil : fl k = some il) (hL : LL G e0 w (il, al, ar, cap) V) (hn : V.2.1 ≤ 20000) (ht : tot < 10000) (kk : Int32) (hkk : regB kk = false)  : Ct l G n0 e0 y_D_put b_D_put 7 (Option.some FieldType.boolean) (rmP cap) [.ref d, .int kk, .int shift, .int 0] w (fun v w1 => v = some (.int 0) ∧ w1 = w) := by
  refine z_ct (by decide) (Nat.le_of_ble_eq_true rfl) ?_
  intro p e s m below meth c ls cx hnm hZ hS hl
  have hx := cx.1
  have hb := cx.2.1
  have hl : lv_has ls 7 [(0, .ref d), (1, .int kk), (2, .int shift), (3, .int 0)] := hl
  refine lv_aload_n hx hb d_D_put_0 rfl (lv_at hl 0 rfl) ?_
  refine iv_D_28 (As := []) (rest := []) cx (c_innermost_1 l G n0 e0 w d la ra k tot fl (fun _ => none) hd hla hk il hil) hd ⟨(Nat.le_of_ble_eq_true rfl), (Nat.le_of_ble_eq_true rfl)⟩ ⟨(by dsimp only [rmP]; omega), (by dsimp only [rmP]; omega)⟩ rfl hl.1 rfl (Nat.le_of_ble_eq_true rfl) d_D_put_1 hZ hS (fun v w_1 H locs hp_2 hZ hS => ?_)
  obtain ⟨rfl, hq⟩ := hp_2
  subst w_1
  refine W.eq (g2 := F0 m 4 ls [.ref il]) rfl ?_
  refine lv_astore (lv' := [(4, .ref il), (0, .ref d), (1, .int kk), (2, .int shift), (3, .int 0)]) hx hb d_D_put_4 hl (by decide) rfl (fun ls hl => ?_)
  refine lv_aload_n hx hb d_D_put_6 rfl (lv_at hl 1 rfl) ?_
  refine lv_iload_n hx hb d_D_put_7 rfl (lv_at hl 2 rfl) ?_
  refine iv_D_113 (As := [.int kk]) (rest := []) cx (c_boxIn_out l G n0 e0 w d la ra (k + 1) tot (fun _ => none) (fun _ => none) hd kk hkk) hd ⟨(Nat.le_of_ble_eq_true rfl), (Nat.le_of_ble_eq_true rfl)⟩ ⟨(by dsimp only [rmP]; omega), (by dsimp only [rmP]; omega)⟩ rfl hl.1 rfl (Nat.le_of_ble_eq_true rfl) d_D_put_8 hZ hS (fun v w_3 H locs hp_4 hZ hS => ?_)
  obtain ⟨rfl, hq⟩ := hp_4
  subst w_3
  refine W.eq (g2 := F0 m 11 ls [.null]) rfl ?_
  refine lv_astoreN (lv' := [(5, .null), (4, .ref il), (0, .ref d), (1, .int kk), (2, .int shift), (3, .int 0)]) hx hb d_D_put_11 hl (by decide) rfl (fun ls hl => ?_)
  refine lv_aload hx hb d_D_put_13 (lv_at hl 1 rfl) ?_
  refine lv_ifnull hx hb d_D_put_15 ?_
  refine lv_aloadN hx hb d_D_put_18 (lv_at hl 0 rfl) ?_
  refine lv_ifnullN (tgt := 31) hx hb d_D_put_20 (by decide) ?_
  refine lv_iconst (v := 0) hx hb d_D_put_31 (by decide) ?_
  exact z_zret cx.1 cx.2.1 cx.rt cx.lk (by first | rfl | (simp [narrow]; done) | simp_all [narrow]) hS hZ ⟨(by dsimp only [rmP]; omega), (by dsimp only [rmP]; omega)⟩ d_D_put_32 (⟨rfl, rfl⟩)
set_option maxHeartbeats 4000000 in
set_option maxRecDepth 100000 in
theorem c_put_1out1 (l : Launch) (G : zG) (n0 e0 : Nat) (w : zw) (d la ra tot : Nat) (fl fr : Nat → Option Nat) (shift : Int32) (k il al ar cap : Nat) (V : LV) (hd : w d = some (.inr (5, [.ref la, .int (nI (k + 1)), .ref ra, .int (nI tot)]))) (hla : w la = some (.inl (G.2 4, 100, .inr (.inr (.inr (.inr fl)))))) (hra : w ra = some (.inl (G.2 5, 16, .inr (.inr (.inr (.inr fr)))))) (hk : k < 100) (hil : fl k = some il) (hL : LL G e0 w (il, al, ar, cap) V) (hn : V.2.1 ≤ 20000) (ht : tot < 10000) (kk : Int32) (hkk : regB kk = false)  : Ct l G n0 e0 y_D_put b_D_put 7 (Option.some FieldType.boolean) (rmP cap) [.ref d, .int kk, .int shift, .int 1] w (fun v w1 => v = some (.int 0) ∧ w1 = w) := by
  refine z_ct (by decide) (Nat.le_of_ble_eq_true rfl) ?_
  intro p e s m below meth c ls cx hnm hZ hS hl
  have hx := cx.1
  have hb := cx.2.1
  have hl : lv_has ls 7 [(0, .ref d), (1, .int kk), (2, .int shift), (3, .int 1)] := hl
  refine lv_aload_n hx hb d_D_put_0 rfl (lv_at hl 0 rfl) ?_
  refine iv_D_28 (As := []) (rest := []) cx (c_innermost_1 l G n0 e0 w d la ra k tot fl (fun _ => none) hd hla hk il hil) hd ⟨(Nat.le_of_ble_eq_true rfl), (Nat.le_of_ble_eq_true rfl)⟩ ⟨(by dsimp only [rmP]; omega), (by dsimp only [rmP]; omega)⟩ rfl hl.1 rfl (Nat.le_of_ble_eq_true rfl) d_D_put_1 hZ hS (fun v w_1 H locs hp_2 hZ hS => ?_)
  obtain ⟨rfl, hq⟩ := hp_2
  subst w_1
  refine W.eq (g2 := F0 m 4 ls [.ref il]) rfl ?_
  refine lv_astore (lv' := [(4, .ref il), (0, .ref d), (1, .int kk), (2, .int shift), (3, .int 1)]) hx hb d_D_put_4 hl (by decide) rfl (fun ls hl => ?_)
  refine lv_aload_n hx hb d_D_put_6 rfl (lv_at hl 1 rfl) ?_
  refine lv_iload_n hx hb d_D_put_7 rfl (lv_at hl 2 rfl) ?_
  refine iv_D_113 (As := [.int kk]) (rest := []) cx (c_boxIn_out l G n0 e0 w d la ra (k + 1) tot (fun _ => none) (fun _ => none) hd kk hkk) hd ⟨(Nat.le_of_ble_eq_true rfl), (Nat.le_of_ble_eq_true rfl)⟩ ⟨(by dsimp only [rmP]; omega), (by dsimp only [rmP]; omega)⟩ rfl hl.1 rfl (Nat.le_of_ble_eq_true rfl) d_D_put_8 hZ hS (fun v w_3 H locs hp_4 hZ hS => ?_)
  obtain ⟨rfl, hq⟩ := hp_4
  subst w_3
  refine W.eq (g2 := F0 m 11 ls [.null]) rfl ?_
  refine lv_astoreN (lv' := [(5, .null), (4, .ref il), (0, .ref d), (1, .int kk), (2, .int shift), (3, .int 1)]) hx hb d_D_put_11 hl (by decide) rfl (fun ls hl => ?_)
  refine lv_aload hx hb d_D_put_13 (lv_at hl 1 rfl) ?_
  refine lv_ifnull hx hb d_D_put_15 ?_
  refine lv_aloadN hx hb d_D_put_18 (lv_at hl 0 rfl) ?_
  refine lv_ifnullN (tgt := 31) hx hb d_D_put_20 (by decide) ?_
  refine lv_iconst (v := 0) hx hb d_D_put_31 (by decide) ?_
  exact z_zret cx.1 cx.2.1 cx.rt cx.lk (by first | rfl | (simp [narrow]; done) | simp_all [narrow]) hS hZ ⟨(by dsimp only [rmP]; omega), (by dsimp only [rmP]; omega)⟩ d_D_put_32 (⟨rfl, rfl⟩)
set_option maxHeartbeats 4000000 in
set_option maxRecDepth 100000 in
theorem c_put_1void0 (l : Launch) (G : zG) (n0 e0 : Nat) (w : zw) (d la ra tot : Nat) (fl fr : Nat → Option Nat) (shift : Int32) (k il al ar cap : Nat) (V : LV) (hd : w d = some (.inr (5, [.ref la, .int (nI (k + 1)), .ref ra, .int (nI tot)]))) (hla : w la = some (.inl (G.2 4, 100, .inr (.inr (.inr (.inr fl)))))) (hra : w ra = some (.inl (G.2 5, 16, .inr (.inr (.inr (.inr fr)))))) (hk : k < 100) (hil : fl k = some il) (hL : LL G e0 w (il, al, ar, cap) V) (hn : V.2.1 ≤ 20000) (ht : tot < 10000) (kk : Nat) (hkk : kk < 16) (hv : fr kk = none)  : Ct l G n0 e0 y_D_put b_D_put 7 (Option.some FieldType.boolean) (rmP cap) [.ref d, .int (nI kk), .int shift, .int 0] w (fun v w1 => v = some (.int 0) ∧ w1 = w) := by
  refine z_ct (by decide) (Nat.le_of_ble_eq_true rfl) ?_
  intro p e s m below meth c ls cx hnm hZ hS hl
  have hx := cx.1
  have hb := cx.2.1
  have hl : lv_has ls 7 [(0, .ref d), (1, .int (nI kk)), (2, .int shift), (3, .int 0)] := hl
  refine lv_aload_n hx hb d_D_put_0 rfl (lv_at hl 0 rfl) ?_
  refine iv_D_28 (As := []) (rest := []) cx (c_innermost_1 l G n0 e0 w d la ra k tot fl (fun _ => none) hd hla hk il hil) hd ⟨(Nat.le_of_ble_eq_true rfl), (Nat.le_of_ble_eq_true rfl)⟩ ⟨(by dsimp only [rmP]; omega), (by dsimp only [rmP]; omega)⟩ rfl hl.1 rfl (Nat.le_of_ble_eq_true rfl) d_D_put_1 hZ hS (fun v w_1 H locs hp_2 hZ hS => ?_)
  obtain ⟨rfl, hq⟩ := hp_2
  subst w_1
  refine W.eq (g2 := F0 m 4 ls [.ref il]) rfl ?_
  refine lv_astore (lv' := [(4, .ref il), (0, .ref d), (1, .int (nI kk)), (2, .int shift), (3, .int 0)]) hx hb d_D_put_4 hl (by decide) rfl (fun ls hl => ?_)
  refine lv_aload_n hx hb d_D_put_6 rfl (lv_at hl 1 rfl) ?_
  refine lv_iload_n hx hb d_D_put_7 rfl (lv_at hl 2 rfl) ?_
  refine iv_D_113 (As := [.int (nI kk)]) (rest := []) cx (c_boxIn_void l G n0 e0 w d la ra (k + 1) tot (fun _ => none) fr hd hra kk hkk hv) hd ⟨(Nat.le_of_ble_eq_true rfl), (Nat.le_of_ble_eq_true rfl)⟩ ⟨(by dsimp only [rmP]; omega), (by dsimp only [rmP]; omega)⟩ rfl hl.1 rfl (Nat.le_of_ble_eq_true rfl) d_D_put_8 hZ hS (fun v w_3 H locs hp_4 hZ hS => ?_)
  obtain ⟨rfl, hq⟩ := hp_4
  subst w_3
  refine W.eq (g2 := F0 m 11 ls [.null]) rfl ?_
  refine lv_astoreN (lv' := [(5, .null), (4, .ref il), (0, .ref d), (1, .int (nI kk)), (2, .int shift), (3, .int 0)]) hx hb d_D_put_11 hl (by decide) rfl (fun ls hl => ?_)
  refine lv_aload hx hb d_D_put_13 (lv_at hl 1 rfl) ?_
  refine lv_ifnull hx hb d_D_put_15 ?_
  refine lv_aloadN hx hb d_D_put_18 (lv_at hl 0 rfl) ?_
  refine lv_ifnullN (tgt := 31) hx hb d_D_put_20 (by decide) ?_
  refine lv_iconst (v := 0) hx hb d_D_put_31 (by decide) ?_
  exact z_zret cx.1 cx.2.1 cx.rt cx.lk (by first | rfl | (simp [narrow]; done) | simp_all [narrow]) hS hZ ⟨(by dsimp only [rmP]; omega), (by dsimp only [rmP]; omega)⟩ d_D_put_32 (⟨rfl, rfl⟩)
set_option maxHeartbeats 4000000 in
set_option maxRecDepth 100000 in
theorem c_put_1void1 (l : Launch) (G : zG) (n0 e0 : Nat) (w : zw) (d la ra tot : Nat) (fl fr : Nat → Option Nat) (shift : Int32) (k il al ar cap : Nat) (V : LV) (hd : w d = some (.inr (5, [.ref la, .int (nI (k + 1)), .ref ra, .int (nI tot)]))) (hla : w la = some (.inl (G.2 4, 100, .inr (.inr (.inr (.inr fl)))))) (hra : w ra = some (.inl (G.2 5, 16, .inr (.inr (.inr (.inr fr)))))) (hk : k < 100) (hil : fl k = some il) (hL : LL G e0 w (il, al, ar, cap) V) (hn : V.2.1 ≤ 20000) (ht : tot < 10000) (kk : Nat) (hkk : kk < 16) (hv : fr kk = none)  : Ct l G n0 e0 y_D_put b_D_put 7 (Option.some FieldType.boolean) (rmP cap) [.ref d, .int (nI kk), .int shift, .int 1] w (fun v w1 => v = some (.int 0) ∧ w1 = w) := by
  refine z_ct (by decide) (Nat.le_of_ble_eq_true rfl) ?_
  intro p e s m below meth c ls cx hnm hZ hS hl
  have hx := cx.1
  have hb := cx.2.1
  have hl : lv_has ls 7 [(0, .ref d), (1, .int (nI kk)), (2, .int shift), (3, .int 1)] := hl
  refine lv_aload_n hx hb d_D_put_0 rfl (lv_at hl 0 rfl) ?_
  refine iv_D_28 (As := []) (rest := []) cx (c_innermost_1 l G n0 e0 w d la ra k tot fl (fun _ => none) hd hla hk il hil) hd ⟨(Nat.le_of_ble_eq_true rfl), (Nat.le_of_ble_eq_true rfl)⟩ ⟨(by dsimp only [rmP]; omega), (by dsimp only [rmP]; omega)⟩ rfl hl.1 rfl (Nat.le_of_ble_eq_true rfl) d_D_put_1 hZ hS (fun v w_1 H locs hp_2 hZ hS => ?_)
  obtain ⟨rfl, hq⟩ := hp_2
  subst w_1
  refine W.eq (g2 := F0 m 4 ls [.ref il]) rfl ?_
  refine lv_astore (lv' := [(4, .ref il), (0, .ref d), (1, .int (nI kk)), (2, .int shift), (3, .int 1)]) hx hb d_D_put_4 hl (by decide) rfl (fun ls hl => ?_)
  refine lv_aload_n hx hb d_D_put_6 rfl (lv_at hl 1 rfl) ?_
  refine lv_iload_n hx hb d_D_put_7 rfl (lv_at hl 2 rfl) ?_
  refine iv_D_113 (As := [.int (nI kk)]) (rest := []) cx (c_boxIn_void l G n0 e0 w d la ra (k + 1) tot (fun _ => none) fr hd hra kk hkk hv) hd ⟨(Nat.le_of_ble_eq_true rfl), (Nat.le_of_ble_eq_true rfl)⟩ ⟨(by dsimp only [rmP]; omega), (by dsimp only [rmP]; omega)⟩ rfl hl.1 rfl (Nat.le_of_ble_eq_true rfl) d_D_put_8 hZ hS (fun v w_3 H locs hp_4 hZ hS => ?_)
  obtain ⟨rfl, hq⟩ := hp_4
  subst w_3
  refine W.eq (g2 := F0 m 11 ls [.null]) rfl ?_
  refine lv_astoreN (lv' := [(5, .null), (4, .ref il), (0, .ref d), (1, .int (nI kk)), (2, .int shift), (3, .int 1)]) hx hb d_D_put_11 hl (by decide) rfl (fun ls hl => ?_)
  refine lv_aload hx hb d_D_put_13 (lv_at hl 1 rfl) ?_
  refine lv_ifnull hx hb d_D_put_15 ?_
  refine lv_aloadN hx hb d_D_put_18 (lv_at hl 0 rfl) ?_
  refine lv_ifnullN (tgt := 31) hx hb d_D_put_20 (by decide) ?_
  refine lv_iconst (v := 0) hx hb d_D_put_31 (by decide) ?_
  exact z_zret cx.1 cx.2.1 cx.rt cx.lk (by first | rfl | (simp [narrow]; done) | simp_all [narrow]) hS hZ ⟨(by dsimp only [rmP]; omega), (by dsimp only [rmP]; omega)⟩ d_D_put_32 (⟨rfl, rfl⟩)
set_option maxHeartbeats 4000000 in
set_option maxRecDepth 100000 in
theorem c_put_1some0 (l : Launch) (G : zG) (n0 e0 : Nat) (w : zw) (d la ra tot : Nat) (fl fr : Nat → Option Nat) (shift : Int32) (k il al ar cap : Nat) (V : LV) (hd : w d = some (.inr (5, [.ref la, .int (nI (k + 1)), .ref ra, .int (nI tot)]))) (hla : w la = some (.inl (G.2 4, 100, .inr (.inr (.inr (.inr fl)))))) (hra : w ra = some (.inl (G.2 5, 16, .inr (.inr (.inr (.inr fr)))))) (hk : k < 100) (hil : fl k = some il) (hL : LL G e0 w (il, al, ar, cap) V) (hn : V.2.1 ≤ 20000) (ht : tot < 10000) (kk b li sw al2 wi : Nat) (f : Nat → Int32) (vt : Bool) (hkk : kk < 16) (hv : fr kk = some b) (hb0 : w b = some (.inr (4, fB li sw f))) (hli : w li = some (.inr (2, [.int (zi vt), .ref al2]))) (hwi : f 0 = nI wi) (hw2 : wi < 10000)  : Ct l G n0 e0 y_D_put b_D_put 7 (Option.some FieldType.boolean) (rmP cap) [.ref d, .int (nI kk), .int shift, .int 0] w (fun v w1 => ∃ r, v = some (.int r) ∧ (((szI shift && decide (tot + 0 ≤ 4000)) = true ∧ r = 1 ∧ PutP G e0 d la ra (k + 1) (tot + 0) il al ar V (boxF vt f shift) (va_up fr kk none) w w1) ∨ ((szI shift && decide (tot + 0 ≤ 4000)) = false ∧ r = 0 ∧ w1 = w))) := by
  refine z_ct (by decide) (Nat.le_of_ble_eq_true rfl) ?_
  intro p e s m below meth c ls cx hnm hZ hS hl
  have hx := cx.1
  have hb := cx.2.1
  have hl : lv_has ls 7 [(0, .ref d), (1, .int (nI kk)), (2, .int shift), (3, .int 0)] := hl
  have hF : Fr [d, ra, al, ar] w w := Fr.rf
  refine lv_aload_n hx hb d_D_put_0 rfl (lv_at hl 0 rfl) ?_
  refine iv_D_28 (As := []) (rest := []) cx (c_innermost_1 l G n0 e0 w d la ra k tot fl (fun _ => none) hd hla hk il hil) hd ⟨(Nat.le_of_ble_eq_true rfl), (Nat.le_of_ble_eq_true rfl)⟩ ⟨(by dsimp only [rmP, rmL]; have := gS_le V.2.1 cap; omega), (by dsimp only [rmP, rmL]; have := gS_le V.2.1 cap; omega)⟩ rfl hl.1 rfl (Nat.le_of_ble_eq_true rfl) d_D_put_1 hZ hS (fun v w_1 H locs hp_2 hZ hS => ?_)
  obtain ⟨rfl, hq⟩ := hp_2
  subst w_1
  refine W.eq (g2 := F0 m 4 ls [.ref il]) rfl ?_
  refine lv_astore (lv' := [(4, .ref il), (0, .ref d), (1, .int (nI kk)), (2, .int shift), (3, .int 0)]) hx hb d_D_put_4 hl (by decide) rfl (fun ls hl => ?_)
  refine lv_aload_n hx hb d_D_put_6 rfl (lv_at hl 1 rfl) ?_
  refine lv_iload_n hx hb d_D_put_7 rfl (lv_at hl 2 rfl) ?_
  refine iv_D_113 (As := [.int (nI kk)]) (rest := []) cx (c_boxIn_some l G n0 e0 w d la ra (k + 1) tot (fun _ => none) fr hd hra kk hkk b hv) hd ⟨(Nat.le_of_ble_eq_true rfl), (Nat.le_of_ble_eq_true rfl)⟩ ⟨(by dsimp only [rmP, rmL]; have := gS_le V.2.1 cap; omega), (by dsimp only [rmP, rmL]; have := gS_le V.2.1 cap; omega)⟩ rfl hl.1 rfl (Nat.le_of_ble_eq_true rfl) d_D_put_8 hZ hS (fun v w_3 H locs hp_4 hZ hS => ?_)
  obtain ⟨rfl, hq⟩ := hp_4
  subst w_3
  refine W.eq (g2 := F0 m 11 ls [.ref b]) rfl ?_
  refine lv_astore (lv' := [(5, .ref b), (4, .ref il), (0, .ref d), (1, .int (nI kk)), (2, .int shift), (3, .int 0)]) hx hb d_D_put_11 hl (by decide) rfl (fun ls hl => ?_)
  refine lv_aload hx hb d_D_put_13 (lv_at hl 1 rfl) ?_
  refine lv_ifnull hx hb d_D_put_15 ?_
  refine lv_aload hx hb d_D_put_18 (lv_at hl 0 rfl) ?_
  refine lv_ifnull hx hb d_D_put_20 ?_
  refine lv_iload_n hx hb d_D_put_23 rfl (lv_at hl 4 rfl) ?_
  refine lv_i2l hx hb d_D_put_24 rfl ?_
  refine is_D_56 (As := [.long shift.toInt64]) (rest := []) cx (c_isSize l G n0 e0 shift.toInt64 w) ⟨(Nat.le_of_ble_eq_true rfl), (Nat.le_of_ble_eq_true rfl)⟩ ⟨(by dsimp only [rmP, rmL]; have := gS_le V.2.1 cap; omega), (by dsimp only [rmP, rmL]; have := gS_le V.2.1 cap; omega)⟩ rfl hl.1 rfl (Nat.le_of_ble_eq_true rfl) d_D_put_25 hZ hS (fun v w_5 H locs hp_6 hZ hS => ?_)
  obtain ⟨rfl, hq⟩ := hp_6
  subst w_5
  refine W.eq (g2 := F0 m 28 ls [.int (zi (szL shift.toInt64))]) rfl ?_
  refine lv_if_ne (tgt := 33) hx hb d_D_put_28 (by decide) (fun c28 => ?_) (fun c28 => ?_)
  · refine lv_iload_n hx hb d_D_put_33 rfl (lv_at hl 5 rfl) ?_
    refine lv_if_eq (tgt := 45) hx hb d_D_put_34 (by decide) (fun c34 => ?_) (fun c34 => ?_)
    · refine lv_iconst (v := 0) hx hb d_D_put_45 (by decide) ?_
      refine lv_istore (lv' := [(6, .int 0), (5, .ref b), (4, .ref il), (0, .ref d), (1, .int (nI kk)), (2, .int shift), (3, .int 0)]) hx hb d_D_put_46 hl (by decide) rfl (fun ls hl => ?_)
      refine lv_aload_n hx hb d_D_put_48 rfl (lv_at hl 3 rfl) ?_
      refine gf_D_94 cx hZ hd rfl d_D_put_49 ?_
      refine lv_iload hx hb d_D_put_52 (lv_at hl 0 rfl) ?_
      refine lv_iadd hx hb d_D_put_54 ?_
      rw [show (((nI tot) + 0) : Int32) = nI (tot + 0) from put_room0]
      refine lv_sipush (v := 4000) hx hb d_D_put_55 (by decide) ?_
      refine lv_icmp_le (tgt := 63) hx hb d_D_put_58 (by decide) (fun c58 => ?_) (fun c58 => ?_)
      · refine lv_aload hx hb d_D_put_63 (lv_at hl 2 rfl) ?_
        refine gf_D_117 cx hZ hL.1 rfl d_D_put_65 ?_
        refine lv_aload hx hb d_D_put_68 (lv_at hl 1 rfl) ?_
        refine lv_iload_n hx hb d_D_put_70 rfl (lv_at hl 5 rfl) ?_
        refine is_D_121 (As := [.ref b, .int shift]) (rest := [.ref al]) cx (c_ofBox l G n0 e0 w b li sw al2 f vt shift hb0 hli) ⟨(Nat.le_of_ble_eq_true rfl), (Nat.le_of_ble_eq_true rfl)⟩ ⟨(by dsimp only [rmP, rmL]; have := gS_le V.2.1 cap; omega), (by dsimp only [rmP, rmL]; have := gS_le V.2.1 cap; omega)⟩ rfl hl.1 rfl (Nat.le_of_ble_eq_true rfl) d_D_put_71 hZ hS (fun v w_8 H locs hp_9 hZ hS => ?_)
        obtain ⟨q_7, rfl, hq_10, hw_11⟩ := hp_9
        have hk_12 : w_8 d = some (.inr (5, [.ref la, .int (nI (k + 1)), .ref ra, .int (nI tot)])) := up_ne hw_11 hd (z_neN hd hq_10)
        have hk_13 : w_8 il = some (.inr (2, [.int (zi V.1), .ref al])) := up_ne hw_11 hL.1 (z_neN hL.1 hq_10)
        have hk_14 : w_8 b = some (.inr (4, [.ref li, .ref sw, .int (f 0), .int (f 1), .int (f 2), .int (f 3), .int (f 4)])) := up_ne hw_11 hb0 (z_neN hb0 hq_10)
        have hk_15 : w_8 li = some (.inr (2, [.int (zi vt), .ref al2])) := up_ne hw_11 hli (z_neN hli hq_10)
        have hk_16 : w_8 la = some (.inl (G.2 4, 100, .inr (.inr (.inr (.inr fl))))) := up_ne hw_11 hla (z_neN hla hq_10)
        have hk_17 : w_8 ra = some (.inl (G.2 5, 16, .inr (.inr (.inr (.inr fr))))) := up_ne hw_11 hra (z_neN hra hq_10)
        have hn_18 := hF.2 _ hq_10
        have hF := hF.put hw_11 (Or.inr hn_18)
        have hc_19 : w_8 q_7 = some (.inr (1, fI (boxF vt f shift))) := up_self hw_11
        refine W.eq (g2 := F0 m 74 ls [.ref q_7, .ref al]) rfl ?_
        have hroom := Nat.le_of_not_lt (fun z => nle4000 z (by omega) c58)
        have hLk_20 : LL G e0 w_8 (il, al, ar, cap) V := hL.keep (Fr.rf.put (S := []) hw_11 (Or.inr hn_18)) (by simp) (by simp) (Or.inl (by simp)) (by simp)
        have he_21 := cx.ez hZ
        obtain ⟨_, _, mdk, fak, halk, _, _⟩ := id hLk_20
        refine iv_D_125 (As := [.ref q_7]) (rest := []) cx (c_addL l G n0 e0 w_8 il al ar cap V q_7 (boxF vt f shift) hLk_20 hc_19 hn) halk ⟨(Nat.le_of_ble_eq_true rfl), (Nat.le_of_ble_eq_true rfl)⟩ ⟨(by dsimp only [rmP, rmL]; have := gS_le V.2.1 cap; omega), (by dsimp only [rmP, rmL]; have := gS_le V.2.1 cap; omega)⟩ rfl hl.1 rfl (Nat.le_of_ble_eq_true rfl) d_D_put_74 hZ hS (fun v w_22 H locs hp_23 hZ hS => ?_)
        obtain ⟨ar2, rfl, hL2, har2, hf_24⟩ := hp_23
        have hk_25 : w_22 d = some (.inr (5, [.ref la, .int (nI (k + 1)), .ref ra, .int (nI tot)])) := hf_24.keep hk_12 (hLk_20.notin he_21 hk_12 (by simp) (by simp))
        have hk_26 : w_22 il = some (.inr (2, [.int (zi V.1), .ref al])) := hf_24.keep hk_13 (hLk_20.notin he_21 hk_13 (by simp) (by simp))
        have hk_27 : w_22 b = some (.inr (4, [.ref li, .ref sw, .int (f 0), .int (f 1), .int (f 2), .int (f 3), .int (f 4)])) := hf_24.keep hk_14 (hLk_20.notin he_21 hk_14 (by simp) (by simp))
        have hk_28 : w_22 li = some (.inr (2, [.int (zi vt), .ref al2])) := hf_24.keep hk_15 (hLk_20.notin he_21 hk_15 (by simp) (by simp))
        have hk_29 : w_22 q_7 = some (.inr (1, (fI (boxF vt f shift)))) := hf_24.keep hc_19 (hLk_20.notin he_21 hc_19 (by simp) (by simp))
        have hk_30 : w_22 la = some (.inl (G.2 4, 100, .inr (.inr (.inr (.inr fl))))) := hf_24.keep hk_16 (hLk_20.notin he_21 hk_16 (by simp) (by simp [cx.g43]))
        have hk_31 : w_22 ra = some (.inl (G.2 5, 16, .inr (.inr (.inr (.inr fr))))) := hf_24.keep hk_17 (hLk_20.notin he_21 hk_17 (by simp) (by simp [cx.g53]))
        have hF := hF.call hf_24 (List.forall_mem_cons.mpr ⟨Or.inl (by simp), List.forall_mem_cons.mpr ⟨Or.inl (by simp), fun _ h => absurd h List.not_mem_nil⟩⟩)
        refine W.eq (g2 := F0 m 77 ls [.int 1]) rfl ?_
        refine lv_pop hx hb d_D_put_77 rfl ?_
        refine lv_aload_n hx hb d_D_put_78 rfl (lv_at hl 3 rfl) ?_
        refine lv_dup hx hb d_D_put_79 rfl ?_
        refine gf_D_94 cx hZ hk_25 rfl d_D_put_80 ?_
        refine lv_iload hx hb d_D_put_83 (lv_at hl 0 rfl) ?_
        refine lv_iadd hx hb d_D_put_85 ?_
        rw [show (((nI tot) + 0) : Int32) = nI (tot + 0) from put_room0]
        refine pf_D_94 cx hZ hS hk_25 (Nat.le_of_ble_eq_true rfl) d_D_put_86 (fun w_32 H locs hw_33 hZ hS => ?_)
        have hk_34 : w_32 il = some (.inr (2, [.int (zi V.1), .ref al])) := up_ne hw_33 hk_26 (z_ne hk_26 hk_25 (by simp))
        have hk_35 : w_32 b = some (.inr (4, [.ref li, .ref sw, .int (f 0), .int (f 1), .int (f 2), .int (f 3), .int (f 4)])) := up_ne hw_33 hk_27 (z_ne hk_27 hk_25 (by simp))
        have hk_36 : w_32 li = some (.inr (2, [.int (zi vt), .ref al2])) := up_ne hw_33 hk_28 (z_ne hk_28 hk_25 (by simp))
        have hk_37 : w_32 q_7 = some (.inr (1, (fI (boxF vt f shift)))) := up_ne hw_33 hk_29 (Ne.symm (z_neN hd hn_18))
        have hk_38 : w_32 la = some (.inl (G.2 4, 100, .inr (.inr (.inr (.inr fl))))) := up_ne hw_33 hk_30 (z_ne hk_30 hk_25 (by simp))
        have hk_39 : w_32 ra = some (.inl (G.2 5, 16, .inr (.inr (.inr (.inr fr))))) := up_ne hw_33 hk_31 (z_ne hk_31 hk_25 (by simp))
        have hF := hF.put hw_33 (Or.inl (by simp))
        have hc_40 : w_32 d = some (.inr (5, [.ref la, .int (nI (k + 1)), .ref ra, .int (nI (tot + 0))])) := up_self hw_33
        refine lv_iload_n hx hb d_D_put_89 rfl (lv_at hl 6 rfl) ?_
        refine lv_if_ne (tgt := 100) hx hb d_D_put_90 (by decide) (fun c90 => ?_) (fun c90 => ?_)
        · exact absurd c90 (by decide)
        · refine lv_aload_n hx hb d_D_put_93 rfl (lv_at hl 3 rfl) ?_
          refine gf_D_17 cx hZ hc_40 rfl d_D_put_94 ?_
          refine lv_iload_n hx hb d_D_put_97 rfl (lv_at hl 4 rfl) ?_
          refine lv_null hx hb d_D_put_98 ?_
          refine st_qN5 cx hZ hS hk_39 (vp_in_nI hkk (by omega)) d_D_put_99 (fun w_41 H locs hw_42 hZ hS => ?_)
          have hk_43 : w_41 d = some (.inr (5, [.ref la, .int (nI (k + 1)), .ref ra, .int (nI (tot + 0))])) := up_ne hw_42 hc_40 (z_ne hc_40 hk_39 (by simp))
          have hk_44 : w_41 il = some (.inr (2, [.int (zi V.1), .ref al])) := up_ne hw_42 hk_34 (z_ne hk_34 hk_39 (by simp))
          have hk_45 : w_41 b = some (.inr (4, [.ref li, .ref sw, .int (f 0), .int (f 1), .int (f 2), .int (f 3), .int (f 4)])) := up_ne hw_42 hk_35 (z_ne hk_35 hk_39 (by simp))
          have hk_46 : w_41 li = some (.inr (2, [.int (zi vt), .ref al2])) := up_ne hw_42 hk_36 (z_ne hk_36 hk_39 (by simp))
          have hk_47 : w_41 q_7 = some (.inr (1, (fI (boxF vt f shift)))) := up_ne hw_42 hk_37 (Ne.symm (z_neN hra hn_18))
          have hk_48 : w_41 la = some (.inl (G.2 4, 100, .inr (.inr (.inr (.inr fl))))) := up_ne hw_42 hk_38 (z_ne hk_38 hk_39 (by simp))
          have hF := hF.put hw_42 (Or.inl (by simp))
          have hc_49 : w_41 ra = some (.inl (G.2 5, 16, .inr (.inr (.inr (.inr (va_up fr (nI kk).toNatClampNeg none)))))) := up_self hw_42
          refine lv_iconst (v := 1) hx hb d_D_put_100 (by decide) ?_
          exact z_zret cx.1 cx.2.1 cx.rt cx.lk (by first | rfl | (simp [narrow]; done) | simp_all [narrow]) hS hZ ⟨(by dsimp only [rmP, rmL]; have := gS_le V.2.1 cap; omega), (by dsimp only [rmP, rmL]; have := gS_le V.2.1 cap; omega)⟩ d_D_put_101 (⟨1, rfl, Or.inl ⟨by have h := (zi_n0 _).mp c28; simp only [szI, h, Bool.true_and, decide_eq_true_eq]; exact hroom, rfl, ar2, _, hL2.keepX (((Fr.rf (S := [d, ra]) (w := w_22)).put hw_33 (Or.inl (by simp))).put hw_42 (Or.inl (by simp))) (List.forall_mem_cons.mpr ⟨⟨_, hk_25, by simp, by simp, by simp, by simp⟩, List.forall_mem_cons.mpr ⟨⟨_, hk_31, by simp, by simp, by simp, by simp [cx.g53]⟩, fun _ h => absurd h List.not_mem_nil⟩⟩), har2.imp_right (fun q => (Fr.rf.put (S := []) hw_11 (Or.inr hn_18)).2 _ q.1), hk_43, (by have := hc_49; rw [nI_clamp (by omega)] at this; exact this), hF⟩⟩)
      · refine lv_iconst (v := 0) hx hb d_D_put_61 (by decide) ?_
        exact z_zret cx.1 cx.2.1 cx.rt cx.lk (by first | rfl | (simp [narrow]; done) | simp_all [narrow]) hS hZ ⟨(by dsimp only [rmP, rmL]; have := gS_le V.2.1 cap; omega), (by dsimp only [rmP, rmL]; have := gS_le V.2.1 cap; omega)⟩ d_D_put_62 (⟨0, rfl, Or.inr ⟨by simp only [Bool.and_eq_false_iff, decide_eq_false_iff_not]; exact Or.inr (fun z => c58 (le4000 z)), rfl, rfl⟩⟩)
    · exact absurd c34 (by decide)
  · refine lv_iconst (v := 0) hx hb d_D_put_31 (by decide) ?_
    exact z_zret cx.1 cx.2.1 cx.rt cx.lk (by first | rfl | (simp [narrow]; done) | simp_all [narrow]) hS hZ ⟨(by dsimp only [rmP, rmL]; have := gS_le V.2.1 cap; omega), (by dsimp only [rmP, rmL]; have := gS_le V.2.1 cap; omega)⟩ d_D_put_32 (⟨0, rfl, Or.inr ⟨by have h := (zi_0 _).mp c28; simp only [szI, h, Bool.false_and], rfl, rfl⟩⟩)
set_option maxHeartbeats 4000000 in
set_option maxRecDepth 100000 in
theorem c_put_1some1 (l : Launch) (G : zG) (n0 e0 : Nat) (w : zw) (d la ra tot : Nat) (fl fr : Nat → Option Nat) (shift : Int32) (k il al ar cap : Nat) (V : LV) (hd : w d = some (.inr (5, [.ref la, .int (nI (k + 1)), .ref ra, .int (nI tot)]))) (hla : w la = some (.inl (G.2 4, 100, .inr (.inr (.inr (.inr fl)))))) (hra : w ra = some (.inl (G.2 5, 16, .inr (.inr (.inr (.inr fr)))))) (hk : k < 100) (hil : fl k = some il) (hL : LL G e0 w (il, al, ar, cap) V) (hn : V.2.1 ≤ 20000) (ht : tot < 10000) (kk b li sw al2 wi : Nat) (f : Nat → Int32) (vt : Bool) (hkk : kk < 16) (hv : fr kk = some b) (hb0 : w b = some (.inr (4, fB li sw f))) (hli : w li = some (.inr (2, [.int (zi vt), .ref al2]))) (hwi : f 0 = nI wi) (hw2 : wi < 10000)  : Ct l G n0 e0 y_D_put b_D_put 7 (Option.some FieldType.boolean) (rmP cap) [.ref d, .int (nI kk), .int shift, .int 1] w (fun v w1 => ∃ r, v = some (.int r) ∧ (((szI shift && decide (tot + (1 + wi) ≤ 4000)) = true ∧ r = 1 ∧ PutP G e0 d la ra (k + 1) (tot + (1 + wi)) il al ar V (boxF vt f shift) (fr) w w1) ∨ ((szI shift && decide (tot + (1 + wi) ≤ 4000)) = false ∧ r = 0 ∧ w1 = w))) := by
  refine z_ct (by decide) (Nat.le_of_ble_eq_true rfl) ?_
  intro p e s m below meth c ls cx hnm hZ hS hl
  have hx := cx.1
  have hb := cx.2.1
  have hl : lv_has ls 7 [(0, .ref d), (1, .int (nI kk)), (2, .int shift), (3, .int 1)] := hl
  have hF : Fr [d, ra, al, ar] w w := Fr.rf
  refine lv_aload_n hx hb d_D_put_0 rfl (lv_at hl 0 rfl) ?_
  refine iv_D_28 (As := []) (rest := []) cx (c_innermost_1 l G n0 e0 w d la ra k tot fl (fun _ => none) hd hla hk il hil) hd ⟨(Nat.le_of_ble_eq_true rfl), (Nat.le_of_ble_eq_true rfl)⟩ ⟨(by dsimp only [rmP, rmL]; have := gS_le V.2.1 cap; omega), (by dsimp only [rmP, rmL]; have := gS_le V.2.1 cap; omega)⟩ rfl hl.1 rfl (Nat.le_of_ble_eq_true rfl) d_D_put_1 hZ hS (fun v w_1 H locs hp_2 hZ hS => ?_)
  obtain ⟨rfl, hq⟩ := hp_2
  subst w_1
  refine W.eq (g2 := F0 m 4 ls [.ref il]) rfl ?_
  refine lv_astore (lv' := [(4, .ref il), (0, .ref d), (1, .int (nI kk)), (2, .int shift), (3, .int 1)]) hx hb d_D_put_4 hl (by decide) rfl (fun ls hl => ?_)
  refine lv_aload_n hx hb d_D_put_6 rfl (lv_at hl 1 rfl) ?_
  refine lv_iload_n hx hb d_D_put_7 rfl (lv_at hl 2 rfl) ?_
  refine iv_D_113 (As := [.int (nI kk)]) (rest := []) cx (c_boxIn_some l G n0 e0 w d la ra (k + 1) tot (fun _ => none) fr hd hra kk hkk b hv) hd ⟨(Nat.le_of_ble_eq_true rfl), (Nat.le_of_ble_eq_true rfl)⟩ ⟨(by dsimp only [rmP, rmL]; have := gS_le V.2.1 cap; omega), (by dsimp only [rmP, rmL]; have := gS_le V.2.1 cap; omega)⟩ rfl hl.1 rfl (Nat.le_of_ble_eq_true rfl) d_D_put_8 hZ hS (fun v w_3 H locs hp_4 hZ hS => ?_)
  obtain ⟨rfl, hq⟩ := hp_4
  subst w_3
  refine W.eq (g2 := F0 m 11 ls [.ref b]) rfl ?_
  refine lv_astore (lv' := [(5, .ref b), (4, .ref il), (0, .ref d), (1, .int (nI kk)), (2, .int shift), (3, .int 1)]) hx hb d_D_put_11 hl (by decide) rfl (fun ls hl => ?_)
  refine lv_aload hx hb d_D_put_13 (lv_at hl 1 rfl) ?_
  refine lv_ifnull hx hb d_D_put_15 ?_
  refine lv_aload hx hb d_D_put_18 (lv_at hl 0 rfl) ?_
  refine lv_ifnull hx hb d_D_put_20 ?_
  refine lv_iload_n hx hb d_D_put_23 rfl (lv_at hl 4 rfl) ?_
  refine lv_i2l hx hb d_D_put_24 rfl ?_
  refine is_D_56 (As := [.long shift.toInt64]) (rest := []) cx (c_isSize l G n0 e0 shift.toInt64 w) ⟨(Nat.le_of_ble_eq_true rfl), (Nat.le_of_ble_eq_true rfl)⟩ ⟨(by dsimp only [rmP, rmL]; have := gS_le V.2.1 cap; omega), (by dsimp only [rmP, rmL]; have := gS_le V.2.1 cap; omega)⟩ rfl hl.1 rfl (Nat.le_of_ble_eq_true rfl) d_D_put_25 hZ hS (fun v w_5 H locs hp_6 hZ hS => ?_)
  obtain ⟨rfl, hq⟩ := hp_6
  subst w_5
  refine W.eq (g2 := F0 m 28 ls [.int (zi (szL shift.toInt64))]) rfl ?_
  refine lv_if_ne (tgt := 33) hx hb d_D_put_28 (by decide) (fun c28 => ?_) (fun c28 => ?_)
  · refine lv_iload_n hx hb d_D_put_33 rfl (lv_at hl 5 rfl) ?_
    refine lv_if_eq (tgt := 45) hx hb d_D_put_34 (by decide) (fun c34 => ?_) (fun c34 => ?_)
    · exact absurd c34 (by decide)
    · refine lv_aload hx hb d_D_put_37 (lv_at hl 0 rfl) ?_
      refine is_D_109 (As := [.ref b]) (rest := []) cx (c_itemsOf_1 l G n0 e0 w b li sw (f 0) (f 1) (f 2) (f 3) (f 4) hb0) ⟨(Nat.le_of_ble_eq_true rfl), (Nat.le_of_ble_eq_true rfl)⟩ ⟨(by dsimp only [rmP, rmL]; have := gS_le V.2.1 cap; omega), (by dsimp only [rmP, rmL]; have := gS_le V.2.1 cap; omega)⟩ rfl hl.1 rfl (Nat.le_of_ble_eq_true rfl) d_D_put_39 hZ hS (fun v w_7 H locs hp_8 hZ hS => ?_)
      obtain ⟨rfl, hq⟩ := hp_8
      subst w_7
      refine W.eq (g2 := F0 m 42 ls [.int (1 + f 0)]) rfl ?_
      refine lv_goto (tgt := 46) hx hb d_D_put_42 (by decide) ?_
      refine lv_istore (lv' := [(6, .int (1 + f 0)), (5, .ref b), (4, .ref il), (0, .ref d), (1, .int (nI kk)), (2, .int shift), (3, .int 1)]) hx hb d_D_put_46 hl (by decide) rfl (fun ls hl => ?_)
      refine lv_aload_n hx hb d_D_put_48 rfl (lv_at hl 3 rfl) ?_
      refine gf_D_94 cx hZ hd rfl d_D_put_49 ?_
      refine lv_iload hx hb d_D_put_52 (lv_at hl 0 rfl) ?_
      refine lv_iadd hx hb d_D_put_54 ?_
      rw [show (((nI tot) + (1 + f 0)) : Int32) = nI (tot + (1 + wi)) from put_room2 hwi]
      refine lv_sipush (v := 4000) hx hb d_D_put_55 (by decide) ?_
      refine lv_icmp_le (tgt := 63) hx hb d_D_put_58 (by decide) (fun c58 => ?_) (fun c58 => ?_)
      · refine lv_aload hx hb d_D_put_63 (lv_at hl 2 rfl) ?_
        refine gf_D_117 cx hZ hL.1 rfl d_D_put_65 ?_
        refine lv_aload hx hb d_D_put_68 (lv_at hl 1 rfl) ?_
        refine lv_iload_n hx hb d_D_put_70 rfl (lv_at hl 5 rfl) ?_
        refine is_D_121 (As := [.ref b, .int shift]) (rest := [.ref al]) cx (c_ofBox l G n0 e0 w b li sw al2 f vt shift hb0 hli) ⟨(Nat.le_of_ble_eq_true rfl), (Nat.le_of_ble_eq_true rfl)⟩ ⟨(by dsimp only [rmP, rmL]; have := gS_le V.2.1 cap; omega), (by dsimp only [rmP, rmL]; have := gS_le V.2.1 cap; omega)⟩ rfl hl.1 rfl (Nat.le_of_ble_eq_true rfl) d_D_put_71 hZ hS (fun v w_10 H locs hp_11 hZ hS => ?_)
        obtain ⟨q_9, rfl, hq_12, hw_13⟩ := hp_11
        have hk_14 : w_10 d = some (.inr (5, [.ref la, .int (nI (k + 1)), .ref ra, .int (nI tot)])) := up_ne hw_13 hd (z_neN hd hq_12)
        have hk_15 : w_10 il = some (.inr (2, [.int (zi V.1), .ref al])) := up_ne hw_13 hL.1 (z_neN hL.1 hq_12)
        have hk_16 : w_10 b = some (.inr (4, [.ref li, .ref sw, .int (f 0), .int (f 1), .int (f 2), .int (f 3), .int (f 4)])) := up_ne hw_13 hb0 (z_neN hb0 hq_12)
        have hk_17 : w_10 li = some (.inr (2, [.int (zi vt), .ref al2])) := up_ne hw_13 hli (z_neN hli hq_12)
        have hk_18 : w_10 la = some (.inl (G.2 4, 100, .inr (.inr (.inr (.inr fl))))) := up_ne hw_13 hla (z_neN hla hq_12)
        have hk_19 : w_10 ra = some (.inl (G.2 5, 16, .inr (.inr (.inr (.inr fr))))) := up_ne hw_13 hra (z_neN hra hq_12)
        have hn_20 := hF.2 _ hq_12
        have hF := hF.put hw_13 (Or.inr hn_20)
        have hc_21 : w_10 q_9 = some (.inr (1, fI (boxF vt f shift))) := up_self hw_13
        refine W.eq (g2 := F0 m 74 ls [.ref q_9, .ref al]) rfl ?_
        have hroom := Nat.le_of_not_lt (fun z => nle4000 z (by omega) c58)
        have hLk_22 : LL G e0 w_10 (il, al, ar, cap) V := hL.keep (Fr.rf.put (S := []) hw_13 (Or.inr hn_20)) (by simp) (by simp) (Or.inl (by simp)) (by simp)
        have he_23 := cx.ez hZ
        obtain ⟨_, _, mdk, fak, halk, _, _⟩ := id hLk_22
        refine iv_D_125 (As := [.ref q_9]) (rest := []) cx (c_addL l G n0 e0 w_10 il al ar cap V q_9 (boxF vt f shift) hLk_22 hc_21 hn) halk ⟨(Nat.le_of_ble_eq_true rfl), (Nat.le_of_ble_eq_true rfl)⟩ ⟨(by dsimp only [rmP, rmL]; have := gS_le V.2.1 cap; omega), (by dsimp only [rmP, rmL]; have := gS_le V.2.1 cap; omega)⟩ rfl hl.1 rfl (Nat.le_of_ble_eq_true rfl) d_D_put_74 hZ hS (fun v w_24 H locs hp_25 hZ hS => ?_)
        obtain ⟨ar2, rfl, hL2, har2, hf_26⟩ := hp_25
        have hk_27 : w_24 d = some (.inr (5, [.ref la, .int (nI (k + 1)), .ref ra, .int (nI tot)])) := hf_26.keep hk_14 (hLk_22.notin he_23 hk_14 (by simp) (by simp))
        have hk_28 : w_24 il = some (.inr (2, [.int (zi V.1), .ref al])) := hf_26.keep hk_15 (hLk_22.notin he_23 hk_15 (by simp) (by simp))
        have hk_29 : w_24 b = some (.inr (4, [.ref li, .ref sw, .int (f 0), .int (f 1), .int (f 2), .int (f 3), .int (f 4)])) := hf_26.keep hk_16 (hLk_22.notin he_23 hk_16 (by simp) (by simp))
        have hk_30 : w_24 li = some (.inr (2, [.int (zi vt), .ref al2])) := hf_26.keep hk_17 (hLk_22.notin he_23 hk_17 (by simp) (by simp))
        have hk_31 : w_24 q_9 = some (.inr (1, (fI (boxF vt f shift)))) := hf_26.keep hc_21 (hLk_22.notin he_23 hc_21 (by simp) (by simp))
        have hk_32 : w_24 la = some (.inl (G.2 4, 100, .inr (.inr (.inr (.inr fl))))) := hf_26.keep hk_18 (hLk_22.notin he_23 hk_18 (by simp) (by simp [cx.g43]))
        have hk_33 : w_24 ra = some (.inl (G.2 5, 16, .inr (.inr (.inr (.inr fr))))) := hf_26.keep hk_19 (hLk_22.notin he_23 hk_19 (by simp) (by simp [cx.g53]))
        have hF := hF.call hf_26 (List.forall_mem_cons.mpr ⟨Or.inl (by simp), List.forall_mem_cons.mpr ⟨Or.inl (by simp), fun _ h => absurd h List.not_mem_nil⟩⟩)
        refine W.eq (g2 := F0 m 77 ls [.int 1]) rfl ?_
        refine lv_pop hx hb d_D_put_77 rfl ?_
        refine lv_aload_n hx hb d_D_put_78 rfl (lv_at hl 3 rfl) ?_
        refine lv_dup hx hb d_D_put_79 rfl ?_
        refine gf_D_94 cx hZ hk_27 rfl d_D_put_80 ?_
        refine lv_iload hx hb d_D_put_83 (lv_at hl 0 rfl) ?_
        refine lv_iadd hx hb d_D_put_85 ?_
        rw [show (((nI tot) + (1 + f 0)) : Int32) = nI (tot + (1 + wi)) from put_room2 hwi]
        refine pf_D_94 cx hZ hS hk_27 (Nat.le_of_ble_eq_true rfl) d_D_put_86 (fun w_34 H locs hw_35 hZ hS => ?_)
        have hk_36 : w_34 il = some (.inr (2, [.int (zi V.1), .ref al])) := up_ne hw_35 hk_28 (z_ne hk_28 hk_27 (by simp))
        have hk_37 : w_34 b = some (.inr (4, [.ref li, .ref sw, .int (f 0), .int (f 1), .int (f 2), .int (f 3), .int (f 4)])) := up_ne hw_35 hk_29 (z_ne hk_29 hk_27 (by simp))
        have hk_38 : w_34 li = some (.inr (2, [.int (zi vt), .ref al2])) := up_ne hw_35 hk_30 (z_ne hk_30 hk_27 (by simp))
        have hk_39 : w_34 q_9 = some (.inr (1, (fI (boxF vt f shift)))) := up_ne hw_35 hk_31 (Ne.symm (z_neN hd hn_20))
        have hk_40 : w_34 la = some (.inl (G.2 4, 100, .inr (.inr (.inr (.inr fl))))) := up_ne hw_35 hk_32 (z_ne hk_32 hk_27 (by simp))
        have hk_41 : w_34 ra = some (.inl (G.2 5, 16, .inr (.inr (.inr (.inr fr))))) := up_ne hw_35 hk_33 (z_ne hk_33 hk_27 (by simp))
        have hF := hF.put hw_35 (Or.inl (by simp))
        have hc_42 : w_34 d = some (.inr (5, [.ref la, .int (nI (k + 1)), .ref ra, .int (nI (tot + (1 + wi)))])) := up_self hw_35
        refine lv_iload_n hx hb d_D_put_89 rfl (lv_at hl 6 rfl) ?_
        refine lv_if_ne (tgt := 100) hx hb d_D_put_90 (by decide) (fun c90 => ?_) (fun c90 => ?_)
        · refine lv_iconst (v := 1) hx hb d_D_put_100 (by decide) ?_
          exact z_zret cx.1 cx.2.1 cx.rt cx.lk (by first | rfl | (simp [narrow]; done) | simp_all [narrow]) hS hZ ⟨(by dsimp only [rmP, rmL]; have := gS_le V.2.1 cap; omega), (by dsimp only [rmP, rmL]; have := gS_le V.2.1 cap; omega)⟩ d_D_put_101 (⟨1, rfl, Or.inl ⟨by have h := (zi_n0 _).mp c28; simp only [szI, h, Bool.true_and, decide_eq_true_eq]; exact hroom, rfl, ar2, _, hL2.keepX ((Fr.rf (S := [d]) (w := w_24)).put hw_35 (Or.inl (by simp))) (List.forall_mem_cons.mpr ⟨⟨_, hk_27, by simp, by simp, by simp, by simp⟩, fun _ h => absurd h List.not_mem_nil⟩), har2.imp_right (fun q => (Fr.rf.put (S := []) hw_13 (Or.inr hn_20)).2 _ q.1), hc_42, hk_41, hF⟩⟩)
        · exact absurd c90 (by decide)
      · refine lv_iconst (v := 0) hx hb d_D_put_61 (by decide) ?_
        exact z_zret cx.1 cx.2.1 cx.rt cx.lk (by first | rfl | (simp [narrow]; done) | simp_all [narrow]) hS hZ ⟨(by dsimp only [rmP, rmL]; have := gS_le V.2.1 cap; omega), (by dsimp only [rmP, rmL]; have := gS_le V.2.1 cap; omega)⟩ d_D_put_62 (⟨0, rfl, Or.inr ⟨by simp only [Bool.and_eq_false_iff, decide_eq_false_iff_not]; exact Or.inr (fun z => c58 (le4000 z)), rfl, rfl⟩⟩)
  · refine lv_iconst (v := 0) hx hb d_D_put_31 (by decide) ?_
    exact z_zret cx.1 cx.2.1 cx.rt cx.lk (by first | rfl | (simp [narrow]; done) | simp_all [narrow]) hS hZ ⟨(by dsimp only [rmP, rmL]; have := gS_le V.2.1 cap; omega), (by dsimp only [rmP, rmL]; have := gS_le V.2.1 cap; omega)⟩ d_D_put_32 (⟨0, rfl, Or.inr ⟨by have h := (zi_0 _).mp c28; simp only [szI, h, Bool.false_and], rfl, rfl⟩⟩)
