def bxF (vt : Bool) (u : MT) (wt : Int32) : Nat → Int32 := fun i => match i with
  | 0 => u.2.2.2.2.2.2.1
  | 1 => u.2.2.2.2.2.2.2 + 1
  | 2 => if vt = true then u.2.1.toInt32 else wt
  | 3 => if vt = true then wt else u.2.2.1.toInt32
  | _ => u.2.2.2.1.toInt32
def mTot (V : LV) (lim : Int32) : MT := mLim V.1 lim (mAll V.1 V.2.2 V.2.1)
def cgood (u : MT) (wt : Int64) (tot : Nat) : Bool := decide (tot < 4000) && canB u.1 u.2.1 u.2.2.1 u.2.2.2.1 u.2.2.2.2.2.1 u.2.2.2.2.1 u.2.2.2.2.2.2.2 && szL wt
theorem sgW_ne {u : MT} {ex : Int64} {na gr he de : Int64} {ne : Int32} (h : canB na gr he de u.2.2.2.2.2.1 u.2.2.2.2.1 ne = true) (h0 : 0 < sgW u ex) : ¬ 2 * sgW u ex = 0 := by
  simp only [canB, Bool.and_eq_true] at h
  obtain ⟨⟨⟨⟨⟨⟨⟨⟨⟨g0, g1⟩, g2⟩, g3⟩, g4⟩, g5⟩, g6⟩, g7⟩, g8⟩, g9⟩ := h
  refine szL_ne ?_ h0
  unfold sgW
  split
  · unfold hiO
    split
    · exact g3
    · split
      · exact g2
      · split
        · exact g1
        · exact g0
  · exact g5
theorem ge4000 {n : Nat} (h : n < 10000) : (4000 : Int32) ≤ nI n ↔ ¬ n < 4000 := by
  rw [show (4000 : Int32) = nI 4000 from by decide, nI_leI (by decide) (by omega)]; omega
theorem tot_void {tot : Nat} : nI tot + (1 - 0) = nI (tot + 1) := by
  rw [show (1 - 0 : Int32) = 1 from by decide]; exact nI_1 tot
theorem tot_some {tot wi : Nat} {x : Int32} (h : x = nI wi) (h2 : wi ≤ tot) : nI tot + (1 - (1 + x)) = nI (tot - wi) := by
  have e : nI tot = nI (tot - wi) + nI wi := by rw [nI_add]; congr 1; omega
  rw [e, h, Int32.add_assoc]
  have : nI wi + (1 - (1 + nI wi)) = 0 := by
    rw [Int32.sub_eq_add_neg, Int32.neg_add, Int32.sub_eq_add_neg, ← Int32.add_assoc 1, show (1 : Int32) + -1 = 0 from by decide, Int32.zero_add, Int32.add_right_neg]
  rw [this, Int32.add_zero]
set_option maxHeartbeats 4000000 in
set_option maxRecDepth 100000 in
theorem c_close_0 (l : Launch) (hTr : l.stackTraces = false) (G : zG) (n0 e0 : Nat) (w : zw) (d la ra tot : Nat) (hd : w d = some (.inr (5, [.ref la, .int (nI 0), .ref ra, .int (nI tot)]))) (spec amount lim kk : Int32)  : CtT l G n0 e0 y_D_close b_D_close 10 (Option.some FieldType.int) ({ frames := 8, cells := 4, slots := 40, locals := 190 }) [.ref d, .int spec, .int amount, .int lim, .int kk] w (fun _ _ => False) (fun X w1 => X = nISE ∧ w1 = w) := by
  refine z_ctT (by decide) (Nat.le_of_ble_eq_true rfl) ?_
  intro p e s m below meth c ls cx hT hEx hnm hZ hS hl
  have hx := cx.1
  have hb := cx.2.1
  have hl : lv_has ls 10 [(0, .ref d), (1, .int spec), (2, .int amount), (3, .int lim), (4, .int kk)] := hl
  refine lv_aload_n hx hb d_D_close_0 rfl (lv_at hl 0 rfl) ?_
  refine iv_D_28 (As := []) (rest := []) cx (c_innermost_0 l G n0 e0 w d la ra 0 tot (fun _ => none) (fun _ => none) hd rfl) hd ⟨(Nat.le_of_ble_eq_true rfl), (Nat.le_of_ble_eq_true rfl)⟩ ⟨(Nat.le_of_ble_eq_true rfl), (Nat.le_of_ble_eq_true rfl)⟩ rfl hl.1 rfl (Nat.le_of_ble_eq_true rfl) d_D_close_1 hZ hS (fun v w_1 H locs hp_2 hZ hS => ?_)
  obtain ⟨rfl, hq⟩ := hp_2
  subst w_1
  refine W.eq (g2 := F0 m 4 ls [.null]) rfl ?_
  refine lv_astoreN (lv' := [(5, .null), (0, .ref d), (1, .int spec), (2, .int amount), (3, .int lim), (4, .int kk)]) hx hb d_D_close_4 hl (by decide) rfl (fun ls hl => ?_)
  refine lv_aloadN hx hb d_D_close_6 (lv_at hl 0 rfl) ?_
  refine lv_ifnonnullN hx hb d_D_close_8 ?_
  exact z_throw (X := nISE) (ic := 68) (ix := 64) (is := 66) cx hT hTr hEx (by decide) tw_312 tw_313 tw_15 (fun U h1 h2 h3 => own_ISE h1 h2 h3) (fun U h => h.2.2.2.1.1) hl.1 hZ hS (⟨rfl, rfl⟩) (Nat.le_of_ble_eq_true rfl) (Nat.le_of_ble_eq_true rfl) (Nat.le_refl _) (Nat.le_refl _) (Nat.le_of_ble_eq_true rfl) (Nat.le_of_ble_eq_true rfl) d_D_close_11 d_D_close_14 d_D_close_15 d_D_close_17 d_D_close_20
set_option maxHeartbeats 4000000 in
set_option maxRecDepth 100000 in
theorem c_close_bad (l : Launch) (hTr : l.stackTraces = false) (G : zG) (n0 e0 : Nat) (w : zw) (d la ra k tot il al ar cap : Nat) (V : LV) (fl fr : Nat → Option Nat) (hd : w d = some (.inr (5, [.ref la, .int (nI (k + 1)), .ref ra, .int (nI tot)]))) (hla : w la = some (.inl (G.2 4, 100, .inr (.inr (.inr (.inr fl)))))) (hra : w ra = some (.inl (G.2 5, 16, .inr (.inr (.inr (.inr fr)))))) (hk : k < 100) (hil : fl k = some il) (hL : LL G e0 w (il, al, ar, cap) V) (hn : V.2.1 ≤ 20000) (ht : tot < 10000) (spec amount lim kk : Int32) (hbad : closeB spec amount lim kk = false)  : CtT l G n0 e0 y_D_close b_D_close 10 (Option.some FieldType.int) ({ frames := 8, cells := 4, slots := 40 + V.2.1, locals := 190 }) [.ref d, .int spec, .int amount, .int lim, .int kk] w (fun _ _ => False) (fun X w1 => X = nIAE ∧ w1 = w) := by
  refine z_ctT (by decide) (Nat.le_of_ble_eq_true rfl) ?_
  intro p e s m below meth c ls cx hT hEx hnm hZ hS hl
  have hx := cx.1
  have hb := cx.2.1
  have hl : lv_has ls 10 [(0, .ref d), (1, .int spec), (2, .int amount), (3, .int lim), (4, .int kk)] := hl
  refine lv_aload_n hx hb d_D_close_0 rfl (lv_at hl 0 rfl) ?_
  refine iv_D_28 (As := []) (rest := []) cx (c_innermost_1 l G n0 e0 w d la ra k tot fl (fun _ => none) hd hla hk il hil) hd ⟨(Nat.le_of_ble_eq_true rfl), (Nat.le_of_ble_eq_true rfl)⟩ ⟨(by dsimp only; omega), (by dsimp only; omega)⟩ rfl hl.1 rfl (Nat.le_of_ble_eq_true rfl) d_D_close_1 hZ hS (fun v w_1 H locs hp_2 hZ hS => ?_)
  obtain ⟨rfl, hq⟩ := hp_2
  subst w_1
  refine W.eq (g2 := F0 m 4 ls [.ref il]) rfl ?_
  refine lv_astore (lv' := [(5, .ref il), (0, .ref d), (1, .int spec), (2, .int amount), (3, .int lim), (4, .int kk)]) hx hb d_D_close_4 hl (by decide) rfl (fun ls hl => ?_)
  refine lv_aload hx hb d_D_close_6 (lv_at hl 0 rfl) ?_
  refine lv_ifnonnull (tgt := 21) hx hb d_D_close_8 (by decide) ?_
  refine lv_iload_n hx hb d_D_close_21 rfl (lv_at hl 2 rfl) ?_
  refine lv_if_lt (tgt := 54) hx hb d_D_close_22 (by decide) (fun c22 => ?_) (fun c22 => ?_)
  · exact z_throw (X := nIAE) (ic := 79) (ix := 75) (is := 77) cx hT hTr hEx (by decide) tw_381 tw_382 tw_16 (fun U h1 h2 h3 => own_IAE h1 h2 h3) (fun U h => h.2.2.2.1.2.1) hl.1 hZ hS (⟨rfl, rfl⟩) (by dsimp only; omega) (by dsimp only; omega) (Nat.le_refl _) (Nat.le_refl _) (Nat.le_of_ble_eq_true rfl) (Nat.le_of_ble_eq_true rfl) d_D_close_54 d_D_close_57 d_D_close_58 d_D_close_60 d_D_close_63
  · refine lv_iload_n hx hb d_D_close_25 rfl (lv_at hl 2 rfl) ?_
    refine lv_iconst (v := 2) hx hb d_D_close_26 (by decide) ?_
    refine lv_icmp_gt (tgt := 54) hx hb d_D_close_27 (by decide) (fun c27 => ?_) (fun c27 => ?_)
    · exact z_throw (X := nIAE) (ic := 79) (ix := 75) (is := 77) cx hT hTr hEx (by decide) tw_381 tw_382 tw_16 (fun U h1 h2 h3 => own_IAE h1 h2 h3) (fun U h => h.2.2.2.1.2.1) hl.1 hZ hS (⟨rfl, rfl⟩) (by dsimp only; omega) (by dsimp only; omega) (Nat.le_refl _) (Nat.le_refl _) (Nat.le_of_ble_eq_true rfl) (Nat.le_of_ble_eq_true rfl) d_D_close_54 d_D_close_57 d_D_close_58 d_D_close_60 d_D_close_63
    · refine lv_iload_n hx hb d_D_close_30 rfl (lv_at hl 3 rfl) ?_
      refine lv_i2l hx hb d_D_close_31 rfl ?_
      refine is_D_56 (As := [.long amount.toInt64]) (rest := []) cx (c_isSize l G n0 e0 amount.toInt64 w) ⟨(Nat.le_of_ble_eq_true rfl), (Nat.le_of_ble_eq_true rfl)⟩ ⟨(by dsimp only; omega), (by dsimp only; omega)⟩ rfl hl.1 rfl (Nat.le_of_ble_eq_true rfl) d_D_close_32 hZ hS (fun v w_3 H locs hp_4 hZ hS => ?_)
      obtain ⟨rfl, hq⟩ := hp_4
      subst w_3
      refine W.eq (g2 := F0 m 35 ls [.int (zi (szL amount.toInt64))]) rfl ?_
      refine lv_if_eq (tgt := 54) hx hb d_D_close_35 (by decide) (fun c35 => ?_) (fun c35 => ?_)
      · exact z_throw (X := nIAE) (ic := 79) (ix := 75) (is := 77) cx hT hTr hEx (by decide) tw_381 tw_382 tw_16 (fun U h1 h2 h3 => own_IAE h1 h2 h3) (fun U h => h.2.2.2.1.2.1) hl.1 hZ hS (⟨rfl, rfl⟩) (by dsimp only; omega) (by dsimp only; omega) (Nat.le_refl _) (Nat.le_refl _) (Nat.le_of_ble_eq_true rfl) (Nat.le_of_ble_eq_true rfl) d_D_close_54 d_D_close_57 d_D_close_58 d_D_close_60 d_D_close_63
      · refine lv_iload_n hx hb d_D_close_38 rfl (lv_at hl 4 rfl) ?_
        refine lv_i2l hx hb d_D_close_39 rfl ?_
        refine is_D_56 (As := [.long lim.toInt64]) (rest := []) cx (c_isSize l G n0 e0 lim.toInt64 w) ⟨(Nat.le_of_ble_eq_true rfl), (Nat.le_of_ble_eq_true rfl)⟩ ⟨(by dsimp only; omega), (by dsimp only; omega)⟩ rfl hl.1 rfl (Nat.le_of_ble_eq_true rfl) d_D_close_40 hZ hS (fun v w_5 H locs hp_6 hZ hS => ?_)
        obtain ⟨rfl, hq⟩ := hp_6
        subst w_5
        refine W.eq (g2 := F0 m 43 ls [.int (zi (szL lim.toInt64))]) rfl ?_
        refine lv_if_eq (tgt := 54) hx hb d_D_close_43 (by decide) (fun c43 => ?_) (fun c43 => ?_)
        · exact z_throw (X := nIAE) (ic := 79) (ix := 75) (is := 77) cx hT hTr hEx (by decide) tw_381 tw_382 tw_16 (fun U h1 h2 h3 => own_IAE h1 h2 h3) (fun U h => h.2.2.2.1.2.1) hl.1 hZ hS (⟨rfl, rfl⟩) (by dsimp only; omega) (by dsimp only; omega) (Nat.le_refl _) (Nat.le_refl _) (Nat.le_of_ble_eq_true rfl) (Nat.le_of_ble_eq_true rfl) d_D_close_54 d_D_close_57 d_D_close_58 d_D_close_60 d_D_close_63
        · refine lv_iload hx hb d_D_close_46 (lv_at hl 5 rfl) ?_
          refine is_D_71 (As := [.int kk]) (rest := []) cx (c_isRegister l G n0 e0 kk w) ⟨(Nat.le_of_ble_eq_true rfl), (Nat.le_of_ble_eq_true rfl)⟩ ⟨(by dsimp only; omega), (by dsimp only; omega)⟩ rfl hl.1 rfl (Nat.le_of_ble_eq_true rfl) d_D_close_48 hZ hS (fun v w_7 H locs hp_8 hZ hS => ?_)
          obtain ⟨rfl, hq⟩ := hp_8
          subst w_7
          refine W.eq (g2 := F0 m 51 ls [.int (zi (regB kk))]) rfl ?_
          refine lv_if_ne (tgt := 64) hx hb d_D_close_51 (by decide) (fun c51 => ?_) (fun c51 => ?_)
          · exact absurd hbad (by rw [closeB, decide_eq_false c22, decide_eq_false c27, szI, (zi_n0 _).mp c35, szI, (zi_n0 _).mp c43, (zi_n0 _).mp c51]; decide)
          · exact z_throw (X := nIAE) (ic := 79) (ix := 75) (is := 77) cx hT hTr hEx (by decide) tw_381 tw_382 tw_16 (fun U h1 h2 h3 => own_IAE h1 h2 h3) (fun U h => h.2.2.2.1.2.1) hl.1 hZ hS (⟨rfl, rfl⟩) (by dsimp only; omega) (by dsimp only; omega) (Nat.le_refl _) (Nat.le_refl _) (Nat.le_of_ble_eq_true rfl) (Nat.le_of_ble_eq_true rfl) d_D_close_54 d_D_close_57 d_D_close_58 d_D_close_60 d_D_close_63
set_option maxHeartbeats 4000000 in
set_option maxRecDepth 100000 in
theorem c_close_void (l : Launch) (hTr : l.stackTraces = false) (G : zG) (n0 e0 : Nat) (w : zw) (d la ra k tot il al ar cap : Nat) (V : LV) (fl fr : Nat → Option Nat) (hd : w d = some (.inr (5, [.ref la, .int (nI (k + 1)), .ref ra, .int (nI tot)]))) (hla : w la = some (.inl (G.2 4, 100, .inr (.inr (.inr (.inr fl)))))) (hra : w ra = some (.inl (G.2 5, 16, .inr (.inr (.inr (.inr fr)))))) (hk : k < 100) (hil : fl k = some il) (hL : LL G e0 w (il, al, ar, cap) V) (hn : V.2.1 ≤ 20000) (ht : tot < 10000) (hor : ∀ i, i < V.2.1 → vp_in (V.2.2 i 7) 4) (kk : Nat) (hkk : kk < 16) (hv : fr kk = none) (spec amount lim : Int32) (hok : closeB spec amount lim (nI kk) = true)  : CtT l G n0 e0 y_D_close b_D_close 10 (Option.some FieldType.int) ({ frames := 8, cells := 4, slots := 40 + V.2.1, locals := 190 }) [.ref d, .int spec, .int amount, .int lim, .int (nI kk)] w (fun v w1 => ∃ b2 sw2 fw, v = some (.int ((wantedL spec amount (mTot V lim).1).toInt32)) ∧ cgood (mTot V lim) (wantedL spec amount (mTot V lim).1) tot = true ∧ w b2 = none ∧ w sw2 = none ∧ w1 sw2 = some (.inl (G.2 0, V.2.1, .inl fw)) ∧ (∀ j, j < V.2.1 → fw j = sgX (mTot V lim) (((wantedL spec amount (mTot V lim).1).toInt32).toInt64 - (mTot V lim).1) V.2.2 j) ∧ w1 b2 = some (.inr (4, fB il sw2 (bxF V.1 (mTot V lim) ((wantedL spec amount (mTot V lim).1).toInt32)))) ∧ w1 la = some (.inl (G.2 4, 100, .inr (.inr (.inr (.inr (va_up fl k none)))))) ∧ w1 ra = some (.inl (G.2 5, 16, .inr (.inr (.inr (.inr (va_up fr kk (some b2))))))) ∧ w1 d = some (.inr (5, [.ref la, .int (nI k), .ref ra, .int (nI (tot + 1))])) ∧ Fr [d, la, ra] w w1) (fun X w1 => X = nUOE ∧ cgood (mTot V lim) (wantedL spec amount (mTot V lim).1) tot = false ∧ Fr [] w w1) := by
  refine z_ctT (by decide) (Nat.le_of_ble_eq_true rfl) ?_
  intro p e s m below meth c ls cx hT hEx hnm hZ hS hl
  have hx := cx.1
  have hb := cx.2.1
  have hl : lv_has ls 10 [(0, .ref d), (1, .int spec), (2, .int amount), (3, .int lim), (4, .int (nI kk))] := hl
  obtain ⟨_, hcapb, md, fa, hal, hr, hx2⟩ := id hL
  dsimp only at hcapb hal hr hx2
  have har : V.2.1 = 0 ∨ (w ar = some (.inl (G.2 3, cap, .inr (.inr (.inr (.inr fa))))) ∧ V.2.1 ≤ cap) := hr.imp (fun z => z.2.2) (fun z => ⟨z.1, z.2.1⟩)
  simp only [closeB, Bool.and_eq_true, Bool.not_eq_true', decide_eq_false_iff_not] at hok
  obtain ⟨⟨⟨⟨k1, k2⟩, k3⟩, k4⟩, k5⟩ := hok
  have hF : Fr [d, la, ra] w w := Fr.rf
  refine lv_aload_n hx hb d_D_close_0 rfl (lv_at hl 0 rfl) ?_
  refine iv_D_28 (As := []) (rest := []) cx (c_innermost_1 l G n0 e0 w d la ra k tot fl (fun _ => none) hd hla hk il hil) hd ⟨(Nat.le_of_ble_eq_true rfl), (Nat.le_of_ble_eq_true rfl)⟩ ⟨(by dsimp only; omega), (by dsimp only; omega)⟩ rfl hl.1 rfl (Nat.le_of_ble_eq_true rfl) d_D_close_1 hZ hS (fun v w_1 H locs hp_2 hZ hS => ?_)
  obtain ⟨rfl, hq⟩ := hp_2
  subst w_1
  refine W.eq (g2 := F0 m 4 ls [.ref il]) rfl ?_
  refine lv_astore (lv' := [(5, .ref il), (0, .ref d), (1, .int spec), (2, .int amount), (3, .int lim), (4, .int (nI kk))]) hx hb d_D_close_4 hl (by decide) rfl (fun ls hl => ?_)
  refine lv_aload hx hb d_D_close_6 (lv_at hl 0 rfl) ?_
  refine lv_ifnonnull (tgt := 21) hx hb d_D_close_8 (by decide) ?_
  refine lv_iload_n hx hb d_D_close_21 rfl (lv_at hl 2 rfl) ?_
  refine lv_if_lt (tgt := 54) hx hb d_D_close_22 (by decide) (fun c22 => ?_) (fun c22 => ?_)
  · exact absurd c22 k1
  · refine lv_iload_n hx hb d_D_close_25 rfl (lv_at hl 2 rfl) ?_
    refine lv_iconst (v := 2) hx hb d_D_close_26 (by decide) ?_
    refine lv_icmp_gt (tgt := 54) hx hb d_D_close_27 (by decide) (fun c27 => ?_) (fun c27 => ?_)
    · exact absurd c27 k2
    · refine lv_iload_n hx hb d_D_close_30 rfl (lv_at hl 3 rfl) ?_
      refine lv_i2l hx hb d_D_close_31 rfl ?_
      refine is_D_56 (As := [.long amount.toInt64]) (rest := []) cx (c_isSize l G n0 e0 amount.toInt64 w) ⟨(Nat.le_of_ble_eq_true rfl), (Nat.le_of_ble_eq_true rfl)⟩ ⟨(by dsimp only; omega), (by dsimp only; omega)⟩ rfl hl.1 rfl (Nat.le_of_ble_eq_true rfl) d_D_close_32 hZ hS (fun v w_3 H locs hp_4 hZ hS => ?_)
      obtain ⟨rfl, hq⟩ := hp_4
      subst w_3
      refine W.eq (g2 := F0 m 35 ls [.int (zi (szL amount.toInt64))]) rfl ?_
      refine lv_if_eq (tgt := 54) hx hb d_D_close_35 (by decide) (fun c35 => ?_) (fun c35 => ?_)
      · exact absurd c35 ((zi_n0 _).mpr k3)
      · refine lv_iload_n hx hb d_D_close_38 rfl (lv_at hl 4 rfl) ?_
        refine lv_i2l hx hb d_D_close_39 rfl ?_
        refine is_D_56 (As := [.long lim.toInt64]) (rest := []) cx (c_isSize l G n0 e0 lim.toInt64 w) ⟨(Nat.le_of_ble_eq_true rfl), (Nat.le_of_ble_eq_true rfl)⟩ ⟨(by dsimp only; omega), (by dsimp only; omega)⟩ rfl hl.1 rfl (Nat.le_of_ble_eq_true rfl) d_D_close_40 hZ hS (fun v w_5 H locs hp_6 hZ hS => ?_)
        obtain ⟨rfl, hq⟩ := hp_6
        subst w_5
        refine W.eq (g2 := F0 m 43 ls [.int (zi (szL lim.toInt64))]) rfl ?_
        refine lv_if_eq (tgt := 54) hx hb d_D_close_43 (by decide) (fun c43 => ?_) (fun c43 => ?_)
        · exact absurd c43 ((zi_n0 _).mpr k4)
        · refine lv_iload hx hb d_D_close_46 (lv_at hl 5 rfl) ?_
          refine is_D_71 (As := [.int (nI kk)]) (rest := []) cx (c_isRegister l G n0 e0 (nI kk) w) ⟨(Nat.le_of_ble_eq_true rfl), (Nat.le_of_ble_eq_true rfl)⟩ ⟨(by dsimp only; omega), (by dsimp only; omega)⟩ rfl hl.1 rfl (Nat.le_of_ble_eq_true rfl) d_D_close_48 hZ hS (fun v w_7 H locs hp_8 hZ hS => ?_)
          obtain ⟨rfl, hq⟩ := hp_8
          subst w_7
          refine W.eq (g2 := F0 m 51 ls [.int (zi (regB (nI kk)))]) rfl ?_
          refine lv_if_ne (tgt := 64) hx hb d_D_close_51 (by decide) (fun c51 => ?_) (fun c51 => ?_)
          · refine lv_aload hx hb d_D_close_64 (lv_at hl 0 rfl) ?_
            refine lv_iload_n hx hb d_D_close_66 rfl (lv_at hl 4 rfl) ?_
            refine is_D_80 (As := [.ref il, .int lim]) (rest := []) cx (c_measured l G n0 e0 w il al ar cap V.2.1 V.1 md fa V.2.2 hL.1 hal har (by omega) (by omega) (fun i hi => by obtain ⟨x, q1, q2⟩ := hx2 i hi; exact ⟨x, q1, q2, hor i hi⟩) lim) ⟨(Nat.le_of_ble_eq_true rfl), (Nat.le_of_ble_eq_true rfl)⟩ ⟨(by dsimp only; omega), (by dsimp only; omega)⟩ rfl hl.1 rfl (Nat.le_of_ble_eq_true rfl) d_D_close_67 hZ hS (fun v w_11 H locs hp_12 hZ hS => ?_)
            obtain ⟨q_9, r_10, rfl, hc_13, hc_14, hc_15, hc_16, hf_17⟩ := hp_12
            have hk_18 : w_11 d = some (.inr (5, [.ref la, .int (nI (k + 1)), .ref ra, .int (nI tot)])) := hf_17.keep hd (by simp)
            have hk_19 : w_11 il = some (.inr (2, [.int (zi V.1), .ref al])) := hf_17.keep hL.1 (by simp)
            have hk_20 : w_11 al = some (.inr (0, [.int md, .ref ar, .int (nI V.2.1)])) := hf_17.keep hal (by simp)
            have hk_21 : w_11 la = some (.inl (G.2 4, 100, .inr (.inr (.inr (.inr fl))))) := hf_17.keep hla (by simp)
            have hk_22 : w_11 ra = some (.inl (G.2 5, 16, .inr (.inr (.inr (.inr fr))))) := hf_17.keep hra (by simp)
            have hn_23 := hF.2 _ hc_13
            have hn_24 := hF.2 _ hc_14
            have hF := hF.call hf_17 (fun _ h => absurd h List.not_mem_nil)
            refine W.eq (g2 := F0 m 70 ls [.ref q_9]) rfl ?_
            refine lv_astore (lv' := [(6, .ref q_9), (5, .ref il), (0, .ref d), (1, .int spec), (2, .int amount), (3, .int lim), (4, .int (nI kk))]) hx hb d_D_close_70 hl (by decide) rfl (fun ls hl => ?_)
            refine lv_iload_n hx hb d_D_close_72 rfl (lv_at hl 3 rfl) ?_
            refine lv_iload_n hx hb d_D_close_73 rfl (lv_at hl 4 rfl) ?_
            refine lv_aload hx hb d_D_close_74 (lv_at hl 0 rfl) ?_
            refine gf_D_84 cx hZ hc_15 rfl d_D_close_76 ?_
            refine is_D_90 (As := [.int spec, .int amount, .long (mTot V lim).1]) (rest := []) cx (c_wanted l G n0 e0 spec amount (mTot V lim).1 w_11) ⟨(Nat.le_of_ble_eq_true rfl), (Nat.le_of_ble_eq_true rfl)⟩ ⟨(by dsimp only; omega), (by dsimp only; omega)⟩ rfl hl.1 rfl (Nat.le_of_ble_eq_true rfl) d_D_close_79 hZ hS (fun v w_25 H locs hp_26 hZ hS => ?_)
            obtain ⟨rfl, hq⟩ := hp_26
            subst w_25
            refine W.eq (g2 := F0 m 82 ls [.long (wantedL spec amount (mTot V lim).1)]) rfl ?_
            refine lv_lstore (lv' := [(7, .long (wantedL spec amount (mTot V lim).1)), (6, .ref q_9), (5, .ref il), (0, .ref d), (1, .int spec), (2, .int amount), (3, .int lim), (4, .int (nI kk))]) hx hb d_D_close_82 hl (by decide) rfl (fun ls hl => ?_)
            refine lv_aload_n hx hb d_D_close_84 rfl (lv_at hl 3 rfl) ?_
            refine gf_D_94 cx hZ hk_18 rfl d_D_close_85 ?_
            refine lv_sipush (v := 4000) hx hb d_D_close_88 (by decide) ?_
            refine lv_icmp_ge (tgt := 110) hx hb d_D_close_91 (by decide) (fun c91 => ?_) (fun c91 => ?_)
            · exact z_throw (X := nUOE) (ic := 105) (ix := 101) (is := 103) cx hT hTr hEx (by decide) tw_477 tw_478 tw_20 (fun U h1 h2 h3 => own_UOE h1 h2 h3) (fun U h => h.2.2.2.1.2.2.1) hl.1 hZ hS (⟨rfl, by rw [cgood, decide_eq_false ((ge4000 ht).mp c91)]; rfl, hf_17⟩) (by dsimp only; omega) (by dsimp only; omega) (Nat.le_refl _) (Nat.le_refl _) (Nat.le_of_ble_eq_true rfl) (Nat.le_of_ble_eq_true rfl) d_D_close_110 d_D_close_113 d_D_close_114 d_D_close_116 d_D_close_119
            · refine lv_aload hx hb d_D_close_94 (lv_at hl 1 rfl) ?_
              refine iv_D_97 (As := []) (rest := []) cx (c_canBeBoxed l G n0 e0 w_11 q_9 r_10 (mTot V lim).1 (mTot V lim).2.1 (mTot V lim).2.2.1 (mTot V lim).2.2.2.1 (mTot V lim).2.2.2.2.2.1 (mTot V lim).2.2.2.2.1 (mTot V lim).2.2.2.2.2.2.1 (mTot V lim).2.2.2.2.2.2.2 hc_15 hc_16) hc_15 ⟨(Nat.le_of_ble_eq_true rfl), (Nat.le_of_ble_eq_true rfl)⟩ ⟨(by dsimp only; omega), (by dsimp only; omega)⟩ rfl hl.1 rfl (Nat.le_of_ble_eq_true rfl) d_D_close_96 hZ hS (fun v w_27 H locs hp_28 hZ hS => ?_)
              obtain ⟨rfl, hq⟩ := hp_28
              subst w_27
              refine W.eq (g2 := F0 m 99 ls [.int (zi (canB (mTot V lim).1 (mTot V lim).2.1 (mTot V lim).2.2.1 (mTot V lim).2.2.2.1 (mTot V lim).2.2.2.2.2.1 (mTot V lim).2.2.2.2.1 (mTot V lim).2.2.2.2.2.2.2))]) rfl ?_
              refine lv_if_eq (tgt := 110) hx hb d_D_close_99 (by decide) (fun c99 => ?_) (fun c99 => ?_)
              · exact z_throw (X := nUOE) (ic := 105) (ix := 101) (is := 103) cx hT hTr hEx (by decide) tw_477 tw_478 tw_20 (fun U h1 h2 h3 => own_UOE h1 h2 h3) (fun U h => h.2.2.2.1.2.2.1) hl.1 hZ hS (⟨rfl, by rw [cgood, (zi_0 _).mp c99, Bool.and_false]; rfl, hf_17⟩) (by dsimp only; omega) (by dsimp only; omega) (Nat.le_refl _) (Nat.le_refl _) (Nat.le_of_ble_eq_true rfl) (Nat.le_of_ble_eq_true rfl) d_D_close_110 d_D_close_113 d_D_close_114 d_D_close_116 d_D_close_119
              · refine lv_lload hx hb d_D_close_102 (lv_at hl 0 rfl) ?_
                refine is_D_56 (As := [.long (wantedL spec amount (mTot V lim).1)]) (rest := []) cx (c_isSize l G n0 e0 (wantedL spec amount (mTot V lim).1) w_11) ⟨(Nat.le_of_ble_eq_true rfl), (Nat.le_of_ble_eq_true rfl)⟩ ⟨(by dsimp only; omega), (by dsimp only; omega)⟩ rfl hl.1 rfl (Nat.le_of_ble_eq_true rfl) d_D_close_104 hZ hS (fun v w_29 H locs hp_30 hZ hS => ?_)
                obtain ⟨rfl, hq⟩ := hp_30
                subst w_29
                refine W.eq (g2 := F0 m 107 ls [.int (zi (szL (wantedL spec amount (mTot V lim).1)))]) rfl ?_
                refine lv_if_ne (tgt := 120) hx hb d_D_close_107 (by decide) (fun c107 => ?_) (fun c107 => ?_)
                · refine nw_D_15_o cx hZ hS (by dsimp only; omega) (by dsimp only; omega) d_D_close_120 (fun q_31 w_32 H hq_34 hw_33 hZ hS => ?_)
                  have hk_35 : w_32 d = some (.inr (5, [.ref la, .int (nI (k + 1)), .ref ra, .int (nI tot)])) := up_ne hw_33 hk_18 (z_neN hk_18 hq_34)
                  have hk_36 : w_32 il = some (.inr (2, [.int (zi V.1), .ref al])) := up_ne hw_33 hk_19 (z_neN hk_19 hq_34)
                  have hk_37 : w_32 al = some (.inr (0, [.int md, .ref ar, .int (nI V.2.1)])) := up_ne hw_33 hk_20 (z_neN hk_20 hq_34)
                  have hk_38 : w_32 q_9 = some (.inr (3, [.long (mTot V lim).1, .long (mTot V lim).2.1, .long (mTot V lim).2.2.1, .long (mTot V lim).2.2.2.1, .ref r_10, .long (mTot V lim).2.2.2.2.2.1, .int (mTot V lim).2.2.2.2.2.2.1, .int (mTot V lim).2.2.2.2.2.2.2])) := up_ne hw_33 hc_15 (z_neN hc_15 hq_34)
                  have hk_39 : w_32 la = some (.inl (G.2 4, 100, .inr (.inr (.inr (.inr fl))))) := up_ne hw_33 hk_21 (z_neN hk_21 hq_34)
                  have hk_40 : w_32 ra = some (.inl (G.2 5, 16, .inr (.inr (.inr (.inr fr))))) := up_ne hw_33 hk_22 (z_neN hk_22 hq_34)
                  have hk_41 : w_32 r_10 = some (.inl (G.2 1, 4, .inr (.inl ((mTot V lim).2.2.2.2.1)))) := up_ne hw_33 hc_16 (z_neN hc_16 hq_34)
                  have hn_42 := hF.2 _ hq_34
                  have hF := hF.put hw_33 (Or.inr hn_42)
                  have hc_43 : w_32 q_31 = some (.inr (4, [.null, .null, .int 0, .int 0, .int 0, .int 0, .int 0])) := up_self hw_33
                  refine lv_dup hx hb d_D_close_123 rfl ?_
                  refine lv_aload hx hb d_D_close_124 (lv_at hl 2 rfl) ?_
                  refine lv_aload hx hb d_D_close_126 (lv_at hl 1 rfl) ?_
                  refine lv_lload hx hb d_D_close_128 (lv_at hl 0 rfl) ?_
                  refine lv_l2i hx hb d_D_close_130 rfl ?_
                  refine ip_D_106 (As := [.ref il, .ref q_9, .int ((wantedL spec amount (mTot V lim).1).toInt32)]) (rest := [.ref q_31]) cx (c_B_init l G n0 e0 w_32 il al ar cap V.2.1 q_9 r_10 V.1 md fa V.2.2 (mTot V lim) ((wantedL spec amount (mTot V lim).1).toInt32) q_31 hk_36 hk_37 (har.imp_right (fun h => ⟨hF.keepX h.1 (by simp [hd, hla, hra, cx.g43, cx.g53]), h.2⟩)) (by omega) (by omega) (fun i hi => by obtain ⟨x, q1, q2⟩ := hx2 i hi; exact ⟨x, q1, hF.keepX q2 (by simp [hd, hla, hra])⟩) hk_38 hk_41 (sgW_ne ((zi_n0 _).mp c99)) hc_43) ⟨(Nat.le_of_ble_eq_true rfl), (Nat.le_of_ble_eq_true rfl)⟩ ⟨(by dsimp only; omega), (by dsimp only; omega)⟩ rfl hl.1 rfl (Nat.le_of_ble_eq_true rfl) d_D_close_131 hZ hS (fun v w_46 H locs hp_47 hZ hS => ?_)
                  obtain ⟨sw_44, fw_45, rfl, hc_48, hc_49, hc_50, hc_51, hf_52⟩ := hp_47
                  have hk_53 : w_46 d = some (.inr (5, [.ref la, .int (nI (k + 1)), .ref ra, .int (nI tot)])) := hf_52.keep hk_35 (by simp only [List.mem_cons, List.not_mem_nil, or_false, not_or]; exact (z_neN hd hn_42))
                  have hk_54 : w_46 il = some (.inr (2, [.int (zi V.1), .ref al])) := hf_52.keep hk_36 (by simp only [List.mem_cons, List.not_mem_nil, or_false, not_or]; exact (z_neN hL.1 hn_42))
                  have hk_55 : w_46 al = some (.inr (0, [.int md, .ref ar, .int (nI V.2.1)])) := hf_52.keep hk_37 (by simp only [List.mem_cons, List.not_mem_nil, or_false, not_or]; exact (z_neN hal hn_42))
                  have hk_56 : w_46 q_9 = some (.inr (3, [.long (mTot V lim).1, .long (mTot V lim).2.1, .long (mTot V lim).2.2.1, .long (mTot V lim).2.2.2.1, .ref r_10, .long (mTot V lim).2.2.2.2.2.1, .int (mTot V lim).2.2.2.2.2.2.1, .int (mTot V lim).2.2.2.2.2.2.2])) := hf_52.keep hk_38 (by simp only [List.mem_cons, List.not_mem_nil, or_false, not_or]; exact z_ne hk_38 hc_43 (by simp))
                  have hk_57 : w_46 la = some (.inl (G.2 4, 100, .inr (.inr (.inr (.inr fl))))) := hf_52.keep hk_39 (by simp only [List.mem_cons, List.not_mem_nil, or_false, not_or]; exact (z_neN hla hn_42))
                  have hk_58 : w_46 ra = some (.inl (G.2 5, 16, .inr (.inr (.inr (.inr fr))))) := hf_52.keep hk_40 (by simp only [List.mem_cons, List.not_mem_nil, or_false, not_or]; exact (z_neN hra hn_42))
                  have hk_59 : w_46 r_10 = some (.inl (G.2 1, 4, .inr (.inl ((mTot V lim).2.2.2.2.1)))) := hf_52.keep hk_41 (by simp only [List.mem_cons, List.not_mem_nil, or_false, not_or]; exact z_ne hk_41 hc_43 (by simp))
                  have hn_60 := hF.2 _ hc_48
                  have hF := hF.call hf_52 (List.forall_mem_cons.mpr ⟨Or.inr hn_42, fun _ h => absurd h List.not_mem_nil⟩)
                  refine W.eq (g2 := F0 m 134 ls [.ref q_31]) rfl ?_
                  refine lv_astore (lv' := [(9, .ref q_31), (7, .long (wantedL spec amount (mTot V lim).1)), (6, .ref q_9), (5, .ref il), (0, .ref d), (1, .int spec), (2, .int amount), (3, .int lim), (4, .int (nI kk))]) hx hb d_D_close_134 hl (by decide) rfl (fun ls hl => ?_)
                  refine lv_aload_n hx hb d_D_close_136 rfl (lv_at hl 4 rfl) ?_
                  refine lv_dup hx hb d_D_close_137 rfl ?_
                  refine gf_D_21 cx hZ hk_53 rfl d_D_close_138 ?_
                  refine lv_iconst (v := 1) hx hb d_D_close_141 (by decide) ?_
                  refine lv_isub hx hb d_D_close_142 ?_
                  rw [show (((nI (k + 1)) - 1) : Int32) = nI k from nI_pred k]
                  refine pf_D_21 cx hZ hS hk_53 (Nat.le_of_ble_eq_true rfl) d_D_close_143 (fun w_61 H locs hw_62 hZ hS => ?_)
                  have hk_63 : w_61 il = some (.inr (2, [.int (zi V.1), .ref al])) := up_ne hw_62 hk_54 (z_ne hk_54 hk_53 (by simp))
                  have hk_64 : w_61 al = some (.inr (0, [.int md, .ref ar, .int (nI V.2.1)])) := up_ne hw_62 hk_55 (z_ne hk_55 hk_53 (by simp))
                  have hk_65 : w_61 q_9 = some (.inr (3, [.long (mTot V lim).1, .long (mTot V lim).2.1, .long (mTot V lim).2.2.1, .long (mTot V lim).2.2.2.1, .ref r_10, .long (mTot V lim).2.2.2.2.2.1, .int (mTot V lim).2.2.2.2.2.2.1, .int (mTot V lim).2.2.2.2.2.2.2])) := up_ne hw_62 hk_56 (Ne.symm (z_neN hd hn_23))
                  have hk_66 : w_61 q_31 = some (.inr (4, [.ref il, .ref sw_44, .int (mTot V lim).2.2.2.2.2.2.1, .int ((mTot V lim).2.2.2.2.2.2.2 + 1), .int (if V.1 = true then (mTot V lim).2.1.toInt32 else ((wantedL spec amount (mTot V lim).1).toInt32)), .int (if V.1 = true then ((wantedL spec amount (mTot V lim).1).toInt32) else (mTot V lim).2.2.1.toInt32), .int (mTot V lim).2.2.2.1.toInt32])) := up_ne hw_62 hc_51 (Ne.symm (z_neN hd hn_42))
                  have hk_67 : w_61 la = some (.inl (G.2 4, 100, .inr (.inr (.inr (.inr fl))))) := up_ne hw_62 hk_57 (z_ne hk_57 hk_53 (by simp))
                  have hk_68 : w_61 ra = some (.inl (G.2 5, 16, .inr (.inr (.inr (.inr fr))))) := up_ne hw_62 hk_58 (z_ne hk_58 hk_53 (by simp))
                  have hk_69 : w_61 r_10 = some (.inl (G.2 1, 4, .inr (.inl ((mTot V lim).2.2.2.2.1)))) := up_ne hw_62 hk_59 ((Ne.symm (z_neN hd hn_24)))
                  have hk_70 : w_61 sw_44 = some (.inl (G.2 0, V.2.1, .inl fw_45)) := up_ne hw_62 hc_49 ((Ne.symm (z_neN hd hn_60)))
                  have hF := hF.put hw_62 (Or.inl (by simp))
                  have hc_71 : w_61 d = some (.inr (5, [.ref la, .int (nI k), .ref ra, .int (nI tot)])) := up_self hw_62
                  refine lv_aload_n hx hb d_D_close_146 rfl (lv_at hl 4 rfl) ?_
                  refine gf_D_11 cx hZ hc_71 rfl d_D_close_147 ?_
                  refine lv_aload_n hx hb d_D_close_150 rfl (lv_at hl 4 rfl) ?_
                  refine gf_D_21 cx hZ hc_71 rfl d_D_close_151 ?_
                  refine lv_null hx hb d_D_close_154 ?_
                  refine st_qN4 cx hZ hS hk_67 (vp_in_nI hk (by omega)) d_D_close_155 (fun w_72 H locs hw_73 hZ hS => ?_)
                  have hk_74 : w_72 d = some (.inr (5, [.ref la, .int (nI k), .ref ra, .int (nI tot)])) := up_ne hw_73 hc_71 (z_ne hc_71 hk_67 (by simp))
                  have hk_75 : w_72 il = some (.inr (2, [.int (zi V.1), .ref al])) := up_ne hw_73 hk_63 (z_ne hk_63 hk_67 (by simp))
                  have hk_76 : w_72 al = some (.inr (0, [.int md, .ref ar, .int (nI V.2.1)])) := up_ne hw_73 hk_64 (z_ne hk_64 hk_67 (by simp))
                  have hk_77 : w_72 q_9 = some (.inr (3, [.long (mTot V lim).1, .long (mTot V lim).2.1, .long (mTot V lim).2.2.1, .long (mTot V lim).2.2.2.1, .ref r_10, .long (mTot V lim).2.2.2.2.2.1, .int (mTot V lim).2.2.2.2.2.2.1, .int (mTot V lim).2.2.2.2.2.2.2])) := up_ne hw_73 hk_65 (Ne.symm (z_neN hla hn_23))
                  have hk_78 : w_72 q_31 = some (.inr (4, [.ref il, .ref sw_44, .int (mTot V lim).2.2.2.2.2.2.1, .int ((mTot V lim).2.2.2.2.2.2.2 + 1), .int (if V.1 = true then (mTot V lim).2.1.toInt32 else ((wantedL spec amount (mTot V lim).1).toInt32)), .int (if V.1 = true then ((wantedL spec amount (mTot V lim).1).toInt32) else (mTot V lim).2.2.1.toInt32), .int (mTot V lim).2.2.2.1.toInt32])) := up_ne hw_73 hk_66 (Ne.symm (z_neN hla hn_42))
                  have hk_79 : w_72 ra = some (.inl (G.2 5, 16, .inr (.inr (.inr (.inr fr))))) := up_ne hw_73 hk_68 ((z_ne hra hla (by simp [cx.g54])))
                  have hk_80 : w_72 r_10 = some (.inl (G.2 1, 4, .inr (.inl ((mTot V lim).2.2.2.2.1)))) := up_ne hw_73 hk_69 ((Ne.symm (z_neN hla hn_24)))
                  have hk_81 : w_72 sw_44 = some (.inl (G.2 0, V.2.1, .inl fw_45)) := up_ne hw_73 hk_70 ((Ne.symm (z_neN hla hn_60)))
                  have hF := hF.put hw_73 (Or.inl (by simp))
                  have hc_82 : w_72 la = some (.inl (G.2 4, 100, .inr (.inr (.inr (.inr (va_up fl (nI k).toNatClampNeg none)))))) := up_self hw_73
                  refine lv_aload_n hx hb d_D_close_156 rfl (lv_at hl 4 rfl) ?_
                  refine lv_dup hx hb d_D_close_157 rfl ?_
                  refine gf_D_94 cx hZ hk_74 rfl d_D_close_158 ?_
                  refine lv_iconst (v := 1) hx hb d_D_close_161 (by decide) ?_
                  refine lv_aload_n hx hb d_D_close_162 rfl (lv_at hl 4 rfl) ?_
                  refine gf_D_17 cx hZ hk_74 rfl d_D_close_163 ?_
                  refine lv_iload hx hb d_D_close_166 (lv_at hl 8 rfl) ?_
                  refine ld_q5 cx hZ hk_79 (vp_in_nI hkk (by omega)) d_D_close_168 ?_
                  rw [show fr (nI kk).toNatClampNeg = none from by rw [nI_clamp (by omega)]; exact hv]
                  refine W.eq (g2 := F0 m 169 ls [.null, .int 1, .int (nI tot), .ref d]) rfl ?_
                  refine is_D_109 (As := [.null]) (rest := [.int 1, .int (nI tot), .ref d]) cx (c_itemsOf_0 l G n0 e0 w_72) ⟨(Nat.le_of_ble_eq_true rfl), (Nat.le_of_ble_eq_true rfl)⟩ ⟨(by dsimp only; omega), (by dsimp only; omega)⟩ rfl hl.1 rfl (Nat.le_of_ble_eq_true rfl) d_D_close_169 hZ hS (fun v w_83 H locs hp_84 hZ hS => ?_)
                  obtain ⟨rfl, hq⟩ := hp_84
                  subst w_83
                  refine W.eq (g2 := F0 m 172 ls [.int 0, .int 1, .int (nI tot), .ref d]) rfl ?_
                  refine lv_isub hx hb d_D_close_172 ?_
                  refine lv_iadd hx hb d_D_close_173 ?_
                  rw [show (((nI tot) + (1 - 0)) : Int32) = nI (tot + 1) from tot_void]
                  refine pf_D_94 cx hZ hS hk_74 (Nat.le_of_ble_eq_true rfl) d_D_close_174 (fun w_85 H locs hw_86 hZ hS => ?_)
                  have hk_87 : w_85 il = some (.inr (2, [.int (zi V.1), .ref al])) := up_ne hw_86 hk_75 (z_ne hk_75 hk_74 (by simp))
                  have hk_88 : w_85 al = some (.inr (0, [.int md, .ref ar, .int (nI V.2.1)])) := up_ne hw_86 hk_76 (z_ne hk_76 hk_74 (by simp))
                  have hk_89 : w_85 q_9 = some (.inr (3, [.long (mTot V lim).1, .long (mTot V lim).2.1, .long (mTot V lim).2.2.1, .long (mTot V lim).2.2.2.1, .ref r_10, .long (mTot V lim).2.2.2.2.2.1, .int (mTot V lim).2.2.2.2.2.2.1, .int (mTot V lim).2.2.2.2.2.2.2])) := up_ne hw_86 hk_77 (Ne.symm (z_neN hd hn_23))
                  have hk_90 : w_85 q_31 = some (.inr (4, [.ref il, .ref sw_44, .int (mTot V lim).2.2.2.2.2.2.1, .int ((mTot V lim).2.2.2.2.2.2.2 + 1), .int (if V.1 = true then (mTot V lim).2.1.toInt32 else ((wantedL spec amount (mTot V lim).1).toInt32)), .int (if V.1 = true then ((wantedL spec amount (mTot V lim).1).toInt32) else (mTot V lim).2.2.1.toInt32), .int (mTot V lim).2.2.2.1.toInt32])) := up_ne hw_86 hk_78 (Ne.symm (z_neN hd hn_42))
                  have hk_91 : w_85 la = some (.inl (G.2 4, 100, .inr (.inr (.inr (.inr (va_up fl (nI k).toNatClampNeg none)))))) := up_ne hw_86 hc_82 (z_ne hc_82 hk_74 (by simp))
                  have hk_92 : w_85 ra = some (.inl (G.2 5, 16, .inr (.inr (.inr (.inr fr))))) := up_ne hw_86 hk_79 (z_ne hk_79 hk_74 (by simp))
                  have hk_93 : w_85 r_10 = some (.inl (G.2 1, 4, .inr (.inl ((mTot V lim).2.2.2.2.1)))) := up_ne hw_86 hk_80 ((Ne.symm (z_neN hd hn_24)))
                  have hk_94 : w_85 sw_44 = some (.inl (G.2 0, V.2.1, .inl fw_45)) := up_ne hw_86 hk_81 ((Ne.symm (z_neN hd hn_60)))
                  have hF := hF.put hw_86 (Or.inl (by simp))
                  have hc_95 : w_85 d = some (.inr (5, [.ref la, .int (nI k), .ref ra, .int (nI (tot + 1))])) := up_self hw_86
                  refine lv_aload_n hx hb d_D_close_177 rfl (lv_at hl 4 rfl) ?_
                  refine gf_D_17 cx hZ hc_95 rfl d_D_close_178 ?_
                  refine lv_iload hx hb d_D_close_181 (lv_at hl 8 rfl) ?_
                  refine lv_aload hx hb d_D_close_183 (lv_at hl 0 rfl) ?_
                  refine st_q5 cx hZ hS hk_92 hk_90 (vp_in_nI hkk (by omega)) d_D_close_185 (fun w_96 H locs hw_97 hZ hS => ?_)
                  have hk_98 : w_96 d = some (.inr (5, [.ref la, .int (nI k), .ref ra, .int (nI (tot + 1))])) := up_ne hw_97 hc_95 (z_ne hc_95 hk_92 (by simp))
                  have hk_99 : w_96 il = some (.inr (2, [.int (zi V.1), .ref al])) := up_ne hw_97 hk_87 (z_ne hk_87 hk_92 (by simp))
                  have hk_100 : w_96 al = some (.inr (0, [.int md, .ref ar, .int (nI V.2.1)])) := up_ne hw_97 hk_88 (z_ne hk_88 hk_92 (by simp))
                  have hk_101 : w_96 q_9 = some (.inr (3, [.long (mTot V lim).1, .long (mTot V lim).2.1, .long (mTot V lim).2.2.1, .long (mTot V lim).2.2.2.1, .ref r_10, .long (mTot V lim).2.2.2.2.2.1, .int (mTot V lim).2.2.2.2.2.2.1, .int (mTot V lim).2.2.2.2.2.2.2])) := up_ne hw_97 hk_89 (Ne.symm (z_neN hra hn_23))
                  have hk_102 : w_96 q_31 = some (.inr (4, [.ref il, .ref sw_44, .int (mTot V lim).2.2.2.2.2.2.1, .int ((mTot V lim).2.2.2.2.2.2.2 + 1), .int (if V.1 = true then (mTot V lim).2.1.toInt32 else ((wantedL spec amount (mTot V lim).1).toInt32)), .int (if V.1 = true then ((wantedL spec amount (mTot V lim).1).toInt32) else (mTot V lim).2.2.1.toInt32), .int (mTot V lim).2.2.2.1.toInt32])) := up_ne hw_97 hk_90 (Ne.symm (z_neN hra hn_42))
                  have hk_103 : w_96 la = some (.inl (G.2 4, 100, .inr (.inr (.inr (.inr (va_up fl (nI k).toNatClampNeg none)))))) := up_ne hw_97 hk_91 ((z_ne hla hra (by simp [cx.g45])))
                  have hk_104 : w_96 r_10 = some (.inl (G.2 1, 4, .inr (.inl ((mTot V lim).2.2.2.2.1)))) := up_ne hw_97 hk_93 ((Ne.symm (z_neN hra hn_24)))
                  have hk_105 : w_96 sw_44 = some (.inl (G.2 0, V.2.1, .inl fw_45)) := up_ne hw_97 hk_94 ((Ne.symm (z_neN hra hn_60)))
                  have hF := hF.put hw_97 (Or.inl (by simp))
                  have hc_106 : w_96 ra = some (.inl (G.2 5, 16, .inr (.inr (.inr (.inr (va_up fr (nI kk).toNatClampNeg (some q_31))))))) := up_self hw_97
                  refine lv_lload hx hb d_D_close_186 (lv_at hl 1 rfl) ?_
                  refine lv_l2i hx hb d_D_close_188 rfl ?_
                  exact z_iretT cx.1 cx.2.1 cx.rt cx.lk hS hZ ⟨(by dsimp only; omega), (by dsimp only; omega)⟩ d_D_close_189 (⟨q_31, sw_44, fw_45, rfl, (by rw [cgood, decide_eq_true (Classical.not_not.mp (fun q => c91 ((ge4000 ht).mpr q))), (zi_n0 _).mp c99, (zi_n0 _).mp c107]; rfl), hn_42, hn_60, hk_105, hc_50, hk_102, (by have q := hk_103; rw [nI_clamp (by omega)] at q; exact q), (by have q := hc_106; rw [nI_clamp (by omega)] at q; exact q), hk_98, hF⟩)
                · exact z_throw (X := nUOE) (ic := 105) (ix := 101) (is := 103) cx hT hTr hEx (by decide) tw_477 tw_478 tw_20 (fun U h1 h2 h3 => own_UOE h1 h2 h3) (fun U h => h.2.2.2.1.2.2.1) hl.1 hZ hS (⟨rfl, by rw [cgood, (zi_0 _).mp c107, Bool.and_false], hf_17⟩) (by dsimp only; omega) (by dsimp only; omega) (Nat.le_refl _) (Nat.le_refl _) (Nat.le_of_ble_eq_true rfl) (Nat.le_of_ble_eq_true rfl) d_D_close_110 d_D_close_113 d_D_close_114 d_D_close_116 d_D_close_119
          · exact absurd c51 ((zi_n0 _).mpr k5)
set_option maxHeartbeats 4000000 in
set_option maxRecDepth 100000 in
theorem c_close_some (l : Launch) (hTr : l.stackTraces = false) (G : zG) (n0 e0 : Nat) (w : zw) (d la ra k tot il al ar cap : Nat) (V : LV) (fl fr : Nat → Option Nat) (hd : w d = some (.inr (5, [.ref la, .int (nI (k + 1)), .ref ra, .int (nI tot)]))) (hla : w la = some (.inl (G.2 4, 100, .inr (.inr (.inr (.inr fl)))))) (hra : w ra = some (.inl (G.2 5, 16, .inr (.inr (.inr (.inr fr)))))) (hk : k < 100) (hil : fl k = some il) (hL : LL G e0 w (il, al, ar, cap) V) (hn : V.2.1 ≤ 20000) (ht : tot < 10000) (hor : ∀ i, i < V.2.1 → vp_in (V.2.2 i 7) 4) (kk : Nat) (hkk : kk < 16) (b0 li0 sw0 wi : Nat) (f0 : Nat → Int32) (hv : fr kk = some b0) (hb0 : w b0 = some (.inr (4, fB li0 sw0 f0))) (hwi : f0 0 = nI wi) (hwt : wi ≤ tot) (spec amount lim : Int32) (hok : closeB spec amount lim (nI kk) = true)  : CtT l G n0 e0 y_D_close b_D_close 10 (Option.some FieldType.int) ({ frames := 8, cells := 4, slots := 40 + V.2.1, locals := 190 }) [.ref d, .int spec, .int amount, .int lim, .int (nI kk)] w (fun v w1 => ∃ b2 sw2 fw, v = some (.int ((wantedL spec amount (mTot V lim).1).toInt32)) ∧ cgood (mTot V lim) (wantedL spec amount (mTot V lim).1) tot = true ∧ w b2 = none ∧ w sw2 = none ∧ w1 sw2 = some (.inl (G.2 0, V.2.1, .inl fw)) ∧ (∀ j, j < V.2.1 → fw j = sgX (mTot V lim) (((wantedL spec amount (mTot V lim).1).toInt32).toInt64 - (mTot V lim).1) V.2.2 j) ∧ w1 b2 = some (.inr (4, fB il sw2 (bxF V.1 (mTot V lim) ((wantedL spec amount (mTot V lim).1).toInt32)))) ∧ w1 la = some (.inl (G.2 4, 100, .inr (.inr (.inr (.inr (va_up fl k none)))))) ∧ w1 ra = some (.inl (G.2 5, 16, .inr (.inr (.inr (.inr (va_up fr kk (some b2))))))) ∧ w1 d = some (.inr (5, [.ref la, .int (nI k), .ref ra, .int (nI (tot - wi))])) ∧ Fr [d, la, ra] w w1) (fun X w1 => X = nUOE ∧ cgood (mTot V lim) (wantedL spec amount (mTot V lim).1) tot = false ∧ Fr [] w w1) := by
  refine z_ctT (by decide) (Nat.le_of_ble_eq_true rfl) ?_
  intro p e s m below meth c ls cx hT hEx hnm hZ hS hl
  have hx := cx.1
  have hb := cx.2.1
  have hl : lv_has ls 10 [(0, .ref d), (1, .int spec), (2, .int amount), (3, .int lim), (4, .int (nI kk))] := hl
  obtain ⟨_, hcapb, md, fa, hal, hr, hx2⟩ := id hL
  dsimp only at hcapb hal hr hx2
  have har : V.2.1 = 0 ∨ (w ar = some (.inl (G.2 3, cap, .inr (.inr (.inr (.inr fa))))) ∧ V.2.1 ≤ cap) := hr.imp (fun z => z.2.2) (fun z => ⟨z.1, z.2.1⟩)
  simp only [closeB, Bool.and_eq_true, Bool.not_eq_true', decide_eq_false_iff_not] at hok
  obtain ⟨⟨⟨⟨k1, k2⟩, k3⟩, k4⟩, k5⟩ := hok
  have hF : Fr [d, la, ra] w w := Fr.rf
  refine lv_aload_n hx hb d_D_close_0 rfl (lv_at hl 0 rfl) ?_
  refine iv_D_28 (As := []) (rest := []) cx (c_innermost_1 l G n0 e0 w d la ra k tot fl (fun _ => none) hd hla hk il hil) hd ⟨(Nat.le_of_ble_eq_true rfl), (Nat.le_of_ble_eq_true rfl)⟩ ⟨(by dsimp only; omega), (by dsimp only; omega)⟩ rfl hl.1 rfl (Nat.le_of_ble_eq_true rfl) d_D_close_1 hZ hS (fun v w_1 H locs hp_2 hZ hS => ?_)
  obtain ⟨rfl, hq⟩ := hp_2
  subst w_1
  refine W.eq (g2 := F0 m 4 ls [.ref il]) rfl ?_
  refine lv_astore (lv' := [(5, .ref il), (0, .ref d), (1, .int spec), (2, .int amount), (3, .int lim), (4, .int (nI kk))]) hx hb d_D_close_4 hl (by decide) rfl (fun ls hl => ?_)
  refine lv_aload hx hb d_D_close_6 (lv_at hl 0 rfl) ?_
  refine lv_ifnonnull (tgt := 21) hx hb d_D_close_8 (by decide) ?_
  refine lv_iload_n hx hb d_D_close_21 rfl (lv_at hl 2 rfl) ?_
  refine lv_if_lt (tgt := 54) hx hb d_D_close_22 (by decide) (fun c22 => ?_) (fun c22 => ?_)
  · exact absurd c22 k1
  · refine lv_iload_n hx hb d_D_close_25 rfl (lv_at hl 2 rfl) ?_
    refine lv_iconst (v := 2) hx hb d_D_close_26 (by decide) ?_
    refine lv_icmp_gt (tgt := 54) hx hb d_D_close_27 (by decide) (fun c27 => ?_) (fun c27 => ?_)
    · exact absurd c27 k2
    · refine lv_iload_n hx hb d_D_close_30 rfl (lv_at hl 3 rfl) ?_
      refine lv_i2l hx hb d_D_close_31 rfl ?_
      refine is_D_56 (As := [.long amount.toInt64]) (rest := []) cx (c_isSize l G n0 e0 amount.toInt64 w) ⟨(Nat.le_of_ble_eq_true rfl), (Nat.le_of_ble_eq_true rfl)⟩ ⟨(by dsimp only; omega), (by dsimp only; omega)⟩ rfl hl.1 rfl (Nat.le_of_ble_eq_true rfl) d_D_close_32 hZ hS (fun v w_3 H locs hp_4 hZ hS => ?_)
      obtain ⟨rfl, hq⟩ := hp_4
      subst w_3
      refine W.eq (g2 := F0 m 35 ls [.int (zi (szL amount.toInt64))]) rfl ?_
      refine lv_if_eq (tgt := 54) hx hb d_D_close_35 (by decide) (fun c35 => ?_) (fun c35 => ?_)
      · exact absurd c35 ((zi_n0 _).mpr k3)
      · refine lv_iload_n hx hb d_D_close_38 rfl (lv_at hl 4 rfl) ?_
        refine lv_i2l hx hb d_D_close_39 rfl ?_
        refine is_D_56 (As := [.long lim.toInt64]) (rest := []) cx (c_isSize l G n0 e0 lim.toInt64 w) ⟨(Nat.le_of_ble_eq_true rfl), (Nat.le_of_ble_eq_true rfl)⟩ ⟨(by dsimp only; omega), (by dsimp only; omega)⟩ rfl hl.1 rfl (Nat.le_of_ble_eq_true rfl) d_D_close_40 hZ hS (fun v w_5 H locs hp_6 hZ hS => ?_)
        obtain ⟨rfl, hq⟩ := hp_6
        subst w_5
        refine W.eq (g2 := F0 m 43 ls [.int (zi (szL lim.toInt64))]) rfl ?_
        refine lv_if_eq (tgt := 54) hx hb d_D_close_43 (by decide) (fun c43 => ?_) (fun c43 => ?_)
        · exact absurd c43 ((zi_n0 _).mpr k4)
        · refine lv_iload hx hb d_D_close_46 (lv_at hl 5 rfl) ?_
          refine is_D_71 (As := [.int (nI kk)]) (rest := []) cx (c_isRegister l G n0 e0 (nI kk) w) ⟨(Nat.le_of_ble_eq_true rfl), (Nat.le_of_ble_eq_true rfl)⟩ ⟨(by dsimp only; omega), (by dsimp only; omega)⟩ rfl hl.1 rfl (Nat.le_of_ble_eq_true rfl) d_D_close_48 hZ hS (fun v w_7 H locs hp_8 hZ hS => ?_)
          obtain ⟨rfl, hq⟩ := hp_8
          subst w_7
          refine W.eq (g2 := F0 m 51 ls [.int (zi (regB (nI kk)))]) rfl ?_
          refine lv_if_ne (tgt := 64) hx hb d_D_close_51 (by decide) (fun c51 => ?_) (fun c51 => ?_)
          · refine lv_aload hx hb d_D_close_64 (lv_at hl 0 rfl) ?_
            refine lv_iload_n hx hb d_D_close_66 rfl (lv_at hl 4 rfl) ?_
            refine is_D_80 (As := [.ref il, .int lim]) (rest := []) cx (c_measured l G n0 e0 w il al ar cap V.2.1 V.1 md fa V.2.2 hL.1 hal har (by omega) (by omega) (fun i hi => by obtain ⟨x, q1, q2⟩ := hx2 i hi; exact ⟨x, q1, q2, hor i hi⟩) lim) ⟨(Nat.le_of_ble_eq_true rfl), (Nat.le_of_ble_eq_true rfl)⟩ ⟨(by dsimp only; omega), (by dsimp only; omega)⟩ rfl hl.1 rfl (Nat.le_of_ble_eq_true rfl) d_D_close_67 hZ hS (fun v w_11 H locs hp_12 hZ hS => ?_)
            obtain ⟨q_9, r_10, rfl, hc_13, hc_14, hc_15, hc_16, hf_17⟩ := hp_12
            have hk_18 : w_11 d = some (.inr (5, [.ref la, .int (nI (k + 1)), .ref ra, .int (nI tot)])) := hf_17.keep hd (by simp)
            have hk_19 : w_11 il = some (.inr (2, [.int (zi V.1), .ref al])) := hf_17.keep hL.1 (by simp)
            have hk_20 : w_11 al = some (.inr (0, [.int md, .ref ar, .int (nI V.2.1)])) := hf_17.keep hal (by simp)
            have hk_21 : w_11 b0 = some (.inr (4, [.ref li0, .ref sw0, .int (f0 0), .int (f0 1), .int (f0 2), .int (f0 3), .int (f0 4)])) := hf_17.keep hb0 (by simp)
            have hk_22 : w_11 la = some (.inl (G.2 4, 100, .inr (.inr (.inr (.inr fl))))) := hf_17.keep hla (by simp)
            have hk_23 : w_11 ra = some (.inl (G.2 5, 16, .inr (.inr (.inr (.inr fr))))) := hf_17.keep hra (by simp)
            have hn_24 := hF.2 _ hc_13
            have hn_25 := hF.2 _ hc_14
            have hF := hF.call hf_17 (fun _ h => absurd h List.not_mem_nil)
            refine W.eq (g2 := F0 m 70 ls [.ref q_9]) rfl ?_
            refine lv_astore (lv' := [(6, .ref q_9), (5, .ref il), (0, .ref d), (1, .int spec), (2, .int amount), (3, .int lim), (4, .int (nI kk))]) hx hb d_D_close_70 hl (by decide) rfl (fun ls hl => ?_)
            refine lv_iload_n hx hb d_D_close_72 rfl (lv_at hl 3 rfl) ?_
            refine lv_iload_n hx hb d_D_close_73 rfl (lv_at hl 4 rfl) ?_
            refine lv_aload hx hb d_D_close_74 (lv_at hl 0 rfl) ?_
            refine gf_D_84 cx hZ hc_15 rfl d_D_close_76 ?_
            refine is_D_90 (As := [.int spec, .int amount, .long (mTot V lim).1]) (rest := []) cx (c_wanted l G n0 e0 spec amount (mTot V lim).1 w_11) ⟨(Nat.le_of_ble_eq_true rfl), (Nat.le_of_ble_eq_true rfl)⟩ ⟨(by dsimp only; omega), (by dsimp only; omega)⟩ rfl hl.1 rfl (Nat.le_of_ble_eq_true rfl) d_D_close_79 hZ hS (fun v w_26 H locs hp_27 hZ hS => ?_)
            obtain ⟨rfl, hq⟩ := hp_27
            subst w_26
            refine W.eq (g2 := F0 m 82 ls [.long (wantedL spec amount (mTot V lim).1)]) rfl ?_
            refine lv_lstore (lv' := [(7, .long (wantedL spec amount (mTot V lim).1)), (6, .ref q_9), (5, .ref il), (0, .ref d), (1, .int spec), (2, .int amount), (3, .int lim), (4, .int (nI kk))]) hx hb d_D_close_82 hl (by decide) rfl (fun ls hl => ?_)
            refine lv_aload_n hx hb d_D_close_84 rfl (lv_at hl 3 rfl) ?_
            refine gf_D_94 cx hZ hk_18 rfl d_D_close_85 ?_
            refine lv_sipush (v := 4000) hx hb d_D_close_88 (by decide) ?_
            refine lv_icmp_ge (tgt := 110) hx hb d_D_close_91 (by decide) (fun c91 => ?_) (fun c91 => ?_)
            · exact z_throw (X := nUOE) (ic := 105) (ix := 101) (is := 103) cx hT hTr hEx (by decide) tw_477 tw_478 tw_20 (fun U h1 h2 h3 => own_UOE h1 h2 h3) (fun U h => h.2.2.2.1.2.2.1) hl.1 hZ hS (⟨rfl, by rw [cgood, decide_eq_false ((ge4000 ht).mp c91)]; rfl, hf_17⟩) (by dsimp only; omega) (by dsimp only; omega) (Nat.le_refl _) (Nat.le_refl _) (Nat.le_of_ble_eq_true rfl) (Nat.le_of_ble_eq_true rfl) d_D_close_110 d_D_close_113 d_D_close_114 d_D_close_116 d_D_close_119
            · refine lv_aload hx hb d_D_close_94 (lv_at hl 1 rfl) ?_
              refine iv_D_97 (As := []) (rest := []) cx (c_canBeBoxed l G n0 e0 w_11 q_9 r_10 (mTot V lim).1 (mTot V lim).2.1 (mTot V lim).2.2.1 (mTot V lim).2.2.2.1 (mTot V lim).2.2.2.2.2.1 (mTot V lim).2.2.2.2.1 (mTot V lim).2.2.2.2.2.2.1 (mTot V lim).2.2.2.2.2.2.2 hc_15 hc_16) hc_15 ⟨(Nat.le_of_ble_eq_true rfl), (Nat.le_of_ble_eq_true rfl)⟩ ⟨(by dsimp only; omega), (by dsimp only; omega)⟩ rfl hl.1 rfl (Nat.le_of_ble_eq_true rfl) d_D_close_96 hZ hS (fun v w_28 H locs hp_29 hZ hS => ?_)
              obtain ⟨rfl, hq⟩ := hp_29
              subst w_28
              refine W.eq (g2 := F0 m 99 ls [.int (zi (canB (mTot V lim).1 (mTot V lim).2.1 (mTot V lim).2.2.1 (mTot V lim).2.2.2.1 (mTot V lim).2.2.2.2.2.1 (mTot V lim).2.2.2.2.1 (mTot V lim).2.2.2.2.2.2.2))]) rfl ?_
              refine lv_if_eq (tgt := 110) hx hb d_D_close_99 (by decide) (fun c99 => ?_) (fun c99 => ?_)
              · exact z_throw (X := nUOE) (ic := 105) (ix := 101) (is := 103) cx hT hTr hEx (by decide) tw_477 tw_478 tw_20 (fun U h1 h2 h3 => own_UOE h1 h2 h3) (fun U h => h.2.2.2.1.2.2.1) hl.1 hZ hS (⟨rfl, by rw [cgood, (zi_0 _).mp c99, Bool.and_false]; rfl, hf_17⟩) (by dsimp only; omega) (by dsimp only; omega) (Nat.le_refl _) (Nat.le_refl _) (Nat.le_of_ble_eq_true rfl) (Nat.le_of_ble_eq_true rfl) d_D_close_110 d_D_close_113 d_D_close_114 d_D_close_116 d_D_close_119
              · refine lv_lload hx hb d_D_close_102 (lv_at hl 0 rfl) ?_
                refine is_D_56 (As := [.long (wantedL spec amount (mTot V lim).1)]) (rest := []) cx (c_isSize l G n0 e0 (wantedL spec amount (mTot V lim).1) w_11) ⟨(Nat.le_of_ble_eq_true rfl), (Nat.le_of_ble_eq_true rfl)⟩ ⟨(by dsimp only; omega), (by dsimp only; omega)⟩ rfl hl.1 rfl (Nat.le_of_ble_eq_true rfl) d_D_close_104 hZ hS (fun v w_30 H locs hp_31 hZ hS => ?_)
                obtain ⟨rfl, hq⟩ := hp_31
                subst w_30
                refine W.eq (g2 := F0 m 107 ls [.int (zi (szL (wantedL spec amount (mTot V lim).1)))]) rfl ?_
                refine lv_if_ne (tgt := 120) hx hb d_D_close_107 (by decide) (fun c107 => ?_) (fun c107 => ?_)
                · refine nw_D_15_o cx hZ hS (by dsimp only; omega) (by dsimp only; omega) d_D_close_120 (fun q_32 w_33 H hq_35 hw_34 hZ hS => ?_)
                  have hk_36 : w_33 d = some (.inr (5, [.ref la, .int (nI (k + 1)), .ref ra, .int (nI tot)])) := up_ne hw_34 hk_18 (z_neN hk_18 hq_35)
                  have hk_37 : w_33 il = some (.inr (2, [.int (zi V.1), .ref al])) := up_ne hw_34 hk_19 (z_neN hk_19 hq_35)
                  have hk_38 : w_33 al = some (.inr (0, [.int md, .ref ar, .int (nI V.2.1)])) := up_ne hw_34 hk_20 (z_neN hk_20 hq_35)
                  have hk_39 : w_33 b0 = some (.inr (4, [.ref li0, .ref sw0, .int (f0 0), .int (f0 1), .int (f0 2), .int (f0 3), .int (f0 4)])) := up_ne hw_34 hk_21 (z_neN hk_21 hq_35)
                  have hk_40 : w_33 q_9 = some (.inr (3, [.long (mTot V lim).1, .long (mTot V lim).2.1, .long (mTot V lim).2.2.1, .long (mTot V lim).2.2.2.1, .ref r_10, .long (mTot V lim).2.2.2.2.2.1, .int (mTot V lim).2.2.2.2.2.2.1, .int (mTot V lim).2.2.2.2.2.2.2])) := up_ne hw_34 hc_15 (z_neN hc_15 hq_35)
                  have hk_41 : w_33 la = some (.inl (G.2 4, 100, .inr (.inr (.inr (.inr fl))))) := up_ne hw_34 hk_22 (z_neN hk_22 hq_35)
                  have hk_42 : w_33 ra = some (.inl (G.2 5, 16, .inr (.inr (.inr (.inr fr))))) := up_ne hw_34 hk_23 (z_neN hk_23 hq_35)
                  have hk_43 : w_33 r_10 = some (.inl (G.2 1, 4, .inr (.inl ((mTot V lim).2.2.2.2.1)))) := up_ne hw_34 hc_16 (z_neN hc_16 hq_35)
                  have hn_44 := hF.2 _ hq_35
                  have hF := hF.put hw_34 (Or.inr hn_44)
                  have hc_45 : w_33 q_32 = some (.inr (4, [.null, .null, .int 0, .int 0, .int 0, .int 0, .int 0])) := up_self hw_34
                  refine lv_dup hx hb d_D_close_123 rfl ?_
                  refine lv_aload hx hb d_D_close_124 (lv_at hl 2 rfl) ?_
                  refine lv_aload hx hb d_D_close_126 (lv_at hl 1 rfl) ?_
                  refine lv_lload hx hb d_D_close_128 (lv_at hl 0 rfl) ?_
                  refine lv_l2i hx hb d_D_close_130 rfl ?_
                  refine ip_D_106 (As := [.ref il, .ref q_9, .int ((wantedL spec amount (mTot V lim).1).toInt32)]) (rest := [.ref q_32]) cx (c_B_init l G n0 e0 w_33 il al ar cap V.2.1 q_9 r_10 V.1 md fa V.2.2 (mTot V lim) ((wantedL spec amount (mTot V lim).1).toInt32) q_32 hk_37 hk_38 (har.imp_right (fun h => ⟨hF.keepX h.1 (by simp [hd, hla, hra, cx.g43, cx.g53]), h.2⟩)) (by omega) (by omega) (fun i hi => by obtain ⟨x, q1, q2⟩ := hx2 i hi; exact ⟨x, q1, hF.keepX q2 (by simp [hd, hla, hra])⟩) hk_40 hk_43 (sgW_ne ((zi_n0 _).mp c99)) hc_45) ⟨(Nat.le_of_ble_eq_true rfl), (Nat.le_of_ble_eq_true rfl)⟩ ⟨(by dsimp only; omega), (by dsimp only; omega)⟩ rfl hl.1 rfl (Nat.le_of_ble_eq_true rfl) d_D_close_131 hZ hS (fun v w_48 H locs hp_49 hZ hS => ?_)
                  obtain ⟨sw_46, fw_47, rfl, hc_50, hc_51, hc_52, hc_53, hf_54⟩ := hp_49
                  have hk_55 : w_48 d = some (.inr (5, [.ref la, .int (nI (k + 1)), .ref ra, .int (nI tot)])) := hf_54.keep hk_36 (by simp only [List.mem_cons, List.not_mem_nil, or_false, not_or]; exact (z_neN hd hn_44))
                  have hk_56 : w_48 il = some (.inr (2, [.int (zi V.1), .ref al])) := hf_54.keep hk_37 (by simp only [List.mem_cons, List.not_mem_nil, or_false, not_or]; exact (z_neN hL.1 hn_44))
                  have hk_57 : w_48 al = some (.inr (0, [.int md, .ref ar, .int (nI V.2.1)])) := hf_54.keep hk_38 (by simp only [List.mem_cons, List.not_mem_nil, or_false, not_or]; exact (z_neN hal hn_44))
                  have hk_58 : w_48 b0 = some (.inr (4, [.ref li0, .ref sw0, .int (f0 0), .int (f0 1), .int (f0 2), .int (f0 3), .int (f0 4)])) := hf_54.keep hk_39 (by simp only [List.mem_cons, List.not_mem_nil, or_false, not_or]; exact (z_neN hb0 hn_44))
                  have hk_59 : w_48 q_9 = some (.inr (3, [.long (mTot V lim).1, .long (mTot V lim).2.1, .long (mTot V lim).2.2.1, .long (mTot V lim).2.2.2.1, .ref r_10, .long (mTot V lim).2.2.2.2.2.1, .int (mTot V lim).2.2.2.2.2.2.1, .int (mTot V lim).2.2.2.2.2.2.2])) := hf_54.keep hk_40 (by simp only [List.mem_cons, List.not_mem_nil, or_false, not_or]; exact z_ne hk_40 hc_45 (by simp))
                  have hk_60 : w_48 la = some (.inl (G.2 4, 100, .inr (.inr (.inr (.inr fl))))) := hf_54.keep hk_41 (by simp only [List.mem_cons, List.not_mem_nil, or_false, not_or]; exact (z_neN hla hn_44))
                  have hk_61 : w_48 ra = some (.inl (G.2 5, 16, .inr (.inr (.inr (.inr fr))))) := hf_54.keep hk_42 (by simp only [List.mem_cons, List.not_mem_nil, or_false, not_or]; exact (z_neN hra hn_44))
                  have hk_62 : w_48 r_10 = some (.inl (G.2 1, 4, .inr (.inl ((mTot V lim).2.2.2.2.1)))) := hf_54.keep hk_43 (by simp only [List.mem_cons, List.not_mem_nil, or_false, not_or]; exact z_ne hk_43 hc_45 (by simp))
                  have hn_63 := hF.2 _ hc_50
                  have hF := hF.call hf_54 (List.forall_mem_cons.mpr ⟨Or.inr hn_44, fun _ h => absurd h List.not_mem_nil⟩)
                  refine W.eq (g2 := F0 m 134 ls [.ref q_32]) rfl ?_
                  refine lv_astore (lv' := [(9, .ref q_32), (7, .long (wantedL spec amount (mTot V lim).1)), (6, .ref q_9), (5, .ref il), (0, .ref d), (1, .int spec), (2, .int amount), (3, .int lim), (4, .int (nI kk))]) hx hb d_D_close_134 hl (by decide) rfl (fun ls hl => ?_)
                  refine lv_aload_n hx hb d_D_close_136 rfl (lv_at hl 4 rfl) ?_
                  refine lv_dup hx hb d_D_close_137 rfl ?_
                  refine gf_D_21 cx hZ hk_55 rfl d_D_close_138 ?_
                  refine lv_iconst (v := 1) hx hb d_D_close_141 (by decide) ?_
                  refine lv_isub hx hb d_D_close_142 ?_
                  rw [show (((nI (k + 1)) - 1) : Int32) = nI k from nI_pred k]
                  refine pf_D_21 cx hZ hS hk_55 (Nat.le_of_ble_eq_true rfl) d_D_close_143 (fun w_64 H locs hw_65 hZ hS => ?_)
                  have hk_66 : w_64 il = some (.inr (2, [.int (zi V.1), .ref al])) := up_ne hw_65 hk_56 (z_ne hk_56 hk_55 (by simp))
                  have hk_67 : w_64 al = some (.inr (0, [.int md, .ref ar, .int (nI V.2.1)])) := up_ne hw_65 hk_57 (z_ne hk_57 hk_55 (by simp))
                  have hk_68 : w_64 b0 = some (.inr (4, [.ref li0, .ref sw0, .int (f0 0), .int (f0 1), .int (f0 2), .int (f0 3), .int (f0 4)])) := up_ne hw_65 hk_58 (z_ne hk_58 hk_55 (by simp))
                  have hk_69 : w_64 q_9 = some (.inr (3, [.long (mTot V lim).1, .long (mTot V lim).2.1, .long (mTot V lim).2.2.1, .long (mTot V lim).2.2.2.1, .ref r_10, .long (mTot V lim).2.2.2.2.2.1, .int (mTot V lim).2.2.2.2.2.2.1, .int (mTot V lim).2.2.2.2.2.2.2])) := up_ne hw_65 hk_59 (Ne.symm (z_neN hd hn_24))
                  have hk_70 : w_64 q_32 = some (.inr (4, [.ref il, .ref sw_46, .int (mTot V lim).2.2.2.2.2.2.1, .int ((mTot V lim).2.2.2.2.2.2.2 + 1), .int (if V.1 = true then (mTot V lim).2.1.toInt32 else ((wantedL spec amount (mTot V lim).1).toInt32)), .int (if V.1 = true then ((wantedL spec amount (mTot V lim).1).toInt32) else (mTot V lim).2.2.1.toInt32), .int (mTot V lim).2.2.2.1.toInt32])) := up_ne hw_65 hc_53 (Ne.symm (z_neN hd hn_44))
                  have hk_71 : w_64 la = some (.inl (G.2 4, 100, .inr (.inr (.inr (.inr fl))))) := up_ne hw_65 hk_60 (z_ne hk_60 hk_55 (by simp))
                  have hk_72 : w_64 ra = some (.inl (G.2 5, 16, .inr (.inr (.inr (.inr fr))))) := up_ne hw_65 hk_61 (z_ne hk_61 hk_55 (by simp))
                  have hk_73 : w_64 r_10 = some (.inl (G.2 1, 4, .inr (.inl ((mTot V lim).2.2.2.2.1)))) := up_ne hw_65 hk_62 ((Ne.symm (z_neN hd hn_25)))
                  have hk_74 : w_64 sw_46 = some (.inl (G.2 0, V.2.1, .inl fw_47)) := up_ne hw_65 hc_51 ((Ne.symm (z_neN hd hn_63)))
                  have hF := hF.put hw_65 (Or.inl (by simp))
                  have hc_75 : w_64 d = some (.inr (5, [.ref la, .int (nI k), .ref ra, .int (nI tot)])) := up_self hw_65
                  refine lv_aload_n hx hb d_D_close_146 rfl (lv_at hl 4 rfl) ?_
                  refine gf_D_11 cx hZ hc_75 rfl d_D_close_147 ?_
                  refine lv_aload_n hx hb d_D_close_150 rfl (lv_at hl 4 rfl) ?_
                  refine gf_D_21 cx hZ hc_75 rfl d_D_close_151 ?_
                  refine lv_null hx hb d_D_close_154 ?_
                  refine st_qN4 cx hZ hS hk_71 (vp_in_nI hk (by omega)) d_D_close_155 (fun w_76 H locs hw_77 hZ hS => ?_)
                  have hk_78 : w_76 d = some (.inr (5, [.ref la, .int (nI k), .ref ra, .int (nI tot)])) := up_ne hw_77 hc_75 (z_ne hc_75 hk_71 (by simp))
                  have hk_79 : w_76 il = some (.inr (2, [.int (zi V.1), .ref al])) := up_ne hw_77 hk_66 (z_ne hk_66 hk_71 (by simp))
                  have hk_80 : w_76 al = some (.inr (0, [.int md, .ref ar, .int (nI V.2.1)])) := up_ne hw_77 hk_67 (z_ne hk_67 hk_71 (by simp))
                  have hk_81 : w_76 b0 = some (.inr (4, [.ref li0, .ref sw0, .int (f0 0), .int (f0 1), .int (f0 2), .int (f0 3), .int (f0 4)])) := up_ne hw_77 hk_68 (z_ne hk_68 hk_71 (by simp))
                  have hk_82 : w_76 q_9 = some (.inr (3, [.long (mTot V lim).1, .long (mTot V lim).2.1, .long (mTot V lim).2.2.1, .long (mTot V lim).2.2.2.1, .ref r_10, .long (mTot V lim).2.2.2.2.2.1, .int (mTot V lim).2.2.2.2.2.2.1, .int (mTot V lim).2.2.2.2.2.2.2])) := up_ne hw_77 hk_69 (Ne.symm (z_neN hla hn_24))
                  have hk_83 : w_76 q_32 = some (.inr (4, [.ref il, .ref sw_46, .int (mTot V lim).2.2.2.2.2.2.1, .int ((mTot V lim).2.2.2.2.2.2.2 + 1), .int (if V.1 = true then (mTot V lim).2.1.toInt32 else ((wantedL spec amount (mTot V lim).1).toInt32)), .int (if V.1 = true then ((wantedL spec amount (mTot V lim).1).toInt32) else (mTot V lim).2.2.1.toInt32), .int (mTot V lim).2.2.2.1.toInt32])) := up_ne hw_77 hk_70 (Ne.symm (z_neN hla hn_44))
                  have hk_84 : w_76 ra = some (.inl (G.2 5, 16, .inr (.inr (.inr (.inr fr))))) := up_ne hw_77 hk_72 ((z_ne hra hla (by simp [cx.g54])))
                  have hk_85 : w_76 r_10 = some (.inl (G.2 1, 4, .inr (.inl ((mTot V lim).2.2.2.2.1)))) := up_ne hw_77 hk_73 ((Ne.symm (z_neN hla hn_25)))
                  have hk_86 : w_76 sw_46 = some (.inl (G.2 0, V.2.1, .inl fw_47)) := up_ne hw_77 hk_74 ((Ne.symm (z_neN hla hn_63)))
                  have hF := hF.put hw_77 (Or.inl (by simp))
                  have hc_87 : w_76 la = some (.inl (G.2 4, 100, .inr (.inr (.inr (.inr (va_up fl (nI k).toNatClampNeg none)))))) := up_self hw_77
                  refine lv_aload_n hx hb d_D_close_156 rfl (lv_at hl 4 rfl) ?_
                  refine lv_dup hx hb d_D_close_157 rfl ?_
                  refine gf_D_94 cx hZ hk_78 rfl d_D_close_158 ?_
                  refine lv_iconst (v := 1) hx hb d_D_close_161 (by decide) ?_
                  refine lv_aload_n hx hb d_D_close_162 rfl (lv_at hl 4 rfl) ?_
                  refine gf_D_17 cx hZ hk_78 rfl d_D_close_163 ?_
                  refine lv_iload hx hb d_D_close_166 (lv_at hl 8 rfl) ?_
                  refine ld_q5 cx hZ hk_84 (vp_in_nI hkk (by omega)) d_D_close_168 ?_
                  rw [show fr (nI kk).toNatClampNeg = some b0 from by rw [nI_clamp (by omega)]; exact hv]
                  refine W.eq (g2 := F0 m 169 ls [.ref b0, .int 1, .int (nI tot), .ref d]) rfl ?_
                  refine is_D_109 (As := [.ref b0]) (rest := [.int 1, .int (nI tot), .ref d]) cx (c_itemsOf_1 l G n0 e0 w_76 b0 li0 sw0 (f0 0) (f0 1) (f0 2) (f0 3) (f0 4) hk_81) ⟨(Nat.le_of_ble_eq_true rfl), (Nat.le_of_ble_eq_true rfl)⟩ ⟨(by dsimp only; omega), (by dsimp only; omega)⟩ rfl hl.1 rfl (Nat.le_of_ble_eq_true rfl) d_D_close_169 hZ hS (fun v w_88 H locs hp_89 hZ hS => ?_)
                  obtain ⟨rfl, hq⟩ := hp_89
                  subst w_88
                  refine W.eq (g2 := F0 m 172 ls [.int (1 + f0 0), .int 1, .int (nI tot), .ref d]) rfl ?_
                  refine lv_isub hx hb d_D_close_172 ?_
                  refine lv_iadd hx hb d_D_close_173 ?_
                  rw [show (((nI tot) + (1 - (1 + f0 0))) : Int32) = nI (tot - wi) from tot_some hwi hwt]
                  refine pf_D_94 cx hZ hS hk_78 (Nat.le_of_ble_eq_true rfl) d_D_close_174 (fun w_90 H locs hw_91 hZ hS => ?_)
                  have hk_92 : w_90 il = some (.inr (2, [.int (zi V.1), .ref al])) := up_ne hw_91 hk_79 (z_ne hk_79 hk_78 (by simp))
                  have hk_93 : w_90 al = some (.inr (0, [.int md, .ref ar, .int (nI V.2.1)])) := up_ne hw_91 hk_80 (z_ne hk_80 hk_78 (by simp))
                  have hk_94 : w_90 b0 = some (.inr (4, [.ref li0, .ref sw0, .int (f0 0), .int (f0 1), .int (f0 2), .int (f0 3), .int (f0 4)])) := up_ne hw_91 hk_81 (z_ne hk_81 hk_78 (by simp))
                  have hk_95 : w_90 q_9 = some (.inr (3, [.long (mTot V lim).1, .long (mTot V lim).2.1, .long (mTot V lim).2.2.1, .long (mTot V lim).2.2.2.1, .ref r_10, .long (mTot V lim).2.2.2.2.2.1, .int (mTot V lim).2.2.2.2.2.2.1, .int (mTot V lim).2.2.2.2.2.2.2])) := up_ne hw_91 hk_82 (Ne.symm (z_neN hd hn_24))
                  have hk_96 : w_90 q_32 = some (.inr (4, [.ref il, .ref sw_46, .int (mTot V lim).2.2.2.2.2.2.1, .int ((mTot V lim).2.2.2.2.2.2.2 + 1), .int (if V.1 = true then (mTot V lim).2.1.toInt32 else ((wantedL spec amount (mTot V lim).1).toInt32)), .int (if V.1 = true then ((wantedL spec amount (mTot V lim).1).toInt32) else (mTot V lim).2.2.1.toInt32), .int (mTot V lim).2.2.2.1.toInt32])) := up_ne hw_91 hk_83 (Ne.symm (z_neN hd hn_44))
                  have hk_97 : w_90 la = some (.inl (G.2 4, 100, .inr (.inr (.inr (.inr (va_up fl (nI k).toNatClampNeg none)))))) := up_ne hw_91 hc_87 (z_ne hc_87 hk_78 (by simp))
                  have hk_98 : w_90 ra = some (.inl (G.2 5, 16, .inr (.inr (.inr (.inr fr))))) := up_ne hw_91 hk_84 (z_ne hk_84 hk_78 (by simp))
                  have hk_99 : w_90 r_10 = some (.inl (G.2 1, 4, .inr (.inl ((mTot V lim).2.2.2.2.1)))) := up_ne hw_91 hk_85 ((Ne.symm (z_neN hd hn_25)))
                  have hk_100 : w_90 sw_46 = some (.inl (G.2 0, V.2.1, .inl fw_47)) := up_ne hw_91 hk_86 ((Ne.symm (z_neN hd hn_63)))
                  have hF := hF.put hw_91 (Or.inl (by simp))
                  have hc_101 : w_90 d = some (.inr (5, [.ref la, .int (nI k), .ref ra, .int (nI (tot - wi))])) := up_self hw_91
                  refine lv_aload_n hx hb d_D_close_177 rfl (lv_at hl 4 rfl) ?_
                  refine gf_D_17 cx hZ hc_101 rfl d_D_close_178 ?_
                  refine lv_iload hx hb d_D_close_181 (lv_at hl 8 rfl) ?_
                  refine lv_aload hx hb d_D_close_183 (lv_at hl 0 rfl) ?_
                  refine st_q5 cx hZ hS hk_98 hk_96 (vp_in_nI hkk (by omega)) d_D_close_185 (fun w_102 H locs hw_103 hZ hS => ?_)
                  have hk_104 : w_102 d = some (.inr (5, [.ref la, .int (nI k), .ref ra, .int (nI (tot - wi))])) := up_ne hw_103 hc_101 (z_ne hc_101 hk_98 (by simp))
                  have hk_105 : w_102 il = some (.inr (2, [.int (zi V.1), .ref al])) := up_ne hw_103 hk_92 (z_ne hk_92 hk_98 (by simp))
                  have hk_106 : w_102 al = some (.inr (0, [.int md, .ref ar, .int (nI V.2.1)])) := up_ne hw_103 hk_93 (z_ne hk_93 hk_98 (by simp))
                  have hk_107 : w_102 b0 = some (.inr (4, [.ref li0, .ref sw0, .int (f0 0), .int (f0 1), .int (f0 2), .int (f0 3), .int (f0 4)])) := up_ne hw_103 hk_94 (z_ne hk_94 hk_98 (by simp))
                  have hk_108 : w_102 q_9 = some (.inr (3, [.long (mTot V lim).1, .long (mTot V lim).2.1, .long (mTot V lim).2.2.1, .long (mTot V lim).2.2.2.1, .ref r_10, .long (mTot V lim).2.2.2.2.2.1, .int (mTot V lim).2.2.2.2.2.2.1, .int (mTot V lim).2.2.2.2.2.2.2])) := up_ne hw_103 hk_95 (Ne.symm (z_neN hra hn_24))
                  have hk_109 : w_102 q_32 = some (.inr (4, [.ref il, .ref sw_46, .int (mTot V lim).2.2.2.2.2.2.1, .int ((mTot V lim).2.2.2.2.2.2.2 + 1), .int (if V.1 = true then (mTot V lim).2.1.toInt32 else ((wantedL spec amount (mTot V lim).1).toInt32)), .int (if V.1 = true then ((wantedL spec amount (mTot V lim).1).toInt32) else (mTot V lim).2.2.1.toInt32), .int (mTot V lim).2.2.2.1.toInt32])) := up_ne hw_103 hk_96 (Ne.symm (z_neN hra hn_44))
                  have hk_110 : w_102 la = some (.inl (G.2 4, 100, .inr (.inr (.inr (.inr (va_up fl (nI k).toNatClampNeg none)))))) := up_ne hw_103 hk_97 ((z_ne hla hra (by simp [cx.g45])))
                  have hk_111 : w_102 r_10 = some (.inl (G.2 1, 4, .inr (.inl ((mTot V lim).2.2.2.2.1)))) := up_ne hw_103 hk_99 ((Ne.symm (z_neN hra hn_25)))
                  have hk_112 : w_102 sw_46 = some (.inl (G.2 0, V.2.1, .inl fw_47)) := up_ne hw_103 hk_100 ((Ne.symm (z_neN hra hn_63)))
                  have hF := hF.put hw_103 (Or.inl (by simp))
                  have hc_113 : w_102 ra = some (.inl (G.2 5, 16, .inr (.inr (.inr (.inr (va_up fr (nI kk).toNatClampNeg (some q_32))))))) := up_self hw_103
                  refine lv_lload hx hb d_D_close_186 (lv_at hl 1 rfl) ?_
                  refine lv_l2i hx hb d_D_close_188 rfl ?_
                  exact z_iretT cx.1 cx.2.1 cx.rt cx.lk hS hZ ⟨(by dsimp only; omega), (by dsimp only; omega)⟩ d_D_close_189 (⟨q_32, sw_46, fw_47, rfl, (by rw [cgood, decide_eq_true (Classical.not_not.mp (fun q => c91 ((ge4000 ht).mpr q))), (zi_n0 _).mp c99, (zi_n0 _).mp c107]; rfl), hn_44, hn_63, hk_112, hc_52, hk_109, (by have q := hk_110; rw [nI_clamp (by omega)] at q; exact q), (by have q := hc_113; rw [nI_clamp (by omega)] at q; exact q), hk_104, hF⟩)
                · exact z_throw (X := nUOE) (ic := 105) (ix := 101) (is := 103) cx hT hTr hEx (by decide) tw_477 tw_478 tw_20 (fun U h1 h2 h3 => own_UOE h1 h2 h3) (fun U h => h.2.2.2.1.2.2.1) hl.1 hZ hS (⟨rfl, by rw [cgood, (zi_0 _).mp c107, Bool.and_false], hf_17⟩) (by dsimp only; omega) (by dsimp only; omega) (Nat.le_refl _) (Nat.le_refl _) (Nat.le_of_ble_eq_true rfl) (Nat.le_of_ble_eq_true rfl) d_D_close_110 d_D_close_113 d_D_close_114 d_D_close_116 d_D_close_119
          · exact absurd c51 ((zi_n0 _).mpr k5)
