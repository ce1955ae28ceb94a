theorem nI_lt100 {n : Nat} (h : n < 100) : nI n < (100 : Int32) := by
  rw [show (100 : Int32) = nI 100 from by decide]; exact nI_lt h (by decide)
theorem nI_nlt100 {n : Nat} (h : 100 ≤ n) (h2 : n < 2 ^ 31) : ¬ nI n < (100 : Int32) := by
  rw [show (100 : Int32) = nI 100 from by decide]; exact nI_nlt h h2
def sizeF (f : Nat → Int32) (which v : Int32) : Nat → Int32 := fun i => if (which = 0 ∧ i = 2) ∨ (which = 1 ∧ i = 3) ∨ (which = 2 ∧ i = 4) then v else f i
def sizeB (which v : Int32) : Bool := szI v && (decide (which = 0) || decide (which = 1) || decide (which = 2))
theorem sizeF0 {li sw : Nat} {f : Nat → Int32} {x : Int32} : fB li sw (sizeF f 0 x) = [.ref li, .ref sw, .int (f 0), .int (f 1), .int x, .int (f 3), .int (f 4)] := by simp [fB, sizeF]
theorem sizeF1 {li sw : Nat} {f : Nat → Int32} {x : Int32} : fB li sw (sizeF f 1 x) = [.ref li, .ref sw, .int (f 0), .int (f 1), .int (f 2), .int x, .int (f 4)] := by simp [fB, sizeF]
theorem sizeF2 {li sw : Nat} {f : Nat → Int32} {x : Int32} : fB li sw (sizeF f 2 x) = [.ref li, .ref sw, .int (f 0), .int (f 1), .int (f 2), .int (f 3), .int x] := by simp [fB, sizeF]
def SizeP (b li sw : Nat) (f : Nat → Int32) (which x : Int32) (v : Option Value) (w w1 : zw) : Prop := v = some (.int (zi (sizeB which x))) ∧ w1 b = some (.inr (4, fB li sw (if sizeB which x = true then sizeF f which x else f))) ∧ Fr [b] w w1
theorem SizeP.yes {b li sw : Nat} {f : Nat → Int32} {which x : Int32} {w w1 : zw} (h : sizeB which x = true) (hb : w1 b = some (.inr (4, fB li sw (sizeF f which x)))) (hF : Fr [b] w w1) : SizeP b li sw f which x (some (.int 1)) w w1 := ⟨by rw [h]; rfl, by rw [if_pos h]; exact hb, hF⟩
theorem SizeP.no {b li sw : Nat} {f : Nat → Int32} {which x : Int32} {w w1 : zw} (h : sizeB which x = false) (hb : w1 b = some (.inr (4, fB li sw f))) (hF : Fr [b] w w1) : SizeP b li sw f which x (some (.int 0)) w w1 := ⟨by rw [h]; rfl, by rw [if_neg (by rw [h]; decide)]; exact hb, hF⟩
set_option maxHeartbeats 4000000 in
set_option maxRecDepth 100000 in
theorem c_open_no (l : Launch) (G : zG) (n0 e0 : Nat) (w : zw) (d la ra on tot : Nat) (fl : Nat → Option Nat) (vt : Bool) (hd : w d = some (.inr (5, [.ref la, .int (nI on), .ref ra, .int (nI tot)]))) (hla : w la = some (.inl (G.2 4, 100, .inr (.inr (.inr (.inr fl)))))) (ho : on = 100) : Ct l G n0 e0 y_D_open b_D_open 2 (Option.some FieldType.boolean) ({ frames := 5, cells := 2, slots := 5, locals := 100 }) [.ref d, .int (zi vt)] w (fun v w1 => v = some (.int 0) ∧ w1 = w) := by
  refine z_ct (by decide) (Nat.le_of_ble_eq_true rfl) ?_
  intro p e s m below meth c ls cx hnm hZ hS hl
  have hx := cx.1
  have hb := cx.2.1
  have hl : lv_has ls 2 [(0, .ref d), (1, .int (zi vt))] := hl
  refine lv_aload_n hx hb d_D_open_0 rfl (lv_at hl 0 rfl) ?_
  refine gf_D_21 cx hZ hd rfl d_D_open_1 ?_
  refine lv_bipush (v := 100) hx hb d_D_open_4 (by decide) ?_
  refine lv_icmp_lt (tgt := 11) hx hb d_D_open_6 (by decide) (fun c6 => ?_) (fun c6 => ?_)
  · exact absurd c6 (nI_nlt100 (by omega) (by omega))
  · refine lv_iconst (v := 0) hx hb d_D_open_9 (by decide) ?_
    exact z_zret cx.1 cx.2.1 cx.rt cx.lk (by first | rfl | (simp [narrow]; done) | simp_all [narrow]) hS hZ ⟨(Nat.le_of_ble_eq_true rfl), (Nat.le_of_ble_eq_true rfl)⟩ d_D_open_10 (⟨rfl, rfl⟩)
set_option maxHeartbeats 4000000 in
set_option maxRecDepth 100000 in
theorem c_open (l : Launch) (G : zG) (n0 e0 : Nat) (w : zw) (d la ra on tot : Nat) (fl : Nat → Option Nat) (vt : Bool) (hd : w d = some (.inr (5, [.ref la, .int (nI on), .ref ra, .int (nI tot)]))) (hla : w la = some (.inl (G.2 4, 100, .inr (.inr (.inr (.inr fl)))))) (ho : on < 100) : Ct l G n0 e0 y_D_open b_D_open 2 (Option.some FieldType.boolean) ({ frames := 5, cells := 2, slots := 5, locals := 100 }) [.ref d, .int (zi vt)] w (fun v w1 => ∃ il al, v = some (.int 1) ∧ w il = none ∧ w al = none ∧ LL G e0 w1 (il, al, e0, 0) (vt, 0, fun _ _ => 0) ∧ w1 la = some (.inl (G.2 4, 100, .inr (.inr (.inr (.inr (va_up fl on (some il))))))) ∧ w1 d = some (.inr (5, [.ref la, .int (nI (on + 1)), .ref ra, .int (nI tot)])) ∧ Fr [d, la] w w1) := by
  refine z_ct (by decide) (Nat.le_of_ble_eq_true rfl) ?_
  intro p e s m below meth c ls cx hnm hZ hS hl
  have hx := cx.1
  have hb := cx.2.1
  have hl : lv_has ls 2 [(0, .ref d), (1, .int (zi vt))] := hl
  have hF : Fr [d, la] w w := Fr.rf
  refine lv_aload_n hx hb d_D_open_0 rfl (lv_at hl 0 rfl) ?_
  refine gf_D_21 cx hZ hd rfl d_D_open_1 ?_
  refine lv_bipush (v := 100) hx hb d_D_open_4 (by decide) ?_
  refine lv_icmp_lt (tgt := 11) hx hb d_D_open_6 (by decide) (fun c6 => ?_) (fun c6 => ?_)
  · refine lv_aload_n hx hb d_D_open_11 rfl (lv_at hl 0 rfl) ?_
    refine gf_D_11 cx hZ hd rfl d_D_open_12 ?_
    refine lv_aload_n hx hb d_D_open_15 rfl (lv_at hl 0 rfl) ?_
    refine gf_D_21 cx hZ hd rfl d_D_open_16 ?_
    refine nw_D_9_o cx hZ hS (Nat.le_of_ble_eq_true rfl) (Nat.le_of_ble_eq_true rfl) d_D_open_19 (fun q_1 w_2 H hq_4 hw_3 hZ hS => ?_)
    have hk_5 : w_2 d = some (.inr (5, [.ref la, .int (nI on), .ref ra, .int (nI tot)])) := up_ne hw_3 hd (z_neN hd hq_4)
    have hk_6 : w_2 la = some (.inl (G.2 4, 100, .inr (.inr (.inr (.inr fl))))) := up_ne hw_3 hla (z_neN hla hq_4)
    have hn_7 := hF.2 _ hq_4
    have hF := hF.put hw_3 (Or.inr hn_7)
    have hc_8 : w_2 q_1 = some (.inr (2, [.int 0, .null])) := up_self hw_3
    refine lv_dup hx hb d_D_open_22 rfl ?_
    refine lv_iload_n hx hb d_D_open_23 rfl (lv_at hl 1 rfl) ?_
    refine ip_D_25 (As := [.int (zi vt)]) (rest := [.ref q_1, .int (nI on), .ref la]) cx (c_L_init l G n0 e0 w_2 q_1 vt hc_8) ⟨(Nat.le_of_ble_eq_true rfl), (Nat.le_of_ble_eq_true rfl)⟩ ⟨(Nat.le_of_ble_eq_true rfl), (Nat.le_of_ble_eq_true rfl)⟩ rfl hl.1 rfl (Nat.le_of_ble_eq_true rfl) d_D_open_24 hZ hS (fun v w_10 H locs hp_11 hZ hS => ?_)
    obtain ⟨q_9, rfl, hc_12, hc_13, hc_14, hf_15⟩ := hp_11
    have hk_16 : w_10 d = some (.inr (5, [.ref la, .int (nI on), .ref ra, .int (nI tot)])) := hf_15.keep hk_5 (by simp only [List.mem_cons, List.not_mem_nil, or_false, not_or]; exact (z_neN hd hn_7))
    have hk_17 : w_10 la = some (.inl (G.2 4, 100, .inr (.inr (.inr (.inr fl))))) := hf_15.keep hk_6 (by simp only [List.mem_cons, List.not_mem_nil, or_false, not_or]; exact (z_neN hla hn_7))
    have hn_18 := hF.2 _ hc_12
    have hF := hF.call hf_15 (List.forall_mem_cons.mpr ⟨Or.inr hn_7, fun _ h => absurd h List.not_mem_nil⟩)
    refine W.eq (g2 := F0 m 27 ls [.ref q_1, .int (nI on), .ref la]) rfl ?_
    refine st_q4 cx hZ hS hk_17 hc_14 (vp_in_nI ho (by omega)) d_D_open_27 (fun w_19 H locs hw_20 hZ hS => ?_)
    have hk_21 : w_19 d = some (.inr (5, [.ref la, .int (nI on), .ref ra, .int (nI tot)])) := up_ne hw_20 hk_16 (z_ne hk_16 hk_17 (by simp))
    have hk_22 : w_19 q_1 = some (.inr (2, [.int (zi vt), .ref q_9])) := up_ne hw_20 hc_14 (Ne.symm (z_neN hla hn_7))
    have hk_23 : w_19 q_9 = some (.inr (0, [.int 0, .ref e0, .int 0])) := up_ne hw_20 hc_13 (Ne.symm (z_neN hla hn_18))
    have hF := hF.put hw_20 (Or.inl (by simp))
    have hc_24 : w_19 la = some (.inl (G.2 4, 100, .inr (.inr (.inr (.inr (va_up fl (nI on).toNatClampNeg (some q_1))))))) := up_self hw_20
    refine lv_aload_n hx hb d_D_open_28 rfl (lv_at hl 0 rfl) ?_
    refine lv_dup hx hb d_D_open_29 rfl ?_
    refine gf_D_21 cx hZ hk_21 rfl d_D_open_30 ?_
    refine lv_iconst (v := 1) hx hb d_D_open_33 (by decide) ?_
    refine lv_iadd hx hb d_D_open_34 ?_
    rw [show (((nI on) + 1) : Int32) = nI (on + 1) from nI_1 on]
    refine pf_D_21 cx hZ hS hk_21 (Nat.le_of_ble_eq_true rfl) d_D_open_35 (fun w_25 H locs hw_26 hZ hS => ?_)
    have hk_27 : w_25 q_1 = some (.inr (2, [.int (zi vt), .ref q_9])) := up_ne hw_26 hk_22 (Ne.symm (z_neN hd hn_7))
    have hk_28 : w_25 q_9 = some (.inr (0, [.int 0, .ref e0, .int 0])) := up_ne hw_26 hk_23 (Ne.symm (z_neN hd hn_18))
    have hk_29 : w_25 la = some (.inl (G.2 4, 100, .inr (.inr (.inr (.inr (va_up fl (nI on).toNatClampNeg (some q_1))))))) := up_ne hw_26 hc_24 (z_ne hc_24 hk_21 (by simp))
    have hF := hF.put hw_26 (Or.inl (by simp))
    have hc_30 : w_25 d = some (.inr (5, [.ref la, .int (nI (on + 1)), .ref ra, .int (nI tot)])) := up_self hw_26
    refine lv_iconst (v := 1) hx hb d_D_open_38 (by decide) ?_
    exact z_zret cx.1 cx.2.1 cx.rt cx.lk (by first | rfl | (simp [narrow]; done) | simp_all [narrow]) hS hZ ⟨(Nat.le_of_ble_eq_true rfl), (Nat.le_of_ble_eq_true rfl)⟩ d_D_open_39 (⟨q_1, q_9, rfl, hn_7, hn_18, ⟨hk_27, Nat.zero_le _, 0, fun _ => none, hk_28, Or.inl ⟨rfl, rfl, rfl⟩, fun i hi => absurd hi (by simp)⟩, (by have := hk_29; rw [nI_clamp (by omega)] at this; exact this), hc_30, hF⟩)
  · exact absurd (nI_lt100 ho) c6
set_option maxHeartbeats 4000000 in
set_option maxRecDepth 100000 in
theorem c_count (l : Launch) (G : zG) (n0 e0 : Nat) (w : zw) (d la ra on tot : Nat) (what : Int32) (hd : w d = some (.inr (5, [.ref la, .int (nI on), .ref ra, .int (nI tot)])))  : Ct l G n0 e0 y_D_count b_D_count 2 (Option.some FieldType.int) ({ frames := 0, cells := 0, slots := 0, locals := 0 }) [.ref d, .int what] w (fun v w1 => v = some (.int (if what = 0 then nI on else if what = 1 then nI tot else (-1))) ∧ w1 = w) := by
  refine z_ct (by decide) (Nat.le_of_ble_eq_true rfl) ?_
  intro p e s m below meth c ls cx hnm hZ hS hl
  have hx := cx.1
  have hb := cx.2.1
  have hl : lv_has ls 2 [(0, .ref d), (1, .int what)] := hl
  refine lv_iload_n hx hb d_D_count_0 rfl (lv_at hl 1 rfl) ?_
  by_cases e1_0 : what = 0
  · subst e1_0
    refine lv_lookup (tgt := 28) (off := 27) hx hb d_D_count_1 (by decide) (by decide) (by decide) ?_
    refine lv_aload_n hx hb d_D_count_28 rfl (lv_at hl 0 rfl) ?_
    refine gf_D_21 cx hZ hd rfl d_D_count_29 ?_
    exact z_iret cx.1 cx.2.1 cx.rt cx.lk hS hZ ⟨(Nat.le_of_ble_eq_true rfl), (Nat.le_of_ble_eq_true rfl)⟩ d_D_count_32 (⟨by simp, rfl⟩)
  · skip
    by_cases e1_1 : what = 1
    · subst e1_1
      refine lv_lookup (tgt := 33) (off := 32) hx hb d_D_count_1 (by decide) (by decide) (by decide) ?_
      refine lv_aload_n hx hb d_D_count_33 rfl (lv_at hl 0 rfl) ?_
      refine gf_D_94 cx hZ hd rfl d_D_count_34 ?_
      exact z_iret cx.1 cx.2.1 cx.rt cx.lk hS hZ ⟨(Nat.le_of_ble_eq_true rfl), (Nat.le_of_ble_eq_true rfl)⟩ d_D_count_37 (⟨by simp, rfl⟩)
    · skip
      have te1_0 := lv_neT e1_0 (show (0 : Int32).toInt = 0 from by decide)
      have te1_1 := lv_neT e1_1 (show (1 : Int32).toInt = 1 from by decide)
      refine lv_lookup (tgt := 38) (off := 37) hx hb d_D_count_1 (by decide) (by rw [lv_osw e1_0 (show (0 : Int32).toInt = 0 from by decide)]; rw [lv_osw e1_1 (show (1 : Int32).toInt = 1 from by decide)]; rfl) (by decide) ?_
      refine lv_iconst (v := -1) hx hb d_D_count_38 (by decide) ?_
      exact z_iret cx.1 cx.2.1 cx.rt cx.lk hS hZ ⟨(Nat.le_of_ble_eq_true rfl), (Nat.le_of_ble_eq_true rfl)⟩ d_D_count_39 (⟨by simp [e1_0, e1_1], rfl⟩)
set_option maxHeartbeats 4000000 in
set_option maxRecDepth 100000 in
theorem c_size_out (l : Launch) (G : zG) (n0 e0 : Nat) (w : zw) (d la ra on tot : Nat) (fr : Nat → Option Nat) (hd : w d = some (.inr (5, [.ref la, .int (nI on), .ref ra, .int (nI tot)]))) (hra : w ra = some (.inl (G.2 5, 16, .inr (.inr (.inr (.inr fr)))))) (kk which x : Int32) (hkk : regB kk = false) : Ct l G n0 e0 y_D_size b_D_size 5 (Option.some FieldType.boolean) ({ frames := 2, cells := 0, slots := 0, locals := 60 }) [.ref d, .int kk, .int which, .int x] w (fun v w1 => v = some (.int 0) ∧ w1 = w) := by
  refine z_ct (by decide) (Nat.le_of_ble_eq_true rfl) ?_
  intro p e s m below meth c ls cx hnm hZ hS hl
  have hx := cx.1
  have hb := cx.2.1
  have hl : lv_has ls 5 [(0, .ref d), (1, .int kk), (2, .int which), (3, .int x)] := hl
  refine lv_aload_n hx hb d_D_size_0 rfl (lv_at hl 0 rfl) ?_
  refine lv_iload_n hx hb d_D_size_1 rfl (lv_at hl 1 rfl) ?_
  refine iv_D_113 (As := [.int kk]) (rest := []) cx (c_boxIn_out l G n0 e0 w d la ra on tot (fun _ => none) (fun _ => none) hd kk hkk) hd ⟨(Nat.le_of_ble_eq_true rfl), (Nat.le_of_ble_eq_true rfl)⟩ ⟨(Nat.le_of_ble_eq_true rfl), (Nat.le_of_ble_eq_true rfl)⟩ rfl hl.1 rfl (Nat.le_of_ble_eq_true rfl) d_D_size_2 hZ hS (fun v w_1 H locs hp_2 hZ hS => ?_)
  obtain ⟨rfl, hq⟩ := hp_2
  subst w_1
  refine W.eq (g2 := F0 m 5 ls [.null]) rfl ?_
  refine lv_astoreN (lv' := [(4, .null), (0, .ref d), (1, .int kk), (2, .int which), (3, .int x)]) hx hb d_D_size_5 hl (by decide) rfl (fun ls hl => ?_)
  refine lv_aloadN hx hb d_D_size_7 (lv_at hl 0 rfl) ?_
  refine lv_ifnullN (tgt := 20) hx hb d_D_size_9 (by decide) ?_
  refine lv_iconst (v := 0) hx hb d_D_size_20 (by decide) ?_
  exact z_zret cx.1 cx.2.1 cx.rt cx.lk (by first | rfl | (simp [narrow]; done) | simp_all [narrow]) hS hZ ⟨(Nat.le_of_ble_eq_true rfl), (Nat.le_of_ble_eq_true rfl)⟩ d_D_size_21 (⟨rfl, rfl⟩)
set_option maxHeartbeats 4000000 in
set_option maxRecDepth 100000 in
theorem c_size_void (l : Launch) (G : zG) (n0 e0 : Nat) (w : zw) (d la ra on tot : Nat) (fr : Nat → Option Nat) (hd : w d = some (.inr (5, [.ref la, .int (nI on), .ref ra, .int (nI tot)]))) (hra : w ra = some (.inl (G.2 5, 16, .inr (.inr (.inr (.inr fr)))))) (kk : Nat) (which x : Int32) (hkk : kk < 16) (hv : fr kk = none) : Ct l G n0 e0 y_D_size b_D_size 5 (Option.some FieldType.boolean) ({ frames := 2, cells := 0, slots := 0, locals := 60 }) [.ref d, .int (nI kk), .int which, .int x] w (fun v w1 => v = some (.int 0) ∧ w1 = w) := by
  refine z_ct (by decide) (Nat.le_of_ble_eq_true rfl) ?_
  intro p e s m below meth c ls cx hnm hZ hS hl
  have hx := cx.1
  have hb := cx.2.1
  have hl : lv_has ls 5 [(0, .ref d), (1, .int (nI kk)), (2, .int which), (3, .int x)] := hl
  refine lv_aload_n hx hb d_D_size_0 rfl (lv_at hl 0 rfl) ?_
  refine lv_iload_n hx hb d_D_size_1 rfl (lv_at hl 1 rfl) ?_
  refine iv_D_113 (As := [.int (nI kk)]) (rest := []) cx (c_boxIn_void l G n0 e0 w d la ra on tot (fun _ => none) fr hd hra kk hkk hv) hd ⟨(Nat.le_of_ble_eq_true rfl), (Nat.le_of_ble_eq_true rfl)⟩ ⟨(Nat.le_of_ble_eq_true rfl), (Nat.le_of_ble_eq_true rfl)⟩ rfl hl.1 rfl (Nat.le_of_ble_eq_true rfl) d_D_size_2 hZ hS (fun v w_1 H locs hp_2 hZ hS => ?_)
  obtain ⟨rfl, hq⟩ := hp_2
  subst w_1
  refine W.eq (g2 := F0 m 5 ls [.null]) rfl ?_
  refine lv_astoreN (lv' := [(4, .null), (0, .ref d), (1, .int (nI kk)), (2, .int which), (3, .int x)]) hx hb d_D_size_5 hl (by decide) rfl (fun ls hl => ?_)
  refine lv_aloadN hx hb d_D_size_7 (lv_at hl 0 rfl) ?_
  refine lv_ifnullN (tgt := 20) hx hb d_D_size_9 (by decide) ?_
  refine lv_iconst (v := 0) hx hb d_D_size_20 (by decide) ?_
  exact z_zret cx.1 cx.2.1 cx.rt cx.lk (by first | rfl | (simp [narrow]; done) | simp_all [narrow]) hS hZ ⟨(Nat.le_of_ble_eq_true rfl), (Nat.le_of_ble_eq_true rfl)⟩ d_D_size_21 (⟨rfl, rfl⟩)
set_option maxHeartbeats 4000000 in
set_option maxRecDepth 100000 in
theorem c_size_some (l : Launch) (G : zG) (n0 e0 : Nat) (w : zw) (d la ra on tot : Nat) (fr : Nat → Option Nat) (hd : w d = some (.inr (5, [.ref la, .int (nI on), .ref ra, .int (nI tot)]))) (hra : w ra = some (.inl (G.2 5, 16, .inr (.inr (.inr (.inr fr)))))) (b li sw : Nat) (f : Nat → Int32) (hb0 : w b = some (.inr (4, fB li sw f))) (kk : Nat) (which x : Int32) (hkk : kk < 16) (hv : fr kk = some b) : Ct l G n0 e0 y_D_size b_D_size 5 (Option.some FieldType.boolean) ({ frames := 2, cells := 0, slots := 0, locals := 60 }) [.ref d, .int (nI kk), .int which, .int x] w (fun v w1 => SizeP b li sw f which x v w w1) := by
  refine z_ct (by decide) (Nat.le_of_ble_eq_true rfl) ?_
  intro p e s m below meth c ls cx hnm hZ hS hl
  have hx := cx.1
  have hb := cx.2.1
  have hl : lv_has ls 5 [(0, .ref d), (1, .int (nI kk)), (2, .int which), (3, .int x)] := hl
  have hF : Fr [b] w w := Fr.rf
  refine lv_aload_n hx hb d_D_size_0 rfl (lv_at hl 0 rfl) ?_
  refine lv_iload_n hx hb d_D_size_1 rfl (lv_at hl 1 rfl) ?_
  refine iv_D_113 (As := [.int (nI kk)]) (rest := []) cx (c_boxIn_some l G n0 e0 w d la ra on tot (fun _ => none) fr hd hra kk hkk b hv) hd ⟨(Nat.le_of_ble_eq_true rfl), (Nat.le_of_ble_eq_true rfl)⟩ ⟨(Nat.le_of_ble_eq_true rfl), (Nat.le_of_ble_eq_true rfl)⟩ rfl hl.1 rfl (Nat.le_of_ble_eq_true rfl) d_D_size_2 hZ hS (fun v w_1 H locs hp_2 hZ hS => ?_)
  obtain ⟨rfl, hq⟩ := hp_2
  subst w_1
  refine W.eq (g2 := F0 m 5 ls [.ref b]) rfl ?_
  refine lv_astore (lv' := [(4, .ref b), (0, .ref d), (1, .int (nI kk)), (2, .int which), (3, .int x)]) hx hb d_D_size_5 hl (by decide) rfl (fun ls hl => ?_)
  refine lv_aload hx hb d_D_size_7 (lv_at hl 0 rfl) ?_
  refine lv_ifnull hx hb d_D_size_9 ?_
  refine lv_iload_n hx hb d_D_size_12 rfl (lv_at hl 4 rfl) ?_
  refine lv_i2l hx hb d_D_size_13 rfl ?_
  refine is_D_56 (As := [.long x.toInt64]) (rest := []) cx (c_isSize l G n0 e0 x.toInt64 w) ⟨(Nat.le_of_ble_eq_true rfl), (Nat.le_of_ble_eq_true rfl)⟩ ⟨(Nat.le_of_ble_eq_true rfl), (Nat.le_of_ble_eq_true rfl)⟩ rfl hl.1 rfl (Nat.le_of_ble_eq_true rfl) d_D_size_14 hZ hS (fun v w_3 H locs hp_4 hZ hS => ?_)
  obtain ⟨rfl, hq⟩ := hp_4
  subst w_3
  refine W.eq (g2 := F0 m 17 ls [.int (zi (szL x.toInt64))]) rfl ?_
  refine lv_if_ne (tgt := 22) hx hb d_D_size_17 (by decide) (fun c17 => ?_) (fun c17 => ?_)
  · refine lv_iload_n hx hb d_D_size_22 rfl (lv_at hl 3 rfl) ?_
    by_cases e23_0 : which = 0
    · subst e23_0
      refine lv_tableIn (tgt := 48) (off := 25) hx hb d_D_size_23 (by decide) (by decide) (by decide) (by decide) ?_
      refine lv_aload hx hb d_D_size_48 (lv_at hl 0 rfl) ?_
      refine lv_iload_n hx hb d_D_size_50 rfl (lv_at hl 4 rfl) ?_
      refine pf_D_143 cx hZ hS hb0 (Nat.le_of_ble_eq_true rfl) d_D_size_51 (fun w_5 H locs hw_6 hZ hS => ?_)
      have hk_7 : w_5 d = some (.inr (5, [.ref la, .int (nI on), .ref ra, .int (nI tot)])) := up_ne hw_6 hd (z_ne hd hb0 (by simp))
      have hk_8 : w_5 ra = some (.inl (G.2 5, 16, .inr (.inr (.inr (.inr fr))))) := up_ne hw_6 hra (z_ne hra hb0 (by simp))
      have hF := hF.put hw_6 (Or.inl (by simp))
      have hc_9 : w_5 b = some (.inr (4, [.ref li, .ref sw, .int (f 0), .int (f 1), .int x, .int (f 3), .int (f 4)])) := up_self hw_6
      refine lv_iconst (v := 1) hx hb d_D_size_54 (by decide) ?_
      exact z_zret cx.1 cx.2.1 cx.rt cx.lk (by first | rfl | (simp [narrow]; done) | simp_all [narrow]) hS hZ ⟨(Nat.le_of_ble_eq_true rfl), (Nat.le_of_ble_eq_true rfl)⟩ d_D_size_55 (SizeP.yes (by have h := (zi_n0 _).mp c17; simp [sizeB, szI, h]) (by rw [sizeF0]; exact hc_9) hF)
    · skip
      by_cases e23_1 : which = 1
      · subst e23_1
        refine lv_tableIn (tgt := 56) (off := 33) hx hb d_D_size_23 (by decide) (by decide) (by decide) (by decide) ?_
        refine lv_aload hx hb d_D_size_56 (lv_at hl 0 rfl) ?_
        refine lv_iload_n hx hb d_D_size_58 rfl (lv_at hl 4 rfl) ?_
        refine pf_D_146 cx hZ hS hb0 (Nat.le_of_ble_eq_true rfl) d_D_size_59 (fun w_10 H locs hw_11 hZ hS => ?_)
        have hk_12 : w_10 d = some (.inr (5, [.ref la, .int (nI on), .ref ra, .int (nI tot)])) := up_ne hw_11 hd (z_ne hd hb0 (by simp))
        have hk_13 : w_10 ra = some (.inl (G.2 5, 16, .inr (.inr (.inr (.inr fr))))) := up_ne hw_11 hra (z_ne hra hb0 (by simp))
        have hF := hF.put hw_11 (Or.inl (by simp))
        have hc_14 : w_10 b = some (.inr (4, [.ref li, .ref sw, .int (f 0), .int (f 1), .int (f 2), .int x, .int (f 4)])) := up_self hw_11
        refine lv_iconst (v := 1) hx hb d_D_size_62 (by decide) ?_
        exact z_zret cx.1 cx.2.1 cx.rt cx.lk (by first | rfl | (simp [narrow]; done) | simp_all [narrow]) hS hZ ⟨(Nat.le_of_ble_eq_true rfl), (Nat.le_of_ble_eq_true rfl)⟩ d_D_size_63 (SizeP.yes (by have h := (zi_n0 _).mp c17; simp [sizeB, szI, h]) (by rw [sizeF1]; exact hc_14) hF)
      · skip
        by_cases e23_2 : which = 2
        · subst e23_2
          refine lv_tableIn (tgt := 64) (off := 41) hx hb d_D_size_23 (by decide) (by decide) (by decide) (by decide) ?_
          refine lv_aload hx hb d_D_size_64 (lv_at hl 0 rfl) ?_
          refine lv_iload_n hx hb d_D_size_66 rfl (lv_at hl 4 rfl) ?_
          refine pf_D_149 cx hZ hS hb0 (Nat.le_of_ble_eq_true rfl) d_D_size_67 (fun w_15 H locs hw_16 hZ hS => ?_)
          have hk_17 : w_15 d = some (.inr (5, [.ref la, .int (nI on), .ref ra, .int (nI tot)])) := up_ne hw_16 hd (z_ne hd hb0 (by simp))
          have hk_18 : w_15 ra = some (.inl (G.2 5, 16, .inr (.inr (.inr (.inr fr))))) := up_ne hw_16 hra (z_ne hra hb0 (by simp))
          have hF := hF.put hw_16 (Or.inl (by simp))
          have hc_19 : w_15 b = some (.inr (4, [.ref li, .ref sw, .int (f 0), .int (f 1), .int (f 2), .int (f 3), .int x])) := up_self hw_16
          refine lv_iconst (v := 1) hx hb d_D_size_70 (by decide) ?_
          exact z_zret cx.1 cx.2.1 cx.rt cx.lk (by first | rfl | (simp [narrow]; done) | simp_all [narrow]) hS hZ ⟨(Nat.le_of_ble_eq_true rfl), (Nat.le_of_ble_eq_true rfl)⟩ d_D_size_71 (SizeP.yes (by have h := (zi_n0 _).mp c17; simp [sizeB, szI, h]) (by rw [sizeF2]; exact hc_19) hF)
        · skip
          have te23_0 := lv_neT e23_0 (show (0 : Int32).toInt = 0 from by decide)
          have te23_1 := lv_neT e23_1 (show (1 : Int32).toInt = 1 from by decide)
          have te23_2 := lv_neT e23_2 (show (2 : Int32).toInt = 2 from by decide)
          refine lv_tableOut (tgt := 72) hx hb d_D_size_23 (by omega) (by decide) ?_
          refine lv_iconst (v := 0) hx hb d_D_size_72 (by decide) ?_
          exact z_zret cx.1 cx.2.1 cx.rt cx.lk (by first | rfl | (simp [narrow]; done) | simp_all [narrow]) hS hZ ⟨(Nat.le_of_ble_eq_true rfl), (Nat.le_of_ble_eq_true rfl)⟩ d_D_size_73 (SizeP.no (by simp [sizeB, e23_0, e23_1, e23_2]) hb0 hF)
  · refine lv_iconst (v := 0) hx hb d_D_size_20 (by decide) ?_
    exact z_zret cx.1 cx.2.1 cx.rt cx.lk (by first | rfl | (simp [narrow]; done) | simp_all [narrow]) hS hZ ⟨(Nat.le_of_ble_eq_true rfl), (Nat.le_of_ble_eq_true rfl)⟩ d_D_size_21 (SizeP.no (by have h := (zi_0 _).mp c17; simp [sizeB, szI, h]) hb0 hF)
