theorem dz_t {q : Prop} [Decidable q] (h : ¬ zi (decide q) = 0) : q := of_decide_eq_true ((zi_n0 _).mp h)
theorem dz_f {q : Prop} [Decidable q] (h : zi (decide q) = 0) : ¬ q := of_decide_eq_false ((zi_0 _).mp h)
def mxL (x y : Int64) : Int64 := if y < x then x else y
def acH (f : Nat → Int32) (he : Int64) : Int64 := if f 4 &&& 2 ≠ 0 then he else mxL he ((f 2).toInt64 - (f 9).toInt64)
def acD (f : Nat → Int32) (de : Int64) : Int64 := if f 4 &&& 4 ≠ 0 then de else mxL de ((f 3).toInt64 + (f 9).toInt64)
def isBR (f : Nat → Int32) : Prop := f 0 = 2 ∨ f 0 = 3 ∨ f 0 = 4
def dwN (f : Nat → Int32) (na de : Int64) : Int64 := na + de + (if f 0 = 2 ∨ f 0 = 3 ∨ f 0 = 4 then f 2 else f 1).toInt64
def dwD (f : Nat → Int32) : Int64 := if f 0 = 2 ∨ f 0 = 3 ∨ f 0 = 4 then (f 3).toInt64 else 0
def dwG (f : Nat → Int32) (gr : Int64) : Int64 := if f 0 = 2 ∨ f 0 = 3 ∨ f 0 = 4 then (if f 4 &&& 1 ≠ 0 then gr else mxL gr ((f 1).toInt64 + (f 9).toInt64)) else gr
def hiO (sf : Nat → Int64) : Int32 := if sf 3 ≠ 0 then 3 else if sf 2 ≠ 0 then 2 else if sf 1 ≠ 0 then 1 else 0
def canB (na gr he de sh : Int64) (sf : Nat → Int64) (ne : Int32) : Bool := szL (sf 0) && szL (sf 1) && szL (sf 2) && szL (sf 3) && szL na && szL sh && decide (ne < 100) && szL gr && szL he && szL de
theorem vin4 {x : Int32} (h : vp_in x 4) : ¬ (4 : Int32) ≤ x := by
  have h1 := vp_in_iff.mp h
  rw [Int32.le_iff_toInt_le]
  have h4 : (4 : Int32).toInt = 4 := by decide
  omega
set_option maxHeartbeats 4000000 in
set_option maxRecDepth 100000 in
theorem c_takeGlue (l : Launch) (G : zG) (n0 e0 : Nat) (w : zw) (a q : Nat) (na gr he de sh : Int64) (sf : Nat → Int64) (wi ne : Int32) (ha : w a = some (.inr (3, fM na gr he de (.ref q) sh wi ne))) (hq : w q = some (.inl (G.2 1, 4, .inr (.inl sf)))) (i : Nat) (f : Nat → Int32) (hi : w i = some (.inr (1, fI f))) (ho : vp_in (f 7) 4) : Ct l G n0 e0 y_M_takeGlueAndBoxes b_M_takeGlueAndBoxes 2 (Option.none : Option FieldType) ({ frames := 1, cells := 0, slots := 0, locals := 20 }) [.ref a, .ref i] w (fun v w1 => v = none ∧ w1 a = some (.inr (3, fM na gr he de (.ref q) (sh + (f 8).toInt64) (wi + (1 + f 10)) (if ne < f 11 then f 11 else ne))) ∧ w1 q = some (.inl (G.2 1, 4, .inr (.inl (vp_updL sf (f 7).toNatClampNeg (sf (f 7).toNatClampNeg + (f 6).toInt64))))) ∧ Fr [a, q] w w1) := by
  refine z_ct (by decide) (Nat.le_of_ble_eq_true rfl) ?_
  intro p e s m below meth c ls cx hnm hZ hS hl
  have hx := cx.1
  have hb := cx.2.1
  have hl : lv_has ls 2 [(0, .ref a), (1, .ref i)] := hl
  have hF : Fr [a, q] w w := Fr.rf
  refine lv_aload_n hx hb d_M_takeGlueAndBoxes_0 rfl (lv_at hl 1 rfl) ?_
  refine gf_M_15 cx hZ hi rfl d_M_takeGlueAndBoxes_1 ?_
  refine lv_if_lt (tgt := 32) hx hb d_M_takeGlueAndBoxes_4 (by decide) (fun c4 => ?_) (fun c4 => ?_)
  · exact absurd c4 (fun z => ho (Or.inl z))
  · refine lv_aload_n hx hb d_M_takeGlueAndBoxes_7 rfl (lv_at hl 1 rfl) ?_
    refine gf_M_15 cx hZ hi rfl d_M_takeGlueAndBoxes_8 ?_
    refine lv_iconst (v := 4) hx hb d_M_takeGlueAndBoxes_11 (by decide) ?_
    refine lv_icmp_ge (tgt := 32) hx hb d_M_takeGlueAndBoxes_12 (by decide) (fun c12 => ?_) (fun c12 => ?_)
    · exact absurd c12 (vin4 ho)
    · refine lv_aload_n hx hb d_M_takeGlueAndBoxes_15 rfl (lv_at hl 0 rfl) ?_
      refine gf_M_9 cx hZ ha rfl d_M_takeGlueAndBoxes_16 ?_
      refine lv_aload_n hx hb d_M_takeGlueAndBoxes_19 rfl (lv_at hl 1 rfl) ?_
      refine gf_M_15 cx hZ hi rfl d_M_takeGlueAndBoxes_20 ?_
      refine lv_dup2_11 hx hb d_M_takeGlueAndBoxes_23 rfl rfl ?_
      refine ld_l cx hZ hq ho d_M_takeGlueAndBoxes_24 ?_
      refine lv_aload_n hx hb d_M_takeGlueAndBoxes_25 rfl (lv_at hl 1 rfl) ?_
      refine gf_M_21 cx hZ hi rfl d_M_takeGlueAndBoxes_26 ?_
      refine lv_i2l hx hb d_M_takeGlueAndBoxes_29 rfl ?_
      refine lv_ladd hx hb d_M_takeGlueAndBoxes_30 ?_
      refine st_l cx hZ hS hq ho d_M_takeGlueAndBoxes_31 (fun w_1 H locs hw_2 hZ hS => ?_)
      have hk_3 : w_1 a = some (.inr (3, [.long na, .long gr, .long he, .long de, .ref q, .long sh, .int wi, .int ne])) := up_ne hw_2 ha (z_ne ha hq (by simp))
      have hk_4 : w_1 i = some (.inr (1, [.int (f 0), .int (f 1), .int (f 2), .int (f 3), .int (f 4), .int (f 5), .int (f 6), .int (f 7), .int (f 8), .int (f 9), .int (f 10), .int (f 11)])) := up_ne hw_2 hi (z_ne hi hq (by simp))
      have hF := hF.put hw_2 (Or.inl (by simp))
      have hc_5 : w_1 q = some (.inl (G.2 1, 4, .inr (.inl (vp_updL sf (f 7).toNatClampNeg ((sf (f 7).toNatClampNeg) + ((f 6).toInt64)))))) := up_self hw_2
      refine lv_aload_n hx hb d_M_takeGlueAndBoxes_32 rfl (lv_at hl 0 rfl) ?_
      refine lv_dup hx hb d_M_takeGlueAndBoxes_33 rfl ?_
      refine gf_M_24 cx hZ hk_3 rfl d_M_takeGlueAndBoxes_34 ?_
      refine lv_aload_n hx hb d_M_takeGlueAndBoxes_37 rfl (lv_at hl 1 rfl) ?_
      refine gf_M_28 cx hZ hk_4 rfl d_M_takeGlueAndBoxes_38 ?_
      refine lv_i2l hx hb d_M_takeGlueAndBoxes_41 rfl ?_
      refine lv_ladd hx hb d_M_takeGlueAndBoxes_42 ?_
      refine pf_M_24 cx hZ hS hk_3 (Nat.le_of_ble_eq_true rfl) d_M_takeGlueAndBoxes_43 (fun w_6 H locs hw_7 hZ hS => ?_)
      have hk_8 : w_6 i = some (.inr (1, [.int (f 0), .int (f 1), .int (f 2), .int (f 3), .int (f 4), .int (f 5), .int (f 6), .int (f 7), .int (f 8), .int (f 9), .int (f 10), .int (f 11)])) := up_ne hw_7 hk_4 (z_ne hk_4 hk_3 (by simp))
      have hk_9 : w_6 q = some (.inl (G.2 1, 4, .inr (.inl (vp_updL sf (f 7).toNatClampNeg ((sf (f 7).toNatClampNeg) + ((f 6).toInt64)))))) := up_ne hw_7 hc_5 (z_ne hc_5 hk_3 (by simp))
      have hF := hF.put hw_7 (Or.inl (by simp))
      have hc_10 : w_6 a = some (.inr (3, [.long na, .long gr, .long he, .long de, .ref q, .long (sh + ((f 8).toInt64)), .int wi, .int ne])) := up_self hw_7
      refine lv_aload_n hx hb d_M_takeGlueAndBoxes_46 rfl (lv_at hl 0 rfl) ?_
      refine lv_dup hx hb d_M_takeGlueAndBoxes_47 rfl ?_
      refine gf_M_31 cx hZ hc_10 rfl d_M_takeGlueAndBoxes_48 ?_
      refine lv_iconst (v := 1) hx hb d_M_takeGlueAndBoxes_51 (by decide) ?_
      refine lv_aload_n hx hb d_M_takeGlueAndBoxes_52 rfl (lv_at hl 1 rfl) ?_
      refine gf_M_34 cx hZ hk_8 rfl d_M_takeGlueAndBoxes_53 ?_
      refine lv_iadd hx hb d_M_takeGlueAndBoxes_56 ?_
      refine lv_iadd hx hb d_M_takeGlueAndBoxes_57 ?_
      refine pf_M_31 cx hZ hS hc_10 (Nat.le_of_ble_eq_true rfl) d_M_takeGlueAndBoxes_58 (fun w_11 H locs hw_12 hZ hS => ?_)
      have hk_13 : w_11 i = some (.inr (1, [.int (f 0), .int (f 1), .int (f 2), .int (f 3), .int (f 4), .int (f 5), .int (f 6), .int (f 7), .int (f 8), .int (f 9), .int (f 10), .int (f 11)])) := up_ne hw_12 hk_8 (z_ne hk_8 hc_10 (by simp))
      have hk_14 : w_11 q = some (.inl (G.2 1, 4, .inr (.inl (vp_updL sf (f 7).toNatClampNeg ((sf (f 7).toNatClampNeg) + ((f 6).toInt64)))))) := up_ne hw_12 hk_9 (z_ne hk_9 hc_10 (by simp))
      have hF := hF.put hw_12 (Or.inl (by simp))
      have hc_15 : w_11 a = some (.inr (3, [.long na, .long gr, .long he, .long de, .ref q, .long (sh + ((f 8).toInt64)), .int (wi + (1 + (f 10))), .int ne])) := up_self hw_12
      refine lv_aload_n hx hb d_M_takeGlueAndBoxes_61 rfl (lv_at hl 0 rfl) ?_
      refine lv_aload_n hx hb d_M_takeGlueAndBoxes_62 rfl (lv_at hl 0 rfl) ?_
      refine gf_M_35 cx hZ hc_15 rfl d_M_takeGlueAndBoxes_63 ?_
      refine lv_aload_n hx hb d_M_takeGlueAndBoxes_66 rfl (lv_at hl 1 rfl) ?_
      refine gf_M_38 cx hZ hk_13 rfl d_M_takeGlueAndBoxes_67 ?_
      refine mm_M_41 cx hl.1 d_M_takeGlueAndBoxes_70 (Nat.le_of_ble_eq_true rfl) (Nat.le_of_ble_eq_true rfl) (Nat.le_of_ble_eq_true rfl) (Nat.le_of_ble_eq_true rfl) ?_
      refine pf_M_35 cx hZ hS hc_15 (Nat.le_of_ble_eq_true rfl) d_M_takeGlueAndBoxes_73 (fun w_16 H locs hw_17 hZ hS => ?_)
      have hk_18 : w_16 i = some (.inr (1, [.int (f 0), .int (f 1), .int (f 2), .int (f 3), .int (f 4), .int (f 5), .int (f 6), .int (f 7), .int (f 8), .int (f 9), .int (f 10), .int (f 11)])) := up_ne hw_17 hk_13 (z_ne hk_13 hc_15 (by simp))
      have hk_19 : w_16 q = some (.inl (G.2 1, 4, .inr (.inl (vp_updL sf (f 7).toNatClampNeg ((sf (f 7).toNatClampNeg) + ((f 6).toInt64)))))) := up_ne hw_17 hk_14 (z_ne hk_14 hc_15 (by simp))
      have hF := hF.put hw_17 (Or.inl (by simp))
      have hc_20 : w_16 a = some (.inr (3, [.long na, .long gr, .long he, .long de, .ref q, .long (sh + ((f 8).toInt64)), .int (wi + (1 + (f 10))), .int (if ne < (f 11) then (f 11) else ne)])) := up_self hw_17
      exact z_vret cx.1 cx.2.1 cx.rt cx.lk hS hZ ⟨(Nat.le_of_ble_eq_true rfl), (Nat.le_of_ble_eq_true rfl)⟩ d_M_takeGlueAndBoxes_76 (⟨rfl, hc_20, hk_19, hF⟩)
set_option maxHeartbeats 4000000 in
set_option maxRecDepth 100000 in
theorem c_takeAcross (l : Launch) (G : zG) (n0 e0 : Nat) (w : zw) (a q : Nat) (na gr he de sh : Int64) (sf : Nat → Int64) (wi ne : Int32) (ha : w a = some (.inr (3, fM na gr he de (.ref q) sh wi ne))) (i : Nat) (f : Nat → Int32) (hi : w i = some (.inr (1, fI f)))  : Ct l G n0 e0 y_M_takeAcross b_M_takeAcross 2 (Option.none : Option FieldType) ({ frames := 1, cells := 0, slots := 0, locals := 21 }) [.ref a, .ref i] w (fun v w1 => v = none ∧ w1 a = some (.inr (3, fM (na + (f 1).toInt64) gr (acH f he) (acD f de) (.ref q) sh wi ne)) ∧ Fr [a] w w1) := by
  refine z_ct (by decide) (Nat.le_of_ble_eq_true rfl) ?_
  intro p e s m below meth c ls cx hnm hZ hS hl
  have hx := cx.1
  have hb := cx.2.1
  have hl : lv_has ls 2 [(0, .ref a), (1, .ref i)] := hl
  have hF : Fr [a] w w := Fr.rf
  refine lv_aload_n hx hb d_M_takeAcross_0 rfl (lv_at hl 0 rfl) ?_
  refine lv_dup hx hb d_M_takeAcross_1 rfl ?_
  refine gf_M_47 cx hZ ha rfl d_M_takeAcross_2 ?_
  refine lv_aload_n hx hb d_M_takeAcross_5 rfl (lv_at hl 1 rfl) ?_
  refine gf_M_50 cx hZ hi rfl d_M_takeAcross_6 ?_
  refine lv_i2l hx hb d_M_takeAcross_9 rfl ?_
  refine lv_ladd hx hb d_M_takeAcross_10 ?_
  refine pf_M_47 cx hZ hS ha (Nat.le_of_ble_eq_true rfl) d_M_takeAcross_11 (fun w_1 H locs hw_2 hZ hS => ?_)
  have hk_3 : w_1 i = some (.inr (1, [.int (f 0), .int (f 1), .int (f 2), .int (f 3), .int (f 4), .int (f 5), .int (f 6), .int (f 7), .int (f 8), .int (f 9), .int (f 10), .int (f 11)])) := up_ne hw_2 hi (z_ne hi ha (by simp))
  have hF := hF.put hw_2 (Or.inl (by simp))
  have hc_4 : w_1 a = some (.inr (3, [.long (na + ((f 1).toInt64)), .long gr, .long he, .long de, .ref q, .long sh, .int wi, .int ne])) := up_self hw_2
  refine lv_aload_n hx hb d_M_takeAcross_14 rfl (lv_at hl 1 rfl) ?_
  refine lv_iconst (v := 2) hx hb d_M_takeAcross_15 (by decide) ?_
  refine iv_M_53 (As := [.int 2]) (rest := []) cx (c_runs l G n0 e0 w_1 i f 2 hk_3) hk_3 ⟨(Nat.le_of_ble_eq_true rfl), (Nat.le_of_ble_eq_true rfl)⟩ ⟨(Nat.le_of_ble_eq_true rfl), (Nat.le_of_ble_eq_true rfl)⟩ rfl hl.1 rfl (Nat.le_of_ble_eq_true rfl) d_M_takeAcross_16 hZ hS (fun v w_5 H locs hp_6 hZ hS => ?_)
  obtain ⟨rfl, hq⟩ := hp_6
  subst w_5
  refine W.eq (g2 := F0 m 19 ls [.int (zi (decide (f 4 &&& 2 ≠ 0)))]) rfl ?_
  refine lv_if_ne (tgt := 44) hx hb d_M_takeAcross_19 (by decide) (fun c19 => ?_) (fun c19 => ?_)
  · refine lv_aload_n hx hb d_M_takeAcross_44 rfl (lv_at hl 1 rfl) ?_
    refine lv_iconst (v := 4) hx hb d_M_takeAcross_45 (by decide) ?_
    refine iv_M_53 (As := [.int 4]) (rest := []) cx (c_runs l G n0 e0 w_1 i f 4 hk_3) hk_3 ⟨(Nat.le_of_ble_eq_true rfl), (Nat.le_of_ble_eq_true rfl)⟩ ⟨(Nat.le_of_ble_eq_true rfl), (Nat.le_of_ble_eq_true rfl)⟩ rfl hl.1 rfl (Nat.le_of_ble_eq_true rfl) d_M_takeAcross_46 hZ hS (fun v w_7 H locs hp_8 hZ hS => ?_)
    obtain ⟨rfl, hq⟩ := hp_8
    subst w_7
    refine W.eq (g2 := F0 m 49 ls [.int (zi (decide (f 4 &&& 4 ≠ 0)))]) rfl ?_
    refine lv_if_ne (tgt := 74) hx hb d_M_takeAcross_49 (by decide) (fun c49 => ?_) (fun c49 => ?_)
    · exact z_vret cx.1 cx.2.1 cx.rt cx.lk hS hZ ⟨(Nat.le_of_ble_eq_true rfl), (Nat.le_of_ble_eq_true rfl)⟩ d_M_takeAcross_74 (by have e19 := dz_t c19; have e49 := dz_t c49; exact ⟨rfl, by rw [acH, if_pos e19, acD, if_pos e49]; exact hc_4, hF⟩)
    · refine lv_aload_n hx hb d_M_takeAcross_52 rfl (lv_at hl 0 rfl) ?_
      refine lv_aload_n hx hb d_M_takeAcross_53 rfl (lv_at hl 0 rfl) ?_
      refine gf_M_68 cx hZ hc_4 rfl d_M_takeAcross_54 ?_
      refine lv_aload_n hx hb d_M_takeAcross_57 rfl (lv_at hl 1 rfl) ?_
      refine gf_M_71 cx hZ hk_3 rfl d_M_takeAcross_58 ?_
      refine lv_i2l hx hb d_M_takeAcross_61 rfl ?_
      refine lv_aload_n hx hb d_M_takeAcross_62 rfl (lv_at hl 1 rfl) ?_
      refine gf_M_62 cx hZ hk_3 rfl d_M_takeAcross_63 ?_
      refine lv_i2l hx hb d_M_takeAcross_66 rfl ?_
      refine lv_ladd hx hb d_M_takeAcross_67 ?_
      refine mm_M_65 cx hl.1 d_M_takeAcross_68 (Nat.le_of_ble_eq_true rfl) (Nat.le_of_ble_eq_true rfl) (Nat.le_of_ble_eq_true rfl) (Nat.le_of_ble_eq_true rfl) ?_
      refine pf_M_68 cx hZ hS hc_4 (Nat.le_of_ble_eq_true rfl) d_M_takeAcross_71 (fun w_9 H locs hw_10 hZ hS => ?_)
      have hk_11 : w_9 i = some (.inr (1, [.int (f 0), .int (f 1), .int (f 2), .int (f 3), .int (f 4), .int (f 5), .int (f 6), .int (f 7), .int (f 8), .int (f 9), .int (f 10), .int (f 11)])) := up_ne hw_10 hk_3 (z_ne hk_3 hc_4 (by simp))
      have hF := hF.put hw_10 (Or.inl (by simp))
      have hc_12 : w_9 a = some (.inr (3, [.long (na + ((f 1).toInt64)), .long gr, .long he, .long (if (((f 3).toInt64) + ((f 9).toInt64)) < de then de else (((f 3).toInt64) + ((f 9).toInt64))), .ref q, .long sh, .int wi, .int ne])) := up_self hw_10
      exact z_vret cx.1 cx.2.1 cx.rt cx.lk hS hZ ⟨(Nat.le_of_ble_eq_true rfl), (Nat.le_of_ble_eq_true rfl)⟩ d_M_takeAcross_74 (by have e19 := dz_t c19; have e49 := dz_f c49; exact ⟨rfl, by rw [acH, if_pos e19, acD, if_neg e49]; exact hc_12, hF⟩)
  · refine lv_aload_n hx hb d_M_takeAcross_22 rfl (lv_at hl 0 rfl) ?_
    refine lv_aload_n hx hb d_M_takeAcross_23 rfl (lv_at hl 0 rfl) ?_
    refine gf_M_57 cx hZ hc_4 rfl d_M_takeAcross_24 ?_
    refine lv_aload_n hx hb d_M_takeAcross_27 rfl (lv_at hl 1 rfl) ?_
    refine gf_M_60 cx hZ hk_3 rfl d_M_takeAcross_28 ?_
    refine lv_i2l hx hb d_M_takeAcross_31 rfl ?_
    refine lv_aload_n hx hb d_M_takeAcross_32 rfl (lv_at hl 1 rfl) ?_
    refine gf_M_62 cx hZ hk_3 rfl d_M_takeAcross_33 ?_
    refine lv_i2l hx hb d_M_takeAcross_36 rfl ?_
    refine lv_lsub hx hb d_M_takeAcross_37 ?_
    refine mm_M_65 cx hl.1 d_M_takeAcross_38 (Nat.le_of_ble_eq_true rfl) (Nat.le_of_ble_eq_true rfl) (Nat.le_of_ble_eq_true rfl) (Nat.le_of_ble_eq_true rfl) ?_
    refine pf_M_57 cx hZ hS hc_4 (Nat.le_of_ble_eq_true rfl) d_M_takeAcross_41 (fun w_13 H locs hw_14 hZ hS => ?_)
    have hk_15 : w_13 i = some (.inr (1, [.int (f 0), .int (f 1), .int (f 2), .int (f 3), .int (f 4), .int (f 5), .int (f 6), .int (f 7), .int (f 8), .int (f 9), .int (f 10), .int (f 11)])) := up_ne hw_14 hk_3 (z_ne hk_3 hc_4 (by simp))
    have hF := hF.put hw_14 (Or.inl (by simp))
    have hc_16 : w_13 a = some (.inr (3, [.long (na + ((f 1).toInt64)), .long gr, .long (if (((f 2).toInt64) - ((f 9).toInt64)) < he then he else (((f 2).toInt64) - ((f 9).toInt64))), .long de, .ref q, .long sh, .int wi, .int ne])) := up_self hw_14
    refine lv_aload_n hx hb d_M_takeAcross_44 rfl (lv_at hl 1 rfl) ?_
    refine lv_iconst (v := 4) hx hb d_M_takeAcross_45 (by decide) ?_
    refine iv_M_53 (As := [.int 4]) (rest := []) cx (c_runs l G n0 e0 w_13 i f 4 hk_15) hk_15 ⟨(Nat.le_of_ble_eq_true rfl), (Nat.le_of_ble_eq_true rfl)⟩ ⟨(Nat.le_of_ble_eq_true rfl), (Nat.le_of_ble_eq_true rfl)⟩ rfl hl.1 rfl (Nat.le_of_ble_eq_true rfl) d_M_takeAcross_46 hZ hS (fun v w_17 H locs hp_18 hZ hS => ?_)
    obtain ⟨rfl, hq⟩ := hp_18
    subst w_17
    refine W.eq (g2 := F0 m 49 ls [.int (zi (decide (f 4 &&& 4 ≠ 0)))]) rfl ?_
    refine lv_if_ne (tgt := 74) hx hb d_M_takeAcross_49 (by decide) (fun c49 => ?_) (fun c49 => ?_)
    · exact z_vret cx.1 cx.2.1 cx.rt cx.lk hS hZ ⟨(Nat.le_of_ble_eq_true rfl), (Nat.le_of_ble_eq_true rfl)⟩ d_M_takeAcross_74 (by have e19 := dz_f c19; have e49 := dz_t c49; exact ⟨rfl, by rw [acH, if_neg e19, acD, if_pos e49]; exact hc_16, hF⟩)
    · refine lv_aload_n hx hb d_M_takeAcross_52 rfl (lv_at hl 0 rfl) ?_
      refine lv_aload_n hx hb d_M_takeAcross_53 rfl (lv_at hl 0 rfl) ?_
      refine gf_M_68 cx hZ hc_16 rfl d_M_takeAcross_54 ?_
      refine lv_aload_n hx hb d_M_takeAcross_57 rfl (lv_at hl 1 rfl) ?_
      refine gf_M_71 cx hZ hk_15 rfl d_M_takeAcross_58 ?_
      refine lv_i2l hx hb d_M_takeAcross_61 rfl ?_
      refine lv_aload_n hx hb d_M_takeAcross_62 rfl (lv_at hl 1 rfl) ?_
      refine gf_M_62 cx hZ hk_15 rfl d_M_takeAcross_63 ?_
      refine lv_i2l hx hb d_M_takeAcross_66 rfl ?_
      refine lv_ladd hx hb d_M_takeAcross_67 ?_
      refine mm_M_65 cx hl.1 d_M_takeAcross_68 (Nat.le_of_ble_eq_true rfl) (Nat.le_of_ble_eq_true rfl) (Nat.le_of_ble_eq_true rfl) (Nat.le_of_ble_eq_true rfl) ?_
      refine pf_M_68 cx hZ hS hc_16 (Nat.le_of_ble_eq_true rfl) d_M_takeAcross_71 (fun w_19 H locs hw_20 hZ hS => ?_)
      have hk_21 : w_19 i = some (.inr (1, [.int (f 0), .int (f 1), .int (f 2), .int (f 3), .int (f 4), .int (f 5), .int (f 6), .int (f 7), .int (f 8), .int (f 9), .int (f 10), .int (f 11)])) := up_ne hw_20 hk_15 (z_ne hk_15 hc_16 (by simp))
      have hF := hF.put hw_20 (Or.inl (by simp))
      have hc_22 : w_19 a = some (.inr (3, [.long (na + ((f 1).toInt64)), .long gr, .long (if (((f 2).toInt64) - ((f 9).toInt64)) < he then he else (((f 2).toInt64) - ((f 9).toInt64))), .long (if (((f 3).toInt64) + ((f 9).toInt64)) < de then de else (((f 3).toInt64) + ((f 9).toInt64))), .ref q, .long sh, .int wi, .int ne])) := up_self hw_20
      exact z_vret cx.1 cx.2.1 cx.rt cx.lk hS hZ ⟨(Nat.le_of_ble_eq_true rfl), (Nat.le_of_ble_eq_true rfl)⟩ d_M_takeAcross_74 (by have e19 := dz_f c19; have e49 := dz_f c49; exact ⟨rfl, by rw [acH, if_neg e19, acD, if_neg e49]; exact hc_22, hF⟩)
set_option maxHeartbeats 4000000 in
set_option maxRecDepth 100000 in
theorem c_takeDownwards (l : Launch) (G : zG) (n0 e0 : Nat) (w : zw) (a q : Nat) (na gr he de sh : Int64) (sf : Nat → Int64) (wi ne : Int32) (ha : w a = some (.inr (3, fM na gr he de (.ref q) sh wi ne))) (i : Nat) (f : Nat → Int32) (hi : w i = some (.inr (1, fI f)))  : Ct l G n0 e0 y_M_takeDownwards b_M_takeDownwards 2 (Option.none : Option FieldType) ({ frames := 1, cells := 0, slots := 0, locals := 21 }) [.ref a, .ref i] w (fun v w1 => v = none ∧ w1 a = some (.inr (3, fM (dwN f na de) (dwG f gr) he (dwD f) (.ref q) sh wi ne)) ∧ Fr [a] w w1) := by
  refine z_ct (by decide) (Nat.le_of_ble_eq_true rfl) ?_
  intro p e s m below meth c ls cx hnm hZ hS hl
  have hx := cx.1
  have hb := cx.2.1
  have hl : lv_has ls 2 [(0, .ref a), (1, .ref i)] := hl
  have hF : Fr [a] w w := Fr.rf
  refine lv_aload_n hx hb d_M_takeDownwards_0 rfl (lv_at hl 0 rfl) ?_
  refine lv_dup hx hb d_M_takeDownwards_1 rfl ?_
  refine gf_M_47 cx hZ ha rfl d_M_takeDownwards_2 ?_
  refine lv_aload_n hx hb d_M_takeDownwards_5 rfl (lv_at hl 0 rfl) ?_
  refine gf_M_68 cx hZ ha rfl d_M_takeDownwards_6 ?_
  refine lv_ladd hx hb d_M_takeDownwards_9 ?_
  refine pf_M_47 cx hZ hS ha (Nat.le_of_ble_eq_true rfl) d_M_takeDownwards_10 (fun w_1 H locs hw_2 hZ hS => ?_)
  have hk_3 : w_1 i = some (.inr (1, [.int (f 0), .int (f 1), .int (f 2), .int (f 3), .int (f 4), .int (f 5), .int (f 6), .int (f 7), .int (f 8), .int (f 9), .int (f 10), .int (f 11)])) := up_ne hw_2 hi (z_ne hi ha (by simp))
  have hF := hF.put hw_2 (Or.inl (by simp))
  have hc_4 : w_1 a = some (.inr (3, [.long (na + de), .long gr, .long he, .long de, .ref q, .long sh, .int wi, .int ne])) := up_self hw_2
  refine lv_aload_n hx hb d_M_takeDownwards_13 rfl (lv_at hl 0 rfl) ?_
  refine lv_lconst (v := 0) hx hb d_M_takeDownwards_14 (by decide) ?_
  refine pf_M_68 cx hZ hS hc_4 (Nat.le_of_ble_eq_true rfl) d_M_takeDownwards_15 (fun w_5 H locs hw_6 hZ hS => ?_)
  have hk_7 : w_5 i = some (.inr (1, [.int (f 0), .int (f 1), .int (f 2), .int (f 3), .int (f 4), .int (f 5), .int (f 6), .int (f 7), .int (f 8), .int (f 9), .int (f 10), .int (f 11)])) := up_ne hw_6 hk_3 (z_ne hk_3 hc_4 (by simp))
  have hF := hF.put hw_6 (Or.inl (by simp))
  have hc_8 : w_5 a = some (.inr (3, [.long (na + de), .long gr, .long he, .long 0, .ref q, .long sh, .int wi, .int ne])) := up_self hw_6
  refine lv_aload_n hx hb d_M_takeDownwards_18 rfl (lv_at hl 1 rfl) ?_
  refine iv_M_73 (As := []) (rest := []) cx (c_isBoxOrRule l G n0 e0 w_5 i f hk_7) hk_7 ⟨(Nat.le_of_ble_eq_true rfl), (Nat.le_of_ble_eq_true rfl)⟩ ⟨(Nat.le_of_ble_eq_true rfl), (Nat.le_of_ble_eq_true rfl)⟩ rfl hl.1 rfl (Nat.le_of_ble_eq_true rfl) d_M_takeDownwards_19 hZ hS (fun v w_9 H locs hp_10 hZ hS => ?_)
  obtain ⟨rfl, hq⟩ := hp_10
  subst w_9
  refine W.eq (g2 := F0 m 22 ls [.int (zi (decide (f 0 = 2 ∨ f 0 = 3 ∨ f 0 = 4)))]) rfl ?_
  refine lv_if_ne (tgt := 40) hx hb d_M_takeDownwards_22 (by decide) (fun c22 => ?_) (fun c22 => ?_)
  · refine lv_aload_n hx hb d_M_takeDownwards_40 rfl (lv_at hl 0 rfl) ?_
    refine lv_dup hx hb d_M_takeDownwards_41 rfl ?_
    refine gf_M_47 cx hZ hc_8 rfl d_M_takeDownwards_42 ?_
    refine lv_aload_n hx hb d_M_takeDownwards_45 rfl (lv_at hl 1 rfl) ?_
    refine gf_M_60 cx hZ hk_7 rfl d_M_takeDownwards_46 ?_
    refine lv_i2l hx hb d_M_takeDownwards_49 rfl ?_
    refine lv_ladd hx hb d_M_takeDownwards_50 ?_
    refine pf_M_47 cx hZ hS hc_8 (Nat.le_of_ble_eq_true rfl) d_M_takeDownwards_51 (fun w_11 H locs hw_12 hZ hS => ?_)
    have hk_13 : w_11 i = some (.inr (1, [.int (f 0), .int (f 1), .int (f 2), .int (f 3), .int (f 4), .int (f 5), .int (f 6), .int (f 7), .int (f 8), .int (f 9), .int (f 10), .int (f 11)])) := up_ne hw_12 hk_7 (z_ne hk_7 hc_8 (by simp))
    have hF := hF.put hw_12 (Or.inl (by simp))
    have hc_14 : w_11 a = some (.inr (3, [.long ((na + de) + ((f 2).toInt64)), .long gr, .long he, .long 0, .ref q, .long sh, .int wi, .int ne])) := up_self hw_12
    refine lv_aload_n hx hb d_M_takeDownwards_54 rfl (lv_at hl 0 rfl) ?_
    refine lv_aload_n hx hb d_M_takeDownwards_55 rfl (lv_at hl 1 rfl) ?_
    refine gf_M_71 cx hZ hk_13 rfl d_M_takeDownwards_56 ?_
    refine lv_i2l hx hb d_M_takeDownwards_59 rfl ?_
    refine pf_M_68 cx hZ hS hc_14 (Nat.le_of_ble_eq_true rfl) d_M_takeDownwards_60 (fun w_15 H locs hw_16 hZ hS => ?_)
    have hk_17 : w_15 i = some (.inr (1, [.int (f 0), .int (f 1), .int (f 2), .int (f 3), .int (f 4), .int (f 5), .int (f 6), .int (f 7), .int (f 8), .int (f 9), .int (f 10), .int (f 11)])) := up_ne hw_16 hk_13 (z_ne hk_13 hc_14 (by simp))
    have hF := hF.put hw_16 (Or.inl (by simp))
    have hc_18 : w_15 a = some (.inr (3, [.long ((na + de) + ((f 2).toInt64)), .long gr, .long he, .long ((f 3).toInt64), .ref q, .long sh, .int wi, .int ne])) := up_self hw_16
    refine lv_aload_n hx hb d_M_takeDownwards_63 rfl (lv_at hl 1 rfl) ?_
    refine lv_iconst (v := 1) hx hb d_M_takeDownwards_64 (by decide) ?_
    refine iv_M_53 (As := [.int 1]) (rest := []) cx (c_runs l G n0 e0 w_15 i f 1 hk_17) hk_17 ⟨(Nat.le_of_ble_eq_true rfl), (Nat.le_of_ble_eq_true rfl)⟩ ⟨(Nat.le_of_ble_eq_true rfl), (Nat.le_of_ble_eq_true rfl)⟩ rfl hl.1 rfl (Nat.le_of_ble_eq_true rfl) d_M_takeDownwards_65 hZ hS (fun v w_19 H locs hp_20 hZ hS => ?_)
    obtain ⟨rfl, hq⟩ := hp_20
    subst w_19
    refine W.eq (g2 := F0 m 68 ls [.int (zi (decide (f 4 &&& 1 ≠ 0)))]) rfl ?_
    refine lv_if_ne (tgt := 93) hx hb d_M_takeDownwards_68 (by decide) (fun c68 => ?_) (fun c68 => ?_)
    · exact z_vret cx.1 cx.2.1 cx.rt cx.lk hS hZ ⟨(Nat.le_of_ble_eq_true rfl), (Nat.le_of_ble_eq_true rfl)⟩ d_M_takeDownwards_93 (by have e22 := dz_t c22; have e68 := dz_t c68; exact ⟨rfl, by rw [dwN, dwD, dwG, if_pos e22, if_pos e22, if_pos e22, if_pos e68]; exact hc_18, hF⟩)
    · refine lv_aload_n hx hb d_M_takeDownwards_71 rfl (lv_at hl 0 rfl) ?_
      refine lv_aload_n hx hb d_M_takeDownwards_72 rfl (lv_at hl 0 rfl) ?_
      refine gf_M_77 cx hZ hc_18 rfl d_M_takeDownwards_73 ?_
      refine lv_aload_n hx hb d_M_takeDownwards_76 rfl (lv_at hl 1 rfl) ?_
      refine gf_M_50 cx hZ hk_17 rfl d_M_takeDownwards_77 ?_
      refine lv_i2l hx hb d_M_takeDownwards_80 rfl ?_
      refine lv_aload_n hx hb d_M_takeDownwards_81 rfl (lv_at hl 1 rfl) ?_
      refine gf_M_62 cx hZ hk_17 rfl d_M_takeDownwards_82 ?_
      refine lv_i2l hx hb d_M_takeDownwards_85 rfl ?_
      refine lv_ladd hx hb d_M_takeDownwards_86 ?_
      refine mm_M_65 cx hl.1 d_M_takeDownwards_87 (Nat.le_of_ble_eq_true rfl) (Nat.le_of_ble_eq_true rfl) (Nat.le_of_ble_eq_true rfl) (Nat.le_of_ble_eq_true rfl) ?_
      refine pf_M_77 cx hZ hS hc_18 (Nat.le_of_ble_eq_true rfl) d_M_takeDownwards_90 (fun w_21 H locs hw_22 hZ hS => ?_)
      have hk_23 : w_21 i = some (.inr (1, [.int (f 0), .int (f 1), .int (f 2), .int (f 3), .int (f 4), .int (f 5), .int (f 6), .int (f 7), .int (f 8), .int (f 9), .int (f 10), .int (f 11)])) := up_ne hw_22 hk_17 (z_ne hk_17 hc_18 (by simp))
      have hF := hF.put hw_22 (Or.inl (by simp))
      have hc_24 : w_21 a = some (.inr (3, [.long ((na + de) + ((f 2).toInt64)), .long (if (((f 1).toInt64) + ((f 9).toInt64)) < gr then gr else (((f 1).toInt64) + ((f 9).toInt64))), .long he, .long ((f 3).toInt64), .ref q, .long sh, .int wi, .int ne])) := up_self hw_22
      exact z_vret cx.1 cx.2.1 cx.rt cx.lk hS hZ ⟨(Nat.le_of_ble_eq_true rfl), (Nat.le_of_ble_eq_true rfl)⟩ d_M_takeDownwards_93 (by have e22 := dz_t c22; have e68 := dz_f c68; exact ⟨rfl, by rw [dwN, dwD, dwG, if_pos e22, if_pos e22, if_pos e22, if_neg e68]; exact hc_24, hF⟩)
  · refine lv_aload_n hx hb d_M_takeDownwards_25 rfl (lv_at hl 0 rfl) ?_
    refine lv_dup hx hb d_M_takeDownwards_26 rfl ?_
    refine gf_M_47 cx hZ hc_8 rfl d_M_takeDownwards_27 ?_
    refine lv_aload_n hx hb d_M_takeDownwards_30 rfl (lv_at hl 1 rfl) ?_
    refine gf_M_50 cx hZ hk_7 rfl d_M_takeDownwards_31 ?_
    refine lv_i2l hx hb d_M_takeDownwards_34 rfl ?_
    refine lv_ladd hx hb d_M_takeDownwards_35 ?_
    refine pf_M_47 cx hZ hS hc_8 (Nat.le_of_ble_eq_true rfl) d_M_takeDownwards_36 (fun w_25 H locs hw_26 hZ hS => ?_)
    have hk_27 : w_25 i = some (.inr (1, [.int (f 0), .int (f 1), .int (f 2), .int (f 3), .int (f 4), .int (f 5), .int (f 6), .int (f 7), .int (f 8), .int (f 9), .int (f 10), .int (f 11)])) := up_ne hw_26 hk_7 (z_ne hk_7 hc_8 (by simp))
    have hF := hF.put hw_26 (Or.inl (by simp))
    have hc_28 : w_25 a = some (.inr (3, [.long ((na + de) + ((f 1).toInt64)), .long gr, .long he, .long 0, .ref q, .long sh, .int wi, .int ne])) := up_self hw_26
    exact z_vret cx.1 cx.2.1 cx.rt cx.lk hS hZ ⟨(Nat.le_of_ble_eq_true rfl), (Nat.le_of_ble_eq_true rfl)⟩ d_M_takeDownwards_39 (by have e22 := dz_f c22; exact ⟨rfl, by rw [dwN, dwD, dwG, if_neg e22, if_neg e22, if_neg e22]; exact hc_28, hF⟩)
set_option maxHeartbeats 4000000 in
set_option maxRecDepth 100000 in
theorem c_limitDepth (l : Launch) (G : zG) (n0 e0 : Nat) (w : zw) (a q : Nat) (na gr he de sh : Int64) (sf : Nat → Int64) (wi ne : Int32) (lim : Int32) (ha : w a = some (.inr (3, fM na gr he de (.ref q) sh wi ne)))  : Ct l G n0 e0 y_M_limitDepth b_M_limitDepth 2 (Option.none : Option FieldType) ({ frames := 0, cells := 0, slots := 0, locals := 0 }) [.ref a, .int lim] w (fun v w1 => v = none ∧ w1 a = some (.inr (3, fM (if de ≤ lim.toInt64 then na else na + (de - lim.toInt64)) gr he (if de ≤ lim.toInt64 then de else lim.toInt64) (.ref q) sh wi ne)) ∧ Fr [a] w w1) := by
  refine z_ct (by decide) (Nat.le_of_ble_eq_true rfl) ?_
  intro p e s m below meth c ls cx hnm hZ hS hl
  have hx := cx.1
  have hb := cx.2.1
  have hl : lv_has ls 2 [(0, .ref a), (1, .int lim)] := hl
  have hF : Fr [a] w w := Fr.rf
  refine lv_aload_n hx hb d_M_limitDepth_0 rfl (lv_at hl 0 rfl) ?_
  refine gf_M_68 cx hZ ha rfl d_M_limitDepth_1 ?_
  refine lv_iload_n hx hb d_M_limitDepth_4 rfl (lv_at hl 1 rfl) ?_
  refine lv_i2l hx hb d_M_limitDepth_5 rfl ?_
  refine W.lcmp hx hb d_M_limitDepth_6 ?_
  refine lv_if_le (tgt := 32) hx hb d_M_limitDepth_7 (by decide) (fun c7 => ?_) (fun c7 => ?_)
  · have c7 := (lg_cmp_le _ _).mp c7
    exact z_vret cx.1 cx.2.1 cx.rt cx.lk hS hZ ⟨(Nat.le_of_ble_eq_true rfl), (Nat.le_of_ble_eq_true rfl)⟩ d_M_limitDepth_32 (⟨rfl, by rw [if_pos c7, if_pos c7]; exact ha, hF⟩)
  · have c7 := fun q => c7 ((lg_cmp_le _ _).mpr q)
    refine lv_aload_n hx hb d_M_limitDepth_10 rfl (lv_at hl 0 rfl) ?_
    refine lv_dup hx hb d_M_limitDepth_11 rfl ?_
    refine gf_M_47 cx hZ ha rfl d_M_limitDepth_12 ?_
    refine lv_aload_n hx hb d_M_limitDepth_15 rfl (lv_at hl 0 rfl) ?_
    refine gf_M_68 cx hZ ha rfl d_M_limitDepth_16 ?_
    refine lv_iload_n hx hb d_M_limitDepth_19 rfl (lv_at hl 1 rfl) ?_
    refine lv_i2l hx hb d_M_limitDepth_20 rfl ?_
    refine lv_lsub hx hb d_M_limitDepth_21 ?_
    refine lv_ladd hx hb d_M_limitDepth_22 ?_
    refine pf_M_47 cx hZ hS ha (Nat.le_of_ble_eq_true rfl) d_M_limitDepth_23 (fun w_1 H locs hw_2 hZ hS => ?_)
    have hF := hF.put hw_2 (Or.inl (by simp))
    have hc_3 : w_1 a = some (.inr (3, [.long (na + (de - lim.toInt64)), .long gr, .long he, .long de, .ref q, .long sh, .int wi, .int ne])) := up_self hw_2
    refine lv_aload_n hx hb d_M_limitDepth_26 rfl (lv_at hl 0 rfl) ?_
    refine lv_iload_n hx hb d_M_limitDepth_27 rfl (lv_at hl 1 rfl) ?_
    refine lv_i2l hx hb d_M_limitDepth_28 rfl ?_
    refine pf_M_68 cx hZ hS hc_3 (Nat.le_of_ble_eq_true rfl) d_M_limitDepth_29 (fun w_4 H locs hw_5 hZ hS => ?_)
    have hF := hF.put hw_5 (Or.inl (by simp))
    have hc_6 : w_4 a = some (.inr (3, [.long (na + (de - lim.toInt64)), .long gr, .long he, .long lim.toInt64, .ref q, .long sh, .int wi, .int ne])) := up_self hw_5
    exact z_vret cx.1 cx.2.1 cx.rt cx.lk hS hZ ⟨(Nat.le_of_ble_eq_true rfl), (Nat.le_of_ble_eq_true rfl)⟩ d_M_limitDepth_32 (⟨rfl, by rw [if_neg c7, if_neg c7]; exact hc_6, hF⟩)
set_option maxHeartbeats 4000000 in
set_option maxRecDepth 100000 in
theorem c_highestOrder (l : Launch) (G : zG) (n0 e0 : Nat) (w : zw) (a q : Nat) (na gr he de sh : Int64) (sf : Nat → Int64) (wi ne : Int32) (ha : w a = some (.inr (3, fM na gr he de (.ref q) sh wi ne))) (hq : w q = some (.inl (G.2 1, 4, .inr (.inl sf))))  : Ct l G n0 e0 y_M_highestOrder b_M_highestOrder 2 (Option.some FieldType.int) ({ frames := 0, cells := 0, slots := 0, locals := 0 }) [.ref a] w (fun v w1 => v = some (.int (hiO sf)) ∧ w1 = w) := by
  refine z_ct (by decide) (Nat.le_of_ble_eq_true rfl) ?_
  intro p e s m below meth c ls cx hnm hZ hS hl
  have hx := cx.1
  have hb := cx.2.1
  have hl : lv_has ls 2 [(0, .ref a)] := hl
  refine lv_iconst (v := 3) hx hb d_M_highestOrder_0 (by decide) ?_
  refine lv_istore_n (lv' := [(1, .int 3), (0, .ref a)]) hx hb d_M_highestOrder_1 rfl hl (by decide) rfl (fun ls hl => ?_)
  refine lv_iload_n hx hb d_M_highestOrder_2 rfl (lv_at hl 0 rfl) ?_
  refine lv_if_le (tgt := 23) hx hb d_M_highestOrder_3 (by decide) (fun c3 => ?_) (fun c3 => ?_)
  · exact absurd c3 (by decide)
  · refine lv_aload_n hx hb d_M_highestOrder_6 rfl (lv_at hl 1 rfl) ?_
    refine gf_M_9 cx hZ ha rfl d_M_highestOrder_7 ?_
    refine lv_iload_n hx hb d_M_highestOrder_10 rfl (lv_at hl 0 rfl) ?_
    refine ld_l cx hZ hq (by unfold vp_in; decide) d_M_highestOrder_11 ?_
    refine lv_lconst (v := 0) hx hb d_M_highestOrder_12 (by decide) ?_
    refine W.lcmp hx hb d_M_highestOrder_13 ?_
    refine lv_if_ne (tgt := 23) hx hb d_M_highestOrder_14 (by decide) (fun c14 => ?_) (fun c14 => ?_)
    · have c14 := fun q => c14 ((lg_cmp_eq _ _).mpr q)
      refine lv_iload_n hx hb d_M_highestOrder_23 rfl (lv_at hl 0 rfl) ?_
      exact z_iret cx.1 cx.2.1 cx.rt cx.lk hS hZ ⟨(Nat.le_of_ble_eq_true rfl), (Nat.le_of_ble_eq_true rfl)⟩ d_M_highestOrder_24 (⟨by rw [hiO, if_pos (show sf 3 ≠ 0 from c14)], rfl⟩)
    · have c14 := (lg_cmp_eq _ _).mp c14
      refine lv_iinc (v := 2) (lv' := [(1, .int 2), (0, .ref a)]) hx hb d_M_highestOrder_17 hl (k := 0) rfl (by decide) (by decide) rfl (fun ls hl => ?_)
      refine lv_goto (tgt := 2) hx hb d_M_highestOrder_20 (by decide) ?_
      refine lv_iload_n hx hb d_M_highestOrder_2 rfl (lv_at hl 0 rfl) ?_
      refine lv_if_le (tgt := 23) hx hb d_M_highestOrder_3 (by decide) (fun c3_1 => ?_) (fun c3_1 => ?_)
      · exact absurd c3_1 (by decide)
      · refine lv_aload_n hx hb d_M_highestOrder_6 rfl (lv_at hl 1 rfl) ?_
        refine gf_M_9 cx hZ ha rfl d_M_highestOrder_7 ?_
        refine lv_iload_n hx hb d_M_highestOrder_10 rfl (lv_at hl 0 rfl) ?_
        refine ld_l cx hZ hq (by unfold vp_in; decide) d_M_highestOrder_11 ?_
        refine lv_lconst (v := 0) hx hb d_M_highestOrder_12 (by decide) ?_
        refine W.lcmp hx hb d_M_highestOrder_13 ?_
        refine lv_if_ne (tgt := 23) hx hb d_M_highestOrder_14 (by decide) (fun c14_1 => ?_) (fun c14_1 => ?_)
        · have c14_1 := fun q => c14_1 ((lg_cmp_eq _ _).mpr q)
          refine lv_iload_n hx hb d_M_highestOrder_23 rfl (lv_at hl 0 rfl) ?_
          exact z_iret cx.1 cx.2.1 cx.rt cx.lk hS hZ ⟨(Nat.le_of_ble_eq_true rfl), (Nat.le_of_ble_eq_true rfl)⟩ d_M_highestOrder_24 (⟨by rw [hiO, if_neg (show ¬ sf 3 ≠ 0 from fun z => z c14), if_pos (show sf 2 ≠ 0 from c14_1)], rfl⟩)
        · have c14_1 := (lg_cmp_eq _ _).mp c14_1
          refine lv_iinc (v := 1) (lv' := [(1, .int 1), (0, .ref a)]) hx hb d_M_highestOrder_17 hl (k := 0) rfl (by decide) (by decide) rfl (fun ls hl => ?_)
          refine lv_goto (tgt := 2) hx hb d_M_highestOrder_20 (by decide) ?_
          refine lv_iload_n hx hb d_M_highestOrder_2 rfl (lv_at hl 0 rfl) ?_
          refine lv_if_le (tgt := 23) hx hb d_M_highestOrder_3 (by decide) (fun c3_2 => ?_) (fun c3_2 => ?_)
          · exact absurd c3_2 (by decide)
          · refine lv_aload_n hx hb d_M_highestOrder_6 rfl (lv_at hl 1 rfl) ?_
            refine gf_M_9 cx hZ ha rfl d_M_highestOrder_7 ?_
            refine lv_iload_n hx hb d_M_highestOrder_10 rfl (lv_at hl 0 rfl) ?_
            refine ld_l cx hZ hq (by unfold vp_in; decide) d_M_highestOrder_11 ?_
            refine lv_lconst (v := 0) hx hb d_M_highestOrder_12 (by decide) ?_
            refine W.lcmp hx hb d_M_highestOrder_13 ?_
            refine lv_if_ne (tgt := 23) hx hb d_M_highestOrder_14 (by decide) (fun c14_2 => ?_) (fun c14_2 => ?_)
            · have c14_2 := fun q => c14_2 ((lg_cmp_eq _ _).mpr q)
              refine lv_iload_n hx hb d_M_highestOrder_23 rfl (lv_at hl 0 rfl) ?_
              exact z_iret cx.1 cx.2.1 cx.rt cx.lk hS hZ ⟨(Nat.le_of_ble_eq_true rfl), (Nat.le_of_ble_eq_true rfl)⟩ d_M_highestOrder_24 (⟨by rw [hiO, if_neg (show ¬ sf 3 ≠ 0 from fun z => z c14), if_neg (show ¬ sf 2 ≠ 0 from fun z => z c14_1), if_pos (show sf 1 ≠ 0 from c14_2)], rfl⟩)
            · have c14_2 := (lg_cmp_eq _ _).mp c14_2
              refine lv_iinc (v := 0) (lv' := [(1, .int 0), (0, .ref a)]) hx hb d_M_highestOrder_17 hl (k := 0) rfl (by decide) (by decide) rfl (fun ls hl => ?_)
              refine lv_goto (tgt := 2) hx hb d_M_highestOrder_20 (by decide) ?_
              refine lv_iload_n hx hb d_M_highestOrder_2 rfl (lv_at hl 0 rfl) ?_
              refine lv_if_le (tgt := 23) hx hb d_M_highestOrder_3 (by decide) (fun c3_3 => ?_) (fun c3_3 => ?_)
              · refine lv_iload_n hx hb d_M_highestOrder_23 rfl (lv_at hl 0 rfl) ?_
                exact z_iret cx.1 cx.2.1 cx.rt cx.lk hS hZ ⟨(Nat.le_of_ble_eq_true rfl), (Nat.le_of_ble_eq_true rfl)⟩ d_M_highestOrder_24 (⟨by rw [hiO, if_neg (show ¬ sf 3 ≠ 0 from fun z => z c14), if_neg (show ¬ sf 2 ≠ 0 from fun z => z c14_1), if_neg (show ¬ sf 1 ≠ 0 from fun z => z c14_2)], rfl⟩)
              · exact absurd c3_3 (by decide)
set_option maxHeartbeats 4000000 in
set_option maxRecDepth 100000 in
theorem c_canBeBoxed (l : Launch) (G : zG) (n0 e0 : Nat) (w : zw) (a q : Nat) (na gr he de sh : Int64) (sf : Nat → Int64) (wi ne : Int32) (ha : w a = some (.inr (3, fM na gr he de (.ref q) sh wi ne))) (hq : w q = some (.inl (G.2 1, 4, .inr (.inl sf))))  : Ct l G n0 e0 y_M_canBeBoxed b_M_canBeBoxed 2 (Option.some FieldType.boolean) ({ frames := 1, cells := 0, slots := 0, locals := 21 }) [.ref a] w (fun v w1 => v = some (.int (zi (canB na gr he de sh sf ne))) ∧ w1 = w) := by
  refine z_ct (by decide) (Nat.le_of_ble_eq_true rfl) ?_
  intro p e s m below meth c ls cx hnm hZ hS hl
  have hx := cx.1
  have hb := cx.2.1
  have hl : lv_has ls 2 [(0, .ref a)] := hl
  refine lv_iconst (v := 0) hx hb d_M_canBeBoxed_0 (by decide) ?_
  refine lv_istore_n (lv' := [(1, .int 0), (0, .ref a)]) hx hb d_M_canBeBoxed_1 rfl hl (by decide) rfl (fun ls hl => ?_)
  refine lv_iload_n hx hb d_M_canBeBoxed_2 rfl (lv_at hl 0 rfl) ?_
  refine lv_iconst (v := 4) hx hb d_M_canBeBoxed_3 (by decide) ?_
  refine lv_icmp_ge (tgt := 27) hx hb d_M_canBeBoxed_4 (by decide) (fun c4 => ?_) (fun c4 => ?_)
  · exact absurd c4 (by decide)
  · refine lv_aload_n hx hb d_M_canBeBoxed_7 rfl (lv_at hl 1 rfl) ?_
    refine gf_M_9 cx hZ ha rfl d_M_canBeBoxed_8 ?_
    refine lv_iload_n hx hb d_M_canBeBoxed_11 rfl (lv_at hl 0 rfl) ?_
    refine ld_l cx hZ hq (by unfold vp_in; decide) d_M_canBeBoxed_12 ?_
    refine is_M_80 (As := [.long (sf (0 : Int32).toNatClampNeg)]) (rest := []) cx (c_isSize l G n0 e0 (sf (0 : Int32).toNatClampNeg) w) ⟨(Nat.le_of_ble_eq_true rfl), (Nat.le_of_ble_eq_true rfl)⟩ ⟨(Nat.le_of_ble_eq_true rfl), (Nat.le_of_ble_eq_true rfl)⟩ rfl hl.1 rfl (Nat.le_of_ble_eq_true rfl) d_M_canBeBoxed_13 hZ hS (fun v w_1 H locs hp_2 hZ hS => ?_)
    obtain ⟨rfl, hq⟩ := hp_2
    subst w_1
    refine W.eq (g2 := F0 m 16 ls [.int (zi (szL (sf (0 : Int32).toNatClampNeg)))]) rfl ?_
    refine lv_if_ne (tgt := 21) hx hb d_M_canBeBoxed_16 (by decide) (fun c16 => ?_) (fun c16 => ?_)
    · refine lv_iinc (v := 1) (lv' := [(1, .int 1), (0, .ref a)]) hx hb d_M_canBeBoxed_21 hl (k := 0) rfl (by decide) (by decide) rfl (fun ls hl => ?_)
      refine lv_goto (tgt := 2) hx hb d_M_canBeBoxed_24 (by decide) ?_
      refine lv_iload_n hx hb d_M_canBeBoxed_2 rfl (lv_at hl 0 rfl) ?_
      refine lv_iconst (v := 4) hx hb d_M_canBeBoxed_3 (by decide) ?_
      refine lv_icmp_ge (tgt := 27) hx hb d_M_canBeBoxed_4 (by decide) (fun c4_1 => ?_) (fun c4_1 => ?_)
      · exact absurd c4_1 (by decide)
      · refine lv_aload_n hx hb d_M_canBeBoxed_7 rfl (lv_at hl 1 rfl) ?_
        refine gf_M_9 cx hZ ha rfl d_M_canBeBoxed_8 ?_
        refine lv_iload_n hx hb d_M_canBeBoxed_11 rfl (lv_at hl 0 rfl) ?_
        refine ld_l cx hZ hq (by unfold vp_in; decide) d_M_canBeBoxed_12 ?_
        refine is_M_80 (As := [.long (sf (1 : Int32).toNatClampNeg)]) (rest := []) cx (c_isSize l G n0 e0 (sf (1 : Int32).toNatClampNeg) w) ⟨(Nat.le_of_ble_eq_true rfl), (Nat.le_of_ble_eq_true rfl)⟩ ⟨(Nat.le_of_ble_eq_true rfl), (Nat.le_of_ble_eq_true rfl)⟩ rfl hl.1 rfl (Nat.le_of_ble_eq_true rfl) d_M_canBeBoxed_13 hZ hS (fun v w_3 H locs hp_4 hZ hS => ?_)
        obtain ⟨rfl, hq⟩ := hp_4
        subst w_3
        refine W.eq (g2 := F0 m 16 ls [.int (zi (szL (sf (1 : Int32).toNatClampNeg)))]) rfl ?_
        refine lv_if_ne (tgt := 21) hx hb d_M_canBeBoxed_16 (by decide) (fun c16_1 => ?_) (fun c16_1 => ?_)
        · refine lv_iinc (v := 2) (lv' := [(1, .int 2), (0, .ref a)]) hx hb d_M_canBeBoxed_21 hl (k := 0) rfl (by decide) (by decide) rfl (fun ls hl => ?_)
          refine lv_goto (tgt := 2) hx hb d_M_canBeBoxed_24 (by decide) ?_
          refine lv_iload_n hx hb d_M_canBeBoxed_2 rfl (lv_at hl 0 rfl) ?_
          refine lv_iconst (v := 4) hx hb d_M_canBeBoxed_3 (by decide) ?_
          refine lv_icmp_ge (tgt := 27) hx hb d_M_canBeBoxed_4 (by decide) (fun c4_2 => ?_) (fun c4_2 => ?_)
          · exact absurd c4_2 (by decide)
          · refine lv_aload_n hx hb d_M_canBeBoxed_7 rfl (lv_at hl 1 rfl) ?_
            refine gf_M_9 cx hZ ha rfl d_M_canBeBoxed_8 ?_
            refine lv_iload_n hx hb d_M_canBeBoxed_11 rfl (lv_at hl 0 rfl) ?_
            refine ld_l cx hZ hq (by unfold vp_in; decide) d_M_canBeBoxed_12 ?_
            refine is_M_80 (As := [.long (sf (2 : Int32).toNatClampNeg)]) (rest := []) cx (c_isSize l G n0 e0 (sf (2 : Int32).toNatClampNeg) w) ⟨(Nat.le_of_ble_eq_true rfl), (Nat.le_of_ble_eq_true rfl)⟩ ⟨(Nat.le_of_ble_eq_true rfl), (Nat.le_of_ble_eq_true rfl)⟩ rfl hl.1 rfl (Nat.le_of_ble_eq_true rfl) d_M_canBeBoxed_13 hZ hS (fun v w_5 H locs hp_6 hZ hS => ?_)
            obtain ⟨rfl, hq⟩ := hp_6
            subst w_5
            refine W.eq (g2 := F0 m 16 ls [.int (zi (szL (sf (2 : Int32).toNatClampNeg)))]) rfl ?_
            refine lv_if_ne (tgt := 21) hx hb d_M_canBeBoxed_16 (by decide) (fun c16_2 => ?_) (fun c16_2 => ?_)
            · refine lv_iinc (v := 3) (lv' := [(1, .int 3), (0, .ref a)]) hx hb d_M_canBeBoxed_21 hl (k := 0) rfl (by decide) (by decide) rfl (fun ls hl => ?_)
              refine lv_goto (tgt := 2) hx hb d_M_canBeBoxed_24 (by decide) ?_
              refine lv_iload_n hx hb d_M_canBeBoxed_2 rfl (lv_at hl 0 rfl) ?_
              refine lv_iconst (v := 4) hx hb d_M_canBeBoxed_3 (by decide) ?_
              refine lv_icmp_ge (tgt := 27) hx hb d_M_canBeBoxed_4 (by decide) (fun c4_3 => ?_) (fun c4_3 => ?_)
              · exact absurd c4_3 (by decide)
              · refine lv_aload_n hx hb d_M_canBeBoxed_7 rfl (lv_at hl 1 rfl) ?_
                refine gf_M_9 cx hZ ha rfl d_M_canBeBoxed_8 ?_
                refine lv_iload_n hx hb d_M_canBeBoxed_11 rfl (lv_at hl 0 rfl) ?_
                refine ld_l cx hZ hq (by unfold vp_in; decide) d_M_canBeBoxed_12 ?_
                refine is_M_80 (As := [.long (sf (3 : Int32).toNatClampNeg)]) (rest := []) cx (c_isSize l G n0 e0 (sf (3 : Int32).toNatClampNeg) w) ⟨(Nat.le_of_ble_eq_true rfl), (Nat.le_of_ble_eq_true rfl)⟩ ⟨(Nat.le_of_ble_eq_true rfl), (Nat.le_of_ble_eq_true rfl)⟩ rfl hl.1 rfl (Nat.le_of_ble_eq_true rfl) d_M_canBeBoxed_13 hZ hS (fun v w_7 H locs hp_8 hZ hS => ?_)
                obtain ⟨rfl, hq⟩ := hp_8
                subst w_7
                refine W.eq (g2 := F0 m 16 ls [.int (zi (szL (sf (3 : Int32).toNatClampNeg)))]) rfl ?_
                refine lv_if_ne (tgt := 21) hx hb d_M_canBeBoxed_16 (by decide) (fun c16_3 => ?_) (fun c16_3 => ?_)
                · refine lv_iinc (v := 4) (lv' := [(1, .int 4), (0, .ref a)]) hx hb d_M_canBeBoxed_21 hl (k := 0) rfl (by decide) (by decide) rfl (fun ls hl => ?_)
                  refine lv_goto (tgt := 2) hx hb d_M_canBeBoxed_24 (by decide) ?_
                  refine lv_iload_n hx hb d_M_canBeBoxed_2 rfl (lv_at hl 0 rfl) ?_
                  refine lv_iconst (v := 4) hx hb d_M_canBeBoxed_3 (by decide) ?_
                  refine lv_icmp_ge (tgt := 27) hx hb d_M_canBeBoxed_4 (by decide) (fun c4_4 => ?_) (fun c4_4 => ?_)
                  · refine lv_aload_n hx hb d_M_canBeBoxed_27 rfl (lv_at hl 1 rfl) ?_
                    refine gf_M_47 cx hZ ha rfl d_M_canBeBoxed_28 ?_
                    refine is_M_80 (As := [.long na]) (rest := []) cx (c_isSize l G n0 e0 na w) ⟨(Nat.le_of_ble_eq_true rfl), (Nat.le_of_ble_eq_true rfl)⟩ ⟨(Nat.le_of_ble_eq_true rfl), (Nat.le_of_ble_eq_true rfl)⟩ rfl hl.1 rfl (Nat.le_of_ble_eq_true rfl) d_M_canBeBoxed_31 hZ hS (fun v w_9 H locs hp_10 hZ hS => ?_)
                    obtain ⟨rfl, hq⟩ := hp_10
                    subst w_9
                    refine W.eq (g2 := F0 m 34 ls [.int (zi (szL na))]) rfl ?_
                    refine lv_if_eq (tgt := 90) hx hb d_M_canBeBoxed_34 (by decide) (fun c34 => ?_) (fun c34 => ?_)
                    · refine lv_iconst (v := 0) hx hb d_M_canBeBoxed_90 (by decide) ?_
                      exact z_zret cx.1 cx.2.1 cx.rt cx.lk (by first | rfl | (simp [narrow]; done) | simp_all [narrow]) hS hZ ⟨(Nat.le_of_ble_eq_true rfl), (Nat.le_of_ble_eq_true rfl)⟩ d_M_canBeBoxed_91 (by have e_c16 : szL (sf 0) = true := (zi_n0 _).mp c16; have e_c16_1 : szL (sf 1) = true := (zi_n0 _).mp c16_1; have e_c16_2 : szL (sf 2) = true := (zi_n0 _).mp c16_2; have e_c16_3 : szL (sf 3) = true := (zi_n0 _).mp c16_3; have e_c34 : szL (na) = false := (zi_0 _).mp c34; exact ⟨by simp [canB, e_c16, e_c16_1, e_c16_2, e_c16_3, e_c34, zi], rfl⟩)
                    · refine lv_aload_n hx hb d_M_canBeBoxed_37 rfl (lv_at hl 1 rfl) ?_
                      refine gf_M_24 cx hZ ha rfl d_M_canBeBoxed_38 ?_
                      refine is_M_80 (As := [.long sh]) (rest := []) cx (c_isSize l G n0 e0 sh w) ⟨(Nat.le_of_ble_eq_true rfl), (Nat.le_of_ble_eq_true rfl)⟩ ⟨(Nat.le_of_ble_eq_true rfl), (Nat.le_of_ble_eq_true rfl)⟩ rfl hl.1 rfl (Nat.le_of_ble_eq_true rfl) d_M_canBeBoxed_41 hZ hS (fun v w_11 H locs hp_12 hZ hS => ?_)
                      obtain ⟨rfl, hq⟩ := hp_12
                      subst w_11
                      refine W.eq (g2 := F0 m 44 ls [.int (zi (szL sh))]) rfl ?_
                      refine lv_if_eq (tgt := 90) hx hb d_M_canBeBoxed_44 (by decide) (fun c44 => ?_) (fun c44 => ?_)
                      · refine lv_iconst (v := 0) hx hb d_M_canBeBoxed_90 (by decide) ?_
                        exact z_zret cx.1 cx.2.1 cx.rt cx.lk (by first | rfl | (simp [narrow]; done) | simp_all [narrow]) hS hZ ⟨(Nat.le_of_ble_eq_true rfl), (Nat.le_of_ble_eq_true rfl)⟩ d_M_canBeBoxed_91 (by have e_c16 : szL (sf 0) = true := (zi_n0 _).mp c16; have e_c16_1 : szL (sf 1) = true := (zi_n0 _).mp c16_1; have e_c16_2 : szL (sf 2) = true := (zi_n0 _).mp c16_2; have e_c16_3 : szL (sf 3) = true := (zi_n0 _).mp c16_3; have e_c34 : szL (na) = true := (zi_n0 _).mp c34; have e_c44 : szL (sh) = false := (zi_0 _).mp c44; exact ⟨by simp [canB, e_c16, e_c16_1, e_c16_2, e_c16_3, e_c34, e_c44, zi], rfl⟩)
                      · refine lv_aload_n hx hb d_M_canBeBoxed_47 rfl (lv_at hl 1 rfl) ?_
                        refine gf_M_35 cx hZ ha rfl d_M_canBeBoxed_48 ?_
                        refine lv_bipush (v := 100) hx hb d_M_canBeBoxed_51 (by decide) ?_
                        refine lv_icmp_ge (tgt := 90) hx hb d_M_canBeBoxed_53 (by decide) (fun c53 => ?_) (fun c53 => ?_)
                        · refine lv_iconst (v := 0) hx hb d_M_canBeBoxed_90 (by decide) ?_
                          exact z_zret cx.1 cx.2.1 cx.rt cx.lk (by first | rfl | (simp [narrow]; done) | simp_all [narrow]) hS hZ ⟨(Nat.le_of_ble_eq_true rfl), (Nat.le_of_ble_eq_true rfl)⟩ d_M_canBeBoxed_91 (by have e_c16 : szL (sf 0) = true := (zi_n0 _).mp c16; have e_c16_1 : szL (sf 1) = true := (zi_n0 _).mp c16_1; have e_c16_2 : szL (sf 2) = true := (zi_n0 _).mp c16_2; have e_c16_3 : szL (sf 3) = true := (zi_n0 _).mp c16_3; have e_c34 : szL (na) = true := (zi_n0 _).mp c34; have e_c44 : szL (sh) = true := (zi_n0 _).mp c44; have e53 : decide (ne < 100) = false := decide_eq_false (fun z => absurd z (Int32.not_lt.mpr c53)); exact ⟨by simp [canB, e_c16, e_c16_1, e_c16_2, e_c16_3, e_c34, e_c44, e53, zi], rfl⟩)
                        · refine lv_aload_n hx hb d_M_canBeBoxed_56 rfl (lv_at hl 1 rfl) ?_
                          refine gf_M_77 cx hZ ha rfl d_M_canBeBoxed_57 ?_
                          refine is_M_80 (As := [.long gr]) (rest := []) cx (c_isSize l G n0 e0 gr w) ⟨(Nat.le_of_ble_eq_true rfl), (Nat.le_of_ble_eq_true rfl)⟩ ⟨(Nat.le_of_ble_eq_true rfl), (Nat.le_of_ble_eq_true rfl)⟩ rfl hl.1 rfl (Nat.le_of_ble_eq_true rfl) d_M_canBeBoxed_60 hZ hS (fun v w_13 H locs hp_14 hZ hS => ?_)
                          obtain ⟨rfl, hq⟩ := hp_14
                          subst w_13
                          refine W.eq (g2 := F0 m 63 ls [.int (zi (szL gr))]) rfl ?_
                          refine lv_if_eq (tgt := 90) hx hb d_M_canBeBoxed_63 (by decide) (fun c63 => ?_) (fun c63 => ?_)
                          · refine lv_iconst (v := 0) hx hb d_M_canBeBoxed_90 (by decide) ?_
                            exact z_zret cx.1 cx.2.1 cx.rt cx.lk (by first | rfl | (simp [narrow]; done) | simp_all [narrow]) hS hZ ⟨(Nat.le_of_ble_eq_true rfl), (Nat.le_of_ble_eq_true rfl)⟩ d_M_canBeBoxed_91 (by have e_c16 : szL (sf 0) = true := (zi_n0 _).mp c16; have e_c16_1 : szL (sf 1) = true := (zi_n0 _).mp c16_1; have e_c16_2 : szL (sf 2) = true := (zi_n0 _).mp c16_2; have e_c16_3 : szL (sf 3) = true := (zi_n0 _).mp c16_3; have e_c34 : szL (na) = true := (zi_n0 _).mp c34; have e_c44 : szL (sh) = true := (zi_n0 _).mp c44; have e53 : decide (ne < 100) = true := decide_eq_true (Int32.not_le.mp c53); have e_c63 : szL (gr) = false := (zi_0 _).mp c63; exact ⟨by simp [canB, e_c16, e_c16_1, e_c16_2, e_c16_3, e_c34, e_c44, e53, e_c63, zi], rfl⟩)
                          · refine lv_aload_n hx hb d_M_canBeBoxed_66 rfl (lv_at hl 1 rfl) ?_
                            refine gf_M_57 cx hZ ha rfl d_M_canBeBoxed_67 ?_
                            refine is_M_80 (As := [.long he]) (rest := []) cx (c_isSize l G n0 e0 he w) ⟨(Nat.le_of_ble_eq_true rfl), (Nat.le_of_ble_eq_true rfl)⟩ ⟨(Nat.le_of_ble_eq_true rfl), (Nat.le_of_ble_eq_true rfl)⟩ rfl hl.1 rfl (Nat.le_of_ble_eq_true rfl) d_M_canBeBoxed_70 hZ hS (fun v w_15 H locs hp_16 hZ hS => ?_)
                            obtain ⟨rfl, hq⟩ := hp_16
                            subst w_15
                            refine W.eq (g2 := F0 m 73 ls [.int (zi (szL he))]) rfl ?_
                            refine lv_if_eq (tgt := 90) hx hb d_M_canBeBoxed_73 (by decide) (fun c73 => ?_) (fun c73 => ?_)
                            · refine lv_iconst (v := 0) hx hb d_M_canBeBoxed_90 (by decide) ?_
                              exact z_zret cx.1 cx.2.1 cx.rt cx.lk (by first | rfl | (simp [narrow]; done) | simp_all [narrow]) hS hZ ⟨(Nat.le_of_ble_eq_true rfl), (Nat.le_of_ble_eq_true rfl)⟩ d_M_canBeBoxed_91 (by have e_c16 : szL (sf 0) = true := (zi_n0 _).mp c16; have e_c16_1 : szL (sf 1) = true := (zi_n0 _).mp c16_1; have e_c16_2 : szL (sf 2) = true := (zi_n0 _).mp c16_2; have e_c16_3 : szL (sf 3) = true := (zi_n0 _).mp c16_3; have e_c34 : szL (na) = true := (zi_n0 _).mp c34; have e_c44 : szL (sh) = true := (zi_n0 _).mp c44; have e53 : decide (ne < 100) = true := decide_eq_true (Int32.not_le.mp c53); have e_c63 : szL (gr) = true := (zi_n0 _).mp c63; have e_c73 : szL (he) = false := (zi_0 _).mp c73; exact ⟨by simp [canB, e_c16, e_c16_1, e_c16_2, e_c16_3, e_c34, e_c44, e53, e_c63, e_c73, zi], rfl⟩)
                            · refine lv_aload_n hx hb d_M_canBeBoxed_76 rfl (lv_at hl 1 rfl) ?_
                              refine gf_M_68 cx hZ ha rfl d_M_canBeBoxed_77 ?_
                              refine is_M_80 (As := [.long de]) (rest := []) cx (c_isSize l G n0 e0 de w) ⟨(Nat.le_of_ble_eq_true rfl), (Nat.le_of_ble_eq_true rfl)⟩ ⟨(Nat.le_of_ble_eq_true rfl), (Nat.le_of_ble_eq_true rfl)⟩ rfl hl.1 rfl (Nat.le_of_ble_eq_true rfl) d_M_canBeBoxed_80 hZ hS (fun v w_17 H locs hp_18 hZ hS => ?_)
                              obtain ⟨rfl, hq⟩ := hp_18
                              subst w_17
                              refine W.eq (g2 := F0 m 83 ls [.int (zi (szL de))]) rfl ?_
                              refine lv_if_eq (tgt := 90) hx hb d_M_canBeBoxed_83 (by decide) (fun c83 => ?_) (fun c83 => ?_)
                              · refine lv_iconst (v := 0) hx hb d_M_canBeBoxed_90 (by decide) ?_
                                exact z_zret cx.1 cx.2.1 cx.rt cx.lk (by first | rfl | (simp [narrow]; done) | simp_all [narrow]) hS hZ ⟨(Nat.le_of_ble_eq_true rfl), (Nat.le_of_ble_eq_true rfl)⟩ d_M_canBeBoxed_91 (by have e_c16 : szL (sf 0) = true := (zi_n0 _).mp c16; have e_c16_1 : szL (sf 1) = true := (zi_n0 _).mp c16_1; have e_c16_2 : szL (sf 2) = true := (zi_n0 _).mp c16_2; have e_c16_3 : szL (sf 3) = true := (zi_n0 _).mp c16_3; have e_c34 : szL (na) = true := (zi_n0 _).mp c34; have e_c44 : szL (sh) = true := (zi_n0 _).mp c44; have e53 : decide (ne < 100) = true := decide_eq_true (Int32.not_le.mp c53); have e_c63 : szL (gr) = true := (zi_n0 _).mp c63; have e_c73 : szL (he) = true := (zi_n0 _).mp c73; have e_c83 : szL (de) = false := (zi_0 _).mp c83; exact ⟨by simp [canB, e_c16, e_c16_1, e_c16_2, e_c16_3, e_c34, e_c44, e53, e_c63, e_c73, e_c83, zi], rfl⟩)
                              · refine lv_iconst (v := 1) hx hb d_M_canBeBoxed_86 (by decide) ?_
                                refine lv_goto (tgt := 91) hx hb d_M_canBeBoxed_87 (by decide) ?_
                                exact z_zret cx.1 cx.2.1 cx.rt cx.lk (by first | rfl | (simp [narrow]; done) | simp_all [narrow]) hS hZ ⟨(Nat.le_of_ble_eq_true rfl), (Nat.le_of_ble_eq_true rfl)⟩ d_M_canBeBoxed_91 (by have e_c16 : szL (sf 0) = true := (zi_n0 _).mp c16; have e_c16_1 : szL (sf 1) = true := (zi_n0 _).mp c16_1; have e_c16_2 : szL (sf 2) = true := (zi_n0 _).mp c16_2; have e_c16_3 : szL (sf 3) = true := (zi_n0 _).mp c16_3; have e_c34 : szL (na) = true := (zi_n0 _).mp c34; have e_c44 : szL (sh) = true := (zi_n0 _).mp c44; have e53 : decide (ne < 100) = true := decide_eq_true (Int32.not_le.mp c53); have e_c63 : szL (gr) = true := (zi_n0 _).mp c63; have e_c73 : szL (he) = true := (zi_n0 _).mp c73; have e_c83 : szL (de) = true := (zi_n0 _).mp c83; exact ⟨by simp [canB, e_c16, e_c16_1, e_c16_2, e_c16_3, e_c34, e_c44, e53, e_c63, e_c73, e_c83, zi], rfl⟩)
                  · exact absurd c4_4 (by decide)
                · refine lv_iconst (v := 0) hx hb d_M_canBeBoxed_19 (by decide) ?_
                  exact z_zret cx.1 cx.2.1 cx.rt cx.lk (by first | rfl | (simp [narrow]; done) | simp_all [narrow]) hS hZ ⟨(Nat.le_of_ble_eq_true rfl), (Nat.le_of_ble_eq_true rfl)⟩ d_M_canBeBoxed_20 (by have e_c16 : szL (sf 0) = true := (zi_n0 _).mp c16; have e_c16_1 : szL (sf 1) = true := (zi_n0 _).mp c16_1; have e_c16_2 : szL (sf 2) = true := (zi_n0 _).mp c16_2; have e_c16_3 : szL (sf 3) = false := (zi_0 _).mp c16_3; exact ⟨by simp [canB, e_c16, e_c16_1, e_c16_2, e_c16_3, zi], rfl⟩)
            · refine lv_iconst (v := 0) hx hb d_M_canBeBoxed_19 (by decide) ?_
              exact z_zret cx.1 cx.2.1 cx.rt cx.lk (by first | rfl | (simp [narrow]; done) | simp_all [narrow]) hS hZ ⟨(Nat.le_of_ble_eq_true rfl), (Nat.le_of_ble_eq_true rfl)⟩ d_M_canBeBoxed_20 (by have e_c16 : szL (sf 0) = true := (zi_n0 _).mp c16; have e_c16_1 : szL (sf 1) = true := (zi_n0 _).mp c16_1; have e_c16_2 : szL (sf 2) = false := (zi_0 _).mp c16_2; exact ⟨by simp [canB, e_c16, e_c16_1, e_c16_2, zi], rfl⟩)
        · refine lv_iconst (v := 0) hx hb d_M_canBeBoxed_19 (by decide) ?_
          exact z_zret cx.1 cx.2.1 cx.rt cx.lk (by first | rfl | (simp [narrow]; done) | simp_all [narrow]) hS hZ ⟨(Nat.le_of_ble_eq_true rfl), (Nat.le_of_ble_eq_true rfl)⟩ d_M_canBeBoxed_20 (by have e_c16 : szL (sf 0) = true := (zi_n0 _).mp c16; have e_c16_1 : szL (sf 1) = false := (zi_0 _).mp c16_1; exact ⟨by simp [canB, e_c16, e_c16_1, zi], rfl⟩)
    · refine lv_iconst (v := 0) hx hb d_M_canBeBoxed_19 (by decide) ?_
      exact z_zret cx.1 cx.2.1 cx.rt cx.lk (by first | rfl | (simp [narrow]; done) | simp_all [narrow]) hS hZ ⟨(Nat.le_of_ble_eq_true rfl), (Nat.le_of_ble_eq_true rfl)⟩ d_M_canBeBoxed_20 (by have e_c16 : szL (sf 0) = false := (zi_0 _).mp c16; exact ⟨by simp [canB, e_c16, zi], rfl⟩)
set_option maxHeartbeats 4000000 in
set_option maxRecDepth 100000 in
theorem c_Pr_checkIndex (l : Launch) (G : zG) (n0 e0 : Nat) (w : zw) (i n : Int32) (h0 : ¬ i < 0) (h1 : i < n) : Ct l G n0 e0 y_Pr_checkIndex b_Pr_checkIndex 3 (Option.some FieldType.int) ({ frames := 0, cells := 0, slots := 0, locals := 0 }) [.int i, .int n, .null] w (fun v w1 => v = some (.int i) ∧ w1 = w) := by
  refine z_ct (by decide) (Nat.le_of_ble_eq_true rfl) ?_
  intro p e s m below meth c ls cx hnm hZ hS hl
  have hx := cx.1
  have hb := cx.2.1
  have hl : lv_has ls 3 [(0, .int i), (1, .int n), (2, .null)] := hl
  refine lv_iload_n hx hb d_Pr_checkIndex_0 rfl (lv_at hl 0 rfl) ?_
  refine lv_if_lt (tgt := 9) hx hb d_Pr_checkIndex_1 (by decide) (fun c1 => ?_) (fun c1 => ?_)
  · exact absurd c1 h0
  · refine lv_iload_n hx hb d_Pr_checkIndex_4 rfl (lv_at hl 0 rfl) ?_
    refine lv_iload_n hx hb d_Pr_checkIndex_5 rfl (lv_at hl 1 rfl) ?_
    refine lv_icmp_lt (tgt := 16) hx hb d_Pr_checkIndex_6 (by decide) (fun c6 => ?_) (fun c6 => ?_)
    · refine lv_iload_n hx hb d_Pr_checkIndex_16 rfl (lv_at hl 0 rfl) ?_
      exact z_iret cx.1 cx.2.1 cx.rt cx.lk hS hZ ⟨(Nat.le_of_ble_eq_true rfl), (Nat.le_of_ble_eq_true rfl)⟩ d_Pr_checkIndex_17 (⟨rfl, rfl⟩)
    · exact absurd h1 c6
set_option maxHeartbeats 4000000 in
set_option maxRecDepth 100000 in
theorem c_Ob_checkIndex (l : Launch) (G : zG) (n0 e0 : Nat) (w : zw) (i n : Int32) (h0 : ¬ i < 0) (h1 : i < n) : Ct l G n0 e0 y_Ob_checkIndex b_Ob_checkIndex 2 (Option.some FieldType.int) ({ frames := 1, cells := 0, slots := 0, locals := 22 }) [.int i, .int n] w (fun v w1 => v = some (.int i) ∧ w1 = w) := by
  refine z_ct (by decide) (Nat.le_of_ble_eq_true rfl) ?_
  intro p e s m below meth c ls cx hnm hZ hS hl
  have hx := cx.1
  have hb := cx.2.1
  have hl : lv_has ls 2 [(0, .int i), (1, .int n)] := hl
  refine lv_iload_n hx hb d_Ob_checkIndex_0 rfl (lv_at hl 0 rfl) ?_
  refine lv_iload_n hx hb d_Ob_checkIndex_1 rfl (lv_at hl 1 rfl) ?_
  refine lv_null hx hb d_Ob_checkIndex_2 ?_
  refine is_Ob_105 (As := [.int i, .int n, .null]) (rest := []) cx (c_Pr_checkIndex l G n0 e0 w i n h0 h1) ⟨(Nat.le_of_ble_eq_true rfl), (Nat.le_of_ble_eq_true rfl)⟩ ⟨(Nat.le_of_ble_eq_true rfl), (Nat.le_of_ble_eq_true rfl)⟩ rfl hl.1 rfl (Nat.le_of_ble_eq_true rfl) d_Ob_checkIndex_3 hZ hS (fun v w_1 H locs hp_2 hZ hS => ?_)
  obtain ⟨rfl, hq⟩ := hp_2
  subst w_1
  refine W.eq (g2 := F0 m 6 ls [.int i]) rfl ?_
  exact z_iret cx.1 cx.2.1 cx.rt cx.lk hS hZ ⟨(Nat.le_of_ble_eq_true rfl), (Nat.le_of_ble_eq_true rfl)⟩ d_Ob_checkIndex_6 (⟨rfl, rfl⟩)
set_option maxHeartbeats 4000000 in
set_option maxRecDepth 100000 in
theorem c_A_elementData (l : Launch) (G : zG) (n0 e0 : Nat) (w : zw) (a ar cap : Nat) (md n : Int32) (fa : Nat → Option Nat) (ha : w a = some (.inr (0, fA md (.ref ar) n))) (har : w ar = some (.inl (G.2 3, cap, .inr (.inr (.inr (.inr fa)))))) (i : Int32) (x : Nat) (hin : vp_in i cap) (hfx : fa i.toNatClampNeg = some x) : Ct l G n0 e0 y_A_elementData b_A_elementData 2 (Option.some (FieldType.object "java/lang/Object")) ({ frames := 0, cells := 0, slots := 0, locals := 0 }) [.ref a, .int i] w (fun v w1 => v = some (.ref x) ∧ w1 = w) := by
  refine z_ct (by decide) (Nat.le_of_ble_eq_true rfl) ?_
  intro p e s m below meth c ls cx hnm hZ hS hl
  have hx := cx.1
  have hb := cx.2.1
  have hl : lv_has ls 2 [(0, .ref a), (1, .int i)] := hl
  refine lv_aload_n hx hb d_A_elementData_0 rfl (lv_at hl 0 rfl) ?_
  refine gf_A_9 cx hZ ha rfl d_A_elementData_1 ?_
  refine lv_iload_n hx hb d_A_elementData_4 rfl (lv_at hl 1 rfl) ?_
  refine ld_q3 cx hZ har hin d_A_elementData_5 ?_
  rw [show fa i.toNatClampNeg = some x from hfx]
  refine W.eq (g2 := F0 m 6 ls [.ref x]) rfl ?_
  exact z_aret cx.1 cx.2.1 cx.rt cx.lk (by first | exact Or.inl ⟨_, rfl⟩ | exact Or.inr ⟨_, rfl⟩) (by first | exact Or.inl rfl | exact Or.inr ⟨_, rfl⟩) hS hZ ⟨(Nat.le_of_ble_eq_true rfl), (Nat.le_of_ble_eq_true rfl)⟩ d_A_elementData_6 (⟨rfl, rfl⟩)
set_option maxHeartbeats 4000000 in
set_option maxRecDepth 100000 in
theorem c_A_get (l : Launch) (G : zG) (n0 e0 : Nat) (w : zw) (a ar cap : Nat) (md n : Int32) (fa : Nat → Option Nat) (ha : w a = some (.inr (0, fA md (.ref ar) n))) (har : w ar = some (.inl (G.2 3, cap, .inr (.inr (.inr (.inr fa)))))) (i : Int32) (x : Nat) (h0 : ¬ i < 0) (h1 : i < n) (hin : vp_in i cap) (hfx : fa i.toNatClampNeg = some x) : Ct l G n0 e0 y_A_get b_A_get 2 (Option.some (FieldType.object "java/lang/Object")) ({ frames := 2, cells := 0, slots := 0, locals := 43 }) [.ref a, .int i] w (fun v w1 => v = some (.ref x) ∧ w1 = w) := by
  refine z_ct (by decide) (Nat.le_of_ble_eq_true rfl) ?_
  intro p e s m below meth c ls cx hnm hZ hS hl
  have hx := cx.1
  have hb := cx.2.1
  have hl : lv_has ls 2 [(0, .ref a), (1, .int i)] := hl
  refine lv_iload_n hx hb d_A_get_0 rfl (lv_at hl 1 rfl) ?_
  refine lv_aload_n hx hb d_A_get_1 rfl (lv_at hl 0 rfl) ?_
  refine gf_A_48 cx hZ ha rfl d_A_get_2 ?_
  refine is_A_118 (As := [.int i, .int n]) (rest := []) cx (c_Ob_checkIndex l G n0 e0 w i n h0 h1) ⟨(Nat.le_of_ble_eq_true rfl), (Nat.le_of_ble_eq_true rfl)⟩ ⟨(Nat.le_of_ble_eq_true rfl), (Nat.le_of_ble_eq_true rfl)⟩ rfl hl.1 rfl (Nat.le_of_ble_eq_true rfl) d_A_get_5 hZ hS (fun v w_1 H locs hp_2 hZ hS => ?_)
  obtain ⟨rfl, hq⟩ := hp_2
  subst w_1
  refine W.eq (g2 := F0 m 8 ls [.int i]) rfl ?_
  refine lv_pop hx hb d_A_get_8 rfl ?_
  refine lv_aload_n hx hb d_A_get_9 rfl (lv_at hl 0 rfl) ?_
  refine lv_iload_n hx hb d_A_get_10 rfl (lv_at hl 1 rfl) ?_
  refine iv_A_123 (As := [.int i]) (rest := []) cx (c_A_elementData l G n0 e0 w a ar cap md n fa ha har i x hin hfx) ha ⟨(Nat.le_of_ble_eq_true rfl), (Nat.le_of_ble_eq_true rfl)⟩ ⟨(Nat.le_of_ble_eq_true rfl), (Nat.le_of_ble_eq_true rfl)⟩ rfl hl.1 rfl (Nat.le_of_ble_eq_true rfl) d_A_get_11 hZ hS (fun v w_3 H locs hp_4 hZ hS => ?_)
  obtain ⟨rfl, hq⟩ := hp_4
  subst w_3
  refine W.eq (g2 := F0 m 14 ls [.ref x]) rfl ?_
  exact z_aret cx.1 cx.2.1 cx.rt cx.lk (by first | exact Or.inl ⟨_, rfl⟩ | exact Or.inr ⟨_, rfl⟩) (by first | exact Or.inl rfl | exact Or.inr ⟨_, rfl⟩) hS hZ ⟨(Nat.le_of_ble_eq_true rfl), (Nat.le_of_ble_eq_true rfl)⟩ d_A_get_14 (⟨rfl, rfl⟩)
