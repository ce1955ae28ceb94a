def mzL (na he de wd sh : Int64) : Nat → Int64 := fun i => match i with | 0 => na | 1 => he | 2 => de | 3 => wd | _ => sh
/-- stretches and shrinks of the first items -/
def gl (F : Nat → Nat → Int32) (ps : Nat → Nat) (T0 : Nat → Int64) : Nat → (Nat → Int64) × Int64
  | 0 => (T0, 0)
  | j + 1 => if F 0 (ps j) = 5 then (vp_updL (gl F ps T0 j).1 (F 5 (ps j)).toNatClampNeg ((gl F ps T0 j).1 (F 5 (ps j)).toNatClampNeg + (F 4 (ps j)).toInt64), (gl F ps T0 j).2 + (F 6 (ps j)).toInt64) else gl F ps T0 j
def z4 (T : Nat → Int64) : Nat → Int64 := vp_updL (vp_updL (vp_updL (vp_updL T (0 : Int32).toNatClampNeg 0) (1 : Int32).toNatClampNeg 0) (2 : Int32).toNatClampNeg 0) (3 : Int32).toNatClampNeg 0
theorem gl_t {F : Nat → Nat → Int32} {ps : Nat → Nat} {T0 : Nat → Int64} {j : Nat} (h : F 0 (ps j) = 5) : gl F ps T0 (j + 1) = (vp_updL (gl F ps T0 j).1 (F 5 (ps j)).toNatClampNeg ((gl F ps T0 j).1 (F 5 (ps j)).toNatClampNeg + (F 4 (ps j)).toInt64), (gl F ps T0 j).2 + (F 6 (ps j)).toInt64) := by rw [gl, if_pos h]
theorem gl_f {F : Nat → Nat → Int32} {ps : Nat → Nat} {T0 : Nat → Int64} {j : Nat} (h : ¬ F 0 (ps j) = 5) : gl F ps T0 (j + 1) = gl F ps T0 j := by rw [gl, if_neg h]
set_option maxHeartbeats 4000000 in
set_option maxRecDepth 100000 in
theorem r_measure (l : Launch) (G : zG) (n0 e0 : Nat) (w : zw) (o : Nat) (A : Nat → Nat) (S : Nat → Int32) (L : Nat → Int64) (F : Nat → Nat → Int32) (M : Nat → Int64) (B V Z : Nat → Int32) (T : Nat → Int64) (hr : RA G w o A S L F M B V Z T) (hA : ∀ i j, i < 13 → j < 13 → i ≠ j → A i ≠ A j) (ps : Nat → Nat) (n : Nat) (hps : SP (F 8) ps n) (hpe : ps n ≤ 8000) (hen : S 2 = nI (ps n)) (hor : ∀ j, j < n → F 0 (ps j) = 5 → vp_in (F 5 (ps j)) 4)  : Ct l G n0 e0 y_R_measure b_R_measure 3 (Option.none : Option FieldType) ({ frames := 0, cells := 0, slots := 0, locals := 0 }) [.ref o, .int (nI (ps 0))] w (fun v w1 => v = none ∧ RA G w1 o A S (mzL 0 0 0 0 (gl F ps (z4 T) n).2) F M B V Z (gl F ps (z4 T) n).1 ∧ Fr (allR o A) w w1) := by
  refine z_ct (by decide) (Nat.le_of_ble_eq_true rfl) ?_
  intro p e s m below meth c ls cx hnm hZ hS hl
  have hx := cx.1
  have hb := cx.2.1
  have hl : lv_has ls 3 [(0, .ref o), (1, .int (nI (ps 0)))] := hl
  obtain ⟨ho, ⟨h0, h1, h2, h3, h4, h5, h6, h7, h8⟩, h9, h10, h11, h12⟩ := id hr
  have hF : Fr [o, (A 0), (A 1), (A 2), (A 3), (A 4), (A 5), (A 6), (A 7), (A 8), (A 9), (A 10), (A 11), (A 12)] w w := Fr.rf
  refine lv_aload_n hx hb d_R_measure_0 rfl (lv_at hl 0 rfl) ?_
  refine lv_lconst (v := 0) hx hb d_R_measure_1 (by decide) ?_
  refine pf_R_90 cx hZ hS ho (Nat.le_of_ble_eq_true rfl) d_R_measure_2 (fun w_1 H locs hw_2 hZ hS => ?_)
  have hk_3 : w_1 (A 0) = some (.inl (G.2 0, 8200, .inl (F 0))) := up_ne hw_2 h0 (z_ne h0 ho (by simp))
  have hk_4 : w_1 (A 1) = some (.inl (G.2 0, 8200, .inl (F 1))) := up_ne hw_2 h1 (z_ne h1 ho (by simp))
  have hk_5 : w_1 (A 2) = some (.inl (G.2 0, 8200, .inl (F 2))) := up_ne hw_2 h2 (z_ne h2 ho (by simp))
  have hk_6 : w_1 (A 3) = some (.inl (G.2 0, 8200, .inl (F 3))) := up_ne hw_2 h3 (z_ne h3 ho (by simp))
  have hk_7 : w_1 (A 4) = some (.inl (G.2 0, 8200, .inl (F 4))) := up_ne hw_2 h4 (z_ne h4 ho (by simp))
  have hk_8 : w_1 (A 5) = some (.inl (G.2 0, 8200, .inl (F 5))) := up_ne hw_2 h5 (z_ne h5 ho (by simp))
  have hk_9 : w_1 (A 6) = some (.inl (G.2 0, 8200, .inl (F 6))) := up_ne hw_2 h6 (z_ne h6 ho (by simp))
  have hk_10 : w_1 (A 7) = some (.inl (G.2 1, 8200, .inr (.inl M))) := up_ne hw_2 h7 (z_ne h7 ho (by simp))
  have hk_11 : w_1 (A 8) = some (.inl (G.2 0, 8200, .inl (F 8))) := up_ne hw_2 h8 (z_ne h8 ho (by simp))
  have hk_12 : w_1 (A 9) = some (.inl (G.2 0, 101, .inl B)) := up_ne hw_2 h9 (z_ne h9 ho (by simp))
  have hk_13 : w_1 (A 10) = some (.inl (G.2 2, 101, .inl V)) := up_ne hw_2 h10 (z_ne h10 ho (by simp))
  have hk_14 : w_1 (A 11) = some (.inl (G.2 0, 16, .inl Z)) := up_ne hw_2 h11 (z_ne h11 ho (by simp))
  have hk_15 : w_1 (A 12) = some (.inl (G.2 1, 4, .inr (.inl T))) := up_ne hw_2 h12 (z_ne h12 ho (by simp))
  have hF := hF.put hw_2 (Or.inl (by simp))
  have hc_16 : w_1 o = some (.inr (6, [.int (S 0), .ref (A 0), .ref (A 1), .ref (A 2), .ref (A 3), .ref (A 4), .ref (A 5), .ref (A 6), .ref (A 7), .ref (A 8), .int (S 1), .ref (A 9), .ref (A 10), .int (S 2), .ref (A 11), .long 0, .long (L 1), .long (L 2), .long (L 3), .ref (A 12), .long (L 4)])) := up_self hw_2
  refine lv_aload_n hx hb d_R_measure_5 rfl (lv_at hl 0 rfl) ?_
  refine lv_lconst (v := 0) hx hb d_R_measure_6 (by decide) ?_
  refine pf_R_94 cx hZ hS hc_16 (Nat.le_of_ble_eq_true rfl) d_R_measure_7 (fun w_17 H locs hw_18 hZ hS => ?_)
  have hk_19 : w_17 (A 0) = some (.inl (G.2 0, 8200, .inl (F 0))) := up_ne hw_18 hk_3 (z_ne hk_3 hc_16 (by simp))
  have hk_20 : w_17 (A 1) = some (.inl (G.2 0, 8200, .inl (F 1))) := up_ne hw_18 hk_4 (z_ne hk_4 hc_16 (by simp))
  have hk_21 : w_17 (A 2) = some (.inl (G.2 0, 8200, .inl (F 2))) := up_ne hw_18 hk_5 (z_ne hk_5 hc_16 (by simp))
  have hk_22 : w_17 (A 3) = some (.inl (G.2 0, 8200, .inl (F 3))) := up_ne hw_18 hk_6 (z_ne hk_6 hc_16 (by simp))
  have hk_23 : w_17 (A 4) = some (.inl (G.2 0, 8200, .inl (F 4))) := up_ne hw_18 hk_7 (z_ne hk_7 hc_16 (by simp))
  have hk_24 : w_17 (A 5) = some (.inl (G.2 0, 8200, .inl (F 5))) := up_ne hw_18 hk_8 (z_ne hk_8 hc_16 (by simp))
  have hk_25 : w_17 (A 6) = some (.inl (G.2 0, 8200, .inl (F 6))) := up_ne hw_18 hk_9 (z_ne hk_9 hc_16 (by simp))
  have hk_26 : w_17 (A 7) = some (.inl (G.2 1, 8200, .inr (.inl M))) := up_ne hw_18 hk_10 (z_ne hk_10 hc_16 (by simp))
  have hk_27 : w_17 (A 8) = some (.inl (G.2 0, 8200, .inl (F 8))) := up_ne hw_18 hk_11 (z_ne hk_11 hc_16 (by simp))
  have hk_28 : w_17 (A 9) = some (.inl (G.2 0, 101, .inl B)) := up_ne hw_18 hk_12 (z_ne hk_12 hc_16 (by simp))
  have hk_29 : w_17 (A 10) = some (.inl (G.2 2, 101, .inl V)) := up_ne hw_18 hk_13 (z_ne hk_13 hc_16 (by simp))
  have hk_30 : w_17 (A 11) = some (.inl (G.2 0, 16, .inl Z)) := up_ne hw_18 hk_14 (z_ne hk_14 hc_16 (by simp))
  have hk_31 : w_17 (A 12) = some (.inl (G.2 1, 4, .inr (.inl T))) := up_ne hw_18 hk_15 (z_ne hk_15 hc_16 (by simp))
  have hF := hF.put hw_18 (Or.inl (by simp))
  have hc_32 : w_17 o = some (.inr (6, [.int (S 0), .ref (A 0), .ref (A 1), .ref (A 2), .ref (A 3), .ref (A 4), .ref (A 5), .ref (A 6), .ref (A 7), .ref (A 8), .int (S 1), .ref (A 9), .ref (A 10), .int (S 2), .ref (A 11), .long 0, .long 0, .long (L 2), .long (L 3), .ref (A 12), .long (L 4)])) := up_self hw_18
  refine lv_aload_n hx hb d_R_measure_10 rfl (lv_at hl 0 rfl) ?_
  refine lv_lconst (v := 0) hx hb d_R_measure_11 (by decide) ?_
  refine pf_R_97 cx hZ hS hc_32 (Nat.le_of_ble_eq_true rfl) d_R_measure_12 (fun w_33 H locs hw_34 hZ hS => ?_)
  have hk_35 : w_33 (A 0) = some (.inl (G.2 0, 8200, .inl (F 0))) := up_ne hw_34 hk_19 (z_ne hk_19 hc_32 (by simp))
  have hk_36 : w_33 (A 1) = some (.inl (G.2 0, 8200, .inl (F 1))) := up_ne hw_34 hk_20 (z_ne hk_20 hc_32 (by simp))
  have hk_37 : w_33 (A 2) = some (.inl (G.2 0, 8200, .inl (F 2))) := up_ne hw_34 hk_21 (z_ne hk_21 hc_32 (by simp))
  have hk_38 : w_33 (A 3) = some (.inl (G.2 0, 8200, .inl (F 3))) := up_ne hw_34 hk_22 (z_ne hk_22 hc_32 (by simp))
  have hk_39 : w_33 (A 4) = some (.inl (G.2 0, 8200, .inl (F 4))) := up_ne hw_34 hk_23 (z_ne hk_23 hc_32 (by simp))
  have hk_40 : w_33 (A 5) = some (.inl (G.2 0, 8200, .inl (F 5))) := up_ne hw_34 hk_24 (z_ne hk_24 hc_32 (by simp))
  have hk_41 : w_33 (A 6) = some (.inl (G.2 0, 8200, .inl (F 6))) := up_ne hw_34 hk_25 (z_ne hk_25 hc_32 (by simp))
  have hk_42 : w_33 (A 7) = some (.inl (G.2 1, 8200, .inr (.inl M))) := up_ne hw_34 hk_26 (z_ne hk_26 hc_32 (by simp))
  have hk_43 : w_33 (A 8) = some (.inl (G.2 0, 8200, .inl (F 8))) := up_ne hw_34 hk_27 (z_ne hk_27 hc_32 (by simp))
  have hk_44 : w_33 (A 9) = some (.inl (G.2 0, 101, .inl B)) := up_ne hw_34 hk_28 (z_ne hk_28 hc_32 (by simp))
  have hk_45 : w_33 (A 10) = some (.inl (G.2 2, 101, .inl V)) := up_ne hw_34 hk_29 (z_ne hk_29 hc_32 (by simp))
  have hk_46 : w_33 (A 11) = some (.inl (G.2 0, 16, .inl Z)) := up_ne hw_34 hk_30 (z_ne hk_30 hc_32 (by simp))
  have hk_47 : w_33 (A 12) = some (.inl (G.2 1, 4, .inr (.inl T))) := up_ne hw_34 hk_31 (z_ne hk_31 hc_32 (by simp))
  have hF := hF.put hw_34 (Or.inl (by simp))
  have hc_48 : w_33 o = some (.inr (6, [.int (S 0), .ref (A 0), .ref (A 1), .ref (A 2), .ref (A 3), .ref (A 4), .ref (A 5), .ref (A 6), .ref (A 7), .ref (A 8), .int (S 1), .ref (A 9), .ref (A 10), .int (S 2), .ref (A 11), .long 0, .long 0, .long 0, .long (L 3), .ref (A 12), .long (L 4)])) := up_self hw_34
  refine lv_aload_n hx hb d_R_measure_15 rfl (lv_at hl 0 rfl) ?_
  refine lv_lconst (v := 0) hx hb d_R_measure_16 (by decide) ?_
  refine pf_R_100 cx hZ hS hc_48 (Nat.le_of_ble_eq_true rfl) d_R_measure_17 (fun w_49 H locs hw_50 hZ hS => ?_)
  have hk_51 : w_49 (A 0) = some (.inl (G.2 0, 8200, .inl (F 0))) := up_ne hw_50 hk_35 (z_ne hk_35 hc_48 (by simp))
  have hk_52 : w_49 (A 1) = some (.inl (G.2 0, 8200, .inl (F 1))) := up_ne hw_50 hk_36 (z_ne hk_36 hc_48 (by simp))
  have hk_53 : w_49 (A 2) = some (.inl (G.2 0, 8200, .inl (F 2))) := up_ne hw_50 hk_37 (z_ne hk_37 hc_48 (by simp))
  have hk_54 : w_49 (A 3) = some (.inl (G.2 0, 8200, .inl (F 3))) := up_ne hw_50 hk_38 (z_ne hk_38 hc_48 (by simp))
  have hk_55 : w_49 (A 4) = some (.inl (G.2 0, 8200, .inl (F 4))) := up_ne hw_50 hk_39 (z_ne hk_39 hc_48 (by simp))
  have hk_56 : w_49 (A 5) = some (.inl (G.2 0, 8200, .inl (F 5))) := up_ne hw_50 hk_40 (z_ne hk_40 hc_48 (by simp))
  have hk_57 : w_49 (A 6) = some (.inl (G.2 0, 8200, .inl (F 6))) := up_ne hw_50 hk_41 (z_ne hk_41 hc_48 (by simp))
  have hk_58 : w_49 (A 7) = some (.inl (G.2 1, 8200, .inr (.inl M))) := up_ne hw_50 hk_42 (z_ne hk_42 hc_48 (by simp))
  have hk_59 : w_49 (A 8) = some (.inl (G.2 0, 8200, .inl (F 8))) := up_ne hw_50 hk_43 (z_ne hk_43 hc_48 (by simp))
  have hk_60 : w_49 (A 9) = some (.inl (G.2 0, 101, .inl B)) := up_ne hw_50 hk_44 (z_ne hk_44 hc_48 (by simp))
  have hk_61 : w_49 (A 10) = some (.inl (G.2 2, 101, .inl V)) := up_ne hw_50 hk_45 (z_ne hk_45 hc_48 (by simp))
  have hk_62 : w_49 (A 11) = some (.inl (G.2 0, 16, .inl Z)) := up_ne hw_50 hk_46 (z_ne hk_46 hc_48 (by simp))
  have hk_63 : w_49 (A 12) = some (.inl (G.2 1, 4, .inr (.inl T))) := up_ne hw_50 hk_47 (z_ne hk_47 hc_48 (by simp))
  have hF := hF.put hw_50 (Or.inl (by simp))
  have hc_64 : w_49 o = some (.inr (6, [.int (S 0), .ref (A 0), .ref (A 1), .ref (A 2), .ref (A 3), .ref (A 4), .ref (A 5), .ref (A 6), .ref (A 7), .ref (A 8), .int (S 1), .ref (A 9), .ref (A 10), .int (S 2), .ref (A 11), .long 0, .long 0, .long 0, .long 0, .ref (A 12), .long (L 4)])) := up_self hw_50
  refine lv_aload_n hx hb d_R_measure_20 rfl (lv_at hl 0 rfl) ?_
  refine lv_lconst (v := 0) hx hb d_R_measure_21 (by decide) ?_
  refine pf_R_103 cx hZ hS hc_64 (Nat.le_of_ble_eq_true rfl) d_R_measure_22 (fun w_65 H locs hw_66 hZ hS => ?_)
  have hk_67 : w_65 (A 0) = some (.inl (G.2 0, 8200, .inl (F 0))) := up_ne hw_66 hk_51 (z_ne hk_51 hc_64 (by simp))
  have hk_68 : w_65 (A 1) = some (.inl (G.2 0, 8200, .inl (F 1))) := up_ne hw_66 hk_52 (z_ne hk_52 hc_64 (by simp))
  have hk_69 : w_65 (A 2) = some (.inl (G.2 0, 8200, .inl (F 2))) := up_ne hw_66 hk_53 (z_ne hk_53 hc_64 (by simp))
  have hk_70 : w_65 (A 3) = some (.inl (G.2 0, 8200, .inl (F 3))) := up_ne hw_66 hk_54 (z_ne hk_54 hc_64 (by simp))
  have hk_71 : w_65 (A 4) = some (.inl (G.2 0, 8200, .inl (F 4))) := up_ne hw_66 hk_55 (z_ne hk_55 hc_64 (by simp))
  have hk_72 : w_65 (A 5) = some (.inl (G.2 0, 8200, .inl (F 5))) := up_ne hw_66 hk_56 (z_ne hk_56 hc_64 (by simp))
  have hk_73 : w_65 (A 6) = some (.inl (G.2 0, 8200, .inl (F 6))) := up_ne hw_66 hk_57 (z_ne hk_57 hc_64 (by simp))
  have hk_74 : w_65 (A 7) = some (.inl (G.2 1, 8200, .inr (.inl M))) := up_ne hw_66 hk_58 (z_ne hk_58 hc_64 (by simp))
  have hk_75 : w_65 (A 8) = some (.inl (G.2 0, 8200, .inl (F 8))) := up_ne hw_66 hk_59 (z_ne hk_59 hc_64 (by simp))
  have hk_76 : w_65 (A 9) = some (.inl (G.2 0, 101, .inl B)) := up_ne hw_66 hk_60 (z_ne hk_60 hc_64 (by simp))
  have hk_77 : w_65 (A 10) = some (.inl (G.2 2, 101, .inl V)) := up_ne hw_66 hk_61 (z_ne hk_61 hc_64 (by simp))
  have hk_78 : w_65 (A 11) = some (.inl (G.2 0, 16, .inl Z)) := up_ne hw_66 hk_62 (z_ne hk_62 hc_64 (by simp))
  have hk_79 : w_65 (A 12) = some (.inl (G.2 1, 4, .inr (.inl T))) := up_ne hw_66 hk_63 (z_ne hk_63 hc_64 (by simp))
  have hF := hF.put hw_66 (Or.inl (by simp))
  have hc_80 : w_65 o = some (.inr (6, [.int (S 0), .ref (A 0), .ref (A 1), .ref (A 2), .ref (A 3), .ref (A 4), .ref (A 5), .ref (A 6), .ref (A 7), .ref (A 8), .int (S 1), .ref (A 9), .ref (A 10), .int (S 2), .ref (A 11), .long 0, .long 0, .long 0, .long 0, .ref (A 12), .long 0])) := up_self hw_66
  refine lv_iconst (v := 0) hx hb d_R_measure_25 (by decide) ?_
  refine lv_istore_n (lv' := [(2, .int 0), (0, .ref o), (1, .int (nI (ps 0)))]) hx hb d_R_measure_26 rfl hl (by decide) rfl (fun ls hl => ?_)
  refine lv_iload_n hx hb d_R_measure_27 rfl (lv_at hl 0 rfl) ?_
  refine lv_iconst (v := 4) hx hb d_R_measure_28 (by decide) ?_
  refine lv_icmp_ge (tgt := 45) hx hb d_R_measure_29 (by decide) (fun c29 => ?_) (fun c29 => ?_)
  · exact absurd c29 (by decide)
  · refine lv_aload_n hx hb d_R_measure_32 rfl (lv_at hl 1 rfl) ?_
    refine gf_R_48 cx hZ hc_80 rfl d_R_measure_33 ?_
    refine lv_iload_n hx hb d_R_measure_36 rfl (lv_at hl 0 rfl) ?_
    refine lv_lconst (v := 0) hx hb d_R_measure_37 (by decide) ?_
    refine st_l cx hZ hS hk_79 (by unfold vp_in; decide) d_R_measure_38 (fun w_81 H locs hw_82 hZ hS => ?_)
    have hk_83 : w_81 o = some (.inr (6, [.int (S 0), .ref (A 0), .ref (A 1), .ref (A 2), .ref (A 3), .ref (A 4), .ref (A 5), .ref (A 6), .ref (A 7), .ref (A 8), .int (S 1), .ref (A 9), .ref (A 10), .int (S 2), .ref (A 11), .long 0, .long 0, .long 0, .long 0, .ref (A 12), .long 0])) := up_ne hw_82 hc_80 (z_ne hc_80 hk_79 (by simp))
    have hk_84 : w_81 (A 0) = some (.inl (G.2 0, 8200, .inl (F 0))) := up_ne hw_82 hk_67 ((hA 0 12 (by decide) (by decide) (by decide)))
    have hk_85 : w_81 (A 1) = some (.inl (G.2 0, 8200, .inl (F 1))) := up_ne hw_82 hk_68 ((hA 1 12 (by decide) (by decide) (by decide)))
    have hk_86 : w_81 (A 2) = some (.inl (G.2 0, 8200, .inl (F 2))) := up_ne hw_82 hk_69 ((hA 2 12 (by decide) (by decide) (by decide)))
    have hk_87 : w_81 (A 3) = some (.inl (G.2 0, 8200, .inl (F 3))) := up_ne hw_82 hk_70 ((hA 3 12 (by decide) (by decide) (by decide)))
    have hk_88 : w_81 (A 4) = some (.inl (G.2 0, 8200, .inl (F 4))) := up_ne hw_82 hk_71 ((hA 4 12 (by decide) (by decide) (by decide)))
    have hk_89 : w_81 (A 5) = some (.inl (G.2 0, 8200, .inl (F 5))) := up_ne hw_82 hk_72 ((hA 5 12 (by decide) (by decide) (by decide)))
    have hk_90 : w_81 (A 6) = some (.inl (G.2 0, 8200, .inl (F 6))) := up_ne hw_82 hk_73 ((hA 6 12 (by decide) (by decide) (by decide)))
    have hk_91 : w_81 (A 7) = some (.inl (G.2 1, 8200, .inr (.inl M))) := up_ne hw_82 hk_74 ((hA 7 12 (by decide) (by decide) (by decide)))
    have hk_92 : w_81 (A 8) = some (.inl (G.2 0, 8200, .inl (F 8))) := up_ne hw_82 hk_75 ((hA 8 12 (by decide) (by decide) (by decide)))
    have hk_93 : w_81 (A 9) = some (.inl (G.2 0, 101, .inl B)) := up_ne hw_82 hk_76 ((hA 9 12 (by decide) (by decide) (by decide)))
    have hk_94 : w_81 (A 10) = some (.inl (G.2 2, 101, .inl V)) := up_ne hw_82 hk_77 ((hA 10 12 (by decide) (by decide) (by decide)))
    have hk_95 : w_81 (A 11) = some (.inl (G.2 0, 16, .inl Z)) := up_ne hw_82 hk_78 ((hA 11 12 (by decide) (by decide) (by decide)))
    have hF := hF.put hw_82 (Or.inl (by simp))
    have hc_96 : w_81 (A 12) = some (.inl (G.2 1, 4, .inr (.inl (vp_updL T (0 : Int32).toNatClampNeg 0)))) := up_self hw_82
    refine lv_iinc (v := 1) (lv' := [(2, .int 1), (0, .ref o), (1, .int (nI (ps 0)))]) hx hb d_R_measure_39 hl (k := 0) rfl (by decide) (by decide) rfl (fun ls hl => ?_)
    refine lv_goto (tgt := 27) hx hb d_R_measure_42 (by decide) ?_
    refine lv_iload_n hx hb d_R_measure_27 rfl (lv_at hl 0 rfl) ?_
    refine lv_iconst (v := 4) hx hb d_R_measure_28 (by decide) ?_
    refine lv_icmp_ge (tgt := 45) hx hb d_R_measure_29 (by decide) (fun c29_1 => ?_) (fun c29_1 => ?_)
    · exact absurd c29_1 (by decide)
    · refine lv_aload_n hx hb d_R_measure_32 rfl (lv_at hl 1 rfl) ?_
      refine gf_R_48 cx hZ hk_83 rfl d_R_measure_33 ?_
      refine lv_iload_n hx hb d_R_measure_36 rfl (lv_at hl 0 rfl) ?_
      refine lv_lconst (v := 0) hx hb d_R_measure_37 (by decide) ?_
      refine st_l cx hZ hS hc_96 (by unfold vp_in; decide) d_R_measure_38 (fun w_97 H locs hw_98 hZ hS => ?_)
      have hk_99 : w_97 o = some (.inr (6, [.int (S 0), .ref (A 0), .ref (A 1), .ref (A 2), .ref (A 3), .ref (A 4), .ref (A 5), .ref (A 6), .ref (A 7), .ref (A 8), .int (S 1), .ref (A 9), .ref (A 10), .int (S 2), .ref (A 11), .long 0, .long 0, .long 0, .long 0, .ref (A 12), .long 0])) := up_ne hw_98 hk_83 (z_ne hk_83 hc_96 (by simp))
      have hk_100 : w_97 (A 0) = some (.inl (G.2 0, 8200, .inl (F 0))) := up_ne hw_98 hk_84 ((hA 0 12 (by decide) (by decide) (by decide)))
      have hk_101 : w_97 (A 1) = some (.inl (G.2 0, 8200, .inl (F 1))) := up_ne hw_98 hk_85 ((hA 1 12 (by decide) (by decide) (by decide)))
      have hk_102 : w_97 (A 2) = some (.inl (G.2 0, 8200, .inl (F 2))) := up_ne hw_98 hk_86 ((hA 2 12 (by decide) (by decide) (by decide)))
      have hk_103 : w_97 (A 3) = some (.inl (G.2 0, 8200, .inl (F 3))) := up_ne hw_98 hk_87 ((hA 3 12 (by decide) (by decide) (by decide)))
      have hk_104 : w_97 (A 4) = some (.inl (G.2 0, 8200, .inl (F 4))) := up_ne hw_98 hk_88 ((hA 4 12 (by decide) (by decide) (by decide)))
      have hk_105 : w_97 (A 5) = some (.inl (G.2 0, 8200, .inl (F 5))) := up_ne hw_98 hk_89 ((hA 5 12 (by decide) (by decide) (by decide)))
      have hk_106 : w_97 (A 6) = some (.inl (G.2 0, 8200, .inl (F 6))) := up_ne hw_98 hk_90 ((hA 6 12 (by decide) (by decide) (by decide)))
      have hk_107 : w_97 (A 7) = some (.inl (G.2 1, 8200, .inr (.inl M))) := up_ne hw_98 hk_91 ((hA 7 12 (by decide) (by decide) (by decide)))
      have hk_108 : w_97 (A 8) = some (.inl (G.2 0, 8200, .inl (F 8))) := up_ne hw_98 hk_92 ((hA 8 12 (by decide) (by decide) (by decide)))
      have hk_109 : w_97 (A 9) = some (.inl (G.2 0, 101, .inl B)) := up_ne hw_98 hk_93 ((hA 9 12 (by decide) (by decide) (by decide)))
      have hk_110 : w_97 (A 10) = some (.inl (G.2 2, 101, .inl V)) := up_ne hw_98 hk_94 ((hA 10 12 (by decide) (by decide) (by decide)))
      have hk_111 : w_97 (A 11) = some (.inl (G.2 0, 16, .inl Z)) := up_ne hw_98 hk_95 ((hA 11 12 (by decide) (by decide) (by decide)))
      have hF := hF.put hw_98 (Or.inl (by simp))
      have hc_112 : w_97 (A 12) = some (.inl (G.2 1, 4, .inr (.inl (vp_updL (vp_updL T (0 : Int32).toNatClampNeg 0) (1 : Int32).toNatClampNeg 0)))) := up_self hw_98
      refine lv_iinc (v := 2) (lv' := [(2, .int 2), (0, .ref o), (1, .int (nI (ps 0)))]) hx hb d_R_measure_39 hl (k := 0) rfl (by decide) (by decide) rfl (fun ls hl => ?_)
      refine lv_goto (tgt := 27) hx hb d_R_measure_42 (by decide) ?_
      refine lv_iload_n hx hb d_R_measure_27 rfl (lv_at hl 0 rfl) ?_
      refine lv_iconst (v := 4) hx hb d_R_measure_28 (by decide) ?_
      refine lv_icmp_ge (tgt := 45) hx hb d_R_measure_29 (by decide) (fun c29_2 => ?_) (fun c29_2 => ?_)
      · exact absurd c29_2 (by decide)
      · refine lv_aload_n hx hb d_R_measure_32 rfl (lv_at hl 1 rfl) ?_
        refine gf_R_48 cx hZ hk_99 rfl d_R_measure_33 ?_
        refine lv_iload_n hx hb d_R_measure_36 rfl (lv_at hl 0 rfl) ?_
        refine lv_lconst (v := 0) hx hb d_R_measure_37 (by decide) ?_
        refine st_l cx hZ hS hc_112 (by unfold vp_in; decide) d_R_measure_38 (fun w_113 H locs hw_114 hZ hS => ?_)
        have hk_115 : w_113 o = some (.inr (6, [.int (S 0), .ref (A 0), .ref (A 1), .ref (A 2), .ref (A 3), .ref (A 4), .ref (A 5), .ref (A 6), .ref (A 7), .ref (A 8), .int (S 1), .ref (A 9), .ref (A 10), .int (S 2), .ref (A 11), .long 0, .long 0, .long 0, .long 0, .ref (A 12), .long 0])) := up_ne hw_114 hk_99 (z_ne hk_99 hc_112 (by simp))
        have hk_116 : w_113 (A 0) = some (.inl (G.2 0, 8200, .inl (F 0))) := up_ne hw_114 hk_100 ((hA 0 12 (by decide) (by decide) (by decide)))
        have hk_117 : w_113 (A 1) = some (.inl (G.2 0, 8200, .inl (F 1))) := up_ne hw_114 hk_101 ((hA 1 12 (by decide) (by decide) (by decide)))
        have hk_118 : w_113 (A 2) = some (.inl (G.2 0, 8200, .inl (F 2))) := up_ne hw_114 hk_102 ((hA 2 12 (by decide) (by decide) (by decide)))
        have hk_119 : w_113 (A 3) = some (.inl (G.2 0, 8200, .inl (F 3))) := up_ne hw_114 hk_103 ((hA 3 12 (by decide) (by decide) (by decide)))
        have hk_120 : w_113 (A 4) = some (.inl (G.2 0, 8200, .inl (F 4))) := up_ne hw_114 hk_104 ((hA 4 12 (by decide) (by decide) (by decide)))
        have hk_121 : w_113 (A 5) = some (.inl (G.2 0, 8200, .inl (F 5))) := up_ne hw_114 hk_105 ((hA 5 12 (by decide) (by decide) (by decide)))
        have hk_122 : w_113 (A 6) = some (.inl (G.2 0, 8200, .inl (F 6))) := up_ne hw_114 hk_106 ((hA 6 12 (by decide) (by decide) (by decide)))
        have hk_123 : w_113 (A 7) = some (.inl (G.2 1, 8200, .inr (.inl M))) := up_ne hw_114 hk_107 ((hA 7 12 (by decide) (by decide) (by decide)))
        have hk_124 : w_113 (A 8) = some (.inl (G.2 0, 8200, .inl (F 8))) := up_ne hw_114 hk_108 ((hA 8 12 (by decide) (by decide) (by decide)))
        have hk_125 : w_113 (A 9) = some (.inl (G.2 0, 101, .inl B)) := up_ne hw_114 hk_109 ((hA 9 12 (by decide) (by decide) (by decide)))
        have hk_126 : w_113 (A 10) = some (.inl (G.2 2, 101, .inl V)) := up_ne hw_114 hk_110 ((hA 10 12 (by decide) (by decide) (by decide)))
        have hk_127 : w_113 (A 11) = some (.inl (G.2 0, 16, .inl Z)) := up_ne hw_114 hk_111 ((hA 11 12 (by decide) (by decide) (by decide)))
        have hF := hF.put hw_114 (Or.inl (by simp))
        have hc_128 : w_113 (A 12) = some (.inl (G.2 1, 4, .inr (.inl (vp_updL (vp_updL (vp_updL T (0 : Int32).toNatClampNeg 0) (1 : Int32).toNatClampNeg 0) (2 : Int32).toNatClampNeg 0)))) := up_self hw_114
        refine lv_iinc (v := 3) (lv' := [(2, .int 3), (0, .ref o), (1, .int (nI (ps 0)))]) hx hb d_R_measure_39 hl (k := 0) rfl (by decide) (by decide) rfl (fun ls hl => ?_)
        refine lv_goto (tgt := 27) hx hb d_R_measure_42 (by decide) ?_
        refine lv_iload_n hx hb d_R_measure_27 rfl (lv_at hl 0 rfl) ?_
        refine lv_iconst (v := 4) hx hb d_R_measure_28 (by decide) ?_
        refine lv_icmp_ge (tgt := 45) hx hb d_R_measure_29 (by decide) (fun c29_3 => ?_) (fun c29_3 => ?_)
        · exact absurd c29_3 (by decide)
        · refine lv_aload_n hx hb d_R_measure_32 rfl (lv_at hl 1 rfl) ?_
          refine gf_R_48 cx hZ hk_115 rfl d_R_measure_33 ?_
          refine lv_iload_n hx hb d_R_measure_36 rfl (lv_at hl 0 rfl) ?_
          refine lv_lconst (v := 0) hx hb d_R_measure_37 (by decide) ?_
          refine st_l cx hZ hS hc_128 (by unfold vp_in; decide) d_R_measure_38 (fun w_129 H locs hw_130 hZ hS => ?_)
          have hk_131 : w_129 o = some (.inr (6, [.int (S 0), .ref (A 0), .ref (A 1), .ref (A 2), .ref (A 3), .ref (A 4), .ref (A 5), .ref (A 6), .ref (A 7), .ref (A 8), .int (S 1), .ref (A 9), .ref (A 10), .int (S 2), .ref (A 11), .long 0, .long 0, .long 0, .long 0, .ref (A 12), .long 0])) := up_ne hw_130 hk_115 (z_ne hk_115 hc_128 (by simp))
          have hk_132 : w_129 (A 0) = some (.inl (G.2 0, 8200, .inl (F 0))) := up_ne hw_130 hk_116 ((hA 0 12 (by decide) (by decide) (by decide)))
          have hk_133 : w_129 (A 1) = some (.inl (G.2 0, 8200, .inl (F 1))) := up_ne hw_130 hk_117 ((hA 1 12 (by decide) (by decide) (by decide)))
          have hk_134 : w_129 (A 2) = some (.inl (G.2 0, 8200, .inl (F 2))) := up_ne hw_130 hk_118 ((hA 2 12 (by decide) (by decide) (by decide)))
          have hk_135 : w_129 (A 3) = some (.inl (G.2 0, 8200, .inl (F 3))) := up_ne hw_130 hk_119 ((hA 3 12 (by decide) (by decide) (by decide)))
          have hk_136 : w_129 (A 4) = some (.inl (G.2 0, 8200, .inl (F 4))) := up_ne hw_130 hk_120 ((hA 4 12 (by decide) (by decide) (by decide)))
          have hk_137 : w_129 (A 5) = some (.inl (G.2 0, 8200, .inl (F 5))) := up_ne hw_130 hk_121 ((hA 5 12 (by decide) (by decide) (by decide)))
          have hk_138 : w_129 (A 6) = some (.inl (G.2 0, 8200, .inl (F 6))) := up_ne hw_130 hk_122 ((hA 6 12 (by decide) (by decide) (by decide)))
          have hk_139 : w_129 (A 7) = some (.inl (G.2 1, 8200, .inr (.inl M))) := up_ne hw_130 hk_123 ((hA 7 12 (by decide) (by decide) (by decide)))
          have hk_140 : w_129 (A 8) = some (.inl (G.2 0, 8200, .inl (F 8))) := up_ne hw_130 hk_124 ((hA 8 12 (by decide) (by decide) (by decide)))
          have hk_141 : w_129 (A 9) = some (.inl (G.2 0, 101, .inl B)) := up_ne hw_130 hk_125 ((hA 9 12 (by decide) (by decide) (by decide)))
          have hk_142 : w_129 (A 10) = some (.inl (G.2 2, 101, .inl V)) := up_ne hw_130 hk_126 ((hA 10 12 (by decide) (by decide) (by decide)))
          have hk_143 : w_129 (A 11) = some (.inl (G.2 0, 16, .inl Z)) := up_ne hw_130 hk_127 ((hA 11 12 (by decide) (by decide) (by decide)))
          have hF := hF.put hw_130 (Or.inl (by simp))
          have hc_144 : w_129 (A 12) = some (.inl (G.2 1, 4, .inr (.inl (vp_updL (vp_updL (vp_updL (vp_updL T (0 : Int32).toNatClampNeg 0) (1 : Int32).toNatClampNeg 0) (2 : Int32).toNatClampNeg 0) (3 : Int32).toNatClampNeg 0)))) := up_self hw_130
          refine lv_iinc (v := 4) (lv' := [(2, .int 4), (0, .ref o), (1, .int (nI (ps 0)))]) hx hb d_R_measure_39 hl (k := 0) rfl (by decide) (by decide) rfl (fun ls hl => ?_)
          refine lv_goto (tgt := 27) hx hb d_R_measure_42 (by decide) ?_
          refine lv_iload_n hx hb d_R_measure_27 rfl (lv_at hl 0 rfl) ?_
          refine lv_iconst (v := 4) hx hb d_R_measure_28 (by decide) ?_
          refine lv_icmp_ge (tgt := 45) hx hb d_R_measure_29 (by decide) (fun c29_4 => ?_) (fun c29_4 => ?_)
          · refine lv_iload_n hx hb d_R_measure_45 rfl (lv_at hl 2 rfl) ?_
            refine lv_istore_n (lv' := [(2, .int (nI (ps 0))), (0, .ref o), (1, .int (nI (ps 0)))]) hx hb d_R_measure_46 rfl hl (by decide) rfl (fun ls hl => ?_)
            have loop_47 : ∀ (j i : Nat) (w2 : zw) (H : Heap) (locs : List Loc) (ls : Array Slot), i + j = n → Zw G.1 vwC (zA n0) w2 H → va_S (zA n0) s.heap H locs → Fr [o, (A 0), (A 1), (A 2), (A 3), (A 4), (A 5), (A 6), (A 7), (A 8), (A 9), (A 10), (A 11), (A 12)] w w2 → RA G w2 o A S (mzL 0 0 0 0 (gl F ps (z4 T) i).2) F M B V Z (gl F ps (z4 T) i).1 → lv_has ls 3 [(2, .int (nI (ps i))), (0, .ref o), (1, .int (nI (ps 0)))] → W p l e ({ frames := 0, cells := 0, slots := 0, locals := 0 }) s m [.ref o, .int (nI (ps 0))].toArray below meth c H locs 0 0 (MQ below (zQ G.1 vwC n0 (fun v w1 => v = none ∧ RA G w1 o A S (mzL 0 0 0 0 (gl F ps (z4 T) n).2) F M B V Z (gl F ps (z4 T) n).1 ∧ Fr (allR o A) w w1)) [.ref o, .int (nI (ps 0))].toArray s ({ frames := 0, cells := 0, slots := 0, locals := 0 } : Room).cells ({ frames := 0, cells := 0, slots := 0, locals := 0 } : Room).slots (zA n0)) (F0 m 47 ls []) := by
              intro j
              induction j with
              | zero =>
                intro i w2 H locs ls hik hZ hS hF hr2 hl
                have hin : n = i := by omega
                subst hin
                obtain ⟨ho_145, ⟨h0_145, h1_145, h2_145, h3_145, h4_145, h5_145, h6_145, h7_145, h8_145⟩, h9_145, h10_145, h11_145, h12_145⟩ := id hr2
                have ho_145 : w2 o = some (.inr (6, [.int (S 0), .ref (A 0), .ref (A 1), .ref (A 2), .ref (A 3), .ref (A 4), .ref (A 5), .ref (A 6), .ref (A 7), .ref (A 8), .int (S 1), .ref (A 9), .ref (A 10), .int (S 2), .ref (A 11), .long 0, .long 0, .long 0, .long 0, .ref (A 12), .long ((gl F ps (z4 T) n).2)])) := ho_145
                refine lv_iload_n hx hb d_R_measure_47 rfl (lv_at hl 0 rfl) ?_
                refine lv_aload_n hx hb d_R_measure_48 rfl (lv_at hl 1 rfl) ?_
                refine gf_R_61 cx hZ ho_145 rfl d_R_measure_49 ?_
                rw [show ((S 2) : Int32) = nI (ps n) from hen]
                refine lv_icmp_ge (tgt := 114) hx hb d_R_measure_52 (by decide) (fun c52 => ?_) (fun c52 => ?_)
                · exact z_vret cx.1 cx.2.1 cx.rt cx.lk hS hZ ⟨(Nat.le_of_ble_eq_true rfl), (Nat.le_of_ble_eq_true rfl)⟩ d_R_measure_114 (⟨rfl, ⟨ho_145, ⟨h0_145, h1_145, h2_145, h3_145, h4_145, h5_145, h6_145, h7_145, h8_145⟩, h9_145, h10_145, h11_145, h12_145⟩, hF⟩)
                · exact absurd (nI_le (by omega) (by omega)) c52
              | succ j ih =>
                intro i w2 H locs ls hik hZ hS hF hr2 hl
                have hpi : ps i < 8000 := by have := hps.lt (show i < n by omega); omega
                obtain ⟨ho_146, ⟨h0_146, h1_146, h2_146, h3_146, h4_146, h5_146, h6_146, h7_146, h8_146⟩, h9_146, h10_146, h11_146, h12_146⟩ := id hr2
                have ho_146 : w2 o = some (.inr (6, [.int (S 0), .ref (A 0), .ref (A 1), .ref (A 2), .ref (A 3), .ref (A 4), .ref (A 5), .ref (A 6), .ref (A 7), .ref (A 8), .int (S 1), .ref (A 9), .ref (A 10), .int (S 2), .ref (A 11), .long 0, .long 0, .long 0, .long 0, .ref (A 12), .long ((gl F ps (z4 T) i).2)])) := ho_146
                refine lv_iload_n hx hb d_R_measure_47 rfl (lv_at hl 0 rfl) ?_
                refine lv_aload_n hx hb d_R_measure_48 rfl (lv_at hl 1 rfl) ?_
                refine gf_R_61 cx hZ ho_146 rfl d_R_measure_49 ?_
                rw [show ((S 2) : Int32) = nI (ps n) from hen]
                refine lv_icmp_ge (tgt := 114) hx hb d_R_measure_52 (by decide) (fun c52 => ?_) (fun c52 => ?_)
                · exact absurd c52 (nI_ge (hps.lt (by omega)) (by omega))
                · refine lv_aload_n hx hb d_R_measure_55 rfl (lv_at hl 1 rfl) ?_
                  refine gf_R_7 cx hZ ho_146 rfl d_R_measure_56 ?_
                  refine lv_iload_n hx hb d_R_measure_59 rfl (lv_at hl 0 rfl) ?_
                  refine ld_i cx hZ h0_146 (vp_in_nI (by omega) (by omega)) d_R_measure_60 ?_
                  rw [show ((F 0) (nI (ps i)).toNatClampNeg : Int32) = (F 0) (ps i) from by rw [nI_clamp (by first | omega | (unfold stN; omega))]]
                  refine lv_iconst (v := 5) hx hb d_R_measure_61 (by decide) ?_
                  refine lv_icmp_ne (tgt := 102) hx hb d_R_measure_62 (by decide) (fun c62 => ?_) (fun c62 => ?_)
                  · refine lv_iload_n hx hb d_R_measure_102 rfl (lv_at hl 0 rfl) ?_
                    refine lv_aload_n hx hb d_R_measure_103 rfl (lv_at hl 1 rfl) ?_
                    refine gf_R_35 cx hZ ho_146 rfl d_R_measure_104 ?_
                    refine lv_iload_n hx hb d_R_measure_107 rfl (lv_at hl 0 rfl) ?_
                    refine ld_i cx hZ h8_146 (vp_in_nI (by omega) (by omega)) d_R_measure_108 ?_
                    rw [show ((F 8) (nI (ps i)).toNatClampNeg : Int32) = (F 8) (ps i) from by rw [nI_clamp (by first | omega | (unfold stN; omega))]]
                    refine lv_iadd hx hb d_R_measure_109 ?_
                    rw [show (((nI (ps i)) + ((F 8) (ps i))) : Int32) = nI (ps (i + 1)) from hps.step (by omega)]
                    refine lv_istore_n (lv' := [(2, .int (nI (ps (i + 1)))), (0, .ref o), (1, .int (nI (ps 0)))]) hx hb d_R_measure_110 rfl hl (by decide) rfl (fun ls hl => ?_)
                    refine lv_goto (tgt := 47) hx hb d_R_measure_111 (by decide) ?_
                    exact ih (i + 1) _ _ _ _ (by omega) hZ hS hF (by rw [gl_f c62]; exact ⟨ho_146, ⟨h0_146, h1_146, h2_146, h3_146, h4_146, h5_146, h6_146, h7_146, h8_146⟩, h9_146, h10_146, h11_146, h12_146⟩) (lv_sub hl [0, 1, 2] rfl)
                  · refine lv_aload_n hx hb d_R_measure_65 rfl (lv_at hl 1 rfl) ?_
                    refine gf_R_48 cx hZ ho_146 rfl d_R_measure_66 ?_
                    refine lv_aload_n hx hb d_R_measure_69 rfl (lv_at hl 1 rfl) ?_
                    refine gf_R_25 cx hZ ho_146 rfl d_R_measure_70 ?_
                    refine lv_iload_n hx hb d_R_measure_73 rfl (lv_at hl 0 rfl) ?_
                    refine ld_i cx hZ h5_146 (vp_in_nI (by omega) (by omega)) d_R_measure_74 ?_
                    rw [show ((F 5) (nI (ps i)).toNatClampNeg : Int32) = (F 5) (ps i) from by rw [nI_clamp (by first | omega | (unfold stN; omega))]]
                    refine lv_dup2_11 hx hb d_R_measure_75 rfl rfl ?_
                    refine ld_l cx hZ h12_146 (hor i (by omega) c62) d_R_measure_76 ?_
                    refine lv_aload_n hx hb d_R_measure_77 rfl (lv_at hl 1 rfl) ?_
                    refine gf_R_22 cx hZ ho_146 rfl d_R_measure_78 ?_
                    refine lv_iload_n hx hb d_R_measure_81 rfl (lv_at hl 0 rfl) ?_
                    refine ld_i cx hZ h4_146 (vp_in_nI (by omega) (by omega)) d_R_measure_82 ?_
                    rw [show ((F 4) (nI (ps i)).toNatClampNeg : Int32) = (F 4) (ps i) from by rw [nI_clamp (by first | omega | (unfold stN; omega))]]
                    refine lv_i2l hx hb d_R_measure_83 rfl ?_
                    refine lv_ladd hx hb d_R_measure_84 ?_
                    refine st_l cx hZ hS h12_146 (hor i (by omega) c62) d_R_measure_85 (fun w_147 H locs hw_148 hZ hS => ?_)
                    have hk_149 : w_147 o = some (.inr (6, [.int (S 0), .ref (A 0), .ref (A 1), .ref (A 2), .ref (A 3), .ref (A 4), .ref (A 5), .ref (A 6), .ref (A 7), .ref (A 8), .int (S 1), .ref (A 9), .ref (A 10), .int (S 2), .ref (A 11), .long 0, .long 0, .long 0, .long 0, .ref (A 12), .long ((gl F ps (z4 T) i).2)])) := up_ne hw_148 ho_146 (z_ne ho_146 h12_146 (by simp))
                    have hk_150 : w_147 (A 0) = some (.inl (G.2 0, 8200, .inl (F 0))) := up_ne hw_148 h0_146 ((hA 0 12 (by decide) (by decide) (by decide)))
                    have hk_151 : w_147 (A 1) = some (.inl (G.2 0, 8200, .inl (F 1))) := up_ne hw_148 h1_146 ((hA 1 12 (by decide) (by decide) (by decide)))
                    have hk_152 : w_147 (A 2) = some (.inl (G.2 0, 8200, .inl (F 2))) := up_ne hw_148 h2_146 ((hA 2 12 (by decide) (by decide) (by decide)))
                    have hk_153 : w_147 (A 3) = some (.inl (G.2 0, 8200, .inl (F 3))) := up_ne hw_148 h3_146 ((hA 3 12 (by decide) (by decide) (by decide)))
                    have hk_154 : w_147 (A 4) = some (.inl (G.2 0, 8200, .inl (F 4))) := up_ne hw_148 h4_146 ((hA 4 12 (by decide) (by decide) (by decide)))
                    have hk_155 : w_147 (A 5) = some (.inl (G.2 0, 8200, .inl (F 5))) := up_ne hw_148 h5_146 ((hA 5 12 (by decide) (by decide) (by decide)))
                    have hk_156 : w_147 (A 6) = some (.inl (G.2 0, 8200, .inl (F 6))) := up_ne hw_148 h6_146 ((hA 6 12 (by decide) (by decide) (by decide)))
                    have hk_157 : w_147 (A 7) = some (.inl (G.2 1, 8200, .inr (.inl M))) := up_ne hw_148 h7_146 ((hA 7 12 (by decide) (by decide) (by decide)))
                    have hk_158 : w_147 (A 8) = some (.inl (G.2 0, 8200, .inl (F 8))) := up_ne hw_148 h8_146 ((hA 8 12 (by decide) (by decide) (by decide)))
                    have hk_159 : w_147 (A 9) = some (.inl (G.2 0, 101, .inl B)) := up_ne hw_148 h9_146 ((hA 9 12 (by decide) (by decide) (by decide)))
                    have hk_160 : w_147 (A 10) = some (.inl (G.2 2, 101, .inl V)) := up_ne hw_148 h10_146 ((hA 10 12 (by decide) (by decide) (by decide)))
                    have hk_161 : w_147 (A 11) = some (.inl (G.2 0, 16, .inl Z)) := up_ne hw_148 h11_146 ((hA 11 12 (by decide) (by decide) (by decide)))
                    have hF := hF.put hw_148 (Or.inl (by simp))
                    have hc_162 : w_147 (A 12) = some (.inl (G.2 1, 4, .inr (.inl (vp_updL ((gl F ps (z4 T) i).1) ((F 5) (ps i)).toNatClampNeg (((gl F ps (z4 T) i).1 ((F 5) (ps i)).toNatClampNeg) + (((F 4) (ps i)).toInt64)))))) := up_self hw_148
                    refine lv_aload_n hx hb d_R_measure_86 rfl (lv_at hl 1 rfl) ?_
                    refine lv_dup hx hb d_R_measure_87 rfl ?_
                    refine gf_R_103 cx hZ hk_149 rfl d_R_measure_88 ?_
                    refine lv_aload_n hx hb d_R_measure_91 rfl (lv_at hl 1 rfl) ?_
                    refine gf_R_28 cx hZ hk_149 rfl d_R_measure_92 ?_
                    refine lv_iload_n hx hb d_R_measure_95 rfl (lv_at hl 0 rfl) ?_
                    refine ld_i cx hZ hk_156 (vp_in_nI (by omega) (by omega)) d_R_measure_96 ?_
                    rw [show ((F 6) (nI (ps i)).toNatClampNeg : Int32) = (F 6) (ps i) from by rw [nI_clamp (by first | omega | (unfold stN; omega))]]
                    refine lv_i2l hx hb d_R_measure_97 rfl ?_
                    refine lv_ladd hx hb d_R_measure_98 ?_
                    refine pf_R_103 cx hZ hS hk_149 (Nat.le_of_ble_eq_true rfl) d_R_measure_99 (fun w_163 H locs hw_164 hZ hS => ?_)
                    have hk_165 : w_163 (A 0) = some (.inl (G.2 0, 8200, .inl (F 0))) := up_ne hw_164 hk_150 (z_ne hk_150 hk_149 (by simp))
                    have hk_166 : w_163 (A 1) = some (.inl (G.2 0, 8200, .inl (F 1))) := up_ne hw_164 hk_151 (z_ne hk_151 hk_149 (by simp))
                    have hk_167 : w_163 (A 2) = some (.inl (G.2 0, 8200, .inl (F 2))) := up_ne hw_164 hk_152 (z_ne hk_152 hk_149 (by simp))
                    have hk_168 : w_163 (A 3) = some (.inl (G.2 0, 8200, .inl (F 3))) := up_ne hw_164 hk_153 (z_ne hk_153 hk_149 (by simp))
                    have hk_169 : w_163 (A 4) = some (.inl (G.2 0, 8200, .inl (F 4))) := up_ne hw_164 hk_154 (z_ne hk_154 hk_149 (by simp))
                    have hk_170 : w_163 (A 5) = some (.inl (G.2 0, 8200, .inl (F 5))) := up_ne hw_164 hk_155 (z_ne hk_155 hk_149 (by simp))
                    have hk_171 : w_163 (A 6) = some (.inl (G.2 0, 8200, .inl (F 6))) := up_ne hw_164 hk_156 (z_ne hk_156 hk_149 (by simp))
                    have hk_172 : w_163 (A 7) = some (.inl (G.2 1, 8200, .inr (.inl M))) := up_ne hw_164 hk_157 (z_ne hk_157 hk_149 (by simp))
                    have hk_173 : w_163 (A 8) = some (.inl (G.2 0, 8200, .inl (F 8))) := up_ne hw_164 hk_158 (z_ne hk_158 hk_149 (by simp))
                    have hk_174 : w_163 (A 9) = some (.inl (G.2 0, 101, .inl B)) := up_ne hw_164 hk_159 (z_ne hk_159 hk_149 (by simp))
                    have hk_175 : w_163 (A 10) = some (.inl (G.2 2, 101, .inl V)) := up_ne hw_164 hk_160 (z_ne hk_160 hk_149 (by simp))
                    have hk_176 : w_163 (A 11) = some (.inl (G.2 0, 16, .inl Z)) := up_ne hw_164 hk_161 (z_ne hk_161 hk_149 (by simp))
                    have hk_177 : w_163 (A 12) = some (.inl (G.2 1, 4, .inr (.inl (vp_updL ((gl F ps (z4 T) i).1) ((F 5) (ps i)).toNatClampNeg (((gl F ps (z4 T) i).1 ((F 5) (ps i)).toNatClampNeg) + (((F 4) (ps i)).toInt64)))))) := up_ne hw_164 hc_162 (z_ne hc_162 hk_149 (by simp))
                    have hF := hF.put hw_164 (Or.inl (by simp))
                    have hc_178 : w_163 o = some (.inr (6, [.int (S 0), .ref (A 0), .ref (A 1), .ref (A 2), .ref (A 3), .ref (A 4), .ref (A 5), .ref (A 6), .ref (A 7), .ref (A 8), .int (S 1), .ref (A 9), .ref (A 10), .int (S 2), .ref (A 11), .long 0, .long 0, .long 0, .long 0, .ref (A 12), .long (((gl F ps (z4 T) i).2) + (((F 6) (ps i)).toInt64))])) := up_self hw_164
                    refine lv_iload_n hx hb d_R_measure_102 rfl (lv_at hl 0 rfl) ?_
                    refine lv_aload_n hx hb d_R_measure_103 rfl (lv_at hl 1 rfl) ?_
                    refine gf_R_35 cx hZ hc_178 rfl d_R_measure_104 ?_
                    refine lv_iload_n hx hb d_R_measure_107 rfl (lv_at hl 0 rfl) ?_
                    refine ld_i cx hZ hk_173 (vp_in_nI (by omega) (by omega)) d_R_measure_108 ?_
                    rw [show ((F 8) (nI (ps i)).toNatClampNeg : Int32) = (F 8) (ps i) from by rw [nI_clamp (by first | omega | (unfold stN; omega))]]
                    refine lv_iadd hx hb d_R_measure_109 ?_
                    rw [show (((nI (ps i)) + ((F 8) (ps i))) : Int32) = nI (ps (i + 1)) from hps.step (by omega)]
                    refine lv_istore_n (lv' := [(2, .int (nI (ps (i + 1)))), (0, .ref o), (1, .int (nI (ps 0)))]) hx hb d_R_measure_110 rfl hl (by decide) rfl (fun ls hl => ?_)
                    refine lv_goto (tgt := 47) hx hb d_R_measure_111 (by decide) ?_
                    exact ih (i + 1) _ _ _ _ (by omega) hZ hS hF (by rw [gl_t c62]; exact ⟨hc_178, ⟨hk_165, hk_166, hk_167, hk_168, hk_169, hk_170, hk_171, hk_172, hk_173⟩, hk_174, hk_175, hk_176, hk_177⟩) (lv_sub hl [0, 1, 2] rfl)
            exact loop_47 (n) 0 _ _ _ _ (by omega) hZ hS hF ⟨hk_131, ⟨hk_132, hk_133, hk_134, hk_135, hk_136, hk_137, hk_138, hk_139, hk_140⟩, hk_141, hk_142, hk_143, hc_144⟩ (lv_sub hl [0, 1, 2] rfl)
          · exact absurd c29_4 (by decide)
