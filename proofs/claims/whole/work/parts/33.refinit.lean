def arr13 (G : zG) (i : Nat) : va_E := if i = 7 then .inl (G.2 1, 8200, .inr (.inl (fun _ => 0))) else if i = 12 then .inl (G.2 1, 4, .inr (.inl (fun _ => 0))) else if i = 10 then .inl (G.2 2, 101, .inl (fun _ => 0)) else if i = 9 then .inl (G.2 0, 101, .inl (fun _ => 0)) else if i = 11 then .inl (G.2 0, 16, .inl (fun _ => 0)) else .inl (G.2 0, 8200, .inl (fun _ => 0))
theorem nodup_inj {l : List Nat} (h : l.Nodup) {i j : Nat} (hi : i < l.length) (hj : j < l.length) (hij : i ≠ j) : l.getD i 0 ≠ l.getD j 0 := by
  rw [List.getD_eq_getElem?_getD, List.getD_eq_getElem?_getD, List.getElem?_eq_getElem hi, List.getElem?_eq_getElem hj]
  have hp := List.pairwise_iff_getElem.mp h
  rcases Nat.lt_or_gt_of_ne hij with z | z
  · exact hp i j hi hj z
  · exact Ne.symm (hp j i hj hi z)
set_option maxHeartbeats 4000000 in
set_option maxRecDepth 100000 in
theorem r_init (l : Launch) (G : zG) (n0 e0 : Nat) (w : zw) (o : Nat) (ho : w o = some (.inr (6, [.int 0, .null, .null, .null, .null, .null, .null, .null, .null, .null, .int 0, .null, .null, .int 0, .null, .long 0, .long 0, .long 0, .long 0, .null, .long 0]))) : Ct l G n0 e0 y_R_init b_R_init 1 (Option.none : Option FieldType) ({ frames := 1, cells := 13, slots := 74100, locals := 12 }) [.ref o] w (fun v w1 => ∃ A : Nat → Nat, v = none ∧ (∀ i j, i < 13 → j < 13 → i ≠ j → A i ≠ A j) ∧ (∀ i, i < 13 → w (A i) = none) ∧ (w1 (A 0) = some (arr13 G 0) ∧ w1 (A 1) = some (arr13 G 1) ∧ w1 (A 2) = some (arr13 G 2) ∧ w1 (A 3) = some (arr13 G 3) ∧ w1 (A 4) = some (arr13 G 4) ∧ w1 (A 5) = some (arr13 G 5) ∧ w1 (A 6) = some (arr13 G 6) ∧ w1 (A 7) = some (arr13 G 7) ∧ w1 (A 8) = some (arr13 G 8) ∧ w1 (A 9) = some (arr13 G 9) ∧ w1 (A 10) = some (arr13 G 10) ∧ w1 (A 11) = some (arr13 G 11) ∧ w1 (A 12) = some (arr13 G 12)) ∧ w1 o = some (.inr (6, fR A (fun _ => 0) (fun _ => 0))) ∧ Fr [o] w w1) := by
  refine z_ct (by decide) (Nat.le_of_ble_eq_true rfl) ?_
  intro p e s m below meth c ls cx hnm hZ hS hl
  have hx := cx.1
  have hb := cx.2.1
  have hl : lv_has ls 1 [(0, .ref o)] := hl
  have hF : Fr [o] w w := Fr.rf
  refine lv_aload_n hx hb d_R_init_0 rfl (lv_at hl 0 rfl) ?_
  refine oi_R_1 cx hl.1 d_R_init_1 (Nat.le_of_ble_eq_true rfl) (Nat.le_of_ble_eq_true rfl) ?_
  refine W.eq (g2 := F0 m 4 ls []) rfl ?_
  refine lv_aload_n hx hb d_R_init_4 rfl (lv_at hl 0 rfl) ?_
  refine lv_sipush (v := 8200) hx hb d_R_init_5 (by decide) ?_
  refine new_i (N := 8200) cx hZ hS (by decide) (by decide) (Nat.le_of_ble_eq_true rfl) (Nat.le_of_ble_eq_true rfl) (Nat.le_of_ble_eq_true rfl) d_R_init_8 (fun q_1 w_2 H hq_4 hw_3 hZ hS => ?_)
  have hk_5 : w_2 o = some (.inr (6, [.int 0, .null, .null, .null, .null, .null, .null, .null, .null, .null, .int 0, .null, .null, .int 0, .null, .long 0, .long 0, .long 0, .long 0, .null, .long 0])) := up_ne hw_3 ho (z_neN ho hq_4)
  have hn_6 := hF.2 _ hq_4
  have hF := hF.put hw_3 (Or.inr hn_6)
  have hc_7 : w_2 q_1 = some (.inl (G.2 0, 8200, .inl (fun _ => 0))) := up_self hw_3
  refine pf_R_7 cx hnm hZ hS hk_5 (Nat.le_of_ble_eq_true rfl) d_R_init_10 (fun w_8 H locs hw_9 hZ hS => ?_)
  have hk_10 : w_8 q_1 = some (.inl (G.2 0, 8200, .inl (fun _ => 0))) := up_ne hw_9 hc_7 ((Ne.symm (z_neN ho hn_6)))
  have hF := hF.put hw_9 (Or.inl (by simp))
  have hc_11 : w_8 o = some (.inr (6, [.int 0, .ref q_1, .null, .null, .null, .null, .null, .null, .null, .null, .int 0, .null, .null, .int 0, .null, .long 0, .long 0, .long 0, .long 0, .null, .long 0])) := up_self hw_9
  refine lv_aload_n hx hb d_R_init_13 rfl (lv_at hl 0 rfl) ?_
  refine lv_sipush (v := 8200) hx hb d_R_init_14 (by decide) ?_
  refine new_i (N := 8200) cx hZ hS (by decide) (by decide) (Nat.le_of_ble_eq_true rfl) (Nat.le_of_ble_eq_true rfl) (Nat.le_of_ble_eq_true rfl) d_R_init_17 (fun q_12 w_13 H hq_15 hw_14 hZ hS => ?_)
  have hk_16 : w_13 o = some (.inr (6, [.int 0, .ref q_1, .null, .null, .null, .null, .null, .null, .null, .null, .int 0, .null, .null, .int 0, .null, .long 0, .long 0, .long 0, .long 0, .null, .long 0])) := up_ne hw_14 hc_11 (z_neN hc_11 hq_15)
  have ne_18 : q_1 ≠ q_12 := z_neN hk_10 hq_15
  have hk_17 : w_13 q_1 = some (.inl (G.2 0, 8200, .inl (fun _ => 0))) := up_ne hw_14 hk_10 (z_neN hk_10 hq_15)
  have hn_19 := hF.2 _ hq_15
  have hF := hF.put hw_14 (Or.inr hn_19)
  have hc_20 : w_13 q_12 = some (.inl (G.2 0, 8200, .inl (fun _ => 0))) := up_self hw_14
  refine pf_R_13 cx hnm hZ hS hk_16 (Nat.le_of_ble_eq_true rfl) d_R_init_19 (fun w_21 H locs hw_22 hZ hS => ?_)
  have hk_23 : w_21 q_1 = some (.inl (G.2 0, 8200, .inl (fun _ => 0))) := up_ne hw_22 hk_17 ((Ne.symm (z_neN ho hn_6)))
  have hk_24 : w_21 q_12 = some (.inl (G.2 0, 8200, .inl (fun _ => 0))) := up_ne hw_22 hc_20 ((Ne.symm (z_neN ho hn_19)))
  have hF := hF.put hw_22 (Or.inl (by simp))
  have hc_25 : w_21 o = some (.inr (6, [.int 0, .ref q_1, .ref q_12, .null, .null, .null, .null, .null, .null, .null, .int 0, .null, .null, .int 0, .null, .long 0, .long 0, .long 0, .long 0, .null, .long 0])) := up_self hw_22
  refine lv_aload_n hx hb d_R_init_22 rfl (lv_at hl 0 rfl) ?_
  refine lv_sipush (v := 8200) hx hb d_R_init_23 (by decide) ?_
  refine new_i (N := 8200) cx hZ hS (by decide) (by decide) (Nat.le_of_ble_eq_true rfl) (Nat.le_of_ble_eq_true rfl) (Nat.le_of_ble_eq_true rfl) d_R_init_26 (fun q_26 w_27 H hq_29 hw_28 hZ hS => ?_)
  have hk_30 : w_27 o = some (.inr (6, [.int 0, .ref q_1, .ref q_12, .null, .null, .null, .null, .null, .null, .null, .int 0, .null, .null, .int 0, .null, .long 0, .long 0, .long 0, .long 0, .null, .long 0])) := up_ne hw_28 hc_25 (z_neN hc_25 hq_29)
  have ne_32 : q_1 ≠ q_26 := z_neN hk_23 hq_29
  have hk_31 : w_27 q_1 = some (.inl (G.2 0, 8200, .inl (fun _ => 0))) := up_ne hw_28 hk_23 (z_neN hk_23 hq_29)
  have ne_34 : q_12 ≠ q_26 := z_neN hk_24 hq_29
  have hk_33 : w_27 q_12 = some (.inl (G.2 0, 8200, .inl (fun _ => 0))) := up_ne hw_28 hk_24 (z_neN hk_24 hq_29)
  have hn_35 := hF.2 _ hq_29
  have hF := hF.put hw_28 (Or.inr hn_35)
  have hc_36 : w_27 q_26 = some (.inl (G.2 0, 8200, .inl (fun _ => 0))) := up_self hw_28
  refine pf_R_16 cx hnm hZ hS hk_30 (Nat.le_of_ble_eq_true rfl) d_R_init_28 (fun w_37 H locs hw_38 hZ hS => ?_)
  have hk_39 : w_37 q_1 = some (.inl (G.2 0, 8200, .inl (fun _ => 0))) := up_ne hw_38 hk_31 ((Ne.symm (z_neN ho hn_6)))
  have hk_40 : w_37 q_12 = some (.inl (G.2 0, 8200, .inl (fun _ => 0))) := up_ne hw_38 hk_33 ((Ne.symm (z_neN ho hn_19)))
  have hk_41 : w_37 q_26 = some (.inl (G.2 0, 8200, .inl (fun _ => 0))) := up_ne hw_38 hc_36 ((Ne.symm (z_neN ho hn_35)))
  have hF := hF.put hw_38 (Or.inl (by simp))
  have hc_42 : w_37 o = some (.inr (6, [.int 0, .ref q_1, .ref q_12, .ref q_26, .null, .null, .null, .null, .null, .null, .int 0, .null, .null, .int 0, .null, .long 0, .long 0, .long 0, .long 0, .null, .long 0])) := up_self hw_38
  refine lv_aload_n hx hb d_R_init_31 rfl (lv_at hl 0 rfl) ?_
  refine lv_sipush (v := 8200) hx hb d_R_init_32 (by decide) ?_
  refine new_i (N := 8200) cx hZ hS (by decide) (by decide) (Nat.le_of_ble_eq_true rfl) (Nat.le_of_ble_eq_true rfl) (Nat.le_of_ble_eq_true rfl) d_R_init_35 (fun q_43 w_44 H hq_46 hw_45 hZ hS => ?_)
  have hk_47 : w_44 o = some (.inr (6, [.int 0, .ref q_1, .ref q_12, .ref q_26, .null, .null, .null, .null, .null, .null, .int 0, .null, .null, .int 0, .null, .long 0, .long 0, .long 0, .long 0, .null, .long 0])) := up_ne hw_45 hc_42 (z_neN hc_42 hq_46)
  have ne_49 : q_1 ≠ q_43 := z_neN hk_39 hq_46
  have hk_48 : w_44 q_1 = some (.inl (G.2 0, 8200, .inl (fun _ => 0))) := up_ne hw_45 hk_39 (z_neN hk_39 hq_46)
  have ne_51 : q_12 ≠ q_43 := z_neN hk_40 hq_46
  have hk_50 : w_44 q_12 = some (.inl (G.2 0, 8200, .inl (fun _ => 0))) := up_ne hw_45 hk_40 (z_neN hk_40 hq_46)
  have ne_53 : q_26 ≠ q_43 := z_neN hk_41 hq_46
  have hk_52 : w_44 q_26 = some (.inl (G.2 0, 8200, .inl (fun _ => 0))) := up_ne hw_45 hk_41 (z_neN hk_41 hq_46)
  have hn_54 := hF.2 _ hq_46
  have hF := hF.put hw_45 (Or.inr hn_54)
  have hc_55 : w_44 q_43 = some (.inl (G.2 0, 8200, .inl (fun _ => 0))) := up_self hw_45
  refine pf_R_19 cx hnm hZ hS hk_47 (Nat.le_of_ble_eq_true rfl) d_R_init_37 (fun w_56 H locs hw_57 hZ hS => ?_)
  have hk_58 : w_56 q_1 = some (.inl (G.2 0, 8200, .inl (fun _ => 0))) := up_ne hw_57 hk_48 ((Ne.symm (z_neN ho hn_6)))
  have hk_59 : w_56 q_12 = some (.inl (G.2 0, 8200, .inl (fun _ => 0))) := up_ne hw_57 hk_50 ((Ne.symm (z_neN ho hn_19)))
  have hk_60 : w_56 q_26 = some (.inl (G.2 0, 8200, .inl (fun _ => 0))) := up_ne hw_57 hk_52 ((Ne.symm (z_neN ho hn_35)))
  have hk_61 : w_56 q_43 = some (.inl (G.2 0, 8200, .inl (fun _ => 0))) := up_ne hw_57 hc_55 ((Ne.symm (z_neN ho hn_54)))
  have hF := hF.put hw_57 (Or.inl (by simp))
  have hc_62 : w_56 o = some (.inr (6, [.int 0, .ref q_1, .ref q_12, .ref q_26, .ref q_43, .null, .null, .null, .null, .null, .int 0, .null, .null, .int 0, .null, .long 0, .long 0, .long 0, .long 0, .null, .long 0])) := up_self hw_57
  refine lv_aload_n hx hb d_R_init_40 rfl (lv_at hl 0 rfl) ?_
  refine lv_sipush (v := 8200) hx hb d_R_init_41 (by decide) ?_
  refine new_i (N := 8200) cx hZ hS (by decide) (by decide) (Nat.le_of_ble_eq_true rfl) (Nat.le_of_ble_eq_true rfl) (Nat.le_of_ble_eq_true rfl) d_R_init_44 (fun q_63 w_64 H hq_66 hw_65 hZ hS => ?_)
  have hk_67 : w_64 o = some (.inr (6, [.int 0, .ref q_1, .ref q_12, .ref q_26, .ref q_43, .null, .null, .null, .null, .null, .int 0, .null, .null, .int 0, .null, .long 0, .long 0, .long 0, .long 0, .null, .long 0])) := up_ne hw_65 hc_62 (z_neN hc_62 hq_66)
  have ne_69 : q_1 ≠ q_63 := z_neN hk_58 hq_66
  have hk_68 : w_64 q_1 = some (.inl (G.2 0, 8200, .inl (fun _ => 0))) := up_ne hw_65 hk_58 (z_neN hk_58 hq_66)
  have ne_71 : q_12 ≠ q_63 := z_neN hk_59 hq_66
  have hk_70 : w_64 q_12 = some (.inl (G.2 0, 8200, .inl (fun _ => 0))) := up_ne hw_65 hk_59 (z_neN hk_59 hq_66)
  have ne_73 : q_26 ≠ q_63 := z_neN hk_60 hq_66
  have hk_72 : w_64 q_26 = some (.inl (G.2 0, 8200, .inl (fun _ => 0))) := up_ne hw_65 hk_60 (z_neN hk_60 hq_66)
  have ne_75 : q_43 ≠ q_63 := z_neN hk_61 hq_66
  have hk_74 : w_64 q_43 = some (.inl (G.2 0, 8200, .inl (fun _ => 0))) := up_ne hw_65 hk_61 (z_neN hk_61 hq_66)
  have hn_76 := hF.2 _ hq_66
  have hF := hF.put hw_65 (Or.inr hn_76)
  have hc_77 : w_64 q_63 = some (.inl (G.2 0, 8200, .inl (fun _ => 0))) := up_self hw_65
  refine pf_R_22 cx hnm hZ hS hk_67 (Nat.le_of_ble_eq_true rfl) d_R_init_46 (fun w_78 H locs hw_79 hZ hS => ?_)
  have hk_80 : w_78 q_1 = some (.inl (G.2 0, 8200, .inl (fun _ => 0))) := up_ne hw_79 hk_68 ((Ne.symm (z_neN ho hn_6)))
  have hk_81 : w_78 q_12 = some (.inl (G.2 0, 8200, .inl (fun _ => 0))) := up_ne hw_79 hk_70 ((Ne.symm (z_neN ho hn_19)))
  have hk_82 : w_78 q_26 = some (.inl (G.2 0, 8200, .inl (fun _ => 0))) := up_ne hw_79 hk_72 ((Ne.symm (z_neN ho hn_35)))
  have hk_83 : w_78 q_43 = some (.inl (G.2 0, 8200, .inl (fun _ => 0))) := up_ne hw_79 hk_74 ((Ne.symm (z_neN ho hn_54)))
  have hk_84 : w_78 q_63 = some (.inl (G.2 0, 8200, .inl (fun _ => 0))) := up_ne hw_79 hc_77 ((Ne.symm (z_neN ho hn_76)))
  have hF := hF.put hw_79 (Or.inl (by simp))
  have hc_85 : w_78 o = some (.inr (6, [.int 0, .ref q_1, .ref q_12, .ref q_26, .ref q_43, .ref q_63, .null, .null, .null, .null, .int 0, .null, .null, .int 0, .null, .long 0, .long 0, .long 0, .long 0, .null, .long 0])) := up_self hw_79
  refine lv_aload_n hx hb d_R_init_49 rfl (lv_at hl 0 rfl) ?_
  refine lv_sipush (v := 8200) hx hb d_R_init_50 (by decide) ?_
  refine new_i (N := 8200) cx hZ hS (by decide) (by decide) (Nat.le_of_ble_eq_true rfl) (Nat.le_of_ble_eq_true rfl) (Nat.le_of_ble_eq_true rfl) d_R_init_53 (fun q_86 w_87 H hq_89 hw_88 hZ hS => ?_)
  have hk_90 : w_87 o = some (.inr (6, [.int 0, .ref q_1, .ref q_12, .ref q_26, .ref q_43, .ref q_63, .null, .null, .null, .null, .int 0, .null, .null, .int 0, .null, .long 0, .long 0, .long 0, .long 0, .null, .long 0])) := up_ne hw_88 hc_85 (z_neN hc_85 hq_89)
  have ne_92 : q_1 ≠ q_86 := z_neN hk_80 hq_89
  have hk_91 : w_87 q_1 = some (.inl (G.2 0, 8200, .inl (fun _ => 0))) := up_ne hw_88 hk_80 (z_neN hk_80 hq_89)
  have ne_94 : q_12 ≠ q_86 := z_neN hk_81 hq_89
  have hk_93 : w_87 q_12 = some (.inl (G.2 0, 8200, .inl (fun _ => 0))) := up_ne hw_88 hk_81 (z_neN hk_81 hq_89)
  have ne_96 : q_26 ≠ q_86 := z_neN hk_82 hq_89
  have hk_95 : w_87 q_26 = some (.inl (G.2 0, 8200, .inl (fun _ => 0))) := up_ne hw_88 hk_82 (z_neN hk_82 hq_89)
  have ne_98 : q_43 ≠ q_86 := z_neN hk_83 hq_89
  have hk_97 : w_87 q_43 = some (.inl (G.2 0, 8200, .inl (fun _ => 0))) := up_ne hw_88 hk_83 (z_neN hk_83 hq_89)
  have ne_100 : q_63 ≠ q_86 := z_neN hk_84 hq_89
  have hk_99 : w_87 q_63 = some (.inl (G.2 0, 8200, .inl (fun _ => 0))) := up_ne hw_88 hk_84 (z_neN hk_84 hq_89)
  have hn_101 := hF.2 _ hq_89
  have hF := hF.put hw_88 (Or.inr hn_101)
  have hc_102 : w_87 q_86 = some (.inl (G.2 0, 8200, .inl (fun _ => 0))) := up_self hw_88
  refine pf_R_25 cx hnm hZ hS hk_90 (Nat.le_of_ble_eq_true rfl) d_R_init_55 (fun w_103 H locs hw_104 hZ hS => ?_)
  have hk_105 : w_103 q_1 = some (.inl (G.2 0, 8200, .inl (fun _ => 0))) := up_ne hw_104 hk_91 ((Ne.symm (z_neN ho hn_6)))
  have hk_106 : w_103 q_12 = some (.inl (G.2 0, 8200, .inl (fun _ => 0))) := up_ne hw_104 hk_93 ((Ne.symm (z_neN ho hn_19)))
  have hk_107 : w_103 q_26 = some (.inl (G.2 0, 8200, .inl (fun _ => 0))) := up_ne hw_104 hk_95 ((Ne.symm (z_neN ho hn_35)))
  have hk_108 : w_103 q_43 = some (.inl (G.2 0, 8200, .inl (fun _ => 0))) := up_ne hw_104 hk_97 ((Ne.symm (z_neN ho hn_54)))
  have hk_109 : w_103 q_63 = some (.inl (G.2 0, 8200, .inl (fun _ => 0))) := up_ne hw_104 hk_99 ((Ne.symm (z_neN ho hn_76)))
  have hk_110 : w_103 q_86 = some (.inl (G.2 0, 8200, .inl (fun _ => 0))) := up_ne hw_104 hc_102 ((Ne.symm (z_neN ho hn_101)))
  have hF := hF.put hw_104 (Or.inl (by simp))
  have hc_111 : w_103 o = some (.inr (6, [.int 0, .ref q_1, .ref q_12, .ref q_26, .ref q_43, .ref q_63, .ref q_86, .null, .null, .null, .int 0, .null, .null, .int 0, .null, .long 0, .long 0, .long 0, .long 0, .null, .long 0])) := up_self hw_104
  refine lv_aload_n hx hb d_R_init_58 rfl (lv_at hl 0 rfl) ?_
  refine lv_sipush (v := 8200) hx hb d_R_init_59 (by decide) ?_
  refine new_i (N := 8200) cx hZ hS (by decide) (by decide) (Nat.le_of_ble_eq_true rfl) (Nat.le_of_ble_eq_true rfl) (Nat.le_of_ble_eq_true rfl) d_R_init_62 (fun q_112 w_113 H hq_115 hw_114 hZ hS => ?_)
  have hk_116 : w_113 o = some (.inr (6, [.int 0, .ref q_1, .ref q_12, .ref q_26, .ref q_43, .ref q_63, .ref q_86, .null, .null, .null, .int 0, .null, .null, .int 0, .null, .long 0, .long 0, .long 0, .long 0, .null, .long 0])) := up_ne hw_114 hc_111 (z_neN hc_111 hq_115)
  have ne_118 : q_1 ≠ q_112 := z_neN hk_105 hq_115
  have hk_117 : w_113 q_1 = some (.inl (G.2 0, 8200, .inl (fun _ => 0))) := up_ne hw_114 hk_105 (z_neN hk_105 hq_115)
  have ne_120 : q_12 ≠ q_112 := z_neN hk_106 hq_115
  have hk_119 : w_113 q_12 = some (.inl (G.2 0, 8200, .inl (fun _ => 0))) := up_ne hw_114 hk_106 (z_neN hk_106 hq_115)
  have ne_122 : q_26 ≠ q_112 := z_neN hk_107 hq_115
  have hk_121 : w_113 q_26 = some (.inl (G.2 0, 8200, .inl (fun _ => 0))) := up_ne hw_114 hk_107 (z_neN hk_107 hq_115)
  have ne_124 : q_43 ≠ q_112 := z_neN hk_108 hq_115
  have hk_123 : w_113 q_43 = some (.inl (G.2 0, 8200, .inl (fun _ => 0))) := up_ne hw_114 hk_108 (z_neN hk_108 hq_115)
  have ne_126 : q_63 ≠ q_112 := z_neN hk_109 hq_115
  have hk_125 : w_113 q_63 = some (.inl (G.2 0, 8200, .inl (fun _ => 0))) := up_ne hw_114 hk_109 (z_neN hk_109 hq_115)
  have ne_128 : q_86 ≠ q_112 := z_neN hk_110 hq_115
  have hk_127 : w_113 q_86 = some (.inl (G.2 0, 8200, .inl (fun _ => 0))) := up_ne hw_114 hk_110 (z_neN hk_110 hq_115)
  have hn_129 := hF.2 _ hq_115
  have hF := hF.put hw_114 (Or.inr hn_129)
  have hc_130 : w_113 q_112 = some (.inl (G.2 0, 8200, .inl (fun _ => 0))) := up_self hw_114
  refine pf_R_28 cx hnm hZ hS hk_116 (Nat.le_of_ble_eq_true rfl) d_R_init_64 (fun w_131 H locs hw_132 hZ hS => ?_)
  have hk_133 : w_131 q_1 = some (.inl (G.2 0, 8200, .inl (fun _ => 0))) := up_ne hw_132 hk_117 ((Ne.symm (z_neN ho hn_6)))
  have hk_134 : w_131 q_12 = some (.inl (G.2 0, 8200, .inl (fun _ => 0))) := up_ne hw_132 hk_119 ((Ne.symm (z_neN ho hn_19)))
  have hk_135 : w_131 q_26 = some (.inl (G.2 0, 8200, .inl (fun _ => 0))) := up_ne hw_132 hk_121 ((Ne.symm (z_neN ho hn_35)))
  have hk_136 : w_131 q_43 = some (.inl (G.2 0, 8200, .inl (fun _ => 0))) := up_ne hw_132 hk_123 ((Ne.symm (z_neN ho hn_54)))
  have hk_137 : w_131 q_63 = some (.inl (G.2 0, 8200, .inl (fun _ => 0))) := up_ne hw_132 hk_125 ((Ne.symm (z_neN ho hn_76)))
  have hk_138 : w_131 q_86 = some (.inl (G.2 0, 8200, .inl (fun _ => 0))) := up_ne hw_132 hk_127 ((Ne.symm (z_neN ho hn_101)))
  have hk_139 : w_131 q_112 = some (.inl (G.2 0, 8200, .inl (fun _ => 0))) := up_ne hw_132 hc_130 ((Ne.symm (z_neN ho hn_129)))
  have hF := hF.put hw_132 (Or.inl (by simp))
  have hc_140 : w_131 o = some (.inr (6, [.int 0, .ref q_1, .ref q_12, .ref q_26, .ref q_43, .ref q_63, .ref q_86, .ref q_112, .null, .null, .int 0, .null, .null, .int 0, .null, .long 0, .long 0, .long 0, .long 0, .null, .long 0])) := up_self hw_132
  refine lv_aload_n hx hb d_R_init_67 rfl (lv_at hl 0 rfl) ?_
  refine lv_sipush (v := 8200) hx hb d_R_init_68 (by decide) ?_
  refine new_l (N := 8200) cx hZ hS (by decide) (by decide) (Nat.le_of_ble_eq_true rfl) (Nat.le_of_ble_eq_true rfl) (Nat.le_of_ble_eq_true rfl) d_R_init_71 (fun q_141 w_142 H hq_144 hw_143 hZ hS => ?_)
  have hk_145 : w_142 o = some (.inr (6, [.int 0, .ref q_1, .ref q_12, .ref q_26, .ref q_43, .ref q_63, .ref q_86, .ref q_112, .null, .null, .int 0, .null, .null, .int 0, .null, .long 0, .long 0, .long 0, .long 0, .null, .long 0])) := up_ne hw_143 hc_140 (z_neN hc_140 hq_144)
  have ne_147 : q_1 ≠ q_141 := z_neN hk_133 hq_144
  have hk_146 : w_142 q_1 = some (.inl (G.2 0, 8200, .inl (fun _ => 0))) := up_ne hw_143 hk_133 (z_neN hk_133 hq_144)
  have ne_149 : q_12 ≠ q_141 := z_neN hk_134 hq_144
  have hk_148 : w_142 q_12 = some (.inl (G.2 0, 8200, .inl (fun _ => 0))) := up_ne hw_143 hk_134 (z_neN hk_134 hq_144)
  have ne_151 : q_26 ≠ q_141 := z_neN hk_135 hq_144
  have hk_150 : w_142 q_26 = some (.inl (G.2 0, 8200, .inl (fun _ => 0))) := up_ne hw_143 hk_135 (z_neN hk_135 hq_144)
  have ne_153 : q_43 ≠ q_141 := z_neN hk_136 hq_144
  have hk_152 : w_142 q_43 = some (.inl (G.2 0, 8200, .inl (fun _ => 0))) := up_ne hw_143 hk_136 (z_neN hk_136 hq_144)
  have ne_155 : q_63 ≠ q_141 := z_neN hk_137 hq_144
  have hk_154 : w_142 q_63 = some (.inl (G.2 0, 8200, .inl (fun _ => 0))) := up_ne hw_143 hk_137 (z_neN hk_137 hq_144)
  have ne_157 : q_86 ≠ q_141 := z_neN hk_138 hq_144
  have hk_156 : w_142 q_86 = some (.inl (G.2 0, 8200, .inl (fun _ => 0))) := up_ne hw_143 hk_138 (z_neN hk_138 hq_144)
  have ne_159 : q_112 ≠ q_141 := z_neN hk_139 hq_144
  have hk_158 : w_142 q_112 = some (.inl (G.2 0, 8200, .inl (fun _ => 0))) := up_ne hw_143 hk_139 (z_neN hk_139 hq_144)
  have hn_160 := hF.2 _ hq_144
  have hF := hF.put hw_143 (Or.inr hn_160)
  have hc_161 : w_142 q_141 = some (.inl (G.2 1, 8200, .inr (.inl (fun _ => 0)))) := up_self hw_143
  refine pf_R_31 cx hnm hZ hS hk_145 (Nat.le_of_ble_eq_true rfl) d_R_init_73 (fun w_162 H locs hw_163 hZ hS => ?_)
  have hk_164 : w_162 q_1 = some (.inl (G.2 0, 8200, .inl (fun _ => 0))) := up_ne hw_163 hk_146 ((Ne.symm (z_neN ho hn_6)))
  have hk_165 : w_162 q_12 = some (.inl (G.2 0, 8200, .inl (fun _ => 0))) := up_ne hw_163 hk_148 ((Ne.symm (z_neN ho hn_19)))
  have hk_166 : w_162 q_26 = some (.inl (G.2 0, 8200, .inl (fun _ => 0))) := up_ne hw_163 hk_150 ((Ne.symm (z_neN ho hn_35)))
  have hk_167 : w_162 q_43 = some (.inl (G.2 0, 8200, .inl (fun _ => 0))) := up_ne hw_163 hk_152 ((Ne.symm (z_neN ho hn_54)))
  have hk_168 : w_162 q_63 = some (.inl (G.2 0, 8200, .inl (fun _ => 0))) := up_ne hw_163 hk_154 ((Ne.symm (z_neN ho hn_76)))
  have hk_169 : w_162 q_86 = some (.inl (G.2 0, 8200, .inl (fun _ => 0))) := up_ne hw_163 hk_156 ((Ne.symm (z_neN ho hn_101)))
  have hk_170 : w_162 q_112 = some (.inl (G.2 0, 8200, .inl (fun _ => 0))) := up_ne hw_163 hk_158 ((Ne.symm (z_neN ho hn_129)))
  have hk_171 : w_162 q_141 = some (.inl (G.2 1, 8200, .inr (.inl (fun _ => 0)))) := up_ne hw_163 hc_161 ((Ne.symm (z_neN ho hn_160)))
  have hF := hF.put hw_163 (Or.inl (by simp))
  have hc_172 : w_162 o = some (.inr (6, [.int 0, .ref q_1, .ref q_12, .ref q_26, .ref q_43, .ref q_63, .ref q_86, .ref q_112, .ref q_141, .null, .int 0, .null, .null, .int 0, .null, .long 0, .long 0, .long 0, .long 0, .null, .long 0])) := up_self hw_163
  refine lv_aload_n hx hb d_R_init_76 rfl (lv_at hl 0 rfl) ?_
  refine lv_sipush (v := 8200) hx hb d_R_init_77 (by decide) ?_
  refine new_i (N := 8200) cx hZ hS (by decide) (by decide) (Nat.le_of_ble_eq_true rfl) (Nat.le_of_ble_eq_true rfl) (Nat.le_of_ble_eq_true rfl) d_R_init_80 (fun q_173 w_174 H hq_176 hw_175 hZ hS => ?_)
  have hk_177 : w_174 o = some (.inr (6, [.int 0, .ref q_1, .ref q_12, .ref q_26, .ref q_43, .ref q_63, .ref q_86, .ref q_112, .ref q_141, .null, .int 0, .null, .null, .int 0, .null, .long 0, .long 0, .long 0, .long 0, .null, .long 0])) := up_ne hw_175 hc_172 (z_neN hc_172 hq_176)
  have ne_179 : q_1 ≠ q_173 := z_neN hk_164 hq_176
  have hk_178 : w_174 q_1 = some (.inl (G.2 0, 8200, .inl (fun _ => 0))) := up_ne hw_175 hk_164 (z_neN hk_164 hq_176)
  have ne_181 : q_12 ≠ q_173 := z_neN hk_165 hq_176
  have hk_180 : w_174 q_12 = some (.inl (G.2 0, 8200, .inl (fun _ => 0))) := up_ne hw_175 hk_165 (z_neN hk_165 hq_176)
  have ne_183 : q_26 ≠ q_173 := z_neN hk_166 hq_176
  have hk_182 : w_174 q_26 = some (.inl (G.2 0, 8200, .inl (fun _ => 0))) := up_ne hw_175 hk_166 (z_neN hk_166 hq_176)
  have ne_185 : q_43 ≠ q_173 := z_neN hk_167 hq_176
  have hk_184 : w_174 q_43 = some (.inl (G.2 0, 8200, .inl (fun _ => 0))) := up_ne hw_175 hk_167 (z_neN hk_167 hq_176)
  have ne_187 : q_63 ≠ q_173 := z_neN hk_168 hq_176
  have hk_186 : w_174 q_63 = some (.inl (G.2 0, 8200, .inl (fun _ => 0))) := up_ne hw_175 hk_168 (z_neN hk_168 hq_176)
  have ne_189 : q_86 ≠ q_173 := z_neN hk_169 hq_176
  have hk_188 : w_174 q_86 = some (.inl (G.2 0, 8200, .inl (fun _ => 0))) := up_ne hw_175 hk_169 (z_neN hk_169 hq_176)
  have ne_191 : q_112 ≠ q_173 := z_neN hk_170 hq_176
  have hk_190 : w_174 q_112 = some (.inl (G.2 0, 8200, .inl (fun _ => 0))) := up_ne hw_175 hk_170 (z_neN hk_170 hq_176)
  have ne_193 : q_141 ≠ q_173 := z_neN hk_171 hq_176
  have hk_192 : w_174 q_141 = some (.inl (G.2 1, 8200, .inr (.inl (fun _ => 0)))) := up_ne hw_175 hk_171 (z_neN hk_171 hq_176)
  have hn_194 := hF.2 _ hq_176
  have hF := hF.put hw_175 (Or.inr hn_194)
  have hc_195 : w_174 q_173 = some (.inl (G.2 0, 8200, .inl (fun _ => 0))) := up_self hw_175
  refine pf_R_35 cx hnm hZ hS hk_177 (Nat.le_of_ble_eq_true rfl) d_R_init_82 (fun w_196 H locs hw_197 hZ hS => ?_)
  have hk_198 : w_196 q_1 = some (.inl (G.2 0, 8200, .inl (fun _ => 0))) := up_ne hw_197 hk_178 ((Ne.symm (z_neN ho hn_6)))
  have hk_199 : w_196 q_12 = some (.inl (G.2 0, 8200, .inl (fun _ => 0))) := up_ne hw_197 hk_180 ((Ne.symm (z_neN ho hn_19)))
  have hk_200 : w_196 q_26 = some (.inl (G.2 0, 8200, .inl (fun _ => 0))) := up_ne hw_197 hk_182 ((Ne.symm (z_neN ho hn_35)))
  have hk_201 : w_196 q_43 = some (.inl (G.2 0, 8200, .inl (fun _ => 0))) := up_ne hw_197 hk_184 ((Ne.symm (z_neN ho hn_54)))
  have hk_202 : w_196 q_63 = some (.inl (G.2 0, 8200, .inl (fun _ => 0))) := up_ne hw_197 hk_186 ((Ne.symm (z_neN ho hn_76)))
  have hk_203 : w_196 q_86 = some (.inl (G.2 0, 8200, .inl (fun _ => 0))) := up_ne hw_197 hk_188 ((Ne.symm (z_neN ho hn_101)))
  have hk_204 : w_196 q_112 = some (.inl (G.2 0, 8200, .inl (fun _ => 0))) := up_ne hw_197 hk_190 ((Ne.symm (z_neN ho hn_129)))
  have hk_205 : w_196 q_141 = some (.inl (G.2 1, 8200, .inr (.inl (fun _ => 0)))) := up_ne hw_197 hk_192 ((Ne.symm (z_neN ho hn_160)))
  have hk_206 : w_196 q_173 = some (.inl (G.2 0, 8200, .inl (fun _ => 0))) := up_ne hw_197 hc_195 ((Ne.symm (z_neN ho hn_194)))
  have hF := hF.put hw_197 (Or.inl (by simp))
  have hc_207 : w_196 o = some (.inr (6, [.int 0, .ref q_1, .ref q_12, .ref q_26, .ref q_43, .ref q_63, .ref q_86, .ref q_112, .ref q_141, .ref q_173, .int 0, .null, .null, .int 0, .null, .long 0, .long 0, .long 0, .long 0, .null, .long 0])) := up_self hw_197
  refine lv_aload_n hx hb d_R_init_85 rfl (lv_at hl 0 rfl) ?_
  refine lv_bipush (v := 101) hx hb d_R_init_86 (by decide) ?_
  refine new_i (N := 101) cx hZ hS (by decide) (by decide) (Nat.le_of_ble_eq_true rfl) (Nat.le_of_ble_eq_true rfl) (Nat.le_of_ble_eq_true rfl) d_R_init_88 (fun q_208 w_209 H hq_211 hw_210 hZ hS => ?_)
  have hk_212 : w_209 o = some (.inr (6, [.int 0, .ref q_1, .ref q_12, .ref q_26, .ref q_43, .ref q_63, .ref q_86, .ref q_112, .ref q_141, .ref q_173, .int 0, .null, .null, .int 0, .null, .long 0, .long 0, .long 0, .long 0, .null, .long 0])) := up_ne hw_210 hc_207 (z_neN hc_207 hq_211)
  have ne_214 : q_1 ≠ q_208 := z_neN hk_198 hq_211
  have hk_213 : w_209 q_1 = some (.inl (G.2 0, 8200, .inl (fun _ => 0))) := up_ne hw_210 hk_198 (z_neN hk_198 hq_211)
  have ne_216 : q_12 ≠ q_208 := z_neN hk_199 hq_211
  have hk_215 : w_209 q_12 = some (.inl (G.2 0, 8200, .inl (fun _ => 0))) := up_ne hw_210 hk_199 (z_neN hk_199 hq_211)
  have ne_218 : q_26 ≠ q_208 := z_neN hk_200 hq_211
  have hk_217 : w_209 q_26 = some (.inl (G.2 0, 8200, .inl (fun _ => 0))) := up_ne hw_210 hk_200 (z_neN hk_200 hq_211)
  have ne_220 : q_43 ≠ q_208 := z_neN hk_201 hq_211
  have hk_219 : w_209 q_43 = some (.inl (G.2 0, 8200, .inl (fun _ => 0))) := up_ne hw_210 hk_201 (z_neN hk_201 hq_211)
  have ne_222 : q_63 ≠ q_208 := z_neN hk_202 hq_211
  have hk_221 : w_209 q_63 = some (.inl (G.2 0, 8200, .inl (fun _ => 0))) := up_ne hw_210 hk_202 (z_neN hk_202 hq_211)
  have ne_224 : q_86 ≠ q_208 := z_neN hk_203 hq_211
  have hk_223 : w_209 q_86 = some (.inl (G.2 0, 8200, .inl (fun _ => 0))) := up_ne hw_210 hk_203 (z_neN hk_203 hq_211)
  have ne_226 : q_112 ≠ q_208 := z_neN hk_204 hq_211
  have hk_225 : w_209 q_112 = some (.inl (G.2 0, 8200, .inl (fun _ => 0))) := up_ne hw_210 hk_204 (z_neN hk_204 hq_211)
  have ne_228 : q_141 ≠ q_208 := z_neN hk_205 hq_211
  have hk_227 : w_209 q_141 = some (.inl (G.2 1, 8200, .inr (.inl (fun _ => 0)))) := up_ne hw_210 hk_205 (z_neN hk_205 hq_211)
  have ne_230 : q_173 ≠ q_208 := z_neN hk_206 hq_211
  have hk_229 : w_209 q_173 = some (.inl (G.2 0, 8200, .inl (fun _ => 0))) := up_ne hw_210 hk_206 (z_neN hk_206 hq_211)
  have hn_231 := hF.2 _ hq_211
  have hF := hF.put hw_210 (Or.inr hn_231)
  have hc_232 : w_209 q_208 = some (.inl (G.2 0, 101, .inl (fun _ => 0))) := up_self hw_210
  refine pf_R_38 cx hnm hZ hS hk_212 (Nat.le_of_ble_eq_true rfl) d_R_init_90 (fun w_233 H locs hw_234 hZ hS => ?_)
  have hk_235 : w_233 q_1 = some (.inl (G.2 0, 8200, .inl (fun _ => 0))) := up_ne hw_234 hk_213 ((Ne.symm (z_neN ho hn_6)))
  have hk_236 : w_233 q_12 = some (.inl (G.2 0, 8200, .inl (fun _ => 0))) := up_ne hw_234 hk_215 ((Ne.symm (z_neN ho hn_19)))
  have hk_237 : w_233 q_26 = some (.inl (G.2 0, 8200, .inl (fun _ => 0))) := up_ne hw_234 hk_217 ((Ne.symm (z_neN ho hn_35)))
  have hk_238 : w_233 q_43 = some (.inl (G.2 0, 8200, .inl (fun _ => 0))) := up_ne hw_234 hk_219 ((Ne.symm (z_neN ho hn_54)))
  have hk_239 : w_233 q_63 = some (.inl (G.2 0, 8200, .inl (fun _ => 0))) := up_ne hw_234 hk_221 ((Ne.symm (z_neN ho hn_76)))
  have hk_240 : w_233 q_86 = some (.inl (G.2 0, 8200, .inl (fun _ => 0))) := up_ne hw_234 hk_223 ((Ne.symm (z_neN ho hn_101)))
  have hk_241 : w_233 q_112 = some (.inl (G.2 0, 8200, .inl (fun _ => 0))) := up_ne hw_234 hk_225 ((Ne.symm (z_neN ho hn_129)))
  have hk_242 : w_233 q_141 = some (.inl (G.2 1, 8200, .inr (.inl (fun _ => 0)))) := up_ne hw_234 hk_227 ((Ne.symm (z_neN ho hn_160)))
  have hk_243 : w_233 q_173 = some (.inl (G.2 0, 8200, .inl (fun _ => 0))) := up_ne hw_234 hk_229 ((Ne.symm (z_neN ho hn_194)))
  have hk_244 : w_233 q_208 = some (.inl (G.2 0, 101, .inl (fun _ => 0))) := up_ne hw_234 hc_232 ((Ne.symm (z_neN ho hn_231)))
  have hF := hF.put hw_234 (Or.inl (by simp))
  have hc_245 : w_233 o = some (.inr (6, [.int 0, .ref q_1, .ref q_12, .ref q_26, .ref q_43, .ref q_63, .ref q_86, .ref q_112, .ref q_141, .ref q_173, .int 0, .ref q_208, .null, .int 0, .null, .long 0, .long 0, .long 0, .long 0, .null, .long 0])) := up_self hw_234
  refine lv_aload_n hx hb d_R_init_93 rfl (lv_at hl 0 rfl) ?_
  refine lv_bipush (v := 101) hx hb d_R_init_94 (by decide) ?_
  refine new_z (N := 101) cx hZ hS (by decide) (by decide) (Nat.le_of_ble_eq_true rfl) (Nat.le_of_ble_eq_true rfl) (Nat.le_of_ble_eq_true rfl) d_R_init_96 (fun q_246 w_247 H hq_249 hw_248 hZ hS => ?_)
  have hk_250 : w_247 o = some (.inr (6, [.int 0, .ref q_1, .ref q_12, .ref q_26, .ref q_43, .ref q_63, .ref q_86, .ref q_112, .ref q_141, .ref q_173, .int 0, .ref q_208, .null, .int 0, .null, .long 0, .long 0, .long 0, .long 0, .null, .long 0])) := up_ne hw_248 hc_245 (z_neN hc_245 hq_249)
  have ne_252 : q_1 ≠ q_246 := z_neN hk_235 hq_249
  have hk_251 : w_247 q_1 = some (.inl (G.2 0, 8200, .inl (fun _ => 0))) := up_ne hw_248 hk_235 (z_neN hk_235 hq_249)
  have ne_254 : q_12 ≠ q_246 := z_neN hk_236 hq_249
  have hk_253 : w_247 q_12 = some (.inl (G.2 0, 8200, .inl (fun _ => 0))) := up_ne hw_248 hk_236 (z_neN hk_236 hq_249)
  have ne_256 : q_26 ≠ q_246 := z_neN hk_237 hq_249
  have hk_255 : w_247 q_26 = some (.inl (G.2 0, 8200, .inl (fun _ => 0))) := up_ne hw_248 hk_237 (z_neN hk_237 hq_249)
  have ne_258 : q_43 ≠ q_246 := z_neN hk_238 hq_249
  have hk_257 : w_247 q_43 = some (.inl (G.2 0, 8200, .inl (fun _ => 0))) := up_ne hw_248 hk_238 (z_neN hk_238 hq_249)
  have ne_260 : q_63 ≠ q_246 := z_neN hk_239 hq_249
  have hk_259 : w_247 q_63 = some (.inl (G.2 0, 8200, .inl (fun _ => 0))) := up_ne hw_248 hk_239 (z_neN hk_239 hq_249)
  have ne_262 : q_86 ≠ q_246 := z_neN hk_240 hq_249
  have hk_261 : w_247 q_86 = some (.inl (G.2 0, 8200, .inl (fun _ => 0))) := up_ne hw_248 hk_240 (z_neN hk_240 hq_249)
  have ne_264 : q_112 ≠ q_246 := z_neN hk_241 hq_249
  have hk_263 : w_247 q_112 = some (.inl (G.2 0, 8200, .inl (fun _ => 0))) := up_ne hw_248 hk_241 (z_neN hk_241 hq_249)
  have ne_266 : q_141 ≠ q_246 := z_neN hk_242 hq_249
  have hk_265 : w_247 q_141 = some (.inl (G.2 1, 8200, .inr (.inl (fun _ => 0)))) := up_ne hw_248 hk_242 (z_neN hk_242 hq_249)
  have ne_268 : q_173 ≠ q_246 := z_neN hk_243 hq_249
  have hk_267 : w_247 q_173 = some (.inl (G.2 0, 8200, .inl (fun _ => 0))) := up_ne hw_248 hk_243 (z_neN hk_243 hq_249)
  have ne_270 : q_208 ≠ q_246 := z_neN hk_244 hq_249
  have hk_269 : w_247 q_208 = some (.inl (G.2 0, 101, .inl (fun _ => 0))) := up_ne hw_248 hk_244 (z_neN hk_244 hq_249)
  have hn_271 := hF.2 _ hq_249
  have hF := hF.put hw_248 (Or.inr hn_271)
  have hc_272 : w_247 q_246 = some (.inl (G.2 2, 101, .inl (fun _ => 0))) := up_self hw_248
  refine pf_R_41 cx hnm hZ hS hk_250 (Nat.le_of_ble_eq_true rfl) d_R_init_98 (fun w_273 H locs hw_274 hZ hS => ?_)
  have hk_275 : w_273 q_1 = some (.inl (G.2 0, 8200, .inl (fun _ => 0))) := up_ne hw_274 hk_251 ((Ne.symm (z_neN ho hn_6)))
  have hk_276 : w_273 q_12 = some (.inl (G.2 0, 8200, .inl (fun _ => 0))) := up_ne hw_274 hk_253 ((Ne.symm (z_neN ho hn_19)))
  have hk_277 : w_273 q_26 = some (.inl (G.2 0, 8200, .inl (fun _ => 0))) := up_ne hw_274 hk_255 ((Ne.symm (z_neN ho hn_35)))
  have hk_278 : w_273 q_43 = some (.inl (G.2 0, 8200, .inl (fun _ => 0))) := up_ne hw_274 hk_257 ((Ne.symm (z_neN ho hn_54)))
  have hk_279 : w_273 q_63 = some (.inl (G.2 0, 8200, .inl (fun _ => 0))) := up_ne hw_274 hk_259 ((Ne.symm (z_neN ho hn_76)))
  have hk_280 : w_273 q_86 = some (.inl (G.2 0, 8200, .inl (fun _ => 0))) := up_ne hw_274 hk_261 ((Ne.symm (z_neN ho hn_101)))
  have hk_281 : w_273 q_112 = some (.inl (G.2 0, 8200, .inl (fun _ => 0))) := up_ne hw_274 hk_263 ((Ne.symm (z_neN ho hn_129)))
  have hk_282 : w_273 q_141 = some (.inl (G.2 1, 8200, .inr (.inl (fun _ => 0)))) := up_ne hw_274 hk_265 ((Ne.symm (z_neN ho hn_160)))
  have hk_283 : w_273 q_173 = some (.inl (G.2 0, 8200, .inl (fun _ => 0))) := up_ne hw_274 hk_267 ((Ne.symm (z_neN ho hn_194)))
  have hk_284 : w_273 q_208 = some (.inl (G.2 0, 101, .inl (fun _ => 0))) := up_ne hw_274 hk_269 ((Ne.symm (z_neN ho hn_231)))
  have hk_285 : w_273 q_246 = some (.inl (G.2 2, 101, .inl (fun _ => 0))) := up_ne hw_274 hc_272 ((Ne.symm (z_neN ho hn_271)))
  have hF := hF.put hw_274 (Or.inl (by simp))
  have hc_286 : w_273 o = some (.inr (6, [.int 0, .ref q_1, .ref q_12, .ref q_26, .ref q_43, .ref q_63, .ref q_86, .ref q_112, .ref q_141, .ref q_173, .int 0, .ref q_208, .ref q_246, .int 0, .null, .long 0, .long 0, .long 0, .long 0, .null, .long 0])) := up_self hw_274
  refine lv_aload_n hx hb d_R_init_101 rfl (lv_at hl 0 rfl) ?_
  refine lv_bipush (v := 16) hx hb d_R_init_102 (by decide) ?_
  refine new_i (N := 16) cx hZ hS (by decide) (by decide) (Nat.le_of_ble_eq_true rfl) (Nat.le_of_ble_eq_true rfl) (Nat.le_of_ble_eq_true rfl) d_R_init_104 (fun q_287 w_288 H hq_290 hw_289 hZ hS => ?_)
  have hk_291 : w_288 o = some (.inr (6, [.int 0, .ref q_1, .ref q_12, .ref q_26, .ref q_43, .ref q_63, .ref q_86, .ref q_112, .ref q_141, .ref q_173, .int 0, .ref q_208, .ref q_246, .int 0, .null, .long 0, .long 0, .long 0, .long 0, .null, .long 0])) := up_ne hw_289 hc_286 (z_neN hc_286 hq_290)
  have ne_293 : q_1 ≠ q_287 := z_neN hk_275 hq_290
  have hk_292 : w_288 q_1 = some (.inl (G.2 0, 8200, .inl (fun _ => 0))) := up_ne hw_289 hk_275 (z_neN hk_275 hq_290)
  have ne_295 : q_12 ≠ q_287 := z_neN hk_276 hq_290
  have hk_294 : w_288 q_12 = some (.inl (G.2 0, 8200, .inl (fun _ => 0))) := up_ne hw_289 hk_276 (z_neN hk_276 hq_290)
  have ne_297 : q_26 ≠ q_287 := z_neN hk_277 hq_290
  have hk_296 : w_288 q_26 = some (.inl (G.2 0, 8200, .inl (fun _ => 0))) := up_ne hw_289 hk_277 (z_neN hk_277 hq_290)
  have ne_299 : q_43 ≠ q_287 := z_neN hk_278 hq_290
  have hk_298 : w_288 q_43 = some (.inl (G.2 0, 8200, .inl (fun _ => 0))) := up_ne hw_289 hk_278 (z_neN hk_278 hq_290)
  have ne_301 : q_63 ≠ q_287 := z_neN hk_279 hq_290
  have hk_300 : w_288 q_63 = some (.inl (G.2 0, 8200, .inl (fun _ => 0))) := up_ne hw_289 hk_279 (z_neN hk_279 hq_290)
  have ne_303 : q_86 ≠ q_287 := z_neN hk_280 hq_290
  have hk_302 : w_288 q_86 = some (.inl (G.2 0, 8200, .inl (fun _ => 0))) := up_ne hw_289 hk_280 (z_neN hk_280 hq_290)
  have ne_305 : q_112 ≠ q_287 := z_neN hk_281 hq_290
  have hk_304 : w_288 q_112 = some (.inl (G.2 0, 8200, .inl (fun _ => 0))) := up_ne hw_289 hk_281 (z_neN hk_281 hq_290)
  have ne_307 : q_141 ≠ q_287 := z_neN hk_282 hq_290
  have hk_306 : w_288 q_141 = some (.inl (G.2 1, 8200, .inr (.inl (fun _ => 0)))) := up_ne hw_289 hk_282 (z_neN hk_282 hq_290)
  have ne_309 : q_173 ≠ q_287 := z_neN hk_283 hq_290
  have hk_308 : w_288 q_173 = some (.inl (G.2 0, 8200, .inl (fun _ => 0))) := up_ne hw_289 hk_283 (z_neN hk_283 hq_290)
  have ne_311 : q_208 ≠ q_287 := z_neN hk_284 hq_290
  have hk_310 : w_288 q_208 = some (.inl (G.2 0, 101, .inl (fun _ => 0))) := up_ne hw_289 hk_284 (z_neN hk_284 hq_290)
  have ne_313 : q_246 ≠ q_287 := z_neN hk_285 hq_290
  have hk_312 : w_288 q_246 = some (.inl (G.2 2, 101, .inl (fun _ => 0))) := up_ne hw_289 hk_285 (z_neN hk_285 hq_290)
  have hn_314 := hF.2 _ hq_290
  have hF := hF.put hw_289 (Or.inr hn_314)
  have hc_315 : w_288 q_287 = some (.inl (G.2 0, 16, .inl (fun _ => 0))) := up_self hw_289
  refine pf_R_45 cx hnm hZ hS hk_291 (Nat.le_of_ble_eq_true rfl) d_R_init_106 (fun w_316 H locs hw_317 hZ hS => ?_)
  have hk_318 : w_316 q_1 = some (.inl (G.2 0, 8200, .inl (fun _ => 0))) := up_ne hw_317 hk_292 ((Ne.symm (z_neN ho hn_6)))
  have hk_319 : w_316 q_12 = some (.inl (G.2 0, 8200, .inl (fun _ => 0))) := up_ne hw_317 hk_294 ((Ne.symm (z_neN ho hn_19)))
  have hk_320 : w_316 q_26 = some (.inl (G.2 0, 8200, .inl (fun _ => 0))) := up_ne hw_317 hk_296 ((Ne.symm (z_neN ho hn_35)))
  have hk_321 : w_316 q_43 = some (.inl (G.2 0, 8200, .inl (fun _ => 0))) := up_ne hw_317 hk_298 ((Ne.symm (z_neN ho hn_54)))
  have hk_322 : w_316 q_63 = some (.inl (G.2 0, 8200, .inl (fun _ => 0))) := up_ne hw_317 hk_300 ((Ne.symm (z_neN ho hn_76)))
  have hk_323 : w_316 q_86 = some (.inl (G.2 0, 8200, .inl (fun _ => 0))) := up_ne hw_317 hk_302 ((Ne.symm (z_neN ho hn_101)))
  have hk_324 : w_316 q_112 = some (.inl (G.2 0, 8200, .inl (fun _ => 0))) := up_ne hw_317 hk_304 ((Ne.symm (z_neN ho hn_129)))
  have hk_325 : w_316 q_141 = some (.inl (G.2 1, 8200, .inr (.inl (fun _ => 0)))) := up_ne hw_317 hk_306 ((Ne.symm (z_neN ho hn_160)))
  have hk_326 : w_316 q_173 = some (.inl (G.2 0, 8200, .inl (fun _ => 0))) := up_ne hw_317 hk_308 ((Ne.symm (z_neN ho hn_194)))
  have hk_327 : w_316 q_208 = some (.inl (G.2 0, 101, .inl (fun _ => 0))) := up_ne hw_317 hk_310 ((Ne.symm (z_neN ho hn_231)))
  have hk_328 : w_316 q_246 = some (.inl (G.2 2, 101, .inl (fun _ => 0))) := up_ne hw_317 hk_312 ((Ne.symm (z_neN ho hn_271)))
  have hk_329 : w_316 q_287 = some (.inl (G.2 0, 16, .inl (fun _ => 0))) := up_ne hw_317 hc_315 ((Ne.symm (z_neN ho hn_314)))
  have hF := hF.put hw_317 (Or.inl (by simp))
  have hc_330 : w_316 o = some (.inr (6, [.int 0, .ref q_1, .ref q_12, .ref q_26, .ref q_43, .ref q_63, .ref q_86, .ref q_112, .ref q_141, .ref q_173, .int 0, .ref q_208, .ref q_246, .int 0, .ref q_287, .long 0, .long 0, .long 0, .long 0, .null, .long 0])) := up_self hw_317
  refine lv_aload_n hx hb d_R_init_109 rfl (lv_at hl 0 rfl) ?_
  refine lv_iconst (v := 4) hx hb d_R_init_110 (by decide) ?_
  refine new_l (N := 4) cx hZ hS (by decide) (by decide) (Nat.le_of_ble_eq_true rfl) (Nat.le_of_ble_eq_true rfl) (Nat.le_of_ble_eq_true rfl) d_R_init_111 (fun q_331 w_332 H hq_334 hw_333 hZ hS => ?_)
  have hk_335 : w_332 o = some (.inr (6, [.int 0, .ref q_1, .ref q_12, .ref q_26, .ref q_43, .ref q_63, .ref q_86, .ref q_112, .ref q_141, .ref q_173, .int 0, .ref q_208, .ref q_246, .int 0, .ref q_287, .long 0, .long 0, .long 0, .long 0, .null, .long 0])) := up_ne hw_333 hc_330 (z_neN hc_330 hq_334)
  have ne_337 : q_1 ≠ q_331 := z_neN hk_318 hq_334
  have hk_336 : w_332 q_1 = some (.inl (G.2 0, 8200, .inl (fun _ => 0))) := up_ne hw_333 hk_318 (z_neN hk_318 hq_334)
  have ne_339 : q_12 ≠ q_331 := z_neN hk_319 hq_334
  have hk_338 : w_332 q_12 = some (.inl (G.2 0, 8200, .inl (fun _ => 0))) := up_ne hw_333 hk_319 (z_neN hk_319 hq_334)
  have ne_341 : q_26 ≠ q_331 := z_neN hk_320 hq_334
  have hk_340 : w_332 q_26 = some (.inl (G.2 0, 8200, .inl (fun _ => 0))) := up_ne hw_333 hk_320 (z_neN hk_320 hq_334)
  have ne_343 : q_43 ≠ q_331 := z_neN hk_321 hq_334
  have hk_342 : w_332 q_43 = some (.inl (G.2 0, 8200, .inl (fun _ => 0))) := up_ne hw_333 hk_321 (z_neN hk_321 hq_334)
  have ne_345 : q_63 ≠ q_331 := z_neN hk_322 hq_334
  have hk_344 : w_332 q_63 = some (.inl (G.2 0, 8200, .inl (fun _ => 0))) := up_ne hw_333 hk_322 (z_neN hk_322 hq_334)
  have ne_347 : q_86 ≠ q_331 := z_neN hk_323 hq_334
  have hk_346 : w_332 q_86 = some (.inl (G.2 0, 8200, .inl (fun _ => 0))) := up_ne hw_333 hk_323 (z_neN hk_323 hq_334)
  have ne_349 : q_112 ≠ q_331 := z_neN hk_324 hq_334
  have hk_348 : w_332 q_112 = some (.inl (G.2 0, 8200, .inl (fun _ => 0))) := up_ne hw_333 hk_324 (z_neN hk_324 hq_334)
  have ne_351 : q_141 ≠ q_331 := z_neN hk_325 hq_334
  have hk_350 : w_332 q_141 = some (.inl (G.2 1, 8200, .inr (.inl (fun _ => 0)))) := up_ne hw_333 hk_325 (z_neN hk_325 hq_334)
  have ne_353 : q_173 ≠ q_331 := z_neN hk_326 hq_334
  have hk_352 : w_332 q_173 = some (.inl (G.2 0, 8200, .inl (fun _ => 0))) := up_ne hw_333 hk_326 (z_neN hk_326 hq_334)
  have ne_355 : q_208 ≠ q_331 := z_neN hk_327 hq_334
  have hk_354 : w_332 q_208 = some (.inl (G.2 0, 101, .inl (fun _ => 0))) := up_ne hw_333 hk_327 (z_neN hk_327 hq_334)
  have ne_357 : q_246 ≠ q_331 := z_neN hk_328 hq_334
  have hk_356 : w_332 q_246 = some (.inl (G.2 2, 101, .inl (fun _ => 0))) := up_ne hw_333 hk_328 (z_neN hk_328 hq_334)
  have ne_359 : q_287 ≠ q_331 := z_neN hk_329 hq_334
  have hk_358 : w_332 q_287 = some (.inl (G.2 0, 16, .inl (fun _ => 0))) := up_ne hw_333 hk_329 (z_neN hk_329 hq_334)
  have hn_360 := hF.2 _ hq_334
  have hF := hF.put hw_333 (Or.inr hn_360)
  have hc_361 : w_332 q_331 = some (.inl (G.2 1, 4, .inr (.inl (fun _ => 0)))) := up_self hw_333
  refine pf_R_48 cx hnm hZ hS hk_335 (Nat.le_of_ble_eq_true rfl) d_R_init_113 (fun w_362 H locs hw_363 hZ hS => ?_)
  have hk_364 : w_362 q_1 = some (.inl (G.2 0, 8200, .inl (fun _ => 0))) := up_ne hw_363 hk_336 ((Ne.symm (z_neN ho hn_6)))
  have hk_365 : w_362 q_12 = some (.inl (G.2 0, 8200, .inl (fun _ => 0))) := up_ne hw_363 hk_338 ((Ne.symm (z_neN ho hn_19)))
  have hk_366 : w_362 q_26 = some (.inl (G.2 0, 8200, .inl (fun _ => 0))) := up_ne hw_363 hk_340 ((Ne.symm (z_neN ho hn_35)))
  have hk_367 : w_362 q_43 = some (.inl (G.2 0, 8200, .inl (fun _ => 0))) := up_ne hw_363 hk_342 ((Ne.symm (z_neN ho hn_54)))
  have hk_368 : w_362 q_63 = some (.inl (G.2 0, 8200, .inl (fun _ => 0))) := up_ne hw_363 hk_344 ((Ne.symm (z_neN ho hn_76)))
  have hk_369 : w_362 q_86 = some (.inl (G.2 0, 8200, .inl (fun _ => 0))) := up_ne hw_363 hk_346 ((Ne.symm (z_neN ho hn_101)))
  have hk_370 : w_362 q_112 = some (.inl (G.2 0, 8200, .inl (fun _ => 0))) := up_ne hw_363 hk_348 ((Ne.symm (z_neN ho hn_129)))
  have hk_371 : w_362 q_141 = some (.inl (G.2 1, 8200, .inr (.inl (fun _ => 0)))) := up_ne hw_363 hk_350 ((Ne.symm (z_neN ho hn_160)))
  have hk_372 : w_362 q_173 = some (.inl (G.2 0, 8200, .inl (fun _ => 0))) := up_ne hw_363 hk_352 ((Ne.symm (z_neN ho hn_194)))
  have hk_373 : w_362 q_208 = some (.inl (G.2 0, 101, .inl (fun _ => 0))) := up_ne hw_363 hk_354 ((Ne.symm (z_neN ho hn_231)))
  have hk_374 : w_362 q_246 = some (.inl (G.2 2, 101, .inl (fun _ => 0))) := up_ne hw_363 hk_356 ((Ne.symm (z_neN ho hn_271)))
  have hk_375 : w_362 q_287 = some (.inl (G.2 0, 16, .inl (fun _ => 0))) := up_ne hw_363 hk_358 ((Ne.symm (z_neN ho hn_314)))
  have hk_376 : w_362 q_331 = some (.inl (G.2 1, 4, .inr (.inl (fun _ => 0)))) := up_ne hw_363 hc_361 ((Ne.symm (z_neN ho hn_360)))
  have hF := hF.put hw_363 (Or.inl (by simp))
  have hc_377 : w_362 o = some (.inr (6, [.int 0, .ref q_1, .ref q_12, .ref q_26, .ref q_43, .ref q_63, .ref q_86, .ref q_112, .ref q_141, .ref q_173, .int 0, .ref q_208, .ref q_246, .int 0, .ref q_287, .long 0, .long 0, .long 0, .long 0, .ref q_331, .long 0])) := up_self hw_363
  exact z_vret cx.1 cx.2.1 cx.rt cx.lk hS hZ ⟨(Nat.le_of_ble_eq_true rfl), (Nat.le_of_ble_eq_true rfl)⟩ d_R_init_116 (⟨fun i => [q_1, q_12, q_26, q_43, q_63, q_86, q_112, q_141, q_173, q_208, q_246, q_287, q_331].getD i 0, rfl, fun i j hi hj hij => nodup_inj (l := [q_1, q_12, q_26, q_43, q_63, q_86, q_112, q_141, q_173, q_208, q_246, q_287, q_331]) (by simp only [List.nodup_cons, List.mem_cons, List.not_mem_nil, or_false, not_or, not_false_eq_true, List.nodup_nil, and_true]; exact ⟨⟨ne_18, ne_32, ne_49, ne_69, ne_92, ne_118, ne_147, ne_179, ne_214, ne_252, ne_293, ne_337⟩, ⟨ne_34, ne_51, ne_71, ne_94, ne_120, ne_149, ne_181, ne_216, ne_254, ne_295, ne_339⟩, ⟨ne_53, ne_73, ne_96, ne_122, ne_151, ne_183, ne_218, ne_256, ne_297, ne_341⟩, ⟨ne_75, ne_98, ne_124, ne_153, ne_185, ne_220, ne_258, ne_299, ne_343⟩, ⟨ne_100, ne_126, ne_155, ne_187, ne_222, ne_260, ne_301, ne_345⟩, ⟨ne_128, ne_157, ne_189, ne_224, ne_262, ne_303, ne_347⟩, ⟨ne_159, ne_191, ne_226, ne_264, ne_305, ne_349⟩, ⟨ne_193, ne_228, ne_266, ne_307, ne_351⟩, ⟨ne_230, ne_268, ne_309, ne_353⟩, ⟨ne_270, ne_311, ne_355⟩, ⟨ne_313, ne_357⟩, ne_359⟩) hi hj hij, fun i hi => by rcases (show i = 0 ∨ i = 1 ∨ i = 2 ∨ i = 3 ∨ i = 4 ∨ i = 5 ∨ i = 6 ∨ i = 7 ∨ i = 8 ∨ i = 9 ∨ i = 10 ∨ i = 11 ∨ i = 12 by omega) with rfl | rfl | rfl | rfl | rfl | rfl | rfl | rfl | rfl | rfl | rfl | rfl | rfl <;> assumption, ⟨hk_364, hk_365, hk_366, hk_367, hk_368, hk_369, hk_370, hk_371, hk_372, hk_373, hk_374, hk_375, hk_376⟩, hc_377, hF⟩)
