/-- the reference's nine arrays of rows -/
def RW (G : zG) (w : zw) (A : Nat → Nat) (F : Nat → Nat → Int32) (M : Nat → Int64) : Prop := w (A 0) = some (.inl (G.2 0, 8200, .inl (F 0))) ∧ w (A 1) = some (.inl (G.2 0, 8200, .inl (F 1))) ∧ w (A 2) = some (.inl (G.2 0, 8200, .inl (F 2))) ∧ w (A 3) = some (.inl (G.2 0, 8200, .inl (F 3))) ∧ w (A 4) = some (.inl (G.2 0, 8200, .inl (F 4))) ∧ w (A 5) = some (.inl (G.2 0, 8200, .inl (F 5))) ∧ w (A 6) = some (.inl (G.2 0, 8200, .inl (F 6))) ∧ w (A 7) = some (.inl (G.2 1, 8200, .inr (.inl M))) ∧ w (A 8) = some (.inl (G.2 0, 8200, .inl (F 8)))
def setF (F : Nat → Nat → Int32) (t : Nat) (r : Nat → Int32) : Nat → Nat → Int32 := fun i => upd (F i) t (r i)
abbrev rowsA (A : Nat → Nat) : List Nat := [A 0, A 1, A 2, A 3, A 4, A 5, A 6, A 7, A 8]
def row9 (k x h d s o z : Int32) : Nat → Int32 := fun i => match i with | 0 => k | 1 => x | 2 => h | 3 => d | 4 => s | 5 => o | 6 => z | _ => 1
theorem RW.keepF {G : zG} {w w1 : zw} {A : Nat → Nat} {F : Nat → Nat → Int32} {M : Nat → Int64} {S : List Nat} (h : RW G w A F M) (hF : Fr S w w1) (hS : ∀ i, i < 9 → A i ∉ S) : RW G w1 A F M := by
  obtain ⟨h0, h1, h2, h3, h4, h5, h6, h7, h8⟩ := h
  exact ⟨hF.keep h0 (hS 0 (by decide)), hF.keep h1 (hS 1 (by decide)), hF.keep h2 (hS 2 (by decide)), hF.keep h3 (hS 3 (by decide)), hF.keep h4 (hS 4 (by decide)), hF.keep h5 (hS 5 (by decide)), hF.keep h6 (hS 6 (by decide)), hF.keep h7 (hS 7 (by decide)), hF.keep h8 (hS 8 (by decide))⟩
/-- a row more at the end of the lists, or nothing but 'thrown' -/
def AddR (G : zG) (o : Nat) (A : Nat → Nat) (S : Nat → Int32) (L : Nat → Int64) (F : Nat → Nat → Int32) (M : Nat → Int64) (good : Bool) (en : Nat) (r9 : Nat → Int32) (r : Int32) (w w1 : zw) : Prop := (good = true ∧ r = 1 ∧ RW G w1 A (setF F en r9) (vp_updL M en 0) ∧ w1 o = some (.inr (6, fR A (upd (upd S 0 0) 2 (nI (en + 1))) L)) ∧ Fr (o :: rowsA A) w w1) ∨ (good = false ∧ r = 0 ∧ RW G w1 A F M ∧ w1 o = some (.inr (6, fR A (upd S 0 0) L)) ∧ Fr (o :: rowsA A) w w1)
set_option maxHeartbeats 4000000 in
set_option maxRecDepth 100000 in
theorem r_move (l : Launch) (G : zG) (n0 e0 : Nat) (w : zw) (o : Nat) (A : Nat → Nat) (S : Nat → Int32) (L : Nat → Int64) (ho : w o = some (.inr (6, fR A S L))) (F : Nat → Nat → Int32) (M : Nat → Int64) (hR : RW G w A F M) (hA : ∀ i j, i < 13 → j < 13 → i ≠ j → A i ≠ A j) (f t : Nat) (hf : f < 8200) (ht : t < 8200) : Ct l G n0 e0 y_R_move b_R_move 3 (Option.none : Option FieldType) ({ frames := 0, cells := 0, slots := 0, locals := 0 }) [.ref o, .int (nI f), .int (nI t)] w (fun v w1 => v = none ∧ RW G w1 A (setF F t (fun i => F i f)) (vp_updL M t (M f)) ∧ Fr (rowsA A) w w1) := by
  refine z_ct (by decide) (Nat.le_of_ble_eq_true rfl) ?_
  intro p e s m below meth c ls cx hnm hZ hS hl
  have hx := cx.1
  have hb := cx.2.1
  have hl : lv_has ls 3 [(0, .ref o), (1, .int (nI f)), (2, .int (nI t))] := hl
  obtain ⟨h0, h1, h2, h3, h4, h5, h6, h7, h8⟩ := id hR
  have hF : Fr [(A 0), (A 1), (A 2), (A 3), (A 4), (A 5), (A 6), (A 7), (A 8)] w w := Fr.rf
  refine lv_aload_n hx hb d_R_move_0 rfl (lv_at hl 0 rfl) ?_
  refine gf_R_7 cx hZ ho rfl d_R_move_1 ?_
  refine lv_iload_n hx hb d_R_move_4 rfl (lv_at hl 2 rfl) ?_
  refine lv_aload_n hx hb d_R_move_5 rfl (lv_at hl 0 rfl) ?_
  refine gf_R_7 cx hZ ho rfl d_R_move_6 ?_
  refine lv_iload_n hx hb d_R_move_9 rfl (lv_at hl 1 rfl) ?_
  refine ld_i cx hZ h0 (vp_in_nI hf (by omega)) d_R_move_10 ?_
  rw [show (((F 0) (nI f).toNatClampNeg) : Int32) = F 0 f from by rw [nI_clamp (by omega)]]
  refine st_i cx hZ hS h0 (vp_in_nI ht (by omega)) d_R_move_11 (fun w_1 H locs hw_2 hZ hS => ?_)
  have hk_3 : w_1 o = some (.inr (6, [.int (S 0), .ref (A 0), .ref (A 1), .ref (A 2), .ref (A 3), .ref (A 4), .ref (A 5), .ref (A 6), .ref (A 7), .ref (A 8), .int (S 1), .ref (A 9), .ref (A 10), .int (S 2), .ref (A 11), .long (L 0), .long (L 1), .long (L 2), .long (L 3), .ref (A 12), .long (L 4)])) := up_ne hw_2 ho (z_ne ho h0 (by simp))
  have hk_4 : w_1 (A 1) = some (.inl (G.2 0, 8200, .inl (F 1))) := up_ne hw_2 h1 ((hA 1 0 (by decide) (by decide) (by decide)))
  have hk_5 : w_1 (A 2) = some (.inl (G.2 0, 8200, .inl (F 2))) := up_ne hw_2 h2 ((hA 2 0 (by decide) (by decide) (by decide)))
  have hk_6 : w_1 (A 3) = some (.inl (G.2 0, 8200, .inl (F 3))) := up_ne hw_2 h3 ((hA 3 0 (by decide) (by decide) (by decide)))
  have hk_7 : w_1 (A 4) = some (.inl (G.2 0, 8200, .inl (F 4))) := up_ne hw_2 h4 ((hA 4 0 (by decide) (by decide) (by decide)))
  have hk_8 : w_1 (A 5) = some (.inl (G.2 0, 8200, .inl (F 5))) := up_ne hw_2 h5 ((hA 5 0 (by decide) (by decide) (by decide)))
  have hk_9 : w_1 (A 6) = some (.inl (G.2 0, 8200, .inl (F 6))) := up_ne hw_2 h6 ((hA 6 0 (by decide) (by decide) (by decide)))
  have hk_10 : w_1 (A 7) = some (.inl (G.2 1, 8200, .inr (.inl M))) := up_ne hw_2 h7 ((hA 7 0 (by decide) (by decide) (by decide)))
  have hk_11 : w_1 (A 8) = some (.inl (G.2 0, 8200, .inl (F 8))) := up_ne hw_2 h8 ((hA 8 0 (by decide) (by decide) (by decide)))
  have hF := hF.put hw_2 (Or.inl (by simp))
  have hc_12 : w_1 (A 0) = some (.inl (G.2 0, 8200, .inl (upd (F 0) (nI t).toNatClampNeg (F 0 f)))) := up_self hw_2
  refine lv_aload_n hx hb d_R_move_12 rfl (lv_at hl 0 rfl) ?_
  refine gf_R_13 cx hZ hk_3 rfl d_R_move_13 ?_
  refine lv_iload_n hx hb d_R_move_16 rfl (lv_at hl 2 rfl) ?_
  refine lv_aload_n hx hb d_R_move_17 rfl (lv_at hl 0 rfl) ?_
  refine gf_R_13 cx hZ hk_3 rfl d_R_move_18 ?_
  refine lv_iload_n hx hb d_R_move_21 rfl (lv_at hl 1 rfl) ?_
  refine ld_i cx hZ hk_4 (vp_in_nI hf (by omega)) d_R_move_22 ?_
  rw [show (((F 1) (nI f).toNatClampNeg) : Int32) = F 1 f from by rw [nI_clamp (by omega)]]
  refine st_i cx hZ hS hk_4 (vp_in_nI ht (by omega)) d_R_move_23 (fun w_13 H locs hw_14 hZ hS => ?_)
  have hk_15 : w_13 o = some (.inr (6, [.int (S 0), .ref (A 0), .ref (A 1), .ref (A 2), .ref (A 3), .ref (A 4), .ref (A 5), .ref (A 6), .ref (A 7), .ref (A 8), .int (S 1), .ref (A 9), .ref (A 10), .int (S 2), .ref (A 11), .long (L 0), .long (L 1), .long (L 2), .long (L 3), .ref (A 12), .long (L 4)])) := up_ne hw_14 hk_3 (z_ne hk_3 hk_4 (by simp))
  have hk_16 : w_13 (A 0) = some (.inl (G.2 0, 8200, .inl (upd (F 0) (nI t).toNatClampNeg (F 0 f)))) := up_ne hw_14 hc_12 ((hA 0 1 (by decide) (by decide) (by decide)))
  have hk_17 : w_13 (A 2) = some (.inl (G.2 0, 8200, .inl (F 2))) := up_ne hw_14 hk_5 ((hA 2 1 (by decide) (by decide) (by decide)))
  have hk_18 : w_13 (A 3) = some (.inl (G.2 0, 8200, .inl (F 3))) := up_ne hw_14 hk_6 ((hA 3 1 (by decide) (by decide) (by decide)))
  have hk_19 : w_13 (A 4) = some (.inl (G.2 0, 8200, .inl (F 4))) := up_ne hw_14 hk_7 ((hA 4 1 (by decide) (by decide) (by decide)))
  have hk_20 : w_13 (A 5) = some (.inl (G.2 0, 8200, .inl (F 5))) := up_ne hw_14 hk_8 ((hA 5 1 (by decide) (by decide) (by decide)))
  have hk_21 : w_13 (A 6) = some (.inl (G.2 0, 8200, .inl (F 6))) := up_ne hw_14 hk_9 ((hA 6 1 (by decide) (by decide) (by decide)))
  have hk_22 : w_13 (A 7) = some (.inl (G.2 1, 8200, .inr (.inl M))) := up_ne hw_14 hk_10 ((hA 7 1 (by decide) (by decide) (by decide)))
  have hk_23 : w_13 (A 8) = some (.inl (G.2 0, 8200, .inl (F 8))) := up_ne hw_14 hk_11 ((hA 8 1 (by decide) (by decide) (by decide)))
  have hF := hF.put hw_14 (Or.inl (by simp))
  have hc_24 : w_13 (A 1) = some (.inl (G.2 0, 8200, .inl (upd (F 1) (nI t).toNatClampNeg (F 1 f)))) := up_self hw_14
  refine lv_aload_n hx hb d_R_move_24 rfl (lv_at hl 0 rfl) ?_
  refine gf_R_16 cx hZ hk_15 rfl d_R_move_25 ?_
  refine lv_iload_n hx hb d_R_move_28 rfl (lv_at hl 2 rfl) ?_
  refine lv_aload_n hx hb d_R_move_29 rfl (lv_at hl 0 rfl) ?_
  refine gf_R_16 cx hZ hk_15 rfl d_R_move_30 ?_
  refine lv_iload_n hx hb d_R_move_33 rfl (lv_at hl 1 rfl) ?_
  refine ld_i cx hZ hk_17 (vp_in_nI hf (by omega)) d_R_move_34 ?_
  rw [show (((F 2) (nI f).toNatClampNeg) : Int32) = F 2 f from by rw [nI_clamp (by omega)]]
  refine st_i cx hZ hS hk_17 (vp_in_nI ht (by omega)) d_R_move_35 (fun w_25 H locs hw_26 hZ hS => ?_)
  have hk_27 : w_25 o = some (.inr (6, [.int (S 0), .ref (A 0), .ref (A 1), .ref (A 2), .ref (A 3), .ref (A 4), .ref (A 5), .ref (A 6), .ref (A 7), .ref (A 8), .int (S 1), .ref (A 9), .ref (A 10), .int (S 2), .ref (A 11), .long (L 0), .long (L 1), .long (L 2), .long (L 3), .ref (A 12), .long (L 4)])) := up_ne hw_26 hk_15 (z_ne hk_15 hk_17 (by simp))
  have hk_28 : w_25 (A 0) = some (.inl (G.2 0, 8200, .inl (upd (F 0) (nI t).toNatClampNeg (F 0 f)))) := up_ne hw_26 hk_16 ((hA 0 2 (by decide) (by decide) (by decide)))
  have hk_29 : w_25 (A 1) = some (.inl (G.2 0, 8200, .inl (upd (F 1) (nI t).toNatClampNeg (F 1 f)))) := up_ne hw_26 hc_24 ((hA 1 2 (by decide) (by decide) (by decide)))
  have hk_30 : w_25 (A 3) = some (.inl (G.2 0, 8200, .inl (F 3))) := up_ne hw_26 hk_18 ((hA 3 2 (by decide) (by decide) (by decide)))
  have hk_31 : w_25 (A 4) = some (.inl (G.2 0, 8200, .inl (F 4))) := up_ne hw_26 hk_19 ((hA 4 2 (by decide) (by decide) (by decide)))
  have hk_32 : w_25 (A 5) = some (.inl (G.2 0, 8200, .inl (F 5))) := up_ne hw_26 hk_20 ((hA 5 2 (by decide) (by decide) (by decide)))
  have hk_33 : w_25 (A 6) = some (.inl (G.2 0, 8200, .inl (F 6))) := up_ne hw_26 hk_21 ((hA 6 2 (by decide) (by decide) (by decide)))
  have hk_34 : w_25 (A 7) = some (.inl (G.2 1, 8200, .inr (.inl M))) := up_ne hw_26 hk_22 ((hA 7 2 (by decide) (by decide) (by decide)))
  have hk_35 : w_25 (A 8) = some (.inl (G.2 0, 8200, .inl (F 8))) := up_ne hw_26 hk_23 ((hA 8 2 (by decide) (by decide) (by decide)))
  have hF := hF.put hw_26 (Or.inl (by simp))
  have hc_36 : w_25 (A 2) = some (.inl (G.2 0, 8200, .inl (upd (F 2) (nI t).toNatClampNeg (F 2 f)))) := up_self hw_26
  refine lv_aload_n hx hb d_R_move_36 rfl (lv_at hl 0 rfl) ?_
  refine gf_R_19 cx hZ hk_27 rfl d_R_move_37 ?_
  refine lv_iload_n hx hb d_R_move_40 rfl (lv_at hl 2 rfl) ?_
  refine lv_aload_n hx hb d_R_move_41 rfl (lv_at hl 0 rfl) ?_
  refine gf_R_19 cx hZ hk_27 rfl d_R_move_42 ?_
  refine lv_iload_n hx hb d_R_move_45 rfl (lv_at hl 1 rfl) ?_
  refine ld_i cx hZ hk_30 (vp_in_nI hf (by omega)) d_R_move_46 ?_
  rw [show (((F 3) (nI f).toNatClampNeg) : Int32) = F 3 f from by rw [nI_clamp (by omega)]]
  refine st_i cx hZ hS hk_30 (vp_in_nI ht (by omega)) d_R_move_47 (fun w_37 H locs hw_38 hZ hS => ?_)
  have hk_39 : w_37 o = some (.inr (6, [.int (S 0), .ref (A 0), .ref (A 1), .ref (A 2), .ref (A 3), .ref (A 4), .ref (A 5), .ref (A 6), .ref (A 7), .ref (A 8), .int (S 1), .ref (A 9), .ref (A 10), .int (S 2), .ref (A 11), .long (L 0), .long (L 1), .long (L 2), .long (L 3), .ref (A 12), .long (L 4)])) := up_ne hw_38 hk_27 (z_ne hk_27 hk_30 (by simp))
  have hk_40 : w_37 (A 0) = some (.inl (G.2 0, 8200, .inl (upd (F 0) (nI t).toNatClampNeg (F 0 f)))) := up_ne hw_38 hk_28 ((hA 0 3 (by decide) (by decide) (by decide)))
  have hk_41 : w_37 (A 1) = some (.inl (G.2 0, 8200, .inl (upd (F 1) (nI t).toNatClampNeg (F 1 f)))) := up_ne hw_38 hk_29 ((hA 1 3 (by decide) (by decide) (by decide)))
  have hk_42 : w_37 (A 2) = some (.inl (G.2 0, 8200, .inl (upd (F 2) (nI t).toNatClampNeg (F 2 f)))) := up_ne hw_38 hc_36 ((hA 2 3 (by decide) (by decide) (by decide)))
  have hk_43 : w_37 (A 4) = some (.inl (G.2 0, 8200, .inl (F 4))) := up_ne hw_38 hk_31 ((hA 4 3 (by decide) (by decide) (by decide)))
  have hk_44 : w_37 (A 5) = some (.inl (G.2 0, 8200, .inl (F 5))) := up_ne hw_38 hk_32 ((hA 5 3 (by decide) (by decide) (by decide)))
  have hk_45 : w_37 (A 6) = some (.inl (G.2 0, 8200, .inl (F 6))) := up_ne hw_38 hk_33 ((hA 6 3 (by decide) (by decide) (by decide)))
  have hk_46 : w_37 (A 7) = some (.inl (G.2 1, 8200, .inr (.inl M))) := up_ne hw_38 hk_34 ((hA 7 3 (by decide) (by decide) (by decide)))
  have hk_47 : w_37 (A 8) = some (.inl (G.2 0, 8200, .inl (F 8))) := up_ne hw_38 hk_35 ((hA 8 3 (by decide) (by decide) (by decide)))
  have hF := hF.put hw_38 (Or.inl (by simp))
  have hc_48 : w_37 (A 3) = some (.inl (G.2 0, 8200, .inl (upd (F 3) (nI t).toNatClampNeg (F 3 f)))) := up_self hw_38
  refine lv_aload_n hx hb d_R_move_48 rfl (lv_at hl 0 rfl) ?_
  refine gf_R_22 cx hZ hk_39 rfl d_R_move_49 ?_
  refine lv_iload_n hx hb d_R_move_52 rfl (lv_at hl 2 rfl) ?_
  refine lv_aload_n hx hb d_R_move_53 rfl (lv_at hl 0 rfl) ?_
  refine gf_R_22 cx hZ hk_39 rfl d_R_move_54 ?_
  refine lv_iload_n hx hb d_R_move_57 rfl (lv_at hl 1 rfl) ?_
  refine ld_i cx hZ hk_43 (vp_in_nI hf (by omega)) d_R_move_58 ?_
  rw [show (((F 4) (nI f).toNatClampNeg) : Int32) = F 4 f from by rw [nI_clamp (by omega)]]
  refine st_i cx hZ hS hk_43 (vp_in_nI ht (by omega)) d_R_move_59 (fun w_49 H locs hw_50 hZ hS => ?_)
  have hk_51 : w_49 o = some (.inr (6, [.int (S 0), .ref (A 0), .ref (A 1), .ref (A 2), .ref (A 3), .ref (A 4), .ref (A 5), .ref (A 6), .ref (A 7), .ref (A 8), .int (S 1), .ref (A 9), .ref (A 10), .int (S 2), .ref (A 11), .long (L 0), .long (L 1), .long (L 2), .long (L 3), .ref (A 12), .long (L 4)])) := up_ne hw_50 hk_39 (z_ne hk_39 hk_43 (by simp))
  have hk_52 : w_49 (A 0) = some (.inl (G.2 0, 8200, .inl (upd (F 0) (nI t).toNatClampNeg (F 0 f)))) := up_ne hw_50 hk_40 ((hA 0 4 (by decide) (by decide) (by decide)))
  have hk_53 : w_49 (A 1) = some (.inl (G.2 0, 8200, .inl (upd (F 1) (nI t).toNatClampNeg (F 1 f)))) := up_ne hw_50 hk_41 ((hA 1 4 (by decide) (by decide) (by decide)))
  have hk_54 : w_49 (A 2) = some (.inl (G.2 0, 8200, .inl (upd (F 2) (nI t).toNatClampNeg (F 2 f)))) := up_ne hw_50 hk_42 ((hA 2 4 (by decide) (by decide) (by decide)))
  have hk_55 : w_49 (A 3) = some (.inl (G.2 0, 8200, .inl (upd (F 3) (nI t).toNatClampNeg (F 3 f)))) := up_ne hw_50 hc_48 ((hA 3 4 (by decide) (by decide) (by decide)))
  have hk_56 : w_49 (A 5) = some (.inl (G.2 0, 8200, .inl (F 5))) := up_ne hw_50 hk_44 ((hA 5 4 (by decide) (by decide) (by decide)))
  have hk_57 : w_49 (A 6) = some (.inl (G.2 0, 8200, .inl (F 6))) := up_ne hw_50 hk_45 ((hA 6 4 (by decide) (by decide) (by decide)))
  have hk_58 : w_49 (A 7) = some (.inl (G.2 1, 8200, .inr (.inl M))) := up_ne hw_50 hk_46 ((hA 7 4 (by decide) (by decide) (by decide)))
  have hk_59 : w_49 (A 8) = some (.inl (G.2 0, 8200, .inl (F 8))) := up_ne hw_50 hk_47 ((hA 8 4 (by decide) (by decide) (by decide)))
  have hF := hF.put hw_50 (Or.inl (by simp))
  have hc_60 : w_49 (A 4) = some (.inl (G.2 0, 8200, .inl (upd (F 4) (nI t).toNatClampNeg (F 4 f)))) := up_self hw_50
  refine lv_aload_n hx hb d_R_move_60 rfl (lv_at hl 0 rfl) ?_
  refine gf_R_25 cx hZ hk_51 rfl d_R_move_61 ?_
  refine lv_iload_n hx hb d_R_move_64 rfl (lv_at hl 2 rfl) ?_
  refine lv_aload_n hx hb d_R_move_65 rfl (lv_at hl 0 rfl) ?_
  refine gf_R_25 cx hZ hk_51 rfl d_R_move_66 ?_
  refine lv_iload_n hx hb d_R_move_69 rfl (lv_at hl 1 rfl) ?_
  refine ld_i cx hZ hk_56 (vp_in_nI hf (by omega)) d_R_move_70 ?_
  rw [show (((F 5) (nI f).toNatClampNeg) : Int32) = F 5 f from by rw [nI_clamp (by omega)]]
  refine st_i cx hZ hS hk_56 (vp_in_nI ht (by omega)) d_R_move_71 (fun w_61 H locs hw_62 hZ hS => ?_)
  have hk_63 : w_61 o = some (.inr (6, [.int (S 0), .ref (A 0), .ref (A 1), .ref (A 2), .ref (A 3), .ref (A 4), .ref (A 5), .ref (A 6), .ref (A 7), .ref (A 8), .int (S 1), .ref (A 9), .ref (A 10), .int (S 2), .ref (A 11), .long (L 0), .long (L 1), .long (L 2), .long (L 3), .ref (A 12), .long (L 4)])) := up_ne hw_62 hk_51 (z_ne hk_51 hk_56 (by simp))
  have hk_64 : w_61 (A 0) = some (.inl (G.2 0, 8200, .inl (upd (F 0) (nI t).toNatClampNeg (F 0 f)))) := up_ne hw_62 hk_52 ((hA 0 5 (by decide) (by decide) (by decide)))
  have hk_65 : w_61 (A 1) = some (.inl (G.2 0, 8200, .inl (upd (F 1) (nI t).toNatClampNeg (F 1 f)))) := up_ne hw_62 hk_53 ((hA 1 5 (by decide) (by decide) (by decide)))
  have hk_66 : w_61 (A 2) = some (.inl (G.2 0, 8200, .inl (upd (F 2) (nI t).toNatClampNeg (F 2 f)))) := up_ne hw_62 hk_54 ((hA 2 5 (by decide) (by decide) (by decide)))
  have hk_67 : w_61 (A 3) = some (.inl (G.2 0, 8200, .inl (upd (F 3) (nI t).toNatClampNeg (F 3 f)))) := up_ne hw_62 hk_55 ((hA 3 5 (by decide) (by decide) (by decide)))
  have hk_68 : w_61 (A 4) = some (.inl (G.2 0, 8200, .inl (upd (F 4) (nI t).toNatClampNeg (F 4 f)))) := up_ne hw_62 hc_60 ((hA 4 5 (by decide) (by decide) (by decide)))
  have hk_69 : w_61 (A 6) = some (.inl (G.2 0, 8200, .inl (F 6))) := up_ne hw_62 hk_57 ((hA 6 5 (by decide) (by decide) (by decide)))
  have hk_70 : w_61 (A 7) = some (.inl (G.2 1, 8200, .inr (.inl M))) := up_ne hw_62 hk_58 ((hA 7 5 (by decide) (by decide) (by decide)))
  have hk_71 : w_61 (A 8) = some (.inl (G.2 0, 8200, .inl (F 8))) := up_ne hw_62 hk_59 ((hA 8 5 (by decide) (by decide) (by decide)))
  have hF := hF.put hw_62 (Or.inl (by simp))
  have hc_72 : w_61 (A 5) = some (.inl (G.2 0, 8200, .inl (upd (F 5) (nI t).toNatClampNeg (F 5 f)))) := up_self hw_62
  refine lv_aload_n hx hb d_R_move_72 rfl (lv_at hl 0 rfl) ?_
  refine gf_R_28 cx hZ hk_63 rfl d_R_move_73 ?_
  refine lv_iload_n hx hb d_R_move_76 rfl (lv_at hl 2 rfl) ?_
  refine lv_aload_n hx hb d_R_move_77 rfl (lv_at hl 0 rfl) ?_
  refine gf_R_28 cx hZ hk_63 rfl d_R_move_78 ?_
  refine lv_iload_n hx hb d_R_move_81 rfl (lv_at hl 1 rfl) ?_
  refine ld_i cx hZ hk_69 (vp_in_nI hf (by omega)) d_R_move_82 ?_
  rw [show (((F 6) (nI f).toNatClampNeg) : Int32) = F 6 f from by rw [nI_clamp (by omega)]]
  refine st_i cx hZ hS hk_69 (vp_in_nI ht (by omega)) d_R_move_83 (fun w_73 H locs hw_74 hZ hS => ?_)
  have hk_75 : w_73 o = some (.inr (6, [.int (S 0), .ref (A 0), .ref (A 1), .ref (A 2), .ref (A 3), .ref (A 4), .ref (A 5), .ref (A 6), .ref (A 7), .ref (A 8), .int (S 1), .ref (A 9), .ref (A 10), .int (S 2), .ref (A 11), .long (L 0), .long (L 1), .long (L 2), .long (L 3), .ref (A 12), .long (L 4)])) := up_ne hw_74 hk_63 (z_ne hk_63 hk_69 (by simp))
  have hk_76 : w_73 (A 0) = some (.inl (G.2 0, 8200, .inl (upd (F 0) (nI t).toNatClampNeg (F 0 f)))) := up_ne hw_74 hk_64 ((hA 0 6 (by decide) (by decide) (by decide)))
  have hk_77 : w_73 (A 1) = some (.inl (G.2 0, 8200, .inl (upd (F 1) (nI t).toNatClampNeg (F 1 f)))) := up_ne hw_74 hk_65 ((hA 1 6 (by decide) (by decide) (by decide)))
  have hk_78 : w_73 (A 2) = some (.inl (G.2 0, 8200, .inl (upd (F 2) (nI t).toNatClampNeg (F 2 f)))) := up_ne hw_74 hk_66 ((hA 2 6 (by decide) (by decide) (by decide)))
  have hk_79 : w_73 (A 3) = some (.inl (G.2 0, 8200, .inl (upd (F 3) (nI t).toNatClampNeg (F 3 f)))) := up_ne hw_74 hk_67 ((hA 3 6 (by decide) (by decide) (by decide)))
  have hk_80 : w_73 (A 4) = some (.inl (G.2 0, 8200, .inl (upd (F 4) (nI t).toNatClampNeg (F 4 f)))) := up_ne hw_74 hk_68 ((hA 4 6 (by decide) (by decide) (by decide)))
  have hk_81 : w_73 (A 5) = some (.inl (G.2 0, 8200, .inl (upd (F 5) (nI t).toNatClampNeg (F 5 f)))) := up_ne hw_74 hc_72 ((hA 5 6 (by decide) (by decide) (by decide)))
  have hk_82 : w_73 (A 7) = some (.inl (G.2 1, 8200, .inr (.inl M))) := up_ne hw_74 hk_70 ((hA 7 6 (by decide) (by decide) (by decide)))
  have hk_83 : w_73 (A 8) = some (.inl (G.2 0, 8200, .inl (F 8))) := up_ne hw_74 hk_71 ((hA 8 6 (by decide) (by decide) (by decide)))
  have hF := hF.put hw_74 (Or.inl (by simp))
  have hc_84 : w_73 (A 6) = some (.inl (G.2 0, 8200, .inl (upd (F 6) (nI t).toNatClampNeg (F 6 f)))) := up_self hw_74
  refine lv_aload_n hx hb d_R_move_84 rfl (lv_at hl 0 rfl) ?_
  refine gf_R_31 cx hZ hk_75 rfl d_R_move_85 ?_
  refine lv_iload_n hx hb d_R_move_88 rfl (lv_at hl 2 rfl) ?_
  refine lv_aload_n hx hb d_R_move_89 rfl (lv_at hl 0 rfl) ?_
  refine gf_R_31 cx hZ hk_75 rfl d_R_move_90 ?_
  refine lv_iload_n hx hb d_R_move_93 rfl (lv_at hl 1 rfl) ?_
  refine ld_l cx hZ hk_82 (vp_in_nI hf (by omega)) d_R_move_94 ?_
  rw [show ((M (nI f).toNatClampNeg) : Int64) = M f from by rw [nI_clamp (by omega)]]
  refine st_l cx hZ hS hk_82 (vp_in_nI ht (by omega)) d_R_move_95 (fun w_85 H locs hw_86 hZ hS => ?_)
  have hk_87 : w_85 o = some (.inr (6, [.int (S 0), .ref (A 0), .ref (A 1), .ref (A 2), .ref (A 3), .ref (A 4), .ref (A 5), .ref (A 6), .ref (A 7), .ref (A 8), .int (S 1), .ref (A 9), .ref (A 10), .int (S 2), .ref (A 11), .long (L 0), .long (L 1), .long (L 2), .long (L 3), .ref (A 12), .long (L 4)])) := up_ne hw_86 hk_75 (z_ne hk_75 hk_82 (by simp))
  have hk_88 : w_85 (A 0) = some (.inl (G.2 0, 8200, .inl (upd (F 0) (nI t).toNatClampNeg (F 0 f)))) := up_ne hw_86 hk_76 ((hA 0 7 (by decide) (by decide) (by decide)))
  have hk_89 : w_85 (A 1) = some (.inl (G.2 0, 8200, .inl (upd (F 1) (nI t).toNatClampNeg (F 1 f)))) := up_ne hw_86 hk_77 ((hA 1 7 (by decide) (by decide) (by decide)))
  have hk_90 : w_85 (A 2) = some (.inl (G.2 0, 8200, .inl (upd (F 2) (nI t).toNatClampNeg (F 2 f)))) := up_ne hw_86 hk_78 ((hA 2 7 (by decide) (by decide) (by decide)))
  have hk_91 : w_85 (A 3) = some (.inl (G.2 0, 8200, .inl (upd (F 3) (nI t).toNatClampNeg (F 3 f)))) := up_ne hw_86 hk_79 ((hA 3 7 (by decide) (by decide) (by decide)))
  have hk_92 : w_85 (A 4) = some (.inl (G.2 0, 8200, .inl (upd (F 4) (nI t).toNatClampNeg (F 4 f)))) := up_ne hw_86 hk_80 ((hA 4 7 (by decide) (by decide) (by decide)))
  have hk_93 : w_85 (A 5) = some (.inl (G.2 0, 8200, .inl (upd (F 5) (nI t).toNatClampNeg (F 5 f)))) := up_ne hw_86 hk_81 ((hA 5 7 (by decide) (by decide) (by decide)))
  have hk_94 : w_85 (A 6) = some (.inl (G.2 0, 8200, .inl (upd (F 6) (nI t).toNatClampNeg (F 6 f)))) := up_ne hw_86 hc_84 ((hA 6 7 (by decide) (by decide) (by decide)))
  have hk_95 : w_85 (A 8) = some (.inl (G.2 0, 8200, .inl (F 8))) := up_ne hw_86 hk_83 ((hA 8 7 (by decide) (by decide) (by decide)))
  have hF := hF.put hw_86 (Or.inl (by simp))
  have hc_96 : w_85 (A 7) = some (.inl (G.2 1, 8200, .inr (.inl (vp_updL M (nI t).toNatClampNeg (M f))))) := up_self hw_86
  refine lv_aload_n hx hb d_R_move_96 rfl (lv_at hl 0 rfl) ?_
  refine gf_R_35 cx hZ hk_87 rfl d_R_move_97 ?_
  refine lv_iload_n hx hb d_R_move_100 rfl (lv_at hl 2 rfl) ?_
  refine lv_aload_n hx hb d_R_move_101 rfl (lv_at hl 0 rfl) ?_
  refine gf_R_35 cx hZ hk_87 rfl d_R_move_102 ?_
  refine lv_iload_n hx hb d_R_move_105 rfl (lv_at hl 1 rfl) ?_
  refine ld_i cx hZ hk_95 (vp_in_nI hf (by omega)) d_R_move_106 ?_
  rw [show (((F 8) (nI f).toNatClampNeg) : Int32) = F 8 f from by rw [nI_clamp (by omega)]]
  refine st_i cx hZ hS hk_95 (vp_in_nI ht (by omega)) d_R_move_107 (fun w_97 H locs hw_98 hZ hS => ?_)
  have hk_99 : w_97 o = some (.inr (6, [.int (S 0), .ref (A 0), .ref (A 1), .ref (A 2), .ref (A 3), .ref (A 4), .ref (A 5), .ref (A 6), .ref (A 7), .ref (A 8), .int (S 1), .ref (A 9), .ref (A 10), .int (S 2), .ref (A 11), .long (L 0), .long (L 1), .long (L 2), .long (L 3), .ref (A 12), .long (L 4)])) := up_ne hw_98 hk_87 (z_ne hk_87 hk_95 (by simp))
  have hk_100 : w_97 (A 0) = some (.inl (G.2 0, 8200, .inl (upd (F 0) (nI t).toNatClampNeg (F 0 f)))) := up_ne hw_98 hk_88 ((hA 0 8 (by decide) (by decide) (by decide)))
  have hk_101 : w_97 (A 1) = some (.inl (G.2 0, 8200, .inl (upd (F 1) (nI t).toNatClampNeg (F 1 f)))) := up_ne hw_98 hk_89 ((hA 1 8 (by decide) (by decide) (by decide)))
  have hk_102 : w_97 (A 2) = some (.inl (G.2 0, 8200, .inl (upd (F 2) (nI t).toNatClampNeg (F 2 f)))) := up_ne hw_98 hk_90 ((hA 2 8 (by decide) (by decide) (by decide)))
  have hk_103 : w_97 (A 3) = some (.inl (G.2 0, 8200, .inl (upd (F 3) (nI t).toNatClampNeg (F 3 f)))) := up_ne hw_98 hk_91 ((hA 3 8 (by decide) (by decide) (by decide)))
  have hk_104 : w_97 (A 4) = some (.inl (G.2 0, 8200, .inl (upd (F 4) (nI t).toNatClampNeg (F 4 f)))) := up_ne hw_98 hk_92 ((hA 4 8 (by decide) (by decide) (by decide)))
  have hk_105 : w_97 (A 5) = some (.inl (G.2 0, 8200, .inl (upd (F 5) (nI t).toNatClampNeg (F 5 f)))) := up_ne hw_98 hk_93 ((hA 5 8 (by decide) (by decide) (by decide)))
  have hk_106 : w_97 (A 6) = some (.inl (G.2 0, 8200, .inl (upd (F 6) (nI t).toNatClampNeg (F 6 f)))) := up_ne hw_98 hk_94 ((hA 6 8 (by decide) (by decide) (by decide)))
  have hk_107 : w_97 (A 7) = some (.inl (G.2 1, 8200, .inr (.inl (vp_updL M (nI t).toNatClampNeg (M f))))) := up_ne hw_98 hc_96 ((hA 7 8 (by decide) (by decide) (by decide)))
  have hF := hF.put hw_98 (Or.inl (by simp))
  have hc_108 : w_97 (A 8) = some (.inl (G.2 0, 8200, .inl (upd (F 8) (nI t).toNatClampNeg (F 8 f)))) := up_self hw_98
  exact z_vret cx.1 cx.2.1 cx.rt cx.lk hS hZ ⟨(Nat.le_of_ble_eq_true rfl), (Nat.le_of_ble_eq_true rfl)⟩ d_R_move_108 (⟨rfl, ⟨(by have := hk_100; rw [nI_clamp (by omega)] at this; exact this), (by have := hk_101; rw [nI_clamp (by omega)] at this; exact this), (by have := hk_102; rw [nI_clamp (by omega)] at this; exact this), (by have := hk_103; rw [nI_clamp (by omega)] at this; exact this), (by have := hk_104; rw [nI_clamp (by omega)] at this; exact this), (by have := hk_105; rw [nI_clamp (by omega)] at this; exact this), (by have := hk_106; rw [nI_clamp (by omega)] at this; exact this), (by have := hk_107; rw [nI_clamp (by omega)] at this; exact this), (by have := hc_108; rw [nI_clamp (by omega)] at this; exact this)⟩, hF⟩)
set_option maxHeartbeats 4000000 in
set_option maxRecDepth 100000 in
theorem r_add (l : Launch) (G : zG) (n0 e0 : Nat) (w : zw) (o : Nat) (A : Nat → Nat) (S : Nat → Int32) (L : Nat → Int64) (ho : w o = some (.inr (6, fR A S L))) (F : Nat → Nat → Int32) (M : Nat → Int64) (hR : RW G w A F M) (hA : ∀ i j, i < 13 → j < 13 → i ≠ j → A i ≠ A j) (h11 : w (A 11) = some (.inl (G.2 0, 16, .inl (F 11)))) (g : Bool) (k x h d s2 o2 z : Int32) (en : Nat) (hen : S 2 = nI en) (hen2 : en < 8200) (lists : Nat) (hls : S 1 = nI lists) (hll : lists ≤ 100)  : Ct l G n0 e0 y_R_add b_R_add 9 (Option.some FieldType.boolean) ({ frames := 2, cells := 0, slots := 0, locals := 45 }) [.ref o, .int (zi g), .int k, .int x, .int h, .int d, .int s2, .int o2, .int z] w (fun v w1 => ∃ r, v = some (.int r) ∧ AddR G o A S L F M (g && decide (¬ lists = 0) && !decide (4000 < S 2 + sumI (F 11) 16 + 1)) en (row9 k x h d s2 o2 z) r w w1) := by
  refine z_ct (by decide) (Nat.le_of_ble_eq_true rfl) ?_
  intro p e s m below meth c ls cx hnm hZ hS hl
  have hx := cx.1
  have hb := cx.2.1
  have hl : lv_has ls 9 [(0, .ref o), (1, .int (zi g)), (2, .int k), (3, .int x), (4, .int h), (5, .int d), (6, .int s2), (7, .int o2), (8, .int z)] := hl
  obtain ⟨h0, h1, h2, h3, h4, h5, h6, h7, h8⟩ := id hR
  have hF : Fr [o, (A 0), (A 1), (A 2), (A 3), (A 4), (A 5), (A 6), (A 7), (A 8)] w w := Fr.rf
  refine lv_aload_n hx hb d_R_add_0 rfl (lv_at hl 0 rfl) ?_
  refine lv_iconst (v := 0) hx hb d_R_add_1 (by decide) ?_
  refine pf_R_51 cx hZ hS ho (Nat.le_of_ble_eq_true rfl) d_R_add_2 (fun w_1 H locs hw_2 hZ hS => ?_)
  have hk_3 : w_1 (A 0) = some (.inl (G.2 0, 8200, .inl (F 0))) := up_ne hw_2 h0 (z_ne h0 ho (by simp))
  have hk_4 : w_1 (A 1) = some (.inl (G.2 0, 8200, .inl (F 1))) := up_ne hw_2 h1 (z_ne h1 ho (by simp))
  have hk_5 : w_1 (A 2) = some (.inl (G.2 0, 8200, .inl (F 2))) := up_ne hw_2 h2 (z_ne h2 ho (by simp))
  have hk_6 : w_1 (A 3) = some (.inl (G.2 0, 8200, .inl (F 3))) := up_ne hw_2 h3 (z_ne h3 ho (by simp))
  have hk_7 : w_1 (A 4) = some (.inl (G.2 0, 8200, .inl (F 4))) := up_ne hw_2 h4 (z_ne h4 ho (by simp))
  have hk_8 : w_1 (A 5) = some (.inl (G.2 0, 8200, .inl (F 5))) := up_ne hw_2 h5 (z_ne h5 ho (by simp))
  have hk_9 : w_1 (A 6) = some (.inl (G.2 0, 8200, .inl (F 6))) := up_ne hw_2 h6 (z_ne h6 ho (by simp))
  have hk_10 : w_1 (A 7) = some (.inl (G.2 1, 8200, .inr (.inl M))) := up_ne hw_2 h7 (z_ne h7 ho (by simp))
  have hk_11 : w_1 (A 8) = some (.inl (G.2 0, 8200, .inl (F 8))) := up_ne hw_2 h8 (z_ne h8 ho (by simp))
  have hk_12 : w_1 (A 11) = some (.inl (G.2 0, 16, .inl (F 11))) := up_ne hw_2 h11 (z_ne h11 ho (by simp))
  have hF := hF.put hw_2 (Or.inl (by simp))
  have hc_13 : w_1 o = some (.inr (6, [.int 0, .ref (A 0), .ref (A 1), .ref (A 2), .ref (A 3), .ref (A 4), .ref (A 5), .ref (A 6), .ref (A 7), .ref (A 8), .int (S 1), .ref (A 9), .ref (A 10), .int (S 2), .ref (A 11), .long (L 0), .long (L 1), .long (L 2), .long (L 3), .ref (A 12), .long (L 4)])) := up_self hw_2
  refine lv_iload_n hx hb d_R_add_5 rfl (lv_at hl 1 rfl) ?_
  refine lv_if_eq (tgt := 24) hx hb d_R_add_6 (by decide) (fun c6 => ?_) (fun c6 => ?_)
  · refine lv_iconst (v := 0) hx hb d_R_add_24 (by decide) ?_
    exact z_zret cx.1 cx.2.1 cx.rt cx.lk (by first | rfl | (simp [narrow]; done) | simp_all [narrow]) hS hZ ⟨(Nat.le_of_ble_eq_true rfl), (Nat.le_of_ble_eq_true rfl)⟩ d_R_add_25 (⟨0, rfl, Or.inr ⟨by have h1 := (zi_0 _).mp c6; rw [h1]; rfl, rfl, ⟨hk_3, hk_4, hk_5, hk_6, hk_7, hk_8, hk_9, hk_10, hk_11⟩, hc_13, hF⟩⟩)
  · refine lv_aload_n hx hb d_R_add_9 rfl (lv_at hl 0 rfl) ?_
    refine gf_R_68 cx hZ hc_13 rfl d_R_add_10 ?_
    refine lv_if_eq (tgt := 24) hx hb d_R_add_13 (by decide) (fun c13 => ?_) (fun c13 => ?_)
    · refine lv_iconst (v := 0) hx hb d_R_add_24 (by decide) ?_
      exact z_zret cx.1 cx.2.1 cx.rt cx.lk (by first | rfl | (simp [narrow]; done) | simp_all [narrow]) hS hZ ⟨(Nat.le_of_ble_eq_true rfl), (Nat.le_of_ble_eq_true rfl)⟩ d_R_add_25 (⟨0, rfl, Or.inr ⟨by simp only [Bool.and_eq_false_iff, decide_eq_false_iff_not]; exact Or.inl (Or.inr (fun q => q ((nI_eq (by omega) (by omega)).mp (hls ▸ c13)))), rfl, ⟨hk_3, hk_4, hk_5, hk_6, hk_7, hk_8, hk_9, hk_10, hk_11⟩, hc_13, hF⟩⟩)
    · refine lv_aload_n hx hb d_R_add_16 rfl (lv_at hl 0 rfl) ?_
      refine lv_iconst (v := 1) hx hb d_R_add_17 (by decide) ?_
      refine iv_R_71 (As := [.int 1]) (rest := []) cx (r_hasRoom l G n0 e0 w_1 o A (upd S 0 0) L hc_13 F hk_12 1) hc_13 ⟨(Nat.le_of_ble_eq_true rfl), (Nat.le_of_ble_eq_true rfl)⟩ ⟨(Nat.le_of_ble_eq_true rfl), (Nat.le_of_ble_eq_true rfl)⟩ rfl hl.1 rfl (Nat.le_of_ble_eq_true rfl) d_R_add_18 hZ hS (fun v w_14 H locs hp_15 hZ hS => ?_)
      obtain ⟨rfl, hq⟩ := hp_15
      subst w_14
      refine W.eq (g2 := F0 m 21 ls [.int (zi (!decide (4000 < upd S 0 0 2 + sumI (F 11) 16 + 1)))]) rfl ?_
      refine lv_if_ne (tgt := 26) hx hb d_R_add_21 (by decide) (fun c21 => ?_) (fun c21 => ?_)
      · refine lv_aload_n hx hb d_R_add_26 rfl (lv_at hl 0 rfl) ?_
        refine gf_R_7 cx hZ hc_13 rfl d_R_add_27 ?_
        refine lv_aload_n hx hb d_R_add_30 rfl (lv_at hl 0 rfl) ?_
        refine gf_R_61 cx hZ hc_13 rfl d_R_add_31 ?_
        refine lv_iload_n hx hb d_R_add_34 rfl (lv_at hl 2 rfl) ?_
        refine st_i cx hZ hS hk_3 (by rw [hen]; exact vp_in_nI hen2 (by omega)) d_R_add_35 (fun w_16 H locs hw_17 hZ hS => ?_)
        have hk_18 : w_16 o = some (.inr (6, [.int 0, .ref (A 0), .ref (A 1), .ref (A 2), .ref (A 3), .ref (A 4), .ref (A 5), .ref (A 6), .ref (A 7), .ref (A 8), .int (S 1), .ref (A 9), .ref (A 10), .int (S 2), .ref (A 11), .long (L 0), .long (L 1), .long (L 2), .long (L 3), .ref (A 12), .long (L 4)])) := up_ne hw_17 hc_13 (z_ne hc_13 hk_3 (by simp))
        have hk_19 : w_16 (A 1) = some (.inl (G.2 0, 8200, .inl (F 1))) := up_ne hw_17 hk_4 ((hA 1 0 (by decide) (by decide) (by decide)))
        have hk_20 : w_16 (A 2) = some (.inl (G.2 0, 8200, .inl (F 2))) := up_ne hw_17 hk_5 ((hA 2 0 (by decide) (by decide) (by decide)))
        have hk_21 : w_16 (A 3) = some (.inl (G.2 0, 8200, .inl (F 3))) := up_ne hw_17 hk_6 ((hA 3 0 (by decide) (by decide) (by decide)))
        have hk_22 : w_16 (A 4) = some (.inl (G.2 0, 8200, .inl (F 4))) := up_ne hw_17 hk_7 ((hA 4 0 (by decide) (by decide) (by decide)))
        have hk_23 : w_16 (A 5) = some (.inl (G.2 0, 8200, .inl (F 5))) := up_ne hw_17 hk_8 ((hA 5 0 (by decide) (by decide) (by decide)))
        have hk_24 : w_16 (A 6) = some (.inl (G.2 0, 8200, .inl (F 6))) := up_ne hw_17 hk_9 ((hA 6 0 (by decide) (by decide) (by decide)))
        have hk_25 : w_16 (A 7) = some (.inl (G.2 1, 8200, .inr (.inl M))) := up_ne hw_17 hk_10 ((hA 7 0 (by decide) (by decide) (by decide)))
        have hk_26 : w_16 (A 8) = some (.inl (G.2 0, 8200, .inl (F 8))) := up_ne hw_17 hk_11 ((hA 8 0 (by decide) (by decide) (by decide)))
        have hk_27 : w_16 (A 11) = some (.inl (G.2 0, 16, .inl (F 11))) := up_ne hw_17 hk_12 ((hA 11 0 (by decide) (by decide) (by decide)))
        have hF := hF.put hw_17 (Or.inl (by simp))
        have hc_28 : w_16 (A 0) = some (.inl (G.2 0, 8200, .inl (upd (F 0) (S 2).toNatClampNeg k))) := up_self hw_17
        refine lv_aload_n hx hb d_R_add_36 rfl (lv_at hl 0 rfl) ?_
        refine gf_R_13 cx hZ hk_18 rfl d_R_add_37 ?_
        refine lv_aload_n hx hb d_R_add_40 rfl (lv_at hl 0 rfl) ?_
        refine gf_R_61 cx hZ hk_18 rfl d_R_add_41 ?_
        refine lv_iload_n hx hb d_R_add_44 rfl (lv_at hl 3 rfl) ?_
        refine st_i cx hZ hS hk_19 (by rw [hen]; exact vp_in_nI hen2 (by omega)) d_R_add_45 (fun w_29 H locs hw_30 hZ hS => ?_)
        have hk_31 : w_29 o = some (.inr (6, [.int 0, .ref (A 0), .ref (A 1), .ref (A 2), .ref (A 3), .ref (A 4), .ref (A 5), .ref (A 6), .ref (A 7), .ref (A 8), .int (S 1), .ref (A 9), .ref (A 10), .int (S 2), .ref (A 11), .long (L 0), .long (L 1), .long (L 2), .long (L 3), .ref (A 12), .long (L 4)])) := up_ne hw_30 hk_18 (z_ne hk_18 hk_19 (by simp))
        have hk_32 : w_29 (A 0) = some (.inl (G.2 0, 8200, .inl (upd (F 0) (S 2).toNatClampNeg k))) := up_ne hw_30 hc_28 ((hA 0 1 (by decide) (by decide) (by decide)))
        have hk_33 : w_29 (A 2) = some (.inl (G.2 0, 8200, .inl (F 2))) := up_ne hw_30 hk_20 ((hA 2 1 (by decide) (by decide) (by decide)))
        have hk_34 : w_29 (A 3) = some (.inl (G.2 0, 8200, .inl (F 3))) := up_ne hw_30 hk_21 ((hA 3 1 (by decide) (by decide) (by decide)))
        have hk_35 : w_29 (A 4) = some (.inl (G.2 0, 8200, .inl (F 4))) := up_ne hw_30 hk_22 ((hA 4 1 (by decide) (by decide) (by decide)))
        have hk_36 : w_29 (A 5) = some (.inl (G.2 0, 8200, .inl (F 5))) := up_ne hw_30 hk_23 ((hA 5 1 (by decide) (by decide) (by decide)))
        have hk_37 : w_29 (A 6) = some (.inl (G.2 0, 8200, .inl (F 6))) := up_ne hw_30 hk_24 ((hA 6 1 (by decide) (by decide) (by decide)))
        have hk_38 : w_29 (A 7) = some (.inl (G.2 1, 8200, .inr (.inl M))) := up_ne hw_30 hk_25 ((hA 7 1 (by decide) (by decide) (by decide)))
        have hk_39 : w_29 (A 8) = some (.inl (G.2 0, 8200, .inl (F 8))) := up_ne hw_30 hk_26 ((hA 8 1 (by decide) (by decide) (by decide)))
        have hk_40 : w_29 (A 11) = some (.inl (G.2 0, 16, .inl (F 11))) := up_ne hw_30 hk_27 ((hA 11 1 (by decide) (by decide) (by decide)))
        have hF := hF.put hw_30 (Or.inl (by simp))
        have hc_41 : w_29 (A 1) = some (.inl (G.2 0, 8200, .inl (upd (F 1) (S 2).toNatClampNeg x))) := up_self hw_30
        refine lv_aload_n hx hb d_R_add_46 rfl (lv_at hl 0 rfl) ?_
        refine gf_R_16 cx hZ hk_31 rfl d_R_add_47 ?_
        refine lv_aload_n hx hb d_R_add_50 rfl (lv_at hl 0 rfl) ?_
        refine gf_R_61 cx hZ hk_31 rfl d_R_add_51 ?_
        refine lv_iload hx hb d_R_add_54 (lv_at hl 4 rfl) ?_
        refine st_i cx hZ hS hk_33 (by rw [hen]; exact vp_in_nI hen2 (by omega)) d_R_add_56 (fun w_42 H locs hw_43 hZ hS => ?_)
        have hk_44 : w_42 o = some (.inr (6, [.int 0, .ref (A 0), .ref (A 1), .ref (A 2), .ref (A 3), .ref (A 4), .ref (A 5), .ref (A 6), .ref (A 7), .ref (A 8), .int (S 1), .ref (A 9), .ref (A 10), .int (S 2), .ref (A 11), .long (L 0), .long (L 1), .long (L 2), .long (L 3), .ref (A 12), .long (L 4)])) := up_ne hw_43 hk_31 (z_ne hk_31 hk_33 (by simp))
        have hk_45 : w_42 (A 0) = some (.inl (G.2 0, 8200, .inl (upd (F 0) (S 2).toNatClampNeg k))) := up_ne hw_43 hk_32 ((hA 0 2 (by decide) (by decide) (by decide)))
        have hk_46 : w_42 (A 1) = some (.inl (G.2 0, 8200, .inl (upd (F 1) (S 2).toNatClampNeg x))) := up_ne hw_43 hc_41 ((hA 1 2 (by decide) (by decide) (by decide)))
        have hk_47 : w_42 (A 3) = some (.inl (G.2 0, 8200, .inl (F 3))) := up_ne hw_43 hk_34 ((hA 3 2 (by decide) (by decide) (by decide)))
        have hk_48 : w_42 (A 4) = some (.inl (G.2 0, 8200, .inl (F 4))) := up_ne hw_43 hk_35 ((hA 4 2 (by decide) (by decide) (by decide)))
        have hk_49 : w_42 (A 5) = some (.inl (G.2 0, 8200, .inl (F 5))) := up_ne hw_43 hk_36 ((hA 5 2 (by decide) (by decide) (by decide)))
        have hk_50 : w_42 (A 6) = some (.inl (G.2 0, 8200, .inl (F 6))) := up_ne hw_43 hk_37 ((hA 6 2 (by decide) (by decide) (by decide)))
        have hk_51 : w_42 (A 7) = some (.inl (G.2 1, 8200, .inr (.inl M))) := up_ne hw_43 hk_38 ((hA 7 2 (by decide) (by decide) (by decide)))
        have hk_52 : w_42 (A 8) = some (.inl (G.2 0, 8200, .inl (F 8))) := up_ne hw_43 hk_39 ((hA 8 2 (by decide) (by decide) (by decide)))
        have hk_53 : w_42 (A 11) = some (.inl (G.2 0, 16, .inl (F 11))) := up_ne hw_43 hk_40 ((hA 11 2 (by decide) (by decide) (by decide)))
        have hF := hF.put hw_43 (Or.inl (by simp))
        have hc_54 : w_42 (A 2) = some (.inl (G.2 0, 8200, .inl (upd (F 2) (S 2).toNatClampNeg h))) := up_self hw_43
        refine lv_aload_n hx hb d_R_add_57 rfl (lv_at hl 0 rfl) ?_
        refine gf_R_19 cx hZ hk_44 rfl d_R_add_58 ?_
        refine lv_aload_n hx hb d_R_add_61 rfl (lv_at hl 0 rfl) ?_
        refine gf_R_61 cx hZ hk_44 rfl d_R_add_62 ?_
        refine lv_iload hx hb d_R_add_65 (lv_at hl 5 rfl) ?_
        refine st_i cx hZ hS hk_47 (by rw [hen]; exact vp_in_nI hen2 (by omega)) d_R_add_67 (fun w_55 H locs hw_56 hZ hS => ?_)
        have hk_57 : w_55 o = some (.inr (6, [.int 0, .ref (A 0), .ref (A 1), .ref (A 2), .ref (A 3), .ref (A 4), .ref (A 5), .ref (A 6), .ref (A 7), .ref (A 8), .int (S 1), .ref (A 9), .ref (A 10), .int (S 2), .ref (A 11), .long (L 0), .long (L 1), .long (L 2), .long (L 3), .ref (A 12), .long (L 4)])) := up_ne hw_56 hk_44 (z_ne hk_44 hk_47 (by simp))
        have hk_58 : w_55 (A 0) = some (.inl (G.2 0, 8200, .inl (upd (F 0) (S 2).toNatClampNeg k))) := up_ne hw_56 hk_45 ((hA 0 3 (by decide) (by decide) (by decide)))
        have hk_59 : w_55 (A 1) = some (.inl (G.2 0, 8200, .inl (upd (F 1) (S 2).toNatClampNeg x))) := up_ne hw_56 hk_46 ((hA 1 3 (by decide) (by decide) (by decide)))
        have hk_60 : w_55 (A 2) = some (.inl (G.2 0, 8200, .inl (upd (F 2) (S 2).toNatClampNeg h))) := up_ne hw_56 hc_54 ((hA 2 3 (by decide) (by decide) (by decide)))
        have hk_61 : w_55 (A 4) = some (.inl (G.2 0, 8200, .inl (F 4))) := up_ne hw_56 hk_48 ((hA 4 3 (by decide) (by decide) (by decide)))
        have hk_62 : w_55 (A 5) = some (.inl (G.2 0, 8200, .inl (F 5))) := up_ne hw_56 hk_49 ((hA 5 3 (by decide) (by decide) (by decide)))
        have hk_63 : w_55 (A 6) = some (.inl (G.2 0, 8200, .inl (F 6))) := up_ne hw_56 hk_50 ((hA 6 3 (by decide) (by decide) (by decide)))
        have hk_64 : w_55 (A 7) = some (.inl (G.2 1, 8200, .inr (.inl M))) := up_ne hw_56 hk_51 ((hA 7 3 (by decide) (by decide) (by decide)))
        have hk_65 : w_55 (A 8) = some (.inl (G.2 0, 8200, .inl (F 8))) := up_ne hw_56 hk_52 ((hA 8 3 (by decide) (by decide) (by decide)))
        have hk_66 : w_55 (A 11) = some (.inl (G.2 0, 16, .inl (F 11))) := up_ne hw_56 hk_53 ((hA 11 3 (by decide) (by decide) (by decide)))
        have hF := hF.put hw_56 (Or.inl (by simp))
        have hc_67 : w_55 (A 3) = some (.inl (G.2 0, 8200, .inl (upd (F 3) (S 2).toNatClampNeg d))) := up_self hw_56
        refine lv_aload_n hx hb d_R_add_68 rfl (lv_at hl 0 rfl) ?_
        refine gf_R_22 cx hZ hk_57 rfl d_R_add_69 ?_
        refine lv_aload_n hx hb d_R_add_72 rfl (lv_at hl 0 rfl) ?_
        refine gf_R_61 cx hZ hk_57 rfl d_R_add_73 ?_
        refine lv_iload hx hb d_R_add_76 (lv_at hl 6 rfl) ?_
        refine st_i cx hZ hS hk_61 (by rw [hen]; exact vp_in_nI hen2 (by omega)) d_R_add_78 (fun w_68 H locs hw_69 hZ hS => ?_)
        have hk_70 : w_68 o = some (.inr (6, [.int 0, .ref (A 0), .ref (A 1), .ref (A 2), .ref (A 3), .ref (A 4), .ref (A 5), .ref (A 6), .ref (A 7), .ref (A 8), .int (S 1), .ref (A 9), .ref (A 10), .int (S 2), .ref (A 11), .long (L 0), .long (L 1), .long (L 2), .long (L 3), .ref (A 12), .long (L 4)])) := up_ne hw_69 hk_57 (z_ne hk_57 hk_61 (by simp))
        have hk_71 : w_68 (A 0) = some (.inl (G.2 0, 8200, .inl (upd (F 0) (S 2).toNatClampNeg k))) := up_ne hw_69 hk_58 ((hA 0 4 (by decide) (by decide) (by decide)))
        have hk_72 : w_68 (A 1) = some (.inl (G.2 0, 8200, .inl (upd (F 1) (S 2).toNatClampNeg x))) := up_ne hw_69 hk_59 ((hA 1 4 (by decide) (by decide) (by decide)))
        have hk_73 : w_68 (A 2) = some (.inl (G.2 0, 8200, .inl (upd (F 2) (S 2).toNatClampNeg h))) := up_ne hw_69 hk_60 ((hA 2 4 (by decide) (by decide) (by decide)))
        have hk_74 : w_68 (A 3) = some (.inl (G.2 0, 8200, .inl (upd (F 3) (S 2).toNatClampNeg d))) := up_ne hw_69 hc_67 ((hA 3 4 (by decide) (by decide) (by decide)))
        have hk_75 : w_68 (A 5) = some (.inl (G.2 0, 8200, .inl (F 5))) := up_ne hw_69 hk_62 ((hA 5 4 (by decide) (by decide) (by decide)))
        have hk_76 : w_68 (A 6) = some (.inl (G.2 0, 8200, .inl (F 6))) := up_ne hw_69 hk_63 ((hA 6 4 (by decide) (by decide) (by decide)))
        have hk_77 : w_68 (A 7) = some (.inl (G.2 1, 8200, .inr (.inl M))) := up_ne hw_69 hk_64 ((hA 7 4 (by decide) (by decide) (by decide)))
        have hk_78 : w_68 (A 8) = some (.inl (G.2 0, 8200, .inl (F 8))) := up_ne hw_69 hk_65 ((hA 8 4 (by decide) (by decide) (by decide)))
        have hk_79 : w_68 (A 11) = some (.inl (G.2 0, 16, .inl (F 11))) := up_ne hw_69 hk_66 ((hA 11 4 (by decide) (by decide) (by decide)))
        have hF := hF.put hw_69 (Or.inl (by simp))
        have hc_80 : w_68 (A 4) = some (.inl (G.2 0, 8200, .inl (upd (F 4) (S 2).toNatClampNeg s2))) := up_self hw_69
        refine lv_aload_n hx hb d_R_add_79 rfl (lv_at hl 0 rfl) ?_
        refine gf_R_25 cx hZ hk_70 rfl d_R_add_80 ?_
        refine lv_aload_n hx hb d_R_add_83 rfl (lv_at hl 0 rfl) ?_
        refine gf_R_61 cx hZ hk_70 rfl d_R_add_84 ?_
        refine lv_iload hx hb d_R_add_87 (lv_at hl 7 rfl) ?_
        refine st_i cx hZ hS hk_75 (by rw [hen]; exact vp_in_nI hen2 (by omega)) d_R_add_89 (fun w_81 H locs hw_82 hZ hS => ?_)
        have hk_83 : w_81 o = some (.inr (6, [.int 0, .ref (A 0), .ref (A 1), .ref (A 2), .ref (A 3), .ref (A 4), .ref (A 5), .ref (A 6), .ref (A 7), .ref (A 8), .int (S 1), .ref (A 9), .ref (A 10), .int (S 2), .ref (A 11), .long (L 0), .long (L 1), .long (L 2), .long (L 3), .ref (A 12), .long (L 4)])) := up_ne hw_82 hk_70 (z_ne hk_70 hk_75 (by simp))
        have hk_84 : w_81 (A 0) = some (.inl (G.2 0, 8200, .inl (upd (F 0) (S 2).toNatClampNeg k))) := up_ne hw_82 hk_71 ((hA 0 5 (by decide) (by decide) (by decide)))
        have hk_85 : w_81 (A 1) = some (.inl (G.2 0, 8200, .inl (upd (F 1) (S 2).toNatClampNeg x))) := up_ne hw_82 hk_72 ((hA 1 5 (by decide) (by decide) (by decide)))
        have hk_86 : w_81 (A 2) = some (.inl (G.2 0, 8200, .inl (upd (F 2) (S 2).toNatClampNeg h))) := up_ne hw_82 hk_73 ((hA 2 5 (by decide) (by decide) (by decide)))
        have hk_87 : w_81 (A 3) = some (.inl (G.2 0, 8200, .inl (upd (F 3) (S 2).toNatClampNeg d))) := up_ne hw_82 hk_74 ((hA 3 5 (by decide) (by decide) (by decide)))
        have hk_88 : w_81 (A 4) = some (.inl (G.2 0, 8200, .inl (upd (F 4) (S 2).toNatClampNeg s2))) := up_ne hw_82 hc_80 ((hA 4 5 (by decide) (by decide) (by decide)))
        have hk_89 : w_81 (A 6) = some (.inl (G.2 0, 8200, .inl (F 6))) := up_ne hw_82 hk_76 ((hA 6 5 (by decide) (by decide) (by decide)))
        have hk_90 : w_81 (A 7) = some (.inl (G.2 1, 8200, .inr (.inl M))) := up_ne hw_82 hk_77 ((hA 7 5 (by decide) (by decide) (by decide)))
        have hk_91 : w_81 (A 8) = some (.inl (G.2 0, 8200, .inl (F 8))) := up_ne hw_82 hk_78 ((hA 8 5 (by decide) (by decide) (by decide)))
        have hk_92 : w_81 (A 11) = some (.inl (G.2 0, 16, .inl (F 11))) := up_ne hw_82 hk_79 ((hA 11 5 (by decide) (by decide) (by decide)))
        have hF := hF.put hw_82 (Or.inl (by simp))
        have hc_93 : w_81 (A 5) = some (.inl (G.2 0, 8200, .inl (upd (F 5) (S 2).toNatClampNeg o2))) := up_self hw_82
        refine lv_aload_n hx hb d_R_add_90 rfl (lv_at hl 0 rfl) ?_
        refine gf_R_28 cx hZ hk_83 rfl d_R_add_91 ?_
        refine lv_aload_n hx hb d_R_add_94 rfl (lv_at hl 0 rfl) ?_
        refine gf_R_61 cx hZ hk_83 rfl d_R_add_95 ?_
        refine lv_iload hx hb d_R_add_98 (lv_at hl 8 rfl) ?_
        refine st_i cx hZ hS hk_89 (by rw [hen]; exact vp_in_nI hen2 (by omega)) d_R_add_100 (fun w_94 H locs hw_95 hZ hS => ?_)
        have hk_96 : w_94 o = some (.inr (6, [.int 0, .ref (A 0), .ref (A 1), .ref (A 2), .ref (A 3), .ref (A 4), .ref (A 5), .ref (A 6), .ref (A 7), .ref (A 8), .int (S 1), .ref (A 9), .ref (A 10), .int (S 2), .ref (A 11), .long (L 0), .long (L 1), .long (L 2), .long (L 3), .ref (A 12), .long (L 4)])) := up_ne hw_95 hk_83 (z_ne hk_83 hk_89 (by simp))
        have hk_97 : w_94 (A 0) = some (.inl (G.2 0, 8200, .inl (upd (F 0) (S 2).toNatClampNeg k))) := up_ne hw_95 hk_84 ((hA 0 6 (by decide) (by decide) (by decide)))
        have hk_98 : w_94 (A 1) = some (.inl (G.2 0, 8200, .inl (upd (F 1) (S 2).toNatClampNeg x))) := up_ne hw_95 hk_85 ((hA 1 6 (by decide) (by decide) (by decide)))
        have hk_99 : w_94 (A 2) = some (.inl (G.2 0, 8200, .inl (upd (F 2) (S 2).toNatClampNeg h))) := up_ne hw_95 hk_86 ((hA 2 6 (by decide) (by decide) (by decide)))
        have hk_100 : w_94 (A 3) = some (.inl (G.2 0, 8200, .inl (upd (F 3) (S 2).toNatClampNeg d))) := up_ne hw_95 hk_87 ((hA 3 6 (by decide) (by decide) (by decide)))
        have hk_101 : w_94 (A 4) = some (.inl (G.2 0, 8200, .inl (upd (F 4) (S 2).toNatClampNeg s2))) := up_ne hw_95 hk_88 ((hA 4 6 (by decide) (by decide) (by decide)))
        have hk_102 : w_94 (A 5) = some (.inl (G.2 0, 8200, .inl (upd (F 5) (S 2).toNatClampNeg o2))) := up_ne hw_95 hc_93 ((hA 5 6 (by decide) (by decide) (by decide)))
        have hk_103 : w_94 (A 7) = some (.inl (G.2 1, 8200, .inr (.inl M))) := up_ne hw_95 hk_90 ((hA 7 6 (by decide) (by decide) (by decide)))
        have hk_104 : w_94 (A 8) = some (.inl (G.2 0, 8200, .inl (F 8))) := up_ne hw_95 hk_91 ((hA 8 6 (by decide) (by decide) (by decide)))
        have hk_105 : w_94 (A 11) = some (.inl (G.2 0, 16, .inl (F 11))) := up_ne hw_95 hk_92 ((hA 11 6 (by decide) (by decide) (by decide)))
        have hF := hF.put hw_95 (Or.inl (by simp))
        have hc_106 : w_94 (A 6) = some (.inl (G.2 0, 8200, .inl (upd (F 6) (S 2).toNatClampNeg z))) := up_self hw_95
        refine lv_aload_n hx hb d_R_add_101 rfl (lv_at hl 0 rfl) ?_
        refine gf_R_31 cx hZ hk_96 rfl d_R_add_102 ?_
        refine lv_aload_n hx hb d_R_add_105 rfl (lv_at hl 0 rfl) ?_
        refine gf_R_61 cx hZ hk_96 rfl d_R_add_106 ?_
        refine lv_lconst (v := 0) hx hb d_R_add_109 (by decide) ?_
        refine st_l cx hZ hS hk_103 (by rw [hen]; exact vp_in_nI hen2 (by omega)) d_R_add_110 (fun w_107 H locs hw_108 hZ hS => ?_)
        have hk_109 : w_107 o = some (.inr (6, [.int 0, .ref (A 0), .ref (A 1), .ref (A 2), .ref (A 3), .ref (A 4), .ref (A 5), .ref (A 6), .ref (A 7), .ref (A 8), .int (S 1), .ref (A 9), .ref (A 10), .int (S 2), .ref (A 11), .long (L 0), .long (L 1), .long (L 2), .long (L 3), .ref (A 12), .long (L 4)])) := up_ne hw_108 hk_96 (z_ne hk_96 hk_103 (by simp))
        have hk_110 : w_107 (A 0) = some (.inl (G.2 0, 8200, .inl (upd (F 0) (S 2).toNatClampNeg k))) := up_ne hw_108 hk_97 ((hA 0 7 (by decide) (by decide) (by decide)))
        have hk_111 : w_107 (A 1) = some (.inl (G.2 0, 8200, .inl (upd (F 1) (S 2).toNatClampNeg x))) := up_ne hw_108 hk_98 ((hA 1 7 (by decide) (by decide) (by decide)))
        have hk_112 : w_107 (A 2) = some (.inl (G.2 0, 8200, .inl (upd (F 2) (S 2).toNatClampNeg h))) := up_ne hw_108 hk_99 ((hA 2 7 (by decide) (by decide) (by decide)))
        have hk_113 : w_107 (A 3) = some (.inl (G.2 0, 8200, .inl (upd (F 3) (S 2).toNatClampNeg d))) := up_ne hw_108 hk_100 ((hA 3 7 (by decide) (by decide) (by decide)))
        have hk_114 : w_107 (A 4) = some (.inl (G.2 0, 8200, .inl (upd (F 4) (S 2).toNatClampNeg s2))) := up_ne hw_108 hk_101 ((hA 4 7 (by decide) (by decide) (by decide)))
        have hk_115 : w_107 (A 5) = some (.inl (G.2 0, 8200, .inl (upd (F 5) (S 2).toNatClampNeg o2))) := up_ne hw_108 hk_102 ((hA 5 7 (by decide) (by decide) (by decide)))
        have hk_116 : w_107 (A 6) = some (.inl (G.2 0, 8200, .inl (upd (F 6) (S 2).toNatClampNeg z))) := up_ne hw_108 hc_106 ((hA 6 7 (by decide) (by decide) (by decide)))
        have hk_117 : w_107 (A 8) = some (.inl (G.2 0, 8200, .inl (F 8))) := up_ne hw_108 hk_104 ((hA 8 7 (by decide) (by decide) (by decide)))
        have hk_118 : w_107 (A 11) = some (.inl (G.2 0, 16, .inl (F 11))) := up_ne hw_108 hk_105 ((hA 11 7 (by decide) (by decide) (by decide)))
        have hF := hF.put hw_108 (Or.inl (by simp))
        have hc_119 : w_107 (A 7) = some (.inl (G.2 1, 8200, .inr (.inl (vp_updL M (S 2).toNatClampNeg 0)))) := up_self hw_108
        refine lv_aload_n hx hb d_R_add_111 rfl (lv_at hl 0 rfl) ?_
        refine gf_R_35 cx hZ hk_109 rfl d_R_add_112 ?_
        refine lv_aload_n hx hb d_R_add_115 rfl (lv_at hl 0 rfl) ?_
        refine gf_R_61 cx hZ hk_109 rfl d_R_add_116 ?_
        refine lv_iconst (v := 1) hx hb d_R_add_119 (by decide) ?_
        refine st_i cx hZ hS hk_117 (by rw [hen]; exact vp_in_nI hen2 (by omega)) d_R_add_120 (fun w_120 H locs hw_121 hZ hS => ?_)
        have hk_122 : w_120 o = some (.inr (6, [.int 0, .ref (A 0), .ref (A 1), .ref (A 2), .ref (A 3), .ref (A 4), .ref (A 5), .ref (A 6), .ref (A 7), .ref (A 8), .int (S 1), .ref (A 9), .ref (A 10), .int (S 2), .ref (A 11), .long (L 0), .long (L 1), .long (L 2), .long (L 3), .ref (A 12), .long (L 4)])) := up_ne hw_121 hk_109 (z_ne hk_109 hk_117 (by simp))
        have hk_123 : w_120 (A 0) = some (.inl (G.2 0, 8200, .inl (upd (F 0) (S 2).toNatClampNeg k))) := up_ne hw_121 hk_110 ((hA 0 8 (by decide) (by decide) (by decide)))
        have hk_124 : w_120 (A 1) = some (.inl (G.2 0, 8200, .inl (upd (F 1) (S 2).toNatClampNeg x))) := up_ne hw_121 hk_111 ((hA 1 8 (by decide) (by decide) (by decide)))
        have hk_125 : w_120 (A 2) = some (.inl (G.2 0, 8200, .inl (upd (F 2) (S 2).toNatClampNeg h))) := up_ne hw_121 hk_112 ((hA 2 8 (by decide) (by decide) (by decide)))
        have hk_126 : w_120 (A 3) = some (.inl (G.2 0, 8200, .inl (upd (F 3) (S 2).toNatClampNeg d))) := up_ne hw_121 hk_113 ((hA 3 8 (by decide) (by decide) (by decide)))
        have hk_127 : w_120 (A 4) = some (.inl (G.2 0, 8200, .inl (upd (F 4) (S 2).toNatClampNeg s2))) := up_ne hw_121 hk_114 ((hA 4 8 (by decide) (by decide) (by decide)))
        have hk_128 : w_120 (A 5) = some (.inl (G.2 0, 8200, .inl (upd (F 5) (S 2).toNatClampNeg o2))) := up_ne hw_121 hk_115 ((hA 5 8 (by decide) (by decide) (by decide)))
        have hk_129 : w_120 (A 6) = some (.inl (G.2 0, 8200, .inl (upd (F 6) (S 2).toNatClampNeg z))) := up_ne hw_121 hk_116 ((hA 6 8 (by decide) (by decide) (by decide)))
        have hk_130 : w_120 (A 7) = some (.inl (G.2 1, 8200, .inr (.inl (vp_updL M (S 2).toNatClampNeg 0)))) := up_ne hw_121 hc_119 ((hA 7 8 (by decide) (by decide) (by decide)))
        have hk_131 : w_120 (A 11) = some (.inl (G.2 0, 16, .inl (F 11))) := up_ne hw_121 hk_118 ((hA 11 8 (by decide) (by decide) (by decide)))
        have hF := hF.put hw_121 (Or.inl (by simp))
        have hc_132 : w_120 (A 8) = some (.inl (G.2 0, 8200, .inl (upd (F 8) (S 2).toNatClampNeg 1))) := up_self hw_121
        refine lv_aload_n hx hb d_R_add_121 rfl (lv_at hl 0 rfl) ?_
        refine lv_dup hx hb d_R_add_122 rfl ?_
        refine gf_R_61 cx hZ hk_122 rfl d_R_add_123 ?_
        refine lv_iconst (v := 1) hx hb d_R_add_126 (by decide) ?_
        refine lv_iadd hx hb d_R_add_127 ?_
        rw [show (((S 2) + 1) : Int32) = nI (en + 1) from by rw [hen]; exact nI_1 en]
        refine pf_R_61 cx hZ hS hk_122 (Nat.le_of_ble_eq_true rfl) d_R_add_128 (fun w_133 H locs hw_134 hZ hS => ?_)
        have hk_135 : w_133 (A 0) = some (.inl (G.2 0, 8200, .inl (upd (F 0) (S 2).toNatClampNeg k))) := up_ne hw_134 hk_123 (z_ne hk_123 hk_122 (by simp))
        have hk_136 : w_133 (A 1) = some (.inl (G.2 0, 8200, .inl (upd (F 1) (S 2).toNatClampNeg x))) := up_ne hw_134 hk_124 (z_ne hk_124 hk_122 (by simp))
        have hk_137 : w_133 (A 2) = some (.inl (G.2 0, 8200, .inl (upd (F 2) (S 2).toNatClampNeg h))) := up_ne hw_134 hk_125 (z_ne hk_125 hk_122 (by simp))
        have hk_138 : w_133 (A 3) = some (.inl (G.2 0, 8200, .inl (upd (F 3) (S 2).toNatClampNeg d))) := up_ne hw_134 hk_126 (z_ne hk_126 hk_122 (by simp))
        have hk_139 : w_133 (A 4) = some (.inl (G.2 0, 8200, .inl (upd (F 4) (S 2).toNatClampNeg s2))) := up_ne hw_134 hk_127 (z_ne hk_127 hk_122 (by simp))
        have hk_140 : w_133 (A 5) = some (.inl (G.2 0, 8200, .inl (upd (F 5) (S 2).toNatClampNeg o2))) := up_ne hw_134 hk_128 (z_ne hk_128 hk_122 (by simp))
        have hk_141 : w_133 (A 6) = some (.inl (G.2 0, 8200, .inl (upd (F 6) (S 2).toNatClampNeg z))) := up_ne hw_134 hk_129 (z_ne hk_129 hk_122 (by simp))
        have hk_142 : w_133 (A 7) = some (.inl (G.2 1, 8200, .inr (.inl (vp_updL M (S 2).toNatClampNeg 0)))) := up_ne hw_134 hk_130 (z_ne hk_130 hk_122 (by simp))
        have hk_143 : w_133 (A 8) = some (.inl (G.2 0, 8200, .inl (upd (F 8) (S 2).toNatClampNeg 1))) := up_ne hw_134 hc_132 (z_ne hc_132 hk_122 (by simp))
        have hk_144 : w_133 (A 11) = some (.inl (G.2 0, 16, .inl (F 11))) := up_ne hw_134 hk_131 (z_ne hk_131 hk_122 (by simp))
        have hF := hF.put hw_134 (Or.inl (by simp))
        have hc_145 : w_133 o = some (.inr (6, [.int 0, .ref (A 0), .ref (A 1), .ref (A 2), .ref (A 3), .ref (A 4), .ref (A 5), .ref (A 6), .ref (A 7), .ref (A 8), .int (S 1), .ref (A 9), .ref (A 10), .int (nI (en + 1)), .ref (A 11), .long (L 0), .long (L 1), .long (L 2), .long (L 3), .ref (A 12), .long (L 4)])) := up_self hw_134
        refine lv_iconst (v := 1) hx hb d_R_add_131 (by decide) ?_
        exact z_zret cx.1 cx.2.1 cx.rt cx.lk (by first | rfl | (simp [narrow]; done) | simp_all [narrow]) hS hZ ⟨(Nat.le_of_ble_eq_true rfl), (Nat.le_of_ble_eq_true rfl)⟩ d_R_add_132 (⟨1, rfl, Or.inl ⟨by have h1 := (zi_n0 _).mp c6; have h3 := (zi_n0 _).mp c21; rw [show (upd S 0 0) 2 = S 2 from rfl] at h3; rw [h1, h3]; simp only [Bool.true_and, Bool.and_true, decide_eq_true_eq]; exact (fun q => c13 (by rw [hls, q]; rfl)), rfl, ⟨(by have := hk_135; rw [hen, nI_clamp (by omega)] at this; exact this), (by have := hk_136; rw [hen, nI_clamp (by omega)] at this; exact this), (by have := hk_137; rw [hen, nI_clamp (by omega)] at this; exact this), (by have := hk_138; rw [hen, nI_clamp (by omega)] at this; exact this), (by have := hk_139; rw [hen, nI_clamp (by omega)] at this; exact this), (by have := hk_140; rw [hen, nI_clamp (by omega)] at this; exact this), (by have := hk_141; rw [hen, nI_clamp (by omega)] at this; exact this), (by have := hk_142; rw [hen, nI_clamp (by omega)] at this; exact this), (by have := hk_143; rw [hen, nI_clamp (by omega)] at this; exact this)⟩, hc_145, hF⟩⟩)
      · refine lv_iconst (v := 0) hx hb d_R_add_24 (by decide) ?_
        exact z_zret cx.1 cx.2.1 cx.rt cx.lk (by first | rfl | (simp [narrow]; done) | simp_all [narrow]) hS hZ ⟨(Nat.le_of_ble_eq_true rfl), (Nat.le_of_ble_eq_true rfl)⟩ d_R_add_25 (⟨0, rfl, Or.inr ⟨by have h3 := (zi_0 _).mp c21; rw [show (upd S 0 0) 2 = S 2 from rfl] at h3; rw [h3, Bool.and_false], rfl, ⟨hk_3, hk_4, hk_5, hk_6, hk_7, hk_8, hk_9, hk_10, hk_11⟩, hc_13, hF⟩⟩)
set_option maxHeartbeats 4000000 in
set_option maxRecDepth 100000 in
theorem r_near0 (l : Launch) (G : zG) (n0 e0 : Nat) (a b : Int64) (w : zw) (hb2 : ¬ 2 * b = 0) : Ct l G n0 e0 y_R_near0 b_R_near0 4 (Option.some FieldType.long) ({ frames := 0, cells := 0, slots := 0, locals := 0 }) [.long a, .long b] w (fun v w1 => v = some (.long ((2 * a + b) / (2 * b))) ∧ w1 = w) := by
  refine z_ct (by decide) (Nat.le_of_ble_eq_true rfl) ?_
  intro p e s m below meth c ls cx hnm hZ hS hl
  have hx := cx.1
  have hb := cx.2.1
  have hl : lv_has ls 4 [(0, .long a), (2, .long b)] := hl
  refine lc_R_117 cx d_R_near0_0 ?_
  refine lv_lload_n hx hb d_R_near0_3 rfl (lv_at hl 0 rfl) ?_
  refine lv_lmul hx hb d_R_near0_4 ?_
  refine lv_lload_n hx hb d_R_near0_5 rfl (lv_at hl 1 rfl) ?_
  refine lv_ladd hx hb d_R_near0_6 ?_
  refine lc_R_117 cx d_R_near0_7 ?_
  refine lv_lload_n hx hb d_R_near0_10 rfl (lv_at hl 1 rfl) ?_
  refine lv_lmul hx hb d_R_near0_11 ?_
  refine lv_ldiv hx hb d_R_near0_12 hb2 ?_
  exact z_lret cx.1 cx.2.1 cx.rt cx.lk hS hZ ⟨(Nat.le_of_ble_eq_true rfl), (Nat.le_of_ble_eq_true rfl)⟩ d_R_near0_13 (⟨rfl, rfl⟩)
set_option maxHeartbeats 4000000 in
set_option maxRecDepth 100000 in
theorem r_near (l : Launch) (G : zG) (n0 e0 : Nat) (a b : Int64) (w : zw) (hb2 : ¬ 2 * b = 0) : Ct l G n0 e0 y_R_near b_R_near 4 (Option.some FieldType.long) ({ frames := 1, cells := 0, slots := 0, locals := 23 }) [.long a, .long b] w (fun v w1 => v = some (.long (if 0 ≤ a then (2 * a + b) / (2 * b) else -((2 * (-a) + b) / (2 * b)))) ∧ w1 = w) := by
  refine z_ct (by decide) (Nat.le_of_ble_eq_true rfl) ?_
  intro p e s m below meth c ls cx hnm hZ hS hl
  have hx := cx.1
  have hb := cx.2.1
  have hl : lv_has ls 4 [(0, .long a), (2, .long b)] := hl
  refine lv_lload_n hx hb d_R_near_0 rfl (lv_at hl 0 rfl) ?_
  refine lv_lconst (v := 0) hx hb d_R_near_1 (by decide) ?_
  refine W.lcmp hx hb d_R_near_2 ?_
  refine lv_if_ge (tgt := 16) hx hb d_R_near_3 (by decide) (fun c3 => ?_) (fun c3 => ?_)
  · have c3 := (lg_cmp_ge _ _).mp c3
    refine lv_lload_n hx hb d_R_near_16 rfl (lv_at hl 0 rfl) ?_
    refine lv_lload_n hx hb d_R_near_17 rfl (lv_at hl 1 rfl) ?_
    refine is_R_113 (As := [.long a, .long b]) (rest := []) cx (r_near0 l G n0 e0 a b w hb2) ⟨(Nat.le_of_ble_eq_true rfl), (Nat.le_of_ble_eq_true rfl)⟩ ⟨(Nat.le_of_ble_eq_true rfl), (Nat.le_of_ble_eq_true rfl)⟩ rfl hl.1 rfl (Nat.le_of_ble_eq_true rfl) d_R_near_18 hZ hS (fun v w_1 H locs hp_2 hZ hS => ?_)
    obtain ⟨rfl, hq⟩ := hp_2
    subst w_1
    refine W.eq (g2 := F0 m 21 ls [.long ((2 * a + b) / (2 * b))]) rfl ?_
    exact z_lret cx.1 cx.2.1 cx.rt cx.lk hS hZ ⟨(Nat.le_of_ble_eq_true rfl), (Nat.le_of_ble_eq_true rfl)⟩ d_R_near_21 (by first | exact ⟨by rw [if_pos c3], rfl⟩ | exact ⟨by rw [if_neg c3], rfl⟩)
  · have c3 := fun q => c3 ((lg_cmp_ge _ _).mpr q)
    refine lv_lload_n hx hb d_R_near_6 rfl (lv_at hl 0 rfl) ?_
    refine lv_lneg hx hb d_R_near_7 ?_
    refine lv_lload_n hx hb d_R_near_8 rfl (lv_at hl 1 rfl) ?_
    refine is_R_113 (As := [.long (-a), .long b]) (rest := []) cx (r_near0 l G n0 e0 (-a) b w hb2) ⟨(Nat.le_of_ble_eq_true rfl), (Nat.le_of_ble_eq_true rfl)⟩ ⟨(Nat.le_of_ble_eq_true rfl), (Nat.le_of_ble_eq_true rfl)⟩ rfl hl.1 rfl (Nat.le_of_ble_eq_true rfl) d_R_near_9 hZ hS (fun v w_3 H locs hp_4 hZ hS => ?_)
    obtain ⟨rfl, hq⟩ := hp_4
    subst w_3
    refine W.eq (g2 := F0 m 12 ls [.long ((2 * (-a) + b) / (2 * b))]) rfl ?_
    refine lv_lneg hx hb d_R_near_12 ?_
    refine lv_goto (tgt := 21) hx hb d_R_near_13 (by decide) ?_
    exact z_lret cx.1 cx.2.1 cx.rt cx.lk hS hZ ⟨(Nat.le_of_ble_eq_true rfl), (Nat.le_of_ble_eq_true rfl)⟩ d_R_near_21 (by first | exact ⟨by rw [if_pos c3], rfl⟩ | exact ⟨by rw [if_neg c3], rfl⟩)
