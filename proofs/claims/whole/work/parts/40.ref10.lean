/-- how many boxes of the j rows from a on reach beyond row i -/
def cov (K : Nat → Int32) (sp : Nat → Nat) (a i : Nat) : Nat → Nat
  | 0 => 0
  | j + 1 => cov K sp a i j + (if (K (a + j) = 2 ∨ K (a + j) = 3) ∧ i < a + j + sp (a + j) then 1 else 0)
/-- how deep the d rows from a on nest -/
def mxN (K : Nat → Int32) (sp : Nat → Nat) (a : Nat) : Nat → Nat
  | 0 => 0
  | d + 1 => if mxN K sp a d < cov K sp a (a + d) (d + 1) then cov K sp a (a + d) (d + 1) else mxN K sp a d
theorem cov_le (K : Nat → Int32) (sp : Nat → Nat) (a i j : Nat) : cov K sp a i j ≤ j := by
  induction j with
  | zero => exact Nat.le_refl _
  | succ j ih => rw [cov]; split <;> omega
theorem mxN_le (K : Nat → Int32) (sp : Nat → Nat) (a d : Nat) : mxN K sp a d ≤ d := by
  induction d with
  | zero => exact Nat.le_refl _
  | succ d ih => rw [mxN]; have := cov_le K sp a (a + d) (d + 1); split <;> omega
set_option maxHeartbeats 4000000 in
set_option maxRecDepth 100000 in
theorem r_nested (l : Launch) (G : zG) (n0 e0 : Nat) (w : zw) (o : Nat) (A : Nat → Nat) (S : Nat → Int32) (L : Nat → Int64) (F : Nat → Nat → Int32) (M : Nat → Int64) (B V Z : Nat → Int32) (T : Nat → Int64) (hr : RA G w o A S L F M B V Z T) (hA : ∀ i j, i < 13 → j < 13 → i ≠ j → A i ≠ A j) (a n : Nat) (hn : a + n ≤ 8200) (sp : Nat → Nat) (hsp : ∀ j, a ≤ j → j < a + n → F 8 j = nI (sp j) ∧ sp j ≤ 8200)  : Ct l G n0 e0 y_R_nested b_R_nested 7 (Option.some FieldType.int) ({ frames := 1, cells := 0, slots := 0, locals := 30 }) [.ref o, .int (nI a), .int (nI (a + n))] w (fun v w1 => v = some (.int (nI (mxN (F 0) sp a n))) ∧ w1 = w) := by
  refine z_ct (by decide) (Nat.le_of_ble_eq_true rfl) ?_
  intro p e s m below meth c ls cx hnm hZ hS hl
  have hx := cx.1
  have hb := cx.2.1
  have hl : lv_has ls 7 [(0, .ref o), (1, .int (nI a)), (2, .int (nI (a + n)))] := hl
  obtain ⟨ho, ⟨h0, h1, h2, h3, h4, h5, h6, h7, h8⟩, h9, h10, h11, h12⟩ := id hr
  refine lv_iconst (v := 0) hx hb d_R_nested_0 (by decide) ?_
  refine lv_istore_n (lv' := [(3, .int 0), (0, .ref o), (1, .int (nI a)), (2, .int (nI (a + n)))]) hx hb d_R_nested_1 rfl hl (by decide) rfl (fun ls hl => ?_)
  refine lv_iload_n hx hb d_R_nested_2 rfl (lv_at hl 2 rfl) ?_
  refine lv_istore (lv' := [(4, .int (nI a)), (3, .int 0), (0, .ref o), (1, .int (nI a)), (2, .int (nI (a + n)))]) hx hb d_R_nested_3 hl (by decide) rfl (fun ls hl => ?_)
  have loop_5 : ∀ (kd d : Nat) (H : Heap) (locs : List Loc) (ls : Array Slot), d + kd = n → Zw G.1 vwC (zA n0) w H → va_S (zA n0) s.heap H locs → lv_has ls 7 [(4, .int (nI (a + d))), (3, .int (nI (mxN (F 0) sp a d))), (0, .ref o), (1, .int (nI a)), (2, .int (nI (a + n)))] → W p l e ({ frames := 1, cells := 0, slots := 0, locals := 30 }) s m [.ref o, .int (nI a), .int (nI (a + n))].toArray below meth c H locs 0 0 (MQ below (zQ G.1 vwC n0 (fun v w1 => v = some (.int (nI (mxN (F 0) sp a n))) ∧ w1 = w)) [.ref o, .int (nI a), .int (nI (a + n))].toArray s ({ frames := 1, cells := 0, slots := 0, locals := 30 } : Room).cells ({ frames := 1, cells := 0, slots := 0, locals := 30 } : Room).slots (zA n0)) (F0 m 5 ls []) := by
    intro kd
    induction kd with
    | zero =>
      intro d H locs ls hk5 hZ hS hl
      have hin : d = n := by omega
      subst hin
      refine lv_iload hx hb d_R_nested_5 (lv_at hl 0 rfl) ?_
      refine lv_iload_n hx hb d_R_nested_7 rfl (lv_at hl 4 rfl) ?_
      refine lv_icmp_ge (tgt := 83) hx hb d_R_nested_8 (by decide) (fun c8 => ?_) (fun c8 => ?_)
      · refine lv_iload_n hx hb d_R_nested_83 rfl (lv_at hl 1 rfl) ?_
        exact z_iret cx.1 cx.2.1 cx.rt cx.lk hS hZ ⟨(Nat.le_of_ble_eq_true rfl), (Nat.le_of_ble_eq_true rfl)⟩ d_R_nested_84 (⟨rfl, rfl⟩)
      · exact absurd (nI_le (by omega) (by omega)) c8
    | succ kd ih_5 =>
      intro d H locs ls hk5 hZ hS hl
      refine lv_iload hx hb d_R_nested_5 (lv_at hl 0 rfl) ?_
      refine lv_iload_n hx hb d_R_nested_7 rfl (lv_at hl 4 rfl) ?_
      refine lv_icmp_ge (tgt := 83) hx hb d_R_nested_8 (by decide) (fun c8 => ?_) (fun c8 => ?_)
      · exact absurd c8 (nI_ge (by omega) (by omega))
      · refine lv_iconst (v := 0) hx hb d_R_nested_11 (by decide) ?_
        refine lv_istore (lv' := [(5, .int 0), (4, .int (nI (a + d))), (3, .int (nI (mxN (F 0) sp a d))), (0, .ref o), (1, .int (nI a)), (2, .int (nI (a + n)))]) hx hb d_R_nested_12 hl (by decide) rfl (fun ls hl => ?_)
        refine lv_iload_n hx hb d_R_nested_14 rfl (lv_at hl 4 rfl) ?_
        refine lv_istore (lv' := [(6, .int (nI a)), (5, .int 0), (4, .int (nI (a + d))), (3, .int (nI (mxN (F 0) sp a d))), (0, .ref o), (1, .int (nI a)), (2, .int (nI (a + n)))]) hx hb d_R_nested_15 hl (by decide) rfl (fun ls hl => ?_)
        have loop_17 : ∀ (kj j : Nat) (H : Heap) (locs : List Loc) (ls : Array Slot), j + kj = d + 1 → Zw G.1 vwC (zA n0) w H → va_S (zA n0) s.heap H locs → lv_has ls 7 [(6, .int (nI (a + j))), (5, .int (nI (cov (F 0) sp a (a + d) j))), (4, .int (nI (a + d))), (3, .int (nI (mxN (F 0) sp a d))), (0, .ref o), (1, .int (nI a)), (2, .int (nI (a + n)))] → W p l e ({ frames := 1, cells := 0, slots := 0, locals := 30 }) s m [.ref o, .int (nI a), .int (nI (a + n))].toArray below meth c H locs 0 0 (MQ below (zQ G.1 vwC n0 (fun v w1 => v = some (.int (nI (mxN (F 0) sp a n))) ∧ w1 = w)) [.ref o, .int (nI a), .int (nI (a + n))].toArray s ({ frames := 1, cells := 0, slots := 0, locals := 30 } : Room).cells ({ frames := 1, cells := 0, slots := 0, locals := 30 } : Room).slots (zA n0)) (F0 m 17 ls []) := by
          intro kj
          induction kj with
          | zero =>
            intro j H locs ls hk17 hZ hS hl
            have hin : j = d + 1 := by omega
            subst hin
            refine lv_iload hx hb d_R_nested_17 (lv_at hl 0 rfl) ?_
            refine lv_iload hx hb d_R_nested_19 (lv_at hl 2 rfl) ?_
            refine lv_icmp_gt (tgt := 64) hx hb d_R_nested_21 (by decide) (fun c21 => ?_) (fun c21 => ?_)
            · have J_76 : ∀ (H : Heap) (locs : List Loc) (x76 : Int32), Zw G.1 vwC (zA n0) w H → va_S (zA n0) s.heap H locs → x76 = nI (mxN (F 0) sp a (d + 1)) → W p l e ({ frames := 1, cells := 0, slots := 0, locals := 30 }) s m [.ref o, .int (nI a), .int (nI (a + n))].toArray below meth c H locs 0 0 (MQ below (zQ G.1 vwC n0 (fun v w1 => v = some (.int (nI (mxN (F 0) sp a n))) ∧ w1 = w)) [.ref o, .int (nI a), .int (nI (a + n))].toArray s ({ frames := 1, cells := 0, slots := 0, locals := 30 } : Room).cells ({ frames := 1, cells := 0, slots := 0, locals := 30 } : Room).slots (zA n0)) (F0 m 76 ls [.int x76]) := by
                intro H locs x76 hZ hS hx76
                subst hx76
                refine lv_istore_n (lv' := [(3, .int (nI (mxN (F 0) sp a (d + 1)))), (6, .int (nI (a + (d + 1)))), (5, .int (nI (cov (F 0) sp a (a + d) (d + 1)))), (4, .int (nI (a + d))), (0, .ref o), (1, .int (nI a)), (2, .int (nI (a + n)))]) hx hb d_R_nested_76 rfl hl (by decide) rfl (fun ls hl => ?_)
                refine lv_iinc (v := ((nI (a + d)) + 1)) (lv' := [(4, .int ((nI (a + d)) + 1)), (3, .int (nI (mxN (F 0) sp a (d + 1)))), (6, .int (nI (a + (d + 1)))), (5, .int (nI (cov (F 0) sp a (a + d) (d + 1)))), (0, .ref o), (1, .int (nI a)), (2, .int (nI (a + n)))]) hx hb d_R_nested_77 hl (k := 3) rfl rfl (by decide) rfl (fun ls hl => ?_)
                refine lv_goto (tgt := 5) hx hb d_R_nested_80 (by decide) ?_
                exact ih_5 (d + 1) _ _ _ (by omega) hZ hS (lv_sub hl [0, 1, 4, 5, 6] (by rw [← Nat.add_assoc a d 1, ← nI_1 (a + d)]; rfl))
              refine lv_iload hx hb d_R_nested_64 (lv_at hl 1 rfl) ?_
              refine lv_iload_n hx hb d_R_nested_66 rfl (lv_at hl 3 rfl) ?_
              refine lv_icmp_le (tgt := 75) hx hb d_R_nested_67 (by decide) (fun c67 => ?_) (fun c67 => ?_)
              · refine lv_iload_n hx hb d_R_nested_75 rfl (lv_at hl 3 rfl) ?_
                exact J_76 _ _ _ hZ hS (by rw [mxN, if_neg (fun q => absurd c67 (nI_ge q (by have := cov_le (F 0) sp a (a + d) (d + 1); omega)))])
              · refine lv_iload hx hb d_R_nested_70 (lv_at hl 1 rfl) ?_
                refine lv_goto (tgt := 76) hx hb d_R_nested_72 (by decide) ?_
                exact J_76 _ _ _ hZ hS (by rw [mxN, if_pos (Nat.lt_of_not_le (fun q => c67 (nI_le q (by have := mxN_le (F 0) sp a d; omega))))])
            · exact absurd (nI_lt (by omega) (by omega)) c21
          | succ kj ih_17 =>
            intro j H locs ls hk17 hZ hS hl
            refine lv_iload hx hb d_R_nested_17 (lv_at hl 0 rfl) ?_
            refine lv_iload hx hb d_R_nested_19 (lv_at hl 2 rfl) ?_
            refine lv_icmp_gt (tgt := 64) hx hb d_R_nested_21 (by decide) (fun c21 => ?_) (fun c21 => ?_)
            · exact absurd c21 (nI_nlt (by omega) (by omega))
            · refine lv_iload hx hb d_R_nested_24 (lv_at hl 1 rfl) ?_
              have J_55 : ∀ (H : Heap) (locs : List Loc) (x55 : Int32), Zw G.1 vwC (zA n0) w H → va_S (zA n0) s.heap H locs → x55 = nI (if (F 0 (a + j) = 2 ∨ F 0 (a + j) = 3) ∧ a + d < a + j + sp (a + j) then 1 else 0) → W p l e ({ frames := 1, cells := 0, slots := 0, locals := 30 }) s m [.ref o, .int (nI a), .int (nI (a + n))].toArray below meth c H locs 0 0 (MQ below (zQ G.1 vwC n0 (fun v w1 => v = some (.int (nI (mxN (F 0) sp a n))) ∧ w1 = w)) [.ref o, .int (nI a), .int (nI (a + n))].toArray s ({ frames := 1, cells := 0, slots := 0, locals := 30 } : Room).cells ({ frames := 1, cells := 0, slots := 0, locals := 30 } : Room).slots (zA n0)) (F0 m 55 ls [.int x55, .int (nI (cov (F 0) sp a (a + d) j))]) := by
                intro H locs x55 hZ hS hx55
                subst hx55
                refine lv_iadd hx hb d_R_nested_55 ?_
                rw [show (((nI (cov (F 0) sp a (a + d) j)) + (nI (if (F 0 (a + j) = 2 ∨ F 0 (a + j) = 3) ∧ a + d < a + j + sp (a + j) then 1 else 0))) : Int32) = nI (cov (F 0) sp a (a + d) (j + 1)) from by rw [nI_add, cov]]
                refine lv_istore (lv' := [(5, .int (nI (cov (F 0) sp a (a + d) (j + 1)))), (6, .int (nI (a + j))), (4, .int (nI (a + d))), (3, .int (nI (mxN (F 0) sp a d))), (0, .ref o), (1, .int (nI a)), (2, .int (nI (a + n)))]) hx hb d_R_nested_56 hl (by decide) rfl (fun ls hl => ?_)
                refine lv_iinc (v := ((nI (a + j)) + 1)) (lv' := [(6, .int ((nI (a + j)) + 1)), (5, .int (nI (cov (F 0) sp a (a + d) (j + 1)))), (4, .int (nI (a + d))), (3, .int (nI (mxN (F 0) sp a d))), (0, .ref o), (1, .int (nI a)), (2, .int (nI (a + n)))]) hx hb d_R_nested_58 hl (k := 1) rfl rfl (by decide) rfl (fun ls hl => ?_)
                refine lv_goto (tgt := 17) hx hb d_R_nested_61 (by decide) ?_
                exact ih_17 (j + 1) _ _ _ (by omega) hZ hS (lv_sub hl [0, 1, 2, 3, 4, 5, 6] (by rw [← Nat.add_assoc a j 1, ← nI_1 (a + j)]; rfl))
              refine lv_aload_n hx hb d_R_nested_26 rfl (lv_at hl 4 rfl) ?_
              refine lv_iload hx hb d_R_nested_27 (lv_at hl 0 rfl) ?_
              refine iv_R_87 (As := [.int (nI (a + j))]) (rest := [.int (nI (cov (F 0) sp a (a + d) j))]) cx (r_isBox l G n0 e0 w o A S L ho F h0 (a + j) (by omega)) ho ⟨(Nat.le_of_ble_eq_true rfl), (Nat.le_of_ble_eq_true rfl)⟩ ⟨(Nat.le_of_ble_eq_true rfl), (Nat.le_of_ble_eq_true rfl)⟩ rfl hl.1 rfl (Nat.le_of_ble_eq_true rfl) d_R_nested_29 hZ hS (fun v w_1 H locs hp_2 hZ hS => ?_)
              obtain ⟨rfl, hq⟩ := hp_2
              subst w_1
              refine W.eq (g2 := F0 m 32 ls [.int (zi (decide (F 0 (a + j) = 2 ∨ F 0 (a + j) = 3))), .int (nI (cov (F 0) sp a (a + d) j))]) rfl ?_
              refine lv_if_eq (tgt := 54) hx hb d_R_nested_32 (by decide) (fun c32 => ?_) (fun c32 => ?_)
              · refine lv_iconst (v := 0) hx hb d_R_nested_54 (by decide) ?_
                exact J_55 _ _ _ hZ hS (by rw [if_neg (fun q => dz_f c32 q.1)]; rfl)
              · refine lv_iload hx hb d_R_nested_35 (lv_at hl 0 rfl) ?_
                refine lv_aload_n hx hb d_R_nested_37 rfl (lv_at hl 4 rfl) ?_
                refine gf_R_35 cx hZ ho rfl d_R_nested_38 ?_
                refine lv_iload hx hb d_R_nested_41 (lv_at hl 0 rfl) ?_
                refine ld_i cx hZ h8 (vp_in_nI (by omega) (by omega)) d_R_nested_43 ?_
                rw [show ((F 8) (nI (a + j)).toNatClampNeg : Int32) = (F 8) (a + j) from by rw [nI_clamp (by first | omega | (unfold stN; omega))]]
                refine lv_iadd hx hb d_R_nested_44 ?_
                rw [show (((nI (a + j)) + ((F 8) (a + j))) : Int32) = nI (a + j + sp (a + j)) from by rw [(hsp (a + j) (by omega) (by omega)).1, nI_add]]
                refine lv_iload hx hb d_R_nested_45 (lv_at hl 2 rfl) ?_
                refine lv_icmp_le (tgt := 54) hx hb d_R_nested_47 (by decide) (fun c47 => ?_) (fun c47 => ?_)
                · refine lv_iconst (v := 0) hx hb d_R_nested_54 (by decide) ?_
                  exact J_55 _ _ _ hZ hS (by rw [if_neg (fun q => absurd c47 (nI_ge q.2 (by have := hsp (a + j) (by omega) (by omega); omega)))]; rfl)
                · refine lv_iconst (v := 1) hx hb d_R_nested_50 (by decide) ?_
                  refine lv_goto (tgt := 55) hx hb d_R_nested_51 (by decide) ?_
                  exact J_55 _ _ _ hZ hS (by rw [if_pos ⟨dz_t c32, Nat.lt_of_not_le (fun q => c47 (nI_le q (by omega)))⟩]; rfl)
        exact loop_17 (d + 1) 0 _ _ _ (by omega) hZ hS (lv_sub hl [0, 1, 2, 3, 4, 5, 6] rfl)
  exact loop_5 (n) 0 _ _ _ (by omega) hZ hS (lv_sub hl [0, 1, 2, 3, 4] rfl)
