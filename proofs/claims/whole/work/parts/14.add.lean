theorem mn_nI {a b : Nat} (h : a ≤ b) (hb : b < 2 ^ 31) : (if nI b < nI a then nI b else nI a) = nI a := if_neg (nI_nlt h hb)
theorem mx_nI {a b : Nat} (h : b ≤ a) (ha : a < 2 ^ 31) : (if nI b < nI a then nI a else nI b) = nI a := by
  by_cases q : nI b < nI a
  · rw [if_pos q]
  · rw [if_neg q]
    have h3 : ¬ b < a := fun z => q ((nI_ltI (a := b) (b := a) (by omega) ha).mpr z)
    rw [show b = a by omega]
theorem sh1_nI {n : Nat} (h : n < 2 ^ 31) : nI n >>> ((1 : Int32) &&& 31) = nI (n / 2) := by
  have k := pk_shrN (n := n) h ((1 : Int32) &&& 31) 1 (by decide)
  rw [Nat.pow_one] at k
  exact k
theorem soft_nI {n : Nat} (h : n < 100000) : ¬ (2147483639 : Int32) < nI n := by
  rw [Int32.lt_iff_toInt_lt, nI_toInt (by omega)]
  have : (2147483639 : Int32).toInt = 2147483639 := by decide
  omega
theorem sub1_nI (n : Nat) : nI (n + 1) - nI n = nI 1 := by
  have k := pk_sub (a := n + 1) (b := n) (by omega)
  rw [Nat.add_sub_cancel_left] at k
  exact k
set_option maxHeartbeats 4000000 in
set_option maxRecDepth 100000 in
theorem c_copyOf3 (l : Launch) (G : zG) (n0 e0 : Nat) (w : zw) (ar cap N : Nat) (fa : Nat → Option Nat) (har : w ar = some (.inl (G.2 3, cap, .inr (.inr (.inr (.inr fa)))))) (hcN : cap ≤ N) (hN : N ≤ 100000) (hel : ∀ i : Nat, i < cap → ∀ y : Nat, fa i = some y → ∃ fs, w y = some (.inr (1, fs)))  : Ct l G n0 e0 y_Ar_copyOf_aOIC b_Ar_copyOf_aOIC 4 (Option.some (FieldType.array (FieldType.object "java/lang/Object"))) ({ frames := 1, cells := 1, slots := N, locals := 24 }) [.ref ar, .int (nI N), .ref (G.2 6)] w (fun v w1 => ∃ q, v = some (.ref q) ∧ w q = none ∧ w1 q = some (.inl (G.2 3, N, .inr (.inr (.inr (.inr (va_cpy fa (fun _ => none) 0 0 cap)))))) ∧ Fr [] w w1) := by
  refine z_ct (by decide) (Nat.le_of_ble_eq_true rfl) ?_
  intro p e s m below meth c ls cx hnm hZ hS hl
  have hx := cx.1
  have hb := cx.2.1
  have hl : lv_has ls 4 [(0, .ref ar), (1, .int (nI N)), (2, .ref (G.2 6))] := hl
  have hF : Fr [] w w := Fr.rf
  refine lv_aload_n hx hb d_Ar_copyOf_aOIC_0 rfl (lv_at hl 2 rfl) ?_
  refine lm_o cx d_Ar_copyOf_aOIC_1 ?_
  refine lv_acmp_ne (rx := (some (G.2 6))) (ry := (some (G.2 6))) (tgt := 13) hx hb d_Ar_copyOf_aOIC_3 (by decide) (fun c3 => ?_) (fun c3 => ?_)
  · exact absurd rfl c3
  · refine lv_iload_n hx hb d_Ar_copyOf_aOIC_6 rfl (lv_at hl 1 rfl) ?_
    refine nq_Ar_2 (N := N) cx hZ hS (nI_pos (by omega)) (nI_clamp (by omega)) (by omega) (by dsimp only; omega) (by dsimp only; omega) d_Ar_copyOf_aOIC_7 (fun q_1 w_2 H hq_4 hw_3 hZ hS => ?_)
    have hk_5 : w_2 ar = some (.inl (G.2 3, cap, .inr (.inr (.inr (.inr fa))))) := up_ne hw_3 har (z_neN har hq_4)
    have hn_6 := hF.2 _ hq_4
    have hF := hF.put hw_3 (Or.inr hn_6)
    have hc_7 : w_2 q_1 = some (.inl (G.2 3, N, .inr (.inr (.inr (.inr (fun _ => none)))))) := up_self hw_3
    refine lv_goto (tgt := 24) hx hb d_Ar_copyOf_aOIC_10 (by decide) ?_
    refine lv_astore_n (lv' := [(3, .ref q_1), (0, .ref ar), (1, .int (nI N)), (2, .ref (G.2 6))]) hx hb d_Ar_copyOf_aOIC_24 rfl hl (by decide) rfl (fun ls hl => ?_)
    refine lv_aload_n hx hb d_Ar_copyOf_aOIC_25 rfl (lv_at hl 1 rfl) ?_
    refine lv_iconst (v := 0) hx hb d_Ar_copyOf_aOIC_26 (by decide) ?_
    refine lv_aload_n hx hb d_Ar_copyOf_aOIC_27 rfl (lv_at hl 0 rfl) ?_
    refine lv_iconst (v := 0) hx hb d_Ar_copyOf_aOIC_28 (by decide) ?_
    refine lv_aload_n hx hb d_Ar_copyOf_aOIC_29 rfl (lv_at hl 1 rfl) ?_
    refine len_q3 cx hZ hk_5 d_Ar_copyOf_aOIC_30 ?_
    refine lv_iload_n hx hb d_Ar_copyOf_aOIC_31 rfl (lv_at hl 2 rfl) ?_
    refine mm_Ar_304 cx hl.1 d_Ar_copyOf_aOIC_32 (Nat.le_of_ble_eq_true rfl) (Nat.le_of_ble_eq_true rfl) (by dsimp only; omega) (by dsimp only; omega) ?_
    rw [show ((if (nI N) < (nI cap) then (nI N) else (nI cap)) : Int32) = nI cap from mn_nI hcN (by omega)]
    refine cp_o cx hl.1 hZ hS hk_5 hc_7 (nI_pos (by omega)) (by rw [nI_clamp (by omega)]; omega) (by rw [nI_clamp (by omega)]; omega) (fun i hi y hy => by rw [nI_clamp (by omega)] at hi; obtain ⟨fs, h⟩ := hel i hi y hy; exact ⟨fs, up_ne hw_3 h (z_neN h hq_4)⟩) (Nat.le_of_ble_eq_true rfl) (Nat.le_of_ble_eq_true rfl) d_Ar_copyOf_aOIC_35 (fun w_8 H locs hw_9 hZ hS => ?_)
    have hk_10 : w_8 ar = some (.inl (G.2 3, cap, .inr (.inr (.inr (.inr fa))))) := up_ne hw_9 hk_5 ((z_neN har hn_6))
    have hF := hF.put hw_9 (Or.inr hn_6)
    have hc_11 : w_8 q_1 = some (.inl (G.2 3, N, .inr (.inr (.inr (.inr (va_cpy fa (fun _ => none) 0 0 (nI cap).toNatClampNeg)))))) := up_self hw_9
    refine lv_aload_n hx hb d_Ar_copyOf_aOIC_38 rfl (lv_at hl 0 rfl) ?_
    exact z_aret cx.1 cx.2.1 cx.rt cx.lk (by first | exact Or.inl ⟨_, rfl⟩ | exact Or.inr ⟨_, rfl⟩) (by first | exact Or.inl rfl | exact Or.inr ⟨_, rfl⟩) hS hZ ⟨(by dsimp only; omega), (by dsimp only; omega)⟩ d_Ar_copyOf_aOIC_39 (⟨q_1, rfl, hn_6, (by have := hc_11; rw [nI_clamp (by omega)] at this; exact this), hF⟩)
set_option maxHeartbeats 4000000 in
set_option maxRecDepth 100000 in
theorem c_copyOf2 (l : Launch) (G : zG) (n0 e0 : Nat) (w : zw) (ar cap N : Nat) (fa : Nat → Option Nat) (har : w ar = some (.inl (G.2 3, cap, .inr (.inr (.inr (.inr fa)))))) (hcN : cap ≤ N) (hN : N ≤ 100000) (hel : ∀ i : Nat, i < cap → ∀ y : Nat, fa i = some y → ∃ fs, w y = some (.inr (1, fs)))  : Ct l G n0 e0 y_Ar_copyOf_aOI b_Ar_copyOf_aOI 2 (Option.some (FieldType.array (FieldType.object "java/lang/Object"))) ({ frames := 2, cells := 1, slots := N, locals := 47 }) [.ref ar, .int (nI N)] w (fun v w1 => ∃ q, v = some (.ref q) ∧ w q = none ∧ w1 q = some (.inl (G.2 3, N, .inr (.inr (.inr (.inr (va_cpy fa (fun _ => none) 0 0 cap)))))) ∧ Fr [] w w1) := by
  refine z_ct (by decide) (Nat.le_of_ble_eq_true rfl) ?_
  intro p e s m below meth c ls cx hnm hZ hS hl
  have hx := cx.1
  have hb := cx.2.1
  have hl : lv_has ls 2 [(0, .ref ar), (1, .int (nI N))] := hl
  have hF : Fr [] w w := Fr.rf
  refine lv_aload_n hx hb d_Ar_copyOf_aOI_0 rfl (lv_at hl 0 rfl) ?_
  refine lv_iload_n hx hb d_Ar_copyOf_aOI_1 rfl (lv_at hl 1 rfl) ?_
  refine lv_aload_n hx hb d_Ar_copyOf_aOI_2 rfl (lv_at hl 0 rfl) ?_
  refine gc_o cx hl.1 hZ har (Nat.le_of_ble_eq_true rfl) (Nat.le_of_ble_eq_true rfl) d_Ar_copyOf_aOI_3 ?_
  refine is_Ar_300 (As := [.ref ar, .int (nI N), .ref (G.2 6)]) (rest := []) cx (c_copyOf3 l G n0 e0 w ar cap N fa har hcN hN hel) ⟨(Nat.le_of_ble_eq_true rfl), (Nat.le_of_ble_eq_true rfl)⟩ ⟨(by dsimp only; omega), (by dsimp only; omega)⟩ rfl hl.1 rfl (Nat.le_of_ble_eq_true rfl) d_Ar_copyOf_aOI_6 hZ hS (fun v w_2 H locs hp_3 hZ hS => ?_)
  obtain ⟨q_1, rfl, hc_4, hc_5, hf_6⟩ := hp_3
  have hk_7 : w_2 ar = some (.inl (G.2 3, cap, .inr (.inr (.inr (.inr fa))))) := hf_6.keep har (by simp)
  have hn_8 := hF.2 _ hc_4
  have hF := hF.call hf_6 (fun _ h => absurd h List.not_mem_nil)
  refine W.eq (g2 := F0 m 9 ls [.ref q_1]) rfl ?_
  exact z_aret cx.1 cx.2.1 cx.rt cx.lk (by first | exact Or.inl ⟨_, rfl⟩ | exact Or.inr ⟨_, rfl⟩) (by first | exact Or.inl rfl | exact Or.inr ⟨_, rfl⟩) hS hZ ⟨(by dsimp only; omega), (by dsimp only; omega)⟩ d_Ar_copyOf_aOI_9 (⟨q_1, rfl, hn_8, hc_5, hF⟩)
set_option maxHeartbeats 4000000 in
set_option maxRecDepth 100000 in
theorem c_newLength (l : Launch) (G : zG) (n0 e0 : Nat) (w : zw) (a b d : Nat) (hbd : b ≤ d) (hd : 1 ≤ d) (had : a + d < 100000) : Ct l G n0 e0 y_As_newLength b_As_newLength 4 (Option.some FieldType.int) ({ frames := 1, cells := 0, slots := 0, locals := 24 }) [.int (nI a), .int (nI b), .int (nI d)] w (fun v w1 => v = some (.int (nI (a + d))) ∧ w1 = w) := by
  refine z_ct (by decide) (Nat.le_of_ble_eq_true rfl) ?_
  intro p e s m below meth c ls cx hnm hZ hS hl
  have hx := cx.1
  have hb := cx.2.1
  have hl : lv_has ls 4 [(0, .int (nI a)), (1, .int (nI b)), (2, .int (nI d))] := hl
  refine lv_iload_n hx hb d_As_newLength_0 rfl (lv_at hl 0 rfl) ?_
  refine lv_iload_n hx hb d_As_newLength_1 rfl (lv_at hl 1 rfl) ?_
  refine lv_iload_n hx hb d_As_newLength_2 rfl (lv_at hl 2 rfl) ?_
  refine mm_As_194 cx hl.1 d_As_newLength_3 (Nat.le_of_ble_eq_true rfl) (Nat.le_of_ble_eq_true rfl) (Nat.le_of_ble_eq_true rfl) (Nat.le_of_ble_eq_true rfl) ?_
  rw [show ((if (nI b) < (nI d) then (nI d) else (nI b)) : Int32) = nI d from mx_nI hbd (by omega)]
  refine lv_iadd hx hb d_As_newLength_6 ?_
  rw [show (((nI a) + (nI d)) : Int32) = nI (a + d) from nI_add a d]
  refine lv_istore_n (lv' := [(3, .int (nI (a + d))), (0, .int (nI a)), (1, .int (nI b)), (2, .int (nI d))]) hx hb d_As_newLength_7 rfl hl (by decide) rfl (fun ls hl => ?_)
  refine lv_iconst (v := 0) hx hb d_As_newLength_8 (by decide) ?_
  refine lv_iload_n hx hb d_As_newLength_9 rfl (lv_at hl 0 rfl) ?_
  refine lv_icmp_ge (tgt := 21) hx hb d_As_newLength_10 (by decide) (fun c10 => ?_) (fun c10 => ?_)
  · exact absurd c10 (nI_nle (by omega) (by omega))
  · refine lv_iload_n hx hb d_As_newLength_13 rfl (lv_at hl 0 rfl) ?_
    refine lc_As_200 cx d_As_newLength_14 ?_
    refine lv_icmp_gt (tgt := 21) hx hb d_As_newLength_16 (by decide) (fun c16 => ?_) (fun c16 => ?_)
    · exact absurd c16 (soft_nI (by omega))
    · refine lv_iload_n hx hb d_As_newLength_19 rfl (lv_at hl 0 rfl) ?_
      exact z_iret cx.1 cx.2.1 cx.rt cx.lk hS hZ ⟨(Nat.le_of_ble_eq_true rfl), (Nat.le_of_ble_eq_true rfl)⟩ d_As_newLength_20 (⟨rfl, rfl⟩)
set_option maxHeartbeats 4000000 in
set_option maxRecDepth 100000 in
theorem c_grow1_full (l : Launch) (G : zG) (n0 e0 : Nat) (w : zw) (a ar cap : Nat) (md : Int32) (fa : Nat → Option Nat) (ha : w a = some (.inr (0, fA md (.ref ar) (nI cap)))) (har : w ar = some (.inl (G.2 3, cap, .inr (.inr (.inr (.inr fa)))))) (hc : 10 ≤ cap) (hcc : cap ≤ 60000) (hel : ∀ i : Nat, i < cap → ∀ y : Nat, fa i = some y → ∃ fs, w y = some (.inr (1, fs)))  : Ct l G n0 e0 y_A_grow_I b_A_grow_I 4 (Option.some (FieldType.array (FieldType.object "java/lang/Object"))) ({ frames := 3, cells := 1, slots := cap + cap / 2, locals := 68 }) [.ref a, .int (nI (cap + 1))] w (fun v w1 => ∃ q, v = some (.ref q) ∧ w q = none ∧ w1 q = some (.inl (G.2 3, cap + cap / 2, .inr (.inr (.inr (.inr (va_cpy fa (fun _ => none) 0 0 cap)))))) ∧ w1 a = some (.inr (0, fA md (.ref q) (nI cap))) ∧ Fr [a] w w1) := by
  refine z_ct (by decide) (Nat.le_of_ble_eq_true rfl) ?_
  intro p e s m below meth c ls cx hnm hZ hS hl
  have hx := cx.1
  have hb := cx.2.1
  have hl : lv_has ls 4 [(0, .ref a), (1, .int (nI (cap + 1)))] := hl
  have hF : Fr [a] w w := Fr.rf
  refine lv_aload_n hx hb d_A_grow_I_0 rfl (lv_at hl 0 rfl) ?_
  refine gf_A_9 cx hZ ha rfl d_A_grow_I_1 ?_
  refine len_q3 cx hZ har d_A_grow_I_4 ?_
  refine lv_istore_n (lv' := [(2, .int (nI cap)), (0, .ref a), (1, .int (nI (cap + 1)))]) hx hb d_A_grow_I_5 rfl hl (by decide) rfl (fun ls hl => ?_)
  refine lv_iload_n hx hb d_A_grow_I_6 rfl (lv_at hl 0 rfl) ?_
  refine lv_if_gt (tgt := 20) hx hb d_A_grow_I_7 (by decide) (fun c7 => ?_) (fun c7 => ?_)
  · refine lv_iload_n hx hb d_A_grow_I_20 rfl (lv_at hl 0 rfl) ?_
    refine lv_iload_n hx hb d_A_grow_I_21 rfl (lv_at hl 2 rfl) ?_
    refine lv_iload_n hx hb d_A_grow_I_22 rfl (lv_at hl 0 rfl) ?_
    refine lv_isub hx hb d_A_grow_I_23 ?_
    rw [show (((nI (cap + 1)) - (nI cap)) : Int32) = nI 1 from sub1_nI cap]
    refine lv_iload_n hx hb d_A_grow_I_24 rfl (lv_at hl 0 rfl) ?_
    refine lv_iconst (v := 1) hx hb d_A_grow_I_25 (by decide) ?_
    refine lv_ishr hx hb d_A_grow_I_26 ?_
    rw [show (((nI cap) >>> (1 &&& 31)) : Int32) = nI (cap / 2) from sh1_nI (by omega)]
    refine is_A_73 (As := [.int (nI cap), .int (nI 1), .int (nI (cap / 2))]) (rest := []) cx (c_newLength l G n0 e0 w cap 1 (cap / 2) (by omega) (by omega) (by omega)) ⟨(Nat.le_of_ble_eq_true rfl), (Nat.le_of_ble_eq_true rfl)⟩ ⟨(by dsimp only; omega), (by dsimp only; omega)⟩ rfl hl.1 rfl (Nat.le_of_ble_eq_true rfl) d_A_grow_I_27 hZ hS (fun v w_1 H locs hp_2 hZ hS => ?_)
    obtain ⟨rfl, hq⟩ := hp_2
    subst w_1
    refine W.eq (g2 := F0 m 30 ls [.int (nI (cap + cap / 2))]) rfl ?_
    refine lv_istore_n (lv' := [(3, .int (nI (cap + cap / 2))), (2, .int (nI cap)), (0, .ref a), (1, .int (nI (cap + 1)))]) hx hb d_A_grow_I_30 rfl hl (by decide) rfl (fun ls hl => ?_)
    refine lv_aload_n hx hb d_A_grow_I_31 rfl (lv_at hl 2 rfl) ?_
    refine lv_aload_n hx hb d_A_grow_I_32 rfl (lv_at hl 2 rfl) ?_
    refine gf_A_9 cx hZ ha rfl d_A_grow_I_33 ?_
    refine lv_iload_n hx hb d_A_grow_I_36 rfl (lv_at hl 0 rfl) ?_
    refine is_A_66 (As := [.ref ar, .int (nI (cap + cap / 2))]) (rest := [.ref a]) cx (c_copyOf2 l G n0 e0 w ar cap (cap + cap / 2) fa har (by omega) (by omega) hel) ⟨(Nat.le_of_ble_eq_true rfl), (Nat.le_of_ble_eq_true rfl)⟩ ⟨(by dsimp only; omega), (by dsimp only; omega)⟩ rfl hl.1 rfl (Nat.le_of_ble_eq_true rfl) d_A_grow_I_37 hZ hS (fun v w_4 H locs hp_5 hZ hS => ?_)
    obtain ⟨q_3, rfl, hc_6, hc_7, hf_8⟩ := hp_5
    have hk_9 : w_4 a = some (.inr (0, [.int md, .ref ar, .int (nI cap)])) := hf_8.keep ha (by simp)
    have hk_10 : w_4 ar = some (.inl (G.2 3, cap, .inr (.inr (.inr (.inr fa))))) := hf_8.keep har (by simp)
    have hn_11 := hF.2 _ hc_6
    have hF := hF.call hf_8 (fun _ h => absurd h List.not_mem_nil)
    refine W.eq (g2 := F0 m 40 ls [.ref q_3, .ref a]) rfl ?_
    refine lv_dup_x1 hx hb d_A_grow_I_40 rfl rfl ?_
    refine pf_A_9 cx hZ hS hk_9 (Nat.le_of_ble_eq_true rfl) d_A_grow_I_41 (fun w_12 H locs hw_13 hZ hS => ?_)
    have hk_14 : w_12 ar = some (.inl (G.2 3, cap, .inr (.inr (.inr (.inr fa))))) := up_ne hw_13 hk_10 (z_ne hk_10 hk_9 (by simp))
    have hk_15 : w_12 q_3 = some (.inl (G.2 3, (cap + cap / 2), .inr (.inr (.inr (.inr (va_cpy fa (fun _ => none) 0 0 cap)))))) := up_ne hw_13 hc_7 ((Ne.symm (z_neN ha hn_11)))
    have hF := hF.put hw_13 (Or.inl (by simp))
    have hc_16 : w_12 a = some (.inr (0, [.int md, .ref q_3, .int (nI cap)])) := up_self hw_13
    exact z_aret cx.1 cx.2.1 cx.rt cx.lk (by first | exact Or.inl ⟨_, rfl⟩ | exact Or.inr ⟨_, rfl⟩) (by first | exact Or.inl rfl | exact Or.inr ⟨_, rfl⟩) hS hZ ⟨(by dsimp only; omega), (by dsimp only; omega)⟩ d_A_grow_I_44 (⟨q_3, rfl, hn_11, hk_15, hc_16, hF⟩)
  · exact absurd (nI_lt (show 0 < cap by omega) (by omega)) c7
set_option maxHeartbeats 4000000 in
set_option maxRecDepth 100000 in
theorem c_grow0_full (l : Launch) (G : zG) (n0 e0 : Nat) (w : zw) (a ar cap : Nat) (md : Int32) (fa : Nat → Option Nat) (ha : w a = some (.inr (0, fA md (.ref ar) (nI cap)))) (har : w ar = some (.inl (G.2 3, cap, .inr (.inr (.inr (.inr fa)))))) (hc : 10 ≤ cap) (hcc : cap ≤ 60000) (hel : ∀ i : Nat, i < cap → ∀ y : Nat, fa i = some y → ∃ fs, w y = some (.inr (1, fs)))  : Ct l G n0 e0 y_A_grow_0 b_A_grow_0 1 (Option.some (FieldType.array (FieldType.object "java/lang/Object"))) ({ frames := 4, cells := 1, slots := cap + cap / 2, locals := 91 }) [.ref a] w (fun v w1 => ∃ q, v = some (.ref q) ∧ w q = none ∧ w1 q = some (.inl (G.2 3, cap + cap / 2, .inr (.inr (.inr (.inr (va_cpy fa (fun _ => none) 0 0 cap)))))) ∧ w1 a = some (.inr (0, fA md (.ref q) (nI cap))) ∧ Fr [a] w w1) := by
  refine z_ct (by decide) (Nat.le_of_ble_eq_true rfl) ?_
  intro p e s m below meth c ls cx hnm hZ hS hl
  have hx := cx.1
  have hb := cx.2.1
  have hl : lv_has ls 1 [(0, .ref a)] := hl
  have hF : Fr [a] w w := Fr.rf
  refine lv_aload_n hx hb d_A_grow_0_0 rfl (lv_at hl 0 rfl) ?_
  refine lv_aload_n hx hb d_A_grow_0_1 rfl (lv_at hl 0 rfl) ?_
  refine gf_A_48 cx hZ ha rfl d_A_grow_0_2 ?_
  refine lv_iconst (v := 1) hx hb d_A_grow_0_5 (by decide) ?_
  refine lv_iadd hx hb d_A_grow_0_6 ?_
  rw [show (((nI cap) + 1) : Int32) = nI (cap + 1) from nI_1 cap]
  refine iv_A_69 (As := [.int (nI (cap + 1))]) (rest := []) cx (c_grow1_full l G n0 e0 w a ar cap md fa ha har hc hcc hel) ha ⟨(Nat.le_of_ble_eq_true rfl), (Nat.le_of_ble_eq_true rfl)⟩ ⟨(by dsimp only; omega), (by dsimp only; omega)⟩ rfl hl.1 rfl (Nat.le_of_ble_eq_true rfl) d_A_grow_0_7 hZ hS (fun v w_2 H locs hp_3 hZ hS => ?_)
  obtain ⟨q_1, rfl, hc_4, hc_5, hc_6, hf_7⟩ := hp_3
  have hk_8 : w_2 ar = some (.inl (G.2 3, cap, .inr (.inr (.inr (.inr fa))))) := hf_7.keep har (by simp only [List.mem_cons, List.not_mem_nil, or_false, not_or]; exact z_ne har ha (by simp))
  have hn_9 := hF.2 _ hc_4
  have hF := hF.call hf_7 (List.forall_mem_cons.mpr ⟨Or.inl (by simp), fun _ h => absurd h List.not_mem_nil⟩)
  refine W.eq (g2 := F0 m 10 ls [.ref q_1]) rfl ?_
  exact z_aret cx.1 cx.2.1 cx.rt cx.lk (by first | exact Or.inl ⟨_, rfl⟩ | exact Or.inr ⟨_, rfl⟩) (by first | exact Or.inl rfl | exact Or.inr ⟨_, rfl⟩) hS hZ ⟨(by dsimp only; omega), (by dsimp only; omega)⟩ d_A_grow_0_10 (⟨q_1, rfl, hn_9, hc_5, hc_6, hF⟩)
set_option maxHeartbeats 4000000 in
set_option maxRecDepth 100000 in
theorem c_grow1_first (l : Launch) (G : zG) (n0 e0 : Nat) (w : zw) (a : Nat) (md : Int32) (ha : w a = some (.inr (0, fA md (.ref e0) 0)))  : Ct l G n0 e0 y_A_grow_I b_A_grow_I 4 (Option.some (FieldType.array (FieldType.object "java/lang/Object"))) ({ frames := 3, cells := 1, slots := 10, locals := 68 }) [.ref a, .int 1] w (fun v w1 => ∃ q, v = some (.ref q) ∧ w q = none ∧ w1 q = some (.inl (G.2 3, 10, .inr (.inr (.inr (.inr (fun _ => none)))))) ∧ w1 a = some (.inr (0, fA md (.ref q) 0)) ∧ Fr [a] w w1) := by
  refine z_ct (by decide) (Nat.le_of_ble_eq_true rfl) ?_
  intro p e s m below meth c ls cx hnm hZ hS hl
  have hx := cx.1
  have hb := cx.2.1
  have hl : lv_has ls 4 [(0, .ref a), (1, .int 1)] := hl
  have hF : Fr [a] w w := Fr.rf
  refine lv_aload_n hx hb d_A_grow_I_0 rfl (lv_at hl 0 rfl) ?_
  refine gf_A_9 cx hZ ha rfl d_A_grow_I_1 ?_
  refine va_tlen cx.1 cx.2.1 cx.X.2.2.1 hS (v := 0) rfl d_A_grow_I_4 ?_
  refine lv_istore_n (lv' := [(2, .int 0), (0, .ref a), (1, .int 1)]) hx hb d_A_grow_I_5 rfl hl (by decide) rfl (fun ls hl => ?_)
  refine lv_iload_n hx hb d_A_grow_I_6 rfl (lv_at hl 0 rfl) ?_
  refine lv_if_gt (tgt := 20) hx hb d_A_grow_I_7 (by decide) (fun c7 => ?_) (fun c7 => ?_)
  · exact absurd c7 (by decide)
  · refine lv_aload_n hx hb d_A_grow_I_10 rfl (lv_at hl 1 rfl) ?_
    refine gf_A_9 cx hZ ha rfl d_A_grow_I_11 ?_
    refine gs_A_39 cx hS d_A_grow_I_14 ?_
    refine lv_acmp_eq (rx := (some e0)) (ry := (some e0)) (tgt := 45) hx hb d_A_grow_I_17 (by decide) (fun c17 => ?_) (fun c17 => ?_)
    · refine lv_aload_n hx hb d_A_grow_I_45 rfl (lv_at hl 1 rfl) ?_
      refine lv_bipush (v := 10) hx hb d_A_grow_I_46 (by decide) ?_
      refine lv_iload_n hx hb d_A_grow_I_48 rfl (lv_at hl 2 rfl) ?_
      refine mm_A_79 cx hl.1 d_A_grow_I_49 (Nat.le_of_ble_eq_true rfl) (Nat.le_of_ble_eq_true rfl) (Nat.le_of_ble_eq_true rfl) (Nat.le_of_ble_eq_true rfl) ?_
      rw [show ((if (10 : Int32) < (1 : Int32) then (1 : Int32) else (10 : Int32)) : Int32) = 10 from by decide]
      refine nq_A_7 (N := 10) cx hZ hS (by decide) (by decide) (Nat.le_of_ble_eq_true rfl) (Nat.le_of_ble_eq_true rfl) (Nat.le_of_ble_eq_true rfl) d_A_grow_I_52 (fun q_1 w_2 H hq_4 hw_3 hZ hS => ?_)
      have hk_5 : w_2 a = some (.inr (0, [.int md, .ref e0, .int 0])) := up_ne hw_3 ha (z_neN ha hq_4)
      have hn_6 := hF.2 _ hq_4
      have hF := hF.put hw_3 (Or.inr hn_6)
      have hc_7 : w_2 q_1 = some (.inl (G.2 3, 10, .inr (.inr (.inr (.inr (fun _ => none)))))) := up_self hw_3
      refine lv_dup_x1 hx hb d_A_grow_I_55 rfl rfl ?_
      refine pf_A_9 cx hZ hS hk_5 (Nat.le_of_ble_eq_true rfl) d_A_grow_I_56 (fun w_8 H locs hw_9 hZ hS => ?_)
      have hk_10 : w_8 q_1 = some (.inl (G.2 3, 10, .inr (.inr (.inr (.inr (fun _ => none)))))) := up_ne hw_9 hc_7 ((Ne.symm (z_neN ha hn_6)))
      have hF := hF.put hw_9 (Or.inl (by simp))
      have hc_11 : w_8 a = some (.inr (0, [.int md, .ref q_1, .int 0])) := up_self hw_9
      exact z_aret cx.1 cx.2.1 cx.rt cx.lk (by first | exact Or.inl ⟨_, rfl⟩ | exact Or.inr ⟨_, rfl⟩) (by first | exact Or.inl rfl | exact Or.inr ⟨_, rfl⟩) hS hZ ⟨(Nat.le_of_ble_eq_true rfl), (Nat.le_of_ble_eq_true rfl)⟩ d_A_grow_I_59 (⟨q_1, rfl, hn_6, hk_10, hc_11, hF⟩)
    · exact absurd rfl c17
set_option maxHeartbeats 4000000 in
set_option maxRecDepth 100000 in
theorem c_grow0_first (l : Launch) (G : zG) (n0 e0 : Nat) (w : zw) (a : Nat) (md : Int32) (ha : w a = some (.inr (0, fA md (.ref e0) 0)))  : Ct l G n0 e0 y_A_grow_0 b_A_grow_0 1 (Option.some (FieldType.array (FieldType.object "java/lang/Object"))) ({ frames := 4, cells := 1, slots := 10, locals := 91 }) [.ref a] w (fun v w1 => ∃ q, v = some (.ref q) ∧ w q = none ∧ w1 q = some (.inl (G.2 3, 10, .inr (.inr (.inr (.inr (fun _ => none)))))) ∧ w1 a = some (.inr (0, fA md (.ref q) 0)) ∧ Fr [a] w w1) := by
  refine z_ct (by decide) (Nat.le_of_ble_eq_true rfl) ?_
  intro p e s m below meth c ls cx hnm hZ hS hl
  have hx := cx.1
  have hb := cx.2.1
  have hl : lv_has ls 1 [(0, .ref a)] := hl
  have hF : Fr [a] w w := Fr.rf
  refine lv_aload_n hx hb d_A_grow_0_0 rfl (lv_at hl 0 rfl) ?_
  refine lv_aload_n hx hb d_A_grow_0_1 rfl (lv_at hl 0 rfl) ?_
  refine gf_A_48 cx hZ ha rfl d_A_grow_0_2 ?_
  refine lv_iconst (v := 1) hx hb d_A_grow_0_5 (by decide) ?_
  refine lv_iadd hx hb d_A_grow_0_6 ?_
  rw [show ((0 + 1) : Int32) = 1 from by decide]
  refine iv_A_69 (As := [.int 1]) (rest := []) cx (c_grow1_first l G n0 e0 w a md ha) ha ⟨(Nat.le_of_ble_eq_true rfl), (Nat.le_of_ble_eq_true rfl)⟩ ⟨(Nat.le_of_ble_eq_true rfl), (Nat.le_of_ble_eq_true rfl)⟩ rfl hl.1 rfl (Nat.le_of_ble_eq_true rfl) d_A_grow_0_7 hZ hS (fun v w_2 H locs hp_3 hZ hS => ?_)
  obtain ⟨q_1, rfl, hc_4, hc_5, hc_6, hf_7⟩ := hp_3
  have hn_8 := hF.2 _ hc_4
  have hF := hF.call hf_7 (List.forall_mem_cons.mpr ⟨Or.inl (by simp), fun _ h => absurd h List.not_mem_nil⟩)
  refine W.eq (g2 := F0 m 10 ls [.ref q_1]) rfl ?_
  exact z_aret cx.1 cx.2.1 cx.rt cx.lk (by first | exact Or.inl ⟨_, rfl⟩ | exact Or.inr ⟨_, rfl⟩) (by first | exact Or.inl rfl | exact Or.inr ⟨_, rfl⟩) hS hZ ⟨(Nat.le_of_ble_eq_true rfl), (Nat.le_of_ble_eq_true rfl)⟩ d_A_grow_0_10 (⟨q_1, rfl, hn_8, hc_5, hc_6, hF⟩)
set_option maxHeartbeats 4000000 in
set_option maxRecDepth 100000 in
theorem c_add3_room (l : Launch) (G : zG) (n0 e0 : Nat) (w : zw) (a ar cap n : Nat) (md : Int32) (fa : Nat → Option Nat) (ha : w a = some (.inr (0, fA md (.ref ar) (nI n)))) (har : w ar = some (.inl (G.2 3, cap, .inr (.inr (.inr (.inr fa)))))) (hn : n < cap) (hcc : cap ≤ 60000) (x : Nat) (fx : List Value) (hxi : w x = some (.inr (1, fx)))  : Ct l G n0 e0 y_A_add_OaOI b_A_add_OaOI 4 (Option.none : Option FieldType) ({ frames := 4, cells := 0, slots := 0, locals := 91 }) [.ref a, .ref x, .ref ar, .int (nI n)] w (fun v w1 => v = none ∧ w1 a = some (.inr (0, fA md (.ref ar) (nI (n + 1)))) ∧ w1 ar = some (.inl (G.2 3, cap, .inr (.inr (.inr (.inr (va_up fa n (some x))))))) ∧ Fr [a, ar] w w1) := by
  refine z_ct (by decide) (Nat.le_of_ble_eq_true rfl) ?_
  intro p e s m below meth c ls cx hnm hZ hS hl
  have hx := cx.1
  have hb := cx.2.1
  have hl : lv_has ls 4 [(0, .ref a), (1, .ref x), (2, .ref ar), (3, .int (nI n))] := hl
  have hF : Fr [a, ar] w w := Fr.rf
  refine lv_iload_n hx hb d_A_add_OaOI_0 rfl (lv_at hl 3 rfl) ?_
  refine lv_aload_n hx hb d_A_add_OaOI_1 rfl (lv_at hl 2 rfl) ?_
  refine len_q3 cx hZ har d_A_add_OaOI_2 ?_
  refine lv_icmp_ne (tgt := 11) hx hb d_A_add_OaOI_3 (by decide) (fun c3 => ?_) (fun c3 => ?_)
  · refine lv_aload_n hx hb d_A_add_OaOI_11 rfl (lv_at hl 2 rfl) ?_
    refine lv_iload_n hx hb d_A_add_OaOI_12 rfl (lv_at hl 3 rfl) ?_
    refine lv_aload_n hx hb d_A_add_OaOI_13 rfl (lv_at hl 1 rfl) ?_
    refine st_o cx hZ hS har hxi (vp_in_nI hn (by omega)) d_A_add_OaOI_14 (fun w_1 H locs hw_2 hZ hS => ?_)
    have hk_3 : w_1 a = some (.inr (0, [.int md, .ref ar, .int (nI n)])) := up_ne hw_2 ha (z_ne ha har (by simp))
    have hk_4 : w_1 x = some (.inr (1, fx)) := up_ne hw_2 hxi (z_ne hxi har (by simp))
    have hF := hF.put hw_2 (Or.inl (by simp))
    have hc_5 : w_1 ar = some (.inl (G.2 3, cap, .inr (.inr (.inr (.inr (va_up fa (nI n).toNatClampNeg (some x))))))) := up_self hw_2
    refine lv_aload_n hx hb d_A_add_OaOI_15 rfl (lv_at hl 0 rfl) ?_
    refine lv_iload_n hx hb d_A_add_OaOI_16 rfl (lv_at hl 3 rfl) ?_
    refine lv_iconst (v := 1) hx hb d_A_add_OaOI_17 (by decide) ?_
    refine lv_iadd hx hb d_A_add_OaOI_18 ?_
    rw [show (((nI n) + 1) : Int32) = nI (n + 1) from nI_1 n]
    refine pf_A_48 cx hZ hS hk_3 (Nat.le_of_ble_eq_true rfl) d_A_add_OaOI_19 (fun w_6 H locs hw_7 hZ hS => ?_)
    have hk_8 : w_6 x = some (.inr (1, fx)) := up_ne hw_7 hk_4 (z_ne hk_4 hk_3 (by simp))
    have hk_9 : w_6 ar = some (.inl (G.2 3, cap, .inr (.inr (.inr (.inr (va_up fa (nI n).toNatClampNeg (some x))))))) := up_ne hw_7 hc_5 (z_ne hc_5 hk_3 (by simp))
    have hF := hF.put hw_7 (Or.inl (by simp))
    have hc_10 : w_6 a = some (.inr (0, [.int md, .ref ar, .int (nI (n + 1))])) := up_self hw_7
    exact z_vret cx.1 cx.2.1 cx.rt cx.lk hS hZ ⟨(Nat.le_of_ble_eq_true rfl), (Nat.le_of_ble_eq_true rfl)⟩ d_A_add_OaOI_22 (⟨rfl, hc_10, (by have := hk_9; rw [nI_clamp (by omega)] at this; exact this), hF⟩)
  · exact absurd ((nI_eq (by omega) (by omega)).mp c3) (by omega)
set_option maxHeartbeats 4000000 in
set_option maxRecDepth 100000 in
theorem c_add3_full (l : Launch) (G : zG) (n0 e0 : Nat) (w : zw) (a ar cap : Nat) (md : Int32) (fa : Nat → Option Nat) (ha : w a = some (.inr (0, fA md (.ref ar) (nI cap)))) (har : w ar = some (.inl (G.2 3, cap, .inr (.inr (.inr (.inr fa)))))) (hc : 10 ≤ cap) (hcc : cap ≤ 60000) (hel : ∀ i : Nat, i < cap → ∀ y : Nat, fa i = some y → ∃ fs, w y = some (.inr (1, fs))) (x : Nat) (fx : List Value) (hxi : w x = some (.inr (1, fx)))  : Ct l G n0 e0 y_A_add_OaOI b_A_add_OaOI 4 (Option.none : Option FieldType) ({ frames := 5, cells := 1, slots := cap + cap / 2, locals := 111 }) [.ref a, .ref x, .ref ar, .int (nI cap)] w (fun v w1 => ∃ q, v = none ∧ w q = none ∧ w1 q = some (.inl (G.2 3, cap + cap / 2, .inr (.inr (.inr (.inr (va_up (va_cpy fa (fun _ => none) 0 0 cap) cap (some x))))))) ∧ w1 a = some (.inr (0, fA md (.ref q) (nI (cap + 1)))) ∧ Fr [a] w w1) := by
  refine z_ct (by decide) (Nat.le_of_ble_eq_true rfl) ?_
  intro p e s m below meth c ls cx hnm hZ hS hl
  have hx := cx.1
  have hb := cx.2.1
  have hl : lv_has ls 4 [(0, .ref a), (1, .ref x), (2, .ref ar), (3, .int (nI cap))] := hl
  have hF : Fr [a] w w := Fr.rf
  refine lv_iload_n hx hb d_A_add_OaOI_0 rfl (lv_at hl 3 rfl) ?_
  refine lv_aload_n hx hb d_A_add_OaOI_1 rfl (lv_at hl 2 rfl) ?_
  refine len_q3 cx hZ har d_A_add_OaOI_2 ?_
  refine lv_icmp_ne (tgt := 11) hx hb d_A_add_OaOI_3 (by decide) (fun c3 => ?_) (fun c3 => ?_)
  · exact absurd rfl c3
  · refine lv_aload_n hx hb d_A_add_OaOI_6 rfl (lv_at hl 0 rfl) ?_
    refine iv_A_129 (As := []) (rest := []) cx (c_grow0_full l G n0 e0 w a ar cap md fa ha har hc hcc hel) ha ⟨(Nat.le_of_ble_eq_true rfl), (Nat.le_of_ble_eq_true rfl)⟩ ⟨(by dsimp only; omega), (by dsimp only; omega)⟩ rfl hl.1 rfl (Nat.le_of_ble_eq_true rfl) d_A_add_OaOI_7 hZ hS (fun v w_2 H locs hp_3 hZ hS => ?_)
    obtain ⟨q_1, rfl, hc_4, hc_5, hc_6, hf_7⟩ := hp_3
    have hk_8 : w_2 x = some (.inr (1, fx)) := hf_7.keep hxi (by simp only [List.mem_cons, List.not_mem_nil, or_false, not_or]; exact z_ne hxi ha (by simp))
    have hk_9 : w_2 ar = some (.inl (G.2 3, cap, .inr (.inr (.inr (.inr fa))))) := hf_7.keep har (by simp only [List.mem_cons, List.not_mem_nil, or_false, not_or]; exact z_ne har ha (by simp))
    have hn_10 := hF.2 _ hc_4
    have hF := hF.call hf_7 (List.forall_mem_cons.mpr ⟨Or.inl (by simp), fun _ h => absurd h List.not_mem_nil⟩)
    refine W.eq (g2 := F0 m 10 ls [.ref q_1]) rfl ?_
    refine lv_astore_n (lv' := [(2, .ref q_1), (0, .ref a), (1, .ref x), (3, .int (nI cap))]) hx hb d_A_add_OaOI_10 rfl hl (by decide) rfl (fun ls hl => ?_)
    refine lv_aload_n hx hb d_A_add_OaOI_11 rfl (lv_at hl 0 rfl) ?_
    refine lv_iload_n hx hb d_A_add_OaOI_12 rfl (lv_at hl 3 rfl) ?_
    refine lv_aload_n hx hb d_A_add_OaOI_13 rfl (lv_at hl 2 rfl) ?_
    refine st_o cx hZ hS hc_5 hk_8 (vp_in_nI (by omega) (by omega)) d_A_add_OaOI_14 (fun w_11 H locs hw_12 hZ hS => ?_)
    have hk_13 : w_11 a = some (.inr (0, [.int md, .ref q_1, .int (nI cap)])) := up_ne hw_12 hc_6 (z_neN ha hn_10)
    have hk_14 : w_11 x = some (.inr (1, fx)) := up_ne hw_12 hk_8 (z_neN hxi hn_10)
    have hk_15 : w_11 ar = some (.inl (G.2 3, cap, .inr (.inr (.inr (.inr fa))))) := up_ne hw_12 hk_9 ((z_neN har hn_10))
    have hF := hF.put hw_12 (Or.inr hn_10)
    have hc_16 : w_11 q_1 = some (.inl (G.2 3, (cap + cap / 2), .inr (.inr (.inr (.inr (va_up (va_cpy fa (fun _ => none) 0 0 cap) (nI cap).toNatClampNeg (some x))))))) := up_self hw_12
    refine lv_aload_n hx hb d_A_add_OaOI_15 rfl (lv_at hl 1 rfl) ?_
    refine lv_iload_n hx hb d_A_add_OaOI_16 rfl (lv_at hl 3 rfl) ?_
    refine lv_iconst (v := 1) hx hb d_A_add_OaOI_17 (by decide) ?_
    refine lv_iadd hx hb d_A_add_OaOI_18 ?_
    rw [show (((nI cap) + 1) : Int32) = nI (cap + 1) from nI_1 cap]
    refine pf_A_48 cx hZ hS hk_13 (Nat.le_of_ble_eq_true rfl) d_A_add_OaOI_19 (fun w_17 H locs hw_18 hZ hS => ?_)
    have hk_19 : w_17 x = some (.inr (1, fx)) := up_ne hw_18 hk_14 (z_ne hk_14 hk_13 (by simp))
    have hk_20 : w_17 ar = some (.inl (G.2 3, cap, .inr (.inr (.inr (.inr fa))))) := up_ne hw_18 hk_15 (z_ne hk_15 hk_13 (by simp))
    have hk_21 : w_17 q_1 = some (.inl (G.2 3, (cap + cap / 2), .inr (.inr (.inr (.inr (va_up (va_cpy fa (fun _ => none) 0 0 cap) (nI cap).toNatClampNeg (some x))))))) := up_ne hw_18 hc_16 ((Ne.symm (z_neN ha hn_10)))
    have hF := hF.put hw_18 (Or.inl (by simp))
    have hc_22 : w_17 a = some (.inr (0, [.int md, .ref q_1, .int (nI (cap + 1))])) := up_self hw_18
    exact z_vret cx.1 cx.2.1 cx.rt cx.lk hS hZ ⟨(by dsimp only; omega), (by dsimp only; omega)⟩ d_A_add_OaOI_22 (⟨q_1, rfl, hn_10, (by have := hk_21; rw [nI_clamp (by omega)] at this; exact this), hc_22, hF⟩)
set_option maxHeartbeats 4000000 in
set_option maxRecDepth 100000 in
theorem c_add3_first (l : Launch) (G : zG) (n0 e0 : Nat) (w : zw) (a : Nat) (md : Int32) (ha : w a = some (.inr (0, fA md (.ref e0) 0))) (x : Nat) (fx : List Value) (hxi : w x = some (.inr (1, fx)))  : Ct l G n0 e0 y_A_add_OaOI b_A_add_OaOI 4 (Option.none : Option FieldType) ({ frames := 5, cells := 1, slots := 10, locals := 111 }) [.ref a, .ref x, .ref e0, .int 0] w (fun v w1 => ∃ q, v = none ∧ w q = none ∧ w1 q = some (.inl (G.2 3, 10, .inr (.inr (.inr (.inr (va_up (fun _ => none) 0 (some x))))))) ∧ w1 a = some (.inr (0, fA md (.ref q) 1)) ∧ Fr [a] w w1) := by
  refine z_ct (by decide) (Nat.le_of_ble_eq_true rfl) ?_
  intro p e s m below meth c ls cx hnm hZ hS hl
  have hx := cx.1
  have hb := cx.2.1
  have hl : lv_has ls 4 [(0, .ref a), (1, .ref x), (2, .ref e0), (3, .int 0)] := hl
  have hF : Fr [a] w w := Fr.rf
  refine lv_iload_n hx hb d_A_add_OaOI_0 rfl (lv_at hl 3 rfl) ?_
  refine lv_aload_n hx hb d_A_add_OaOI_1 rfl (lv_at hl 2 rfl) ?_
  refine va_tlen cx.1 cx.2.1 cx.X.2.2.1 hS (v := 0) rfl d_A_add_OaOI_2 ?_
  refine lv_icmp_ne (tgt := 11) hx hb d_A_add_OaOI_3 (by decide) (fun c3 => ?_) (fun c3 => ?_)
  · exact absurd c3 (by decide)
  · refine lv_aload_n hx hb d_A_add_OaOI_6 rfl (lv_at hl 0 rfl) ?_
    refine iv_A_129 (As := []) (rest := []) cx (c_grow0_first l G n0 e0 w a md ha) ha ⟨(Nat.le_of_ble_eq_true rfl), (Nat.le_of_ble_eq_true rfl)⟩ ⟨(Nat.le_of_ble_eq_true rfl), (Nat.le_of_ble_eq_true rfl)⟩ rfl hl.1 rfl (Nat.le_of_ble_eq_true rfl) d_A_add_OaOI_7 hZ hS (fun v w_2 H locs hp_3 hZ hS => ?_)
    obtain ⟨q_1, rfl, hc_4, hc_5, hc_6, hf_7⟩ := hp_3
    have hk_8 : w_2 x = some (.inr (1, fx)) := hf_7.keep hxi (by simp only [List.mem_cons, List.not_mem_nil, or_false, not_or]; exact z_ne hxi ha (by simp))
    have hn_9 := hF.2 _ hc_4
    have hF := hF.call hf_7 (List.forall_mem_cons.mpr ⟨Or.inl (by simp), fun _ h => absurd h List.not_mem_nil⟩)
    refine W.eq (g2 := F0 m 10 ls [.ref q_1]) rfl ?_
    refine lv_astore_n (lv' := [(2, .ref q_1), (0, .ref a), (1, .ref x), (3, .int 0)]) hx hb d_A_add_OaOI_10 rfl hl (by decide) rfl (fun ls hl => ?_)
    refine lv_aload_n hx hb d_A_add_OaOI_11 rfl (lv_at hl 0 rfl) ?_
    refine lv_iload_n hx hb d_A_add_OaOI_12 rfl (lv_at hl 3 rfl) ?_
    refine lv_aload_n hx hb d_A_add_OaOI_13 rfl (lv_at hl 2 rfl) ?_
    refine st_o cx hZ hS hc_5 hk_8 (by unfold vp_in; decide) d_A_add_OaOI_14 (fun w_10 H locs hw_11 hZ hS => ?_)
    have hk_12 : w_10 a = some (.inr (0, [.int md, .ref q_1, .int 0])) := up_ne hw_11 hc_6 (z_neN ha hn_9)
    have hk_13 : w_10 x = some (.inr (1, fx)) := up_ne hw_11 hk_8 (z_neN hxi hn_9)
    have hF := hF.put hw_11 (Or.inr hn_9)
    have hc_14 : w_10 q_1 = some (.inl (G.2 3, 10, .inr (.inr (.inr (.inr (va_up (fun _ => none) (0 : Int32).toNatClampNeg (some x))))))) := up_self hw_11
    refine lv_aload_n hx hb d_A_add_OaOI_15 rfl (lv_at hl 1 rfl) ?_
    refine lv_iload_n hx hb d_A_add_OaOI_16 rfl (lv_at hl 3 rfl) ?_
    refine lv_iconst (v := 1) hx hb d_A_add_OaOI_17 (by decide) ?_
    refine lv_iadd hx hb d_A_add_OaOI_18 ?_
    rw [show ((0 + 1) : Int32) = 1 from by decide]
    refine pf_A_48 cx hZ hS hk_12 (Nat.le_of_ble_eq_true rfl) d_A_add_OaOI_19 (fun w_15 H locs hw_16 hZ hS => ?_)
    have hk_17 : w_15 x = some (.inr (1, fx)) := up_ne hw_16 hk_13 (z_ne hk_13 hk_12 (by simp))
    have hk_18 : w_15 q_1 = some (.inl (G.2 3, 10, .inr (.inr (.inr (.inr (va_up (fun _ => none) (0 : Int32).toNatClampNeg (some x))))))) := up_ne hw_16 hc_14 ((Ne.symm (z_neN ha hn_9)))
    have hF := hF.put hw_16 (Or.inl (by simp))
    have hc_19 : w_15 a = some (.inr (0, [.int md, .ref q_1, .int 1])) := up_self hw_16
    exact z_vret cx.1 cx.2.1 cx.rt cx.lk hS hZ ⟨(Nat.le_of_ble_eq_true rfl), (Nat.le_of_ble_eq_true rfl)⟩ d_A_add_OaOI_22 (⟨q_1, rfl, hn_9, hk_18, hc_19, hF⟩)
