theorem mAll_t {vt : Bool} {its : Nat → Nat → Int32} {i : Nat} (h : vt = true) : mAll vt its (i + 1) = (dwN (its i) (mAll vt its i).1 (mAll vt its i).2.2.2.1, dwG (its i) (mAll vt its i).2.1, (mAll vt its i).2.2.1, dwD (its i), mGlue (its i) (mAll vt its i)) := by rw [mAll, mStep, if_pos h]
theorem mAll_f {vt : Bool} {its : Nat → Nat → Int32} {i : Nat} (h : vt = false) : mAll vt its (i + 1) = ((mAll vt its i).1 + (its i 1).toInt64, (mAll vt its i).2.1, acH (its i) (mAll vt its i).2.2.1, acD (its i) (mAll vt its i).2.2.2.1, mGlue (its i) (mAll vt its i)) := by rw [mAll, mStep, if_neg (by rw [h]; decide)]
set_option maxHeartbeats 4000000 in
set_option maxRecDepth 100000 in
theorem c_measured (l : Launch) (G : zG) (n0 e0 : Nat) (w : zw) (il al ar cap n : Nat) (vt : Bool) (md : Int32) (fa : Nat → Option Nat) (its : Nat → Nat → Int32) (hli : w il = some (.inr (2, [.int (zi vt), .ref al]))) (hal : w al = some (.inr (0, fA md (.ref ar) (nI n)))) (har : n = 0 ∨ (w ar = some (.inl (G.2 3, cap, .inr (.inr (.inr (.inr fa))))) ∧ n ≤ cap)) (hcn : n ≤ 60000) (hcap : cap ≤ 100000) (hit : ∀ i, i < n → ∃ x, fa i = some x ∧ w x = some (.inr (1, fI (its i))) ∧ vp_in (its i 7) 4) (lim : Int32) : Ct l G n0 e0 y_D_measured b_D_measured 5 (Option.some (FieldType.object "BoxDesk$Measure")) ({ frames := 3, cells := 2, slots := 12, locals := 64 }) [.ref il, .int lim] w (fun v w1 => ∃ q r, v = some (.ref q) ∧ w q = none ∧ w r = none ∧ w1 q = some (.inr (3, fMt (mLim vt lim (mAll vt its n)) r)) ∧ w1 r = some (.inl (G.2 1, 4, .inr (.inl (mLim vt lim (mAll vt its n)).2.2.2.2.1))) ∧ Fr [] w w1) := by
  refine z_ct (by decide) (Nat.le_of_ble_eq_true rfl) ?_
  intro p e s m below meth c ls cx hnm hZ hS hl
  have hx := cx.1
  have hb := cx.2.1
  have hl : lv_has ls 5 [(0, .ref il), (1, .int lim)] := hl
  have hF : Fr [] w w := Fr.rf
  refine nw_D_85_o cx hZ hS (Nat.le_of_ble_eq_true rfl) (Nat.le_of_ble_eq_true rfl) d_D_measured_0 (fun q_1 w_2 H hq_4 hw_3 hZ hS => ?_)
  have hk_5 : w_2 il = some (.inr (2, [.int (zi vt), .ref al])) := up_ne hw_3 hli (z_neN hli hq_4)
  have hk_6 : w_2 al = some (.inr (0, [.int md, .ref ar, .int (nI n)])) := up_ne hw_3 hal (z_neN hal hq_4)
  have hn_7 := hF.2 _ hq_4
  have hF := hF.put hw_3 (Or.inr hn_7)
  have hc_8 : w_2 q_1 = some (.inr (3, [.long 0, .long 0, .long 0, .long 0, .null, .long 0, .int 0, .int 0])) := up_self hw_3
  refine lv_dup hx hb d_D_measured_3 rfl ?_
  refine ip_D_178 (As := []) (rest := [.ref q_1]) cx (c_M_init l G n0 e0 w_2 q_1 hc_8) ⟨(Nat.le_of_ble_eq_true rfl), (Nat.le_of_ble_eq_true rfl)⟩ ⟨(Nat.le_of_ble_eq_true rfl), (Nat.le_of_ble_eq_true rfl)⟩ rfl hl.1 rfl (Nat.le_of_ble_eq_true rfl) d_D_measured_4 hZ hS (fun v w_10 H locs hp_11 hZ hS => ?_)
  obtain ⟨r_9, rfl, hc_12, hc_13, hc_14, hf_15⟩ := hp_11
  have hk_16 : w_10 il = some (.inr (2, [.int (zi vt), .ref al])) := hf_15.keep hk_5 (by simp only [List.mem_cons, List.not_mem_nil, or_false, not_or]; exact (z_neN hli hn_7))
  have hk_17 : w_10 al = some (.inr (0, [.int md, .ref ar, .int (nI n)])) := hf_15.keep hk_6 (by simp only [List.mem_cons, List.not_mem_nil, or_false, not_or]; exact (z_neN hal hn_7))
  have hn_18 := hF.2 _ hc_12
  have hF := hF.call hf_15 (List.forall_mem_cons.mpr ⟨Or.inr hn_7, fun _ h => absurd h List.not_mem_nil⟩)
  refine W.eq (g2 := F0 m 7 ls [.ref q_1]) rfl ?_
  refine lv_astore_n (lv' := [(2, .ref q_1), (0, .ref il), (1, .int lim)]) hx hb d_D_measured_7 rfl hl (by decide) rfl (fun ls hl => ?_)
  refine lv_iconst (v := 0) hx hb d_D_measured_8 (by decide) ?_
  refine lv_istore_n (lv' := [(3, .int 0), (2, .ref q_1), (0, .ref il), (1, .int lim)]) hx hb d_D_measured_9 rfl hl (by decide) rfl (fun ls hl => ?_)
  refine W.widen (k := 2) (n := 12) (Nat.le_of_ble_eq_true rfl) (Nat.le_of_ble_eq_true rfl) ?_
  have loop : ∀ (k i : Nat) (w2 : zw) (H : Heap) (locs : List Loc) (ls : Array Slot), i + k = n → Zw G.1 vwC (zA n0) w2 H → va_S (zA n0) s.heap H locs → Fr [] w w2 → w2 q_1 = some (.inr (3, fMt (mAll vt its i) r_9)) → w2 r_9 = some (.inl (G.2 1, 4, .inr (.inl (mAll vt its i).2.2.2.2.1))) → lv_has ls 5 [(3, .int (nI i)), (2, .ref q_1), (0, .ref il), (1, .int lim)] → W p l e ({ frames := 3, cells := 2, slots := 12, locals := 64 }) s m [.ref il, .int lim].toArray below meth c H locs 2 12 (MQ below (zQ G.1 vwC n0 (fun v w1 => ∃ q r, v = some (.ref q) ∧ w q = none ∧ w r = none ∧ w1 q = some (.inr (3, fMt (mLim vt lim (mAll vt its n)) r)) ∧ w1 r = some (.inl (G.2 1, 4, .inr (.inl (mLim vt lim (mAll vt its n)).2.2.2.2.1))) ∧ Fr [] w w1)) [.ref il, .int lim].toArray s ({ frames := 3, cells := 2, slots := 12, locals := 64 } : Room).cells ({ frames := 3, cells := 2, slots := 12, locals := 64 } : Room).slots (zA n0)) (F0 m 10 ls []) := by
    intro k
    induction k with
    | zero =>
      intro i w2 H locs ls hik hZ hS hF hq hr hl
      have hk_19 : w2 il = some (.inr (2, [.int (zi vt), .ref al])) := hF.keep hli (by simp)
      have hk_20 : w2 al = some (.inr (0, [.int md, .ref ar, .int (nI n)])) := hF.keep hal (by simp)
      have hin : i = n := by omega
      subst hin
      refine lv_iload_n hx hb d_D_measured_10 rfl (lv_at hl 0 rfl) ?_
      refine lv_aload_n hx hb d_D_measured_11 rfl (lv_at hl 2 rfl) ?_
      refine gf_D_117 cx hZ hk_19 rfl d_D_measured_12 ?_
      refine iv_D_135 (As := []) (rest := [.int (nI i)]) cx (c_A_size l G n0 e0 w2 al md (.ref ar) (nI i) hk_20) hk_20 ⟨(Nat.le_of_ble_eq_true rfl), (Nat.le_of_ble_eq_true rfl)⟩ ⟨(Nat.le_of_ble_eq_true rfl), (Nat.le_of_ble_eq_true rfl)⟩ rfl hl.1 rfl (Nat.le_of_ble_eq_true rfl) d_D_measured_15 hZ hS (fun v w_21 H locs hp_22 hZ hS => ?_)
      obtain ⟨rfl, hq⟩ := hp_22
      subst w_21
      refine W.eq (g2 := F0 m 18 ls [.int (nI i), .int (nI i)]) rfl ?_
      refine lv_icmp_ge (tgt := 68) hx hb d_D_measured_18 (by decide) (fun c18 => ?_) (fun c18 => ?_)
      · refine lv_aload_n hx hb d_D_measured_68 rfl (lv_at hl 2 rfl) ?_
        refine gf_D_32 cx hZ hk_19 rfl d_D_measured_69 ?_
        refine lv_if_eq (tgt := 80) hx hb d_D_measured_72 (by decide) (fun c72 => ?_) (fun c72 => ?_)
        · refine lv_aload_n hx hb d_D_measured_80 rfl (lv_at hl 1 rfl) ?_
          exact z_aret cx.1 cx.2.1 cx.rt cx.lk (by first | exact Or.inl ⟨_, rfl⟩ | exact Or.inr ⟨_, rfl⟩) (by first | exact Or.inl rfl | exact Or.inr ⟨_, rfl⟩) hS hZ ⟨(Nat.le_of_ble_eq_true rfl), (Nat.le_of_ble_eq_true rfl)⟩ d_D_measured_81 (⟨q_1, r_9, rfl, hn_7, hn_18, (by rw [mLim, if_neg (by rw [(zi_0 vt).mp c72]; decide)]; exact hq), (by rw [mLim, if_neg (by rw [(zi_0 vt).mp c72]; decide)]; exact hr), hF⟩)
        · refine lv_aload_n hx hb d_D_measured_75 rfl (lv_at hl 1 rfl) ?_
          refine lv_iload_n hx hb d_D_measured_76 rfl (lv_at hl 3 rfl) ?_
          refine iv_D_189 (As := [.int lim]) (rest := []) cx (c_limitDepth l G n0 e0 w2 q_1 r_9 ((mAll vt its i).1) ((mAll vt its i).2.1) ((mAll vt its i).2.2.1) ((mAll vt its i).2.2.2.1) ((mAll vt its i).2.2.2.2.2.1) ((mAll vt its i).2.2.2.2.1) ((mAll vt its i).2.2.2.2.2.2.1) ((mAll vt its i).2.2.2.2.2.2.2) lim hq) hq ⟨(Nat.le_of_ble_eq_true rfl), (Nat.le_of_ble_eq_true rfl)⟩ ⟨(Nat.le_of_ble_eq_true rfl), (Nat.le_of_ble_eq_true rfl)⟩ rfl hl.1 rfl (Nat.le_of_ble_eq_true rfl) d_D_measured_77 hZ hS (fun v w_23 H locs hp_24 hZ hS => ?_)
          obtain ⟨rfl, hc_25, hf_26⟩ := hp_24
          have hk_27 : w_23 il = some (.inr (2, [.int (zi vt), .ref al])) := hf_26.keep hk_19 (by simp only [List.mem_cons, List.not_mem_nil, or_false, not_or]; exact (z_neN hli hn_7))
          have hk_28 : w_23 al = some (.inr (0, [.int md, .ref ar, .int (nI i)])) := hf_26.keep hk_20 (by simp only [List.mem_cons, List.not_mem_nil, or_false, not_or]; exact (z_neN hal hn_7))
          have hk_29 : w_23 r_9 = some (.inl (G.2 1, 4, .inr (.inl ((mAll vt its i).2.2.2.2.1)))) := hf_26.keep hr (by simp only [List.mem_cons, List.not_mem_nil, or_false, not_or]; exact z_ne hr hq (by simp))
          have hF := hF.call hf_26 (List.forall_mem_cons.mpr ⟨Or.inr hn_7, fun _ h => absurd h List.not_mem_nil⟩)
          refine W.eq (g2 := F0 m 80 ls []) rfl ?_
          refine lv_aload_n hx hb d_D_measured_80 rfl (lv_at hl 1 rfl) ?_
          exact z_aret cx.1 cx.2.1 cx.rt cx.lk (by first | exact Or.inl ⟨_, rfl⟩ | exact Or.inr ⟨_, rfl⟩) (by first | exact Or.inl rfl | exact Or.inr ⟨_, rfl⟩) hS hZ ⟨(Nat.le_of_ble_eq_true rfl), (Nat.le_of_ble_eq_true rfl)⟩ d_D_measured_81 (⟨q_1, r_9, rfl, hn_7, hn_18, (by rw [mLim, if_pos ((zi_n0 vt).mp c72)]; exact hc_25), (by rw [mLim, if_pos ((zi_n0 vt).mp c72)]; exact hk_29), hF⟩)
      · exact absurd (nI_le (Nat.le_refl _) (by omega)) c18
    | succ k ih =>
      intro i w2 H locs ls hik hZ hS hF hq hr hl
      have hk_30 : w2 il = some (.inr (2, [.int (zi vt), .ref al])) := hF.keep hli (by simp)
      have hk_31 : w2 al = some (.inr (0, [.int md, .ref ar, .int (nI n)])) := hF.keep hal (by simp)
      have hin : i < n := by omega
      obtain ⟨x, hfx, hxi, hox⟩ := hit i hin
      have hxk : w2 x = some (.inr (1, fI (its i))) := hF.keep hxi (by simp)
      obtain ⟨har1, har2⟩ := har.resolve_left (by omega)
      have hark : w2 ar = some (.inl (G.2 3, cap, .inr (.inr (.inr (.inr fa))))) := hF.keep har1 (by simp)
      refine lv_iload_n hx hb d_D_measured_10 rfl (lv_at hl 0 rfl) ?_
      refine lv_aload_n hx hb d_D_measured_11 rfl (lv_at hl 2 rfl) ?_
      refine gf_D_117 cx hZ hk_30 rfl d_D_measured_12 ?_
      refine iv_D_135 (As := []) (rest := [.int (nI i)]) cx (c_A_size l G n0 e0 w2 al md (.ref ar) (nI n) hk_31) hk_31 ⟨(Nat.le_of_ble_eq_true rfl), (Nat.le_of_ble_eq_true rfl)⟩ ⟨(Nat.le_of_ble_eq_true rfl), (Nat.le_of_ble_eq_true rfl)⟩ rfl hl.1 rfl (Nat.le_of_ble_eq_true rfl) d_D_measured_15 hZ hS (fun v w_32 H locs hp_33 hZ hS => ?_)
      obtain ⟨rfl, hq⟩ := hp_33
      subst w_32
      refine W.eq (g2 := F0 m 18 ls [.int (nI n), .int (nI i)]) rfl ?_
      refine lv_icmp_ge (tgt := 68) hx hb d_D_measured_18 (by decide) (fun c18 => ?_) (fun c18 => ?_)
      · exact absurd c18 (nI_ge hin (by omega))
      · refine lv_aload_n hx hb d_D_measured_21 rfl (lv_at hl 2 rfl) ?_
        refine gf_D_117 cx hZ hk_30 rfl d_D_measured_22 ?_
        refine lv_iload_n hx hb d_D_measured_25 rfl (lv_at hl 0 rfl) ?_
        refine iv_D_139 (As := [.int (nI i)]) (rest := []) cx (c_A_get l G n0 e0 w2 al ar cap md (nI n) fa hk_31 hark (nI i) x (nI_pos (by omega)) (nI_lt hin (by omega)) (vp_in_nI (by omega) (by omega)) (by rw [nI_clamp (by omega)]; exact hfx)) hk_31 ⟨(Nat.le_of_ble_eq_true rfl), (Nat.le_of_ble_eq_true rfl)⟩ ⟨(Nat.le_of_ble_eq_true rfl), (Nat.le_of_ble_eq_true rfl)⟩ rfl hl.1 rfl (Nat.le_of_ble_eq_true rfl) d_D_measured_26 hZ hS (fun v w_34 H locs hp_35 hZ hS => ?_)
        obtain ⟨rfl, hq⟩ := hp_35
        subst w_34
        refine W.eq (g2 := F0 m 29 ls [.ref x]) rfl ?_
        refine kc_D_40 cx hZ hxk d_D_measured_29 ?_
        refine lv_astore (lv' := [(4, .ref x), (3, .int (nI i)), (2, .ref q_1), (0, .ref il), (1, .int lim)]) hx hb d_D_measured_32 hl (by decide) rfl (fun ls hl => ?_)
        refine lv_aload_n hx hb d_D_measured_34 rfl (lv_at hl 2 rfl) ?_
        refine lv_aload hx hb d_D_measured_35 (lv_at hl 0 rfl) ?_
        refine iv_D_179 (As := [.ref x]) (rest := []) cx (c_takeGlue l G n0 e0 w2 q_1 r_9 ((mAll vt its i).1) ((mAll vt its i).2.1) ((mAll vt its i).2.2.1) ((mAll vt its i).2.2.2.1) ((mAll vt its i).2.2.2.2.2.1) ((mAll vt its i).2.2.2.2.1) ((mAll vt its i).2.2.2.2.2.2.1) ((mAll vt its i).2.2.2.2.2.2.2) hq hr x (its i) hxk hox) hq ⟨(Nat.le_of_ble_eq_true rfl), (Nat.le_of_ble_eq_true rfl)⟩ ⟨(Nat.le_of_ble_eq_true rfl), (Nat.le_of_ble_eq_true rfl)⟩ rfl hl.1 rfl (Nat.le_of_ble_eq_true rfl) d_D_measured_37 hZ hS (fun v w_36 H locs hp_37 hZ hS => ?_)
        obtain ⟨rfl, hc_38, hc_39, hf_40⟩ := hp_37
        have hk_41 : w_36 il = some (.inr (2, [.int (zi vt), .ref al])) := hf_40.keep hk_30 (by simp only [List.mem_cons, List.not_mem_nil, or_false, not_or]; exact ⟨(z_neN hli hn_7), (z_neN hli hn_18)⟩)
        have hk_42 : w_36 al = some (.inr (0, [.int md, .ref ar, .int (nI n)])) := hf_40.keep hk_31 (by simp only [List.mem_cons, List.not_mem_nil, or_false, not_or]; exact ⟨(z_neN hal hn_7), (z_neN hal hn_18)⟩)
        have hk_43 : w_36 x = some (.inr (1, [.int (its i 0), .int (its i 1), .int (its i 2), .int (its i 3), .int (its i 4), .int (its i 5), .int (its i 6), .int (its i 7), .int (its i 8), .int (its i 9), .int (its i 10), .int (its i 11)])) := hf_40.keep hxk (by simp only [List.mem_cons, List.not_mem_nil, or_false, not_or]; exact ⟨z_ne hxk hq (by simp), z_ne hxk hr (by simp)⟩)
        have hk_44 : w_36 ar = some (.inl (G.2 3, cap, .inr (.inr (.inr (.inr fa))))) := hf_40.keep hark (by simp only [List.mem_cons, List.not_mem_nil, or_false, not_or]; exact ⟨z_ne hark hq (by simp), z_ne hark hr (by simp)⟩)
        have hF := hF.call hf_40 (List.forall_mem_cons.mpr ⟨Or.inr hn_7, List.forall_mem_cons.mpr ⟨Or.inr hn_18, fun _ h => absurd h List.not_mem_nil⟩⟩)
        refine W.eq (g2 := F0 m 40 ls []) rfl ?_
        refine lv_aload_n hx hb d_D_measured_40 rfl (lv_at hl 3 rfl) ?_
        refine gf_D_32 cx hZ hk_41 rfl d_D_measured_41 ?_
        refine lv_if_eq (tgt := 56) hx hb d_D_measured_44 (by decide) (fun c44 => ?_) (fun c44 => ?_)
        · refine lv_aload_n hx hb d_D_measured_56 rfl (lv_at hl 2 rfl) ?_
          refine lv_aload hx hb d_D_measured_57 (lv_at hl 0 rfl) ?_
          refine iv_D_186 (As := [.ref x]) (rest := []) cx (c_takeAcross l G n0 e0 w_36 q_1 r_9 ((mAll vt its i).1) ((mAll vt its i).2.1) ((mAll vt its i).2.2.1) ((mAll vt its i).2.2.2.1) ((mAll vt its i).2.2.2.2.2.1 + (its i 8).toInt64) (vp_updL ((mAll vt its i).2.2.2.2.1) (its i 7).toNatClampNeg (((mAll vt its i).2.2.2.2.1) (its i 7).toNatClampNeg + (its i 6).toInt64)) ((mAll vt its i).2.2.2.2.2.2.1 + (1 + its i 10)) (if (mAll vt its i).2.2.2.2.2.2.2 < its i 11 then its i 11 else (mAll vt its i).2.2.2.2.2.2.2) hc_38 x (its i) hk_43) hc_38 ⟨(Nat.le_of_ble_eq_true rfl), (Nat.le_of_ble_eq_true rfl)⟩ ⟨(Nat.le_of_ble_eq_true rfl), (Nat.le_of_ble_eq_true rfl)⟩ rfl hl.1 rfl (Nat.le_of_ble_eq_true rfl) d_D_measured_59 hZ hS (fun v w_45 H locs hp_46 hZ hS => ?_)
          obtain ⟨rfl, hc_47, hf_48⟩ := hp_46
          have hk_49 : w_45 il = some (.inr (2, [.int (zi vt), .ref al])) := hf_48.keep hk_41 (by simp only [List.mem_cons, List.not_mem_nil, or_false, not_or]; exact (z_neN hli hn_7))
          have hk_50 : w_45 al = some (.inr (0, [.int md, .ref ar, .int (nI n)])) := hf_48.keep hk_42 (by simp only [List.mem_cons, List.not_mem_nil, or_false, not_or]; exact (z_neN hal hn_7))
          have hk_51 : w_45 x = some (.inr (1, [.int (its i 0), .int (its i 1), .int (its i 2), .int (its i 3), .int (its i 4), .int (its i 5), .int (its i 6), .int (its i 7), .int (its i 8), .int (its i 9), .int (its i 10), .int (its i 11)])) := hf_48.keep hk_43 (by simp only [List.mem_cons, List.not_mem_nil, or_false, not_or]; exact z_ne hk_43 hc_38 (by simp))
          have hk_52 : w_45 r_9 = some (.inl (G.2 1, 4, .inr (.inl (vp_updL ((mAll vt its i).2.2.2.2.1) (its i 7).toNatClampNeg (((mAll vt its i).2.2.2.2.1) (its i 7).toNatClampNeg + (its i 6).toInt64))))) := hf_48.keep hc_39 (by simp only [List.mem_cons, List.not_mem_nil, or_false, not_or]; exact z_ne hc_39 hc_38 (by simp))
          have hk_53 : w_45 ar = some (.inl (G.2 3, cap, .inr (.inr (.inr (.inr fa))))) := hf_48.keep hk_44 (by simp only [List.mem_cons, List.not_mem_nil, or_false, not_or]; exact z_ne hk_44 hc_38 (by simp))
          have hF := hF.call hf_48 (List.forall_mem_cons.mpr ⟨Or.inr hn_7, fun _ h => absurd h List.not_mem_nil⟩)
          refine W.eq (g2 := F0 m 62 ls []) rfl ?_
          refine lv_iinc (v := ((nI i) + 1)) (lv' := [(3, .int ((nI i) + 1)), (4, .ref x), (2, .ref q_1), (0, .ref il), (1, .int lim)]) hx hb d_D_measured_62 hl (k := 1) rfl rfl (by decide) rfl (fun ls hl => ?_)
          refine lv_goto (tgt := 10) hx hb d_D_measured_65 (by decide) ?_
          exact ih (i + 1) _ _ _ _ (by omega) hZ hS hF (by rw [mAll_f ((zi_0 vt).mp c44)]; exact hc_47) (by rw [mAll_f ((zi_0 vt).mp c44)]; exact hk_52) (lv_sub hl [0, 2, 3, 4] (by rw [← nI_1 i]; rfl))
        · refine lv_aload_n hx hb d_D_measured_47 rfl (lv_at hl 2 rfl) ?_
          refine lv_aload hx hb d_D_measured_48 (lv_at hl 0 rfl) ?_
          refine iv_D_183 (As := [.ref x]) (rest := []) cx (c_takeDownwards l G n0 e0 w_36 q_1 r_9 ((mAll vt its i).1) ((mAll vt its i).2.1) ((mAll vt its i).2.2.1) ((mAll vt its i).2.2.2.1) ((mAll vt its i).2.2.2.2.2.1 + (its i 8).toInt64) (vp_updL ((mAll vt its i).2.2.2.2.1) (its i 7).toNatClampNeg (((mAll vt its i).2.2.2.2.1) (its i 7).toNatClampNeg + (its i 6).toInt64)) ((mAll vt its i).2.2.2.2.2.2.1 + (1 + its i 10)) (if (mAll vt its i).2.2.2.2.2.2.2 < its i 11 then its i 11 else (mAll vt its i).2.2.2.2.2.2.2) hc_38 x (its i) hk_43) hc_38 ⟨(Nat.le_of_ble_eq_true rfl), (Nat.le_of_ble_eq_true rfl)⟩ ⟨(Nat.le_of_ble_eq_true rfl), (Nat.le_of_ble_eq_true rfl)⟩ rfl hl.1 rfl (Nat.le_of_ble_eq_true rfl) d_D_measured_50 hZ hS (fun v w_54 H locs hp_55 hZ hS => ?_)
          obtain ⟨rfl, hc_56, hf_57⟩ := hp_55
          have hk_58 : w_54 il = some (.inr (2, [.int (zi vt), .ref al])) := hf_57.keep hk_41 (by simp only [List.mem_cons, List.not_mem_nil, or_false, not_or]; exact (z_neN hli hn_7))
          have hk_59 : w_54 al = some (.inr (0, [.int md, .ref ar, .int (nI n)])) := hf_57.keep hk_42 (by simp only [List.mem_cons, List.not_mem_nil, or_false, not_or]; exact (z_neN hal hn_7))
          have hk_60 : w_54 x = some (.inr (1, [.int (its i 0), .int (its i 1), .int (its i 2), .int (its i 3), .int (its i 4), .int (its i 5), .int (its i 6), .int (its i 7), .int (its i 8), .int (its i 9), .int (its i 10), .int (its i 11)])) := hf_57.keep hk_43 (by simp only [List.mem_cons, List.not_mem_nil, or_false, not_or]; exact z_ne hk_43 hc_38 (by simp))
          have hk_61 : w_54 r_9 = some (.inl (G.2 1, 4, .inr (.inl (vp_updL ((mAll vt its i).2.2.2.2.1) (its i 7).toNatClampNeg (((mAll vt its i).2.2.2.2.1) (its i 7).toNatClampNeg + (its i 6).toInt64))))) := hf_57.keep hc_39 (by simp only [List.mem_cons, List.not_mem_nil, or_false, not_or]; exact z_ne hc_39 hc_38 (by simp))
          have hk_62 : w_54 ar = some (.inl (G.2 3, cap, .inr (.inr (.inr (.inr fa))))) := hf_57.keep hk_44 (by simp only [List.mem_cons, List.not_mem_nil, or_false, not_or]; exact z_ne hk_44 hc_38 (by simp))
          have hF := hF.call hf_57 (List.forall_mem_cons.mpr ⟨Or.inr hn_7, fun _ h => absurd h List.not_mem_nil⟩)
          refine W.eq (g2 := F0 m 53 ls []) rfl ?_
          refine lv_goto (tgt := 62) hx hb d_D_measured_53 (by decide) ?_
          refine lv_iinc (v := ((nI i) + 1)) (lv' := [(3, .int ((nI i) + 1)), (4, .ref x), (2, .ref q_1), (0, .ref il), (1, .int lim)]) hx hb d_D_measured_62 hl (k := 1) rfl rfl (by decide) rfl (fun ls hl => ?_)
          refine lv_goto (tgt := 10) hx hb d_D_measured_65 (by decide) ?_
          exact ih (i + 1) _ _ _ _ (by omega) hZ hS hF (by rw [mAll_t ((zi_n0 vt).mp c44)]; exact hc_56) (by rw [mAll_t ((zi_n0 vt).mp c44)]; exact hk_61) (lv_sub hl [0, 2, 3, 4] (by rw [← nI_1 i]; rfl))
  exact loop n 0 _ _ _ _ (by omega) hZ hS hF hc_14 hc_13 hl
