def sgW (u : MT) (ex : Int64) : Int64 := if 0 ≤ ex then u.2.2.2.2.1 (hiO u.2.2.2.2.1).toNatClampNeg else u.2.2.2.2.2.1
def sgS (u : MT) (ex : Int64) : Int64 := if -(sgW u ex) < ex then ex else -(sgW u ex)
def sgQ (u : MT) (ex : Int64) (f : Nat → Int32) : Int64 := if 0 ≤ ex then (if f 7 = hiO u.2.2.2.2.1 then f 6 else 0).toInt64 else (f 8).toInt64
def sgP (u : MT) (ex : Int64) (its : Nat → Nat → Int32) : Nat → Int64
  | 0 => 0
  | i + 1 => sgP u ex its i + sgQ u ex (its i)
def sgG (u : MT) (ex : Int64) (its : Nat → Nat → Int32) : Nat → Int64
  | 0 => 0
  | i + 1 => nearL (sgS u ex * sgP u ex its (i + 1)) (sgW u ex)
def sgX (u : MT) (ex : Int64) (its : Nat → Nat → Int32) (i : Nat) : Int32 := setW ((its i 1).toInt64 + sgG u ex its (i + 1) - sgG u ex its i)
theorem hiO_in (sf : Nat → Int64) : vp_in (hiO sf) 4 := by
  unfold hiO vp_in
  split
  · decide
  · split
    · decide
    · split <;> decide
theorem upd_stepX {fw P : Nat → Int32} {i : Nat} {x : Int32} (hi : i < 2 ^ 31) (hfw : ∀ j, j < i → fw j = P j) (hx : x = P i) : ∀ j, j < i + 1 → upd fw (nI i).toNatClampNeg x j = P j := by
  intro j hj
  rw [nI_clamp hi]
  by_cases h : j = i
  · subst h; rw [pk_us]; exact hx
  · rw [pk_un h]; exact hfw j (by omega)
theorem upd_at (f : Nat → Int32) (k : Nat) (x : Int32) : upd f k x k = x := pk_us
theorem upd_off {f : Nat → Int32} {k j : Nat} {x : Int32} (h : j ≠ k) : upd f k x j = f j := pk_un h
theorem upd_at2 {f : Nat → Int32} {k j : Nat} {x : Int32} (h : k = j) : upd f k x j = x := by subst h; exact pk_us
theorem sgP_s {u : MT} {ex : Int64} {its : Nat → Nat → Int32} {i : Nat} : sgP u ex its i + sgQ u ex (its i) = sgP u ex its (i + 1) := rfl
theorem sgG_s {u : MT} {ex : Int64} {its : Nat → Nat → Int32} {i : Nat} : nearL (sgS u ex * sgP u ex its (i + 1)) (sgW u ex) = sgG u ex its (i + 1) := rfl
set_option maxHeartbeats 4000000 in
set_option maxRecDepth 100000 in
theorem c_setGlue (l : Launch) (G : zG) (n0 e0 : Nat) (w : zw) (il al ar cap n q r : Nat) (vt : Bool) (md : Int32) (fa : Nat → Option Nat) (its : Nat → Nat → Int32) (u : MT) (ex : Int64) (hli : w il = some (.inr (2, [.int (zi vt), .ref al]))) (hal : w al = some (.inr (0, fA md (.ref ar) (nI n)))) (har : n = 0 ∨ (w ar = some (.inl (G.2 3, cap, .inr (.inr (.inr (.inr fa))))) ∧ n ≤ cap)) (hcn : n ≤ 60000) (hcap : cap ≤ 100000) (hit : ∀ i, i < n → ∃ x, fa i = some x ∧ w x = some (.inr (1, fI (its i)))) (hq : w q = some (.inr (3, fMt u r))) (hr0 : w r = some (.inl (G.2 1, 4, .inr (.inl u.2.2.2.2.1)))) (hne : 0 < sgW u ex → ¬ 2 * sgW u ex = 0)  : Ct l G n0 e0 y_D_setGlue b_D_setGlue 18 (Option.some (FieldType.array FieldType.int)) ({ frames := 3, cells := 1, slots := n, locals := 70 }) [.ref il, .ref q, .long ex] w (fun v w1 => ∃ qa fw, v = some (.ref qa) ∧ w qa = none ∧ w1 qa = some (.inl (G.2 0, n, .inl fw)) ∧ (∀ j, j < n → fw j = sgX u ex its j) ∧ Fr [] w w1) := by
  refine z_ct (by decide) (Nat.le_of_ble_eq_true rfl) ?_
  intro p e s m below meth c ls cx hnm hZ hS hl
  have hx := cx.1
  have hb := cx.2.1
  have hl : lv_has ls 18 [(0, .ref il), (1, .ref q), (2, .long ex)] := hl
  have hF : Fr [] w w := Fr.rf
  refine lv_aload_n hx hb d_D_setGlue_0 rfl (lv_at hl 0 rfl) ?_
  refine gf_D_117 cx hZ hli rfl d_D_setGlue_1 ?_
  refine iv_D_135 (As := []) (rest := []) cx (c_A_size l G n0 e0 w al md (.ref ar) (nI n) hal) hal ⟨(Nat.le_of_ble_eq_true rfl), (Nat.le_of_ble_eq_true rfl)⟩ ⟨(by dsimp only; omega), (by dsimp only; omega)⟩ rfl hl.1 rfl (Nat.le_of_ble_eq_true rfl) d_D_setGlue_4 hZ hS (fun v w_1 H locs hp_2 hZ hS => ?_)
  obtain ⟨rfl, hq⟩ := hp_2
  subst w_1
  refine W.eq (g2 := F0 m 7 ls [.int (nI n)]) rfl ?_
  refine new_i (N := n) cx hZ hS (nI_pos (by omega)) (nI_clamp (by omega)) (by omega) (by dsimp only; omega) (by dsimp only; omega) d_D_setGlue_7 (fun q_3 w_4 H hq_6 hw_5 hZ hS => ?_)
  have hk_7 : w_4 il = some (.inr (2, [.int (zi vt), .ref al])) := up_ne hw_5 hli (z_neN hli hq_6)
  have hk_8 : w_4 al = some (.inr (0, [.int md, .ref ar, .int (nI n)])) := up_ne hw_5 hal (z_neN hal hq_6)
  have hk_9 : w_4 q = some (.inr (3, [.long u.1, .long u.2.1, .long u.2.2.1, .long u.2.2.2.1, .ref r, .long u.2.2.2.2.2.1, .int u.2.2.2.2.2.2.1, .int u.2.2.2.2.2.2.2])) := up_ne hw_5 hq (z_neN hq hq_6)
  have hk_10 : w_4 r = some (.inl (G.2 1, 4, .inr (.inl u.2.2.2.2.1))) := up_ne hw_5 hr0 (z_neN hr0 hq_6)
  have hn_11 := hF.2 _ hq_6
  have hF := hF.put hw_5 (Or.inr hn_11)
  have hc_12 : w_4 q_3 = some (.inl (G.2 0, n, .inl (fun _ => 0))) := up_self hw_5
  refine lv_astore (lv' := [(4, .ref q_3), (0, .ref il), (1, .ref q), (2, .long ex)]) hx hb d_D_setGlue_9 hl (by decide) rfl (fun ls hl => ?_)
  refine lv_aload_n hx hb d_D_setGlue_11 rfl (lv_at hl 2 rfl) ?_
  refine iv_D_193 (As := []) (rest := []) cx (c_highestOrder l G n0 e0 w_4 q r u.1 u.2.1 u.2.2.1 u.2.2.2.1 u.2.2.2.2.2.1 u.2.2.2.2.1 u.2.2.2.2.2.2.1 u.2.2.2.2.2.2.2 hk_9 hk_10) hk_9 ⟨(Nat.le_of_ble_eq_true rfl), (Nat.le_of_ble_eq_true rfl)⟩ ⟨(by dsimp only; omega), (by dsimp only; omega)⟩ rfl hl.1 rfl (Nat.le_of_ble_eq_true rfl) d_D_setGlue_12 hZ hS (fun v w_13 H locs hp_14 hZ hS => ?_)
  obtain ⟨rfl, hq⟩ := hp_14
  subst w_13
  refine W.eq (g2 := F0 m 15 ls [.int (hiO u.2.2.2.2.1)]) rfl ?_
  refine lv_istore (lv' := [(5, .int (hiO u.2.2.2.2.1)), (4, .ref q_3), (0, .ref il), (1, .ref q), (2, .long ex)]) hx hb d_D_setGlue_15 hl (by decide) rfl (fun ls hl => ?_)
  refine lv_lload_n hx hb d_D_setGlue_17 rfl (lv_at hl 4 rfl) ?_
  refine lv_lconst (v := 0) hx hb d_D_setGlue_18 (by decide) ?_
  refine W.lcmp hx hb d_D_setGlue_19 ?_
  refine lv_if_ge (tgt := 30) hx hb d_D_setGlue_20 (by decide) (fun c20 => ?_) (fun c20 => ?_)
  · have c20 := (lg_cmp_ge _ _).mp c20
    refine lv_aload_n hx hb d_D_setGlue_30 rfl (lv_at hl 3 rfl) ?_
    refine gf_D_199 cx hZ hk_9 rfl d_D_setGlue_31 ?_
    refine lv_iload hx hb d_D_setGlue_34 (lv_at hl 0 rfl) ?_
    refine ld_l cx hZ hk_10 (hiO_in _) d_D_setGlue_36 ?_
    refine lv_topl (fun wh e_wh => ?_)
    refine lv_lstore (lv' := [(6, .long wh), (5, .int (hiO u.2.2.2.2.1)), (4, .ref q_3), (0, .ref il), (1, .ref q), (2, .long ex)]) hx hb d_D_setGlue_37 hl (by decide) rfl (fun ls hl => ?_)
    refine lv_lload_n hx hb d_D_setGlue_39 rfl (lv_at hl 5 rfl) ?_
    refine lv_lload hx hb d_D_setGlue_40 (lv_at hl 0 rfl) ?_
    refine lv_lneg hx hb d_D_setGlue_42 ?_
    refine mm_D_203 cx hl.1 d_D_setGlue_43 (Nat.le_of_ble_eq_true rfl) (Nat.le_of_ble_eq_true rfl) (by dsimp only; omega) (by dsimp only; omega) ?_
    refine lv_topl (fun shd e_shd => ?_)
    refine lv_lstore (lv' := [(8, .long shd), (6, .long wh), (5, .int (hiO u.2.2.2.2.1)), (4, .ref q_3), (0, .ref il), (1, .ref q), (2, .long ex)]) hx hb d_D_setGlue_46 hl (by decide) rfl (fun ls hl => ?_)
    refine lv_lconst (v := 0) hx hb d_D_setGlue_48 (by decide) ?_
    refine lv_lstore (lv' := [(10, .long 0), (8, .long shd), (6, .long wh), (5, .int (hiO u.2.2.2.2.1)), (4, .ref q_3), (0, .ref il), (1, .ref q), (2, .long ex)]) hx hb d_D_setGlue_49 hl (by decide) rfl (fun ls hl => ?_)
    refine lv_lconst (v := 0) hx hb d_D_setGlue_51 (by decide) ?_
    refine lv_lstore (lv' := [(12, .long 0), (10, .long 0), (8, .long shd), (6, .long wh), (5, .int (hiO u.2.2.2.2.1)), (4, .ref q_3), (0, .ref il), (1, .ref q), (2, .long ex)]) hx hb d_D_setGlue_52 hl (by decide) rfl (fun ls hl => ?_)
    refine lv_iconst (v := 0) hx hb d_D_setGlue_54 (by decide) ?_
    refine lv_istore (lv' := [(14, .int 0), (12, .long 0), (10, .long 0), (8, .long shd), (6, .long wh), (5, .int (hiO u.2.2.2.2.1)), (4, .ref q_3), (0, .ref il), (1, .ref q), (2, .long ex)]) hx hb d_D_setGlue_55 hl (by decide) rfl (fun ls hl => ?_)
    have hw1 : wh = sgW u ex := by rw [e_wh, sgW, if_pos c20]
    have hs1 : shd = sgS u ex := by rw [e_shd, hw1, sgS]
    clear e_wh e_shd
    subst hw1 hs1
    refine W.widen (k := 1) (n := n) (by dsimp only; omega) (by dsimp only; omega) ?_
    have loop : ∀ (k i : Nat) (w2 : zw) (fw : Nat → Int32) (H : Heap) (locs : List Loc) (ls : Array Slot), i + k = n → Zw G.1 vwC (zA n0) w2 H → va_S (zA n0) s.heap H locs → Fr [] w w2 → w2 q_3 = some (.inl (G.2 0, n, .inl fw)) → (∀ j, j < i → fw j = sgX u ex its j) → lv_has ls 18 [(14, .int (nI i)), (12, .long (sgG u ex its i)), (10, .long (sgP u ex its i)), (8, .long (sgS u ex)), (6, .long (sgW u ex)), (5, .int (hiO u.2.2.2.2.1)), (4, .ref q_3), (0, .ref il), (1, .ref q), (2, .long ex)] → W p l e ({ frames := 3, cells := 1, slots := n, locals := 70 }) s m [.ref il, .ref q, .long ex].toArray below meth c H locs 1 n (MQ below (zQ G.1 vwC n0 (fun v w1 => ∃ qa fw, v = some (.ref qa) ∧ w qa = none ∧ w1 qa = some (.inl (G.2 0, n, .inl fw)) ∧ (∀ j, j < n → fw j = sgX u ex its j) ∧ Fr [] w w1)) [.ref il, .ref q, .long ex].toArray s ({ frames := 3, cells := 1, slots := n, locals := 70 } : Room).cells ({ frames := 3, cells := 1, slots := n, locals := 70 } : Room).slots (zA n0)) (F0 m 57 ls []) := by
      intro k
      induction k with
      | zero =>
        intro i w2 fw H locs ls hik hZ hS hF hqa hfw hl
        have hk_15 : w2 il = some (.inr (2, [.int (zi vt), .ref al])) := hF.keep hli (by simp)
        have hk_16 : w2 al = some (.inr (0, [.int md, .ref ar, .int (nI n)])) := hF.keep hal (by simp)
        have hin : i = n := by omega
        subst hin
        refine lv_iload hx hb d_D_setGlue_57 (lv_at hl 0 rfl) ?_
        refine lv_aload hx hb d_D_setGlue_59 (lv_at hl 6 rfl) ?_
        refine len_i cx hZ hqa d_D_setGlue_61 ?_
        refine lv_icmp_ge (tgt := 149) hx hb d_D_setGlue_62 (by decide) (fun c62 => ?_) (fun c62 => ?_)
        · refine lv_aload hx hb d_D_setGlue_149 (lv_at hl 6 rfl) ?_
          exact z_aret cx.1 cx.2.1 cx.rt cx.lk (by first | exact Or.inl ⟨_, rfl⟩ | exact Or.inr ⟨_, rfl⟩) (by first | exact Or.inl rfl | exact Or.inr ⟨_, rfl⟩) hS hZ ⟨(by dsimp only; omega), (by dsimp only; omega)⟩ d_D_setGlue_151 (⟨q_3, fw, rfl, hn_11, hqa, hfw, hF⟩)
        · exact absurd (nI_le (Nat.le_refl _) (by omega)) c62
      | succ k ih =>
        intro i w2 fw H locs ls hik hZ hS hF hqa hfw hl
        have hk_17 : w2 il = some (.inr (2, [.int (zi vt), .ref al])) := hF.keep hli (by simp)
        have hk_18 : w2 al = some (.inr (0, [.int md, .ref ar, .int (nI n)])) := hF.keep hal (by simp)
        have hin : i < n := by omega
        obtain ⟨x, hfx, hxi⟩ := hit i hin
        have hxk : w2 x = some (.inr (1, fI (its i))) := hF.keep hxi (by simp)
        obtain ⟨har1, har2⟩ := har.resolve_left (by omega)
        have hark : w2 ar = some (.inl (G.2 3, cap, .inr (.inr (.inr (.inr fa))))) := hF.keep har1 (by simp)
        refine lv_iload hx hb d_D_setGlue_57 (lv_at hl 0 rfl) ?_
        refine lv_aload hx hb d_D_setGlue_59 (lv_at hl 6 rfl) ?_
        refine len_i cx hZ hqa d_D_setGlue_61 ?_
        refine lv_icmp_ge (tgt := 149) hx hb d_D_setGlue_62 (by decide) (fun c62 => ?_) (fun c62 => ?_)
        · exact absurd c62 (nI_ge hin (by omega))
        · refine lv_aload_n hx hb d_D_setGlue_65 rfl (lv_at hl 7 rfl) ?_
          refine gf_D_117 cx hZ hk_17 rfl d_D_setGlue_66 ?_
          refine lv_iload hx hb d_D_setGlue_69 (lv_at hl 0 rfl) ?_
          refine iv_D_139 (As := [.int (nI i)]) (rest := []) cx (c_A_get l G n0 e0 w2 al ar cap md (nI n) fa hk_18 hark (nI i) x (nI_pos (by omega)) (nI_lt hin (by omega)) (vp_in_nI (by omega) (by omega)) (by rw [nI_clamp (by omega)]; exact hfx)) hk_18 ⟨(Nat.le_of_ble_eq_true rfl), (Nat.le_of_ble_eq_true rfl)⟩ ⟨(by dsimp only; omega), (by dsimp only; omega)⟩ rfl hl.1 rfl (Nat.le_of_ble_eq_true rfl) d_D_setGlue_71 hZ hS (fun v w_19 H locs hp_20 hZ hS => ?_)
          obtain ⟨rfl, hq⟩ := hp_20
          subst w_19
          refine W.eq (g2 := F0 m 74 ls [.ref x]) rfl ?_
          refine kc_D_40 cx hZ hxk d_D_setGlue_74 ?_
          refine lv_astore (lv' := [(15, .ref x), (14, .int (nI i)), (12, .long (sgG u ex its i)), (10, .long (sgP u ex its i)), (8, .long (sgS u ex)), (6, .long (sgW u ex)), (5, .int (hiO u.2.2.2.2.1)), (4, .ref q_3), (0, .ref il), (1, .ref q), (2, .long ex)]) hx hb d_D_setGlue_77 hl (by decide) rfl (fun ls hl => ?_)
          refine lv_lload hx hb d_D_setGlue_79 (lv_at hl 3 rfl) ?_
          refine lv_lload_n hx hb d_D_setGlue_81 rfl (lv_at hl 10 rfl) ?_
          refine lv_lconst (v := 0) hx hb d_D_setGlue_82 (by decide) ?_
          refine W.lcmp hx hb d_D_setGlue_83 ?_
          refine lv_if_ge (tgt := 96) hx hb d_D_setGlue_84 (by decide) (fun c84 => ?_) (fun c84 => ?_)
          · have c84 := (lg_cmp_ge _ _).mp c84
            refine lv_aload hx hb d_D_setGlue_96 (lv_at hl 0 rfl) ?_
            refine lv_iload hx hb d_D_setGlue_98 (lv_at hl 6 rfl) ?_
            refine iv_D_212 (As := [.int (hiO u.2.2.2.2.1)]) (rest := [.long (sgP u ex its i)]) cx (c_stretchOf l G n0 e0 w2 x (its i) (hiO u.2.2.2.2.1) hxk) hxk ⟨(Nat.le_of_ble_eq_true rfl), (Nat.le_of_ble_eq_true rfl)⟩ ⟨(by dsimp only; omega), (by dsimp only; omega)⟩ rfl hl.1 rfl (Nat.le_of_ble_eq_true rfl) d_D_setGlue_100 hZ hS (fun v w_21 H locs hp_22 hZ hS => ?_)
            obtain ⟨rfl, hq⟩ := hp_22
            subst w_21
            refine W.eq (g2 := F0 m 103 ls [.int (if its i 7 = hiO u.2.2.2.2.1 then its i 6 else 0), .long (sgP u ex its i)]) rfl ?_
            refine lv_i2l hx hb d_D_setGlue_103 rfl ?_
            refine lv_ladd hx hb d_D_setGlue_104 ?_
            rw [show (((sgP u ex its i) + ((if its i 7 = hiO u.2.2.2.2.1 then its i 6 else 0).toInt64)) : Int64) = sgP u ex its (i + 1) from by rw [← sgP_s, sgQ, if_pos c20]]
            refine lv_lstore (lv' := [(10, .long (sgP u ex its (i + 1))), (15, .ref x), (14, .int (nI i)), (12, .long (sgG u ex its i)), (8, .long (sgS u ex)), (6, .long (sgW u ex)), (5, .int (hiO u.2.2.2.2.1)), (4, .ref q_3), (0, .ref il), (1, .ref q), (2, .long ex)]) hx hb d_D_setGlue_105 hl (by decide) rfl (fun ls hl => ?_)
            refine lv_lload hx hb d_D_setGlue_107 (lv_at hl 4 rfl) ?_
            refine lv_lload hx hb d_D_setGlue_109 (lv_at hl 0 rfl) ?_
            refine lv_lmul hx hb d_D_setGlue_111 ?_
            refine lv_lload hx hb d_D_setGlue_112 (lv_at hl 5 rfl) ?_
            refine is_D_215 (As := [.long ((sgS u ex) * (sgP u ex its (i + 1))), .long (sgW u ex)]) (rest := []) cx (c_near l G n0 e0 ((sgS u ex) * (sgP u ex its (i + 1))) (sgW u ex) w2 hne) ⟨(Nat.le_of_ble_eq_true rfl), (Nat.le_of_ble_eq_true rfl)⟩ ⟨(by dsimp only; omega), (by dsimp only; omega)⟩ rfl hl.1 rfl (Nat.le_of_ble_eq_true rfl) d_D_setGlue_114 hZ hS (fun v w_23 H locs hp_24 hZ hS => ?_)
            obtain ⟨rfl, hq⟩ := hp_24
            subst w_23
            refine W.eq (g2 := F0 m 117 ls [.long (nearL ((sgS u ex) * (sgP u ex its (i + 1))) (sgW u ex))]) rfl ?_
            rw [show ((nearL ((sgS u ex) * (sgP u ex its (i + 1))) (sgW u ex)) : Int64) = sgG u ex its (i + 1) from sgG_s]
            refine lv_lstore (lv' := [(16, .long (sgG u ex its (i + 1))), (10, .long (sgP u ex its (i + 1))), (15, .ref x), (14, .int (nI i)), (12, .long (sgG u ex its i)), (8, .long (sgS u ex)), (6, .long (sgW u ex)), (5, .int (hiO u.2.2.2.2.1)), (4, .ref q_3), (0, .ref il), (1, .ref q), (2, .long ex)]) hx hb d_D_setGlue_117 hl (by decide) rfl (fun ls hl => ?_)
            refine lv_aload hx hb d_D_setGlue_119 (lv_at hl 8 rfl) ?_
            refine lv_iload hx hb d_D_setGlue_121 (lv_at hl 3 rfl) ?_
            refine lv_aload hx hb d_D_setGlue_123 (lv_at hl 2 rfl) ?_
            refine gf_D_218 cx hZ hxk rfl d_D_setGlue_125 ?_
            refine lv_i2l hx hb d_D_setGlue_128 rfl ?_
            refine lv_lload hx hb d_D_setGlue_129 (lv_at hl 0 rfl) ?_
            refine lv_ladd hx hb d_D_setGlue_131 ?_
            refine lv_lload hx hb d_D_setGlue_132 (lv_at hl 4 rfl) ?_
            refine lv_lsub hx hb d_D_setGlue_134 ?_
            refine is_D_219 (As := [.long ((((its i 1).toInt64) + (sgG u ex its (i + 1))) - (sgG u ex its i))]) (rest := [.int (nI i), .ref q_3]) cx (c_asSetWidth l G n0 e0 ((((its i 1).toInt64) + (sgG u ex its (i + 1))) - (sgG u ex its i)) w2) ⟨(Nat.le_of_ble_eq_true rfl), (Nat.le_of_ble_eq_true rfl)⟩ ⟨(by dsimp only; omega), (by dsimp only; omega)⟩ rfl hl.1 rfl (Nat.le_of_ble_eq_true rfl) d_D_setGlue_135 hZ hS (fun v w_25 H locs hp_26 hZ hS => ?_)
            obtain ⟨rfl, hq⟩ := hp_26
            subst w_25
            refine W.eq (g2 := F0 m 138 ls [.int (setW ((((its i 1).toInt64) + (sgG u ex its (i + 1))) - (sgG u ex its i))), .int (nI i), .ref q_3]) rfl ?_
            refine st_i cx hZ hS hqa (vp_in_nI hin (by omega)) d_D_setGlue_138 (fun w_27 H locs hw_28 hZ hS => ?_)
            have hk_29 : w_27 il = some (.inr (2, [.int (zi vt), .ref al])) := up_ne hw_28 hk_17 (z_neN hli hn_11)
            have hk_30 : w_27 al = some (.inr (0, [.int md, .ref ar, .int (nI n)])) := up_ne hw_28 hk_18 (z_neN hal hn_11)
            have hk_31 : w_27 x = some (.inr (1, [.int (its i 0), .int (its i 1), .int (its i 2), .int (its i 3), .int (its i 4), .int (its i 5), .int (its i 6), .int (its i 7), .int (its i 8), .int (its i 9), .int (its i 10), .int (its i 11)])) := up_ne hw_28 hxk (z_ne hxk hqa (by simp))
            have hk_32 : w_27 ar = some (.inl (G.2 3, cap, .inr (.inr (.inr (.inr fa))))) := up_ne hw_28 hark (z_ne hark hqa (by simp))
            have hF := hF.put hw_28 (Or.inr hn_11)
            have hc_33 : w_27 q_3 = some (.inl (G.2 0, n, .inl (upd fw (nI i).toNatClampNeg (setW ((((its i 1).toInt64) + (sgG u ex its (i + 1))) - (sgG u ex its i)))))) := up_self hw_28
            refine lv_lload hx hb d_D_setGlue_139 (lv_at hl 0 rfl) ?_
            refine lv_lstore (lv' := [(12, .long (sgG u ex its (i + 1))), (16, .long (sgG u ex its (i + 1))), (10, .long (sgP u ex its (i + 1))), (15, .ref x), (14, .int (nI i)), (8, .long (sgS u ex)), (6, .long (sgW u ex)), (5, .int (hiO u.2.2.2.2.1)), (4, .ref q_3), (0, .ref il), (1, .ref q), (2, .long ex)]) hx hb d_D_setGlue_141 hl (by decide) rfl (fun ls hl => ?_)
            refine lv_iinc (v := ((nI i) + 1)) (lv' := [(14, .int ((nI i) + 1)), (12, .long (sgG u ex its (i + 1))), (16, .long (sgG u ex its (i + 1))), (10, .long (sgP u ex its (i + 1))), (15, .ref x), (8, .long (sgS u ex)), (6, .long (sgW u ex)), (5, .int (hiO u.2.2.2.2.1)), (4, .ref q_3), (0, .ref il), (1, .ref q), (2, .long ex)]) hx hb d_D_setGlue_143 hl (k := 4) rfl rfl (by decide) rfl (fun ls hl => ?_)
            refine lv_goto (tgt := 57) hx hb d_D_setGlue_146 (by decide) ?_
            exact ih (i + 1) _ _ _ _ _ (by omega) hZ hS hF hc_33 (upd_stepX (by omega) hfw rfl) (lv_sub hl [0, 1, 3, 5, 6, 7, 8, 9, 10, 11] (by rw [← nI_1 i]; rfl))
          · have c84 := fun q => c84 ((lg_cmp_ge _ _).mpr q)
            exact absurd c20 c84
    exact loop n 0 _ _ _ _ _ (by omega) hZ hS hF hc_12 (fun j hj => absurd hj (by omega)) (lv_sub hl [0, 1, 2, 3, 4, 5, 6, 7, 8, 9] rfl)
  · have c20 := fun q => c20 ((lg_cmp_ge _ _).mpr q)
    refine lv_aload_n hx hb d_D_setGlue_23 rfl (lv_at hl 3 rfl) ?_
    refine gf_D_196 cx hZ hk_9 rfl d_D_setGlue_24 ?_
    refine lv_topl (fun wh e_wh => ?_)
    refine lv_goto (tgt := 37) hx hb d_D_setGlue_27 (by decide) ?_
    refine lv_lstore (lv' := [(6, .long wh), (5, .int (hiO u.2.2.2.2.1)), (4, .ref q_3), (0, .ref il), (1, .ref q), (2, .long ex)]) hx hb d_D_setGlue_37 hl (by decide) rfl (fun ls hl => ?_)
    refine lv_lload_n hx hb d_D_setGlue_39 rfl (lv_at hl 5 rfl) ?_
    refine lv_lload hx hb d_D_setGlue_40 (lv_at hl 0 rfl) ?_
    refine lv_lneg hx hb d_D_setGlue_42 ?_
    refine mm_D_203 cx hl.1 d_D_setGlue_43 (Nat.le_of_ble_eq_true rfl) (Nat.le_of_ble_eq_true rfl) (by dsimp only; omega) (by dsimp only; omega) ?_
    refine lv_topl (fun shd e_shd => ?_)
    refine lv_lstore (lv' := [(8, .long shd), (6, .long wh), (5, .int (hiO u.2.2.2.2.1)), (4, .ref q_3), (0, .ref il), (1, .ref q), (2, .long ex)]) hx hb d_D_setGlue_46 hl (by decide) rfl (fun ls hl => ?_)
    refine lv_lconst (v := 0) hx hb d_D_setGlue_48 (by decide) ?_
    refine lv_lstore (lv' := [(10, .long 0), (8, .long shd), (6, .long wh), (5, .int (hiO u.2.2.2.2.1)), (4, .ref q_3), (0, .ref il), (1, .ref q), (2, .long ex)]) hx hb d_D_setGlue_49 hl (by decide) rfl (fun ls hl => ?_)
    refine lv_lconst (v := 0) hx hb d_D_setGlue_51 (by decide) ?_
    refine lv_lstore (lv' := [(12, .long 0), (10, .long 0), (8, .long shd), (6, .long wh), (5, .int (hiO u.2.2.2.2.1)), (4, .ref q_3), (0, .ref il), (1, .ref q), (2, .long ex)]) hx hb d_D_setGlue_52 hl (by decide) rfl (fun ls hl => ?_)
    refine lv_iconst (v := 0) hx hb d_D_setGlue_54 (by decide) ?_
    refine lv_istore (lv' := [(14, .int 0), (12, .long 0), (10, .long 0), (8, .long shd), (6, .long wh), (5, .int (hiO u.2.2.2.2.1)), (4, .ref q_3), (0, .ref il), (1, .ref q), (2, .long ex)]) hx hb d_D_setGlue_55 hl (by decide) rfl (fun ls hl => ?_)
    have hw1 : wh = sgW u ex := by rw [e_wh, sgW, if_neg c20]
    have hs1 : shd = sgS u ex := by rw [e_shd, hw1, sgS]
    clear e_wh e_shd
    subst hw1 hs1
    refine W.widen (k := 1) (n := n) (by dsimp only; omega) (by dsimp only; omega) ?_
    have loop : ∀ (k i : Nat) (w2 : zw) (fw : Nat → Int32) (H : Heap) (locs : List Loc) (ls : Array Slot), i + k = n → Zw G.1 vwC (zA n0) w2 H → va_S (zA n0) s.heap H locs → Fr [] w w2 → w2 q_3 = some (.inl (G.2 0, n, .inl fw)) → (∀ j, j < i → fw j = sgX u ex its j) → lv_has ls 18 [(14, .int (nI i)), (12, .long (sgG u ex its i)), (10, .long (sgP u ex its i)), (8, .long (sgS u ex)), (6, .long (sgW u ex)), (5, .int (hiO u.2.2.2.2.1)), (4, .ref q_3), (0, .ref il), (1, .ref q), (2, .long ex)] → W p l e ({ frames := 3, cells := 1, slots := n, locals := 70 }) s m [.ref il, .ref q, .long ex].toArray below meth c H locs 1 n (MQ below (zQ G.1 vwC n0 (fun v w1 => ∃ qa fw, v = some (.ref qa) ∧ w qa = none ∧ w1 qa = some (.inl (G.2 0, n, .inl fw)) ∧ (∀ j, j < n → fw j = sgX u ex its j) ∧ Fr [] w w1)) [.ref il, .ref q, .long ex].toArray s ({ frames := 3, cells := 1, slots := n, locals := 70 } : Room).cells ({ frames := 3, cells := 1, slots := n, locals := 70 } : Room).slots (zA n0)) (F0 m 57 ls []) := by
      intro k
      induction k with
      | zero =>
        intro i w2 fw H locs ls hik hZ hS hF hqa hfw hl
        have hk_34 : w2 il = some (.inr (2, [.int (zi vt), .ref al])) := hF.keep hli (by simp)
        have hk_35 : w2 al = some (.inr (0, [.int md, .ref ar, .int (nI n)])) := hF.keep hal (by simp)
        have hin : i = n := by omega
        subst hin
        refine lv_iload hx hb d_D_setGlue_57 (lv_at hl 0 rfl) ?_
        refine lv_aload hx hb d_D_setGlue_59 (lv_at hl 6 rfl) ?_
        refine len_i cx hZ hqa d_D_setGlue_61 ?_
        refine lv_icmp_ge (tgt := 149) hx hb d_D_setGlue_62 (by decide) (fun c62 => ?_) (fun c62 => ?_)
        · refine lv_aload hx hb d_D_setGlue_149 (lv_at hl 6 rfl) ?_
          exact z_aret cx.1 cx.2.1 cx.rt cx.lk (by first | exact Or.inl ⟨_, rfl⟩ | exact Or.inr ⟨_, rfl⟩) (by first | exact Or.inl rfl | exact Or.inr ⟨_, rfl⟩) hS hZ ⟨(by dsimp only; omega), (by dsimp only; omega)⟩ d_D_setGlue_151 (⟨q_3, fw, rfl, hn_11, hqa, hfw, hF⟩)
        · exact absurd (nI_le (Nat.le_refl _) (by omega)) c62
      | succ k ih =>
        intro i w2 fw H locs ls hik hZ hS hF hqa hfw hl
        have hk_36 : w2 il = some (.inr (2, [.int (zi vt), .ref al])) := hF.keep hli (by simp)
        have hk_37 : w2 al = some (.inr (0, [.int md, .ref ar, .int (nI n)])) := hF.keep hal (by simp)
        have hin : i < n := by omega
        obtain ⟨x, hfx, hxi⟩ := hit i hin
        have hxk : w2 x = some (.inr (1, fI (its i))) := hF.keep hxi (by simp)
        obtain ⟨har1, har2⟩ := har.resolve_left (by omega)
        have hark : w2 ar = some (.inl (G.2 3, cap, .inr (.inr (.inr (.inr fa))))) := hF.keep har1 (by simp)
        refine lv_iload hx hb d_D_setGlue_57 (lv_at hl 0 rfl) ?_
        refine lv_aload hx hb d_D_setGlue_59 (lv_at hl 6 rfl) ?_
        refine len_i cx hZ hqa d_D_setGlue_61 ?_
        refine lv_icmp_ge (tgt := 149) hx hb d_D_setGlue_62 (by decide) (fun c62 => ?_) (fun c62 => ?_)
        · exact absurd c62 (nI_ge hin (by omega))
        · refine lv_aload_n hx hb d_D_setGlue_65 rfl (lv_at hl 7 rfl) ?_
          refine gf_D_117 cx hZ hk_36 rfl d_D_setGlue_66 ?_
          refine lv_iload hx hb d_D_setGlue_69 (lv_at hl 0 rfl) ?_
          refine iv_D_139 (As := [.int (nI i)]) (rest := []) cx (c_A_get l G n0 e0 w2 al ar cap md (nI n) fa hk_37 hark (nI i) x (nI_pos (by omega)) (nI_lt hin (by omega)) (vp_in_nI (by omega) (by omega)) (by rw [nI_clamp (by omega)]; exact hfx)) hk_37 ⟨(Nat.le_of_ble_eq_true rfl), (Nat.le_of_ble_eq_true rfl)⟩ ⟨(by dsimp only; omega), (by dsimp only; omega)⟩ rfl hl.1 rfl (Nat.le_of_ble_eq_true rfl) d_D_setGlue_71 hZ hS (fun v w_38 H locs hp_39 hZ hS => ?_)
          obtain ⟨rfl, hq⟩ := hp_39
          subst w_38
          refine W.eq (g2 := F0 m 74 ls [.ref x]) rfl ?_
          refine kc_D_40 cx hZ hxk d_D_setGlue_74 ?_
          refine lv_astore (lv' := [(15, .ref x), (14, .int (nI i)), (12, .long (sgG u ex its i)), (10, .long (sgP u ex its i)), (8, .long (sgS u ex)), (6, .long (sgW u ex)), (5, .int (hiO u.2.2.2.2.1)), (4, .ref q_3), (0, .ref il), (1, .ref q), (2, .long ex)]) hx hb d_D_setGlue_77 hl (by decide) rfl (fun ls hl => ?_)
          refine lv_lload hx hb d_D_setGlue_79 (lv_at hl 3 rfl) ?_
          refine lv_lload_n hx hb d_D_setGlue_81 rfl (lv_at hl 10 rfl) ?_
          refine lv_lconst (v := 0) hx hb d_D_setGlue_82 (by decide) ?_
          refine W.lcmp hx hb d_D_setGlue_83 ?_
          refine lv_if_ge (tgt := 96) hx hb d_D_setGlue_84 (by decide) (fun c84 => ?_) (fun c84 => ?_)
          · have c84 := (lg_cmp_ge _ _).mp c84
            exact absurd c84 c20
          · have c84 := fun q => c84 ((lg_cmp_ge _ _).mpr q)
            refine lv_aload hx hb d_D_setGlue_87 (lv_at hl 0 rfl) ?_
            refine gf_D_209 cx hZ hxk rfl d_D_setGlue_89 ?_
            refine lv_i2l hx hb d_D_setGlue_92 rfl ?_
            refine lv_goto (tgt := 104) hx hb d_D_setGlue_93 (by decide) ?_
            refine lv_ladd hx hb d_D_setGlue_104 ?_
            rw [show (((sgP u ex its i) + ((its i 8).toInt64)) : Int64) = sgP u ex its (i + 1) from by rw [← sgP_s, sgQ, if_neg c20]]
            refine lv_lstore (lv' := [(10, .long (sgP u ex its (i + 1))), (15, .ref x), (14, .int (nI i)), (12, .long (sgG u ex its i)), (8, .long (sgS u ex)), (6, .long (sgW u ex)), (5, .int (hiO u.2.2.2.2.1)), (4, .ref q_3), (0, .ref il), (1, .ref q), (2, .long ex)]) hx hb d_D_setGlue_105 hl (by decide) rfl (fun ls hl => ?_)
            refine lv_lload hx hb d_D_setGlue_107 (lv_at hl 4 rfl) ?_
            refine lv_lload hx hb d_D_setGlue_109 (lv_at hl 0 rfl) ?_
            refine lv_lmul hx hb d_D_setGlue_111 ?_
            refine lv_lload hx hb d_D_setGlue_112 (lv_at hl 5 rfl) ?_
            refine is_D_215 (As := [.long ((sgS u ex) * (sgP u ex its (i + 1))), .long (sgW u ex)]) (rest := []) cx (c_near l G n0 e0 ((sgS u ex) * (sgP u ex its (i + 1))) (sgW u ex) w2 hne) ⟨(Nat.le_of_ble_eq_true rfl), (Nat.le_of_ble_eq_true rfl)⟩ ⟨(by dsimp only; omega), (by dsimp only; omega)⟩ rfl hl.1 rfl (Nat.le_of_ble_eq_true rfl) d_D_setGlue_114 hZ hS (fun v w_40 H locs hp_41 hZ hS => ?_)
            obtain ⟨rfl, hq⟩ := hp_41
            subst w_40
            refine W.eq (g2 := F0 m 117 ls [.long (nearL ((sgS u ex) * (sgP u ex its (i + 1))) (sgW u ex))]) rfl ?_
            rw [show ((nearL ((sgS u ex) * (sgP u ex its (i + 1))) (sgW u ex)) : Int64) = sgG u ex its (i + 1) from sgG_s]
            refine lv_lstore (lv' := [(16, .long (sgG u ex its (i + 1))), (10, .long (sgP u ex its (i + 1))), (15, .ref x), (14, .int (nI i)), (12, .long (sgG u ex its i)), (8, .long (sgS u ex)), (6, .long (sgW u ex)), (5, .int (hiO u.2.2.2.2.1)), (4, .ref q_3), (0, .ref il), (1, .ref q), (2, .long ex)]) hx hb d_D_setGlue_117 hl (by decide) rfl (fun ls hl => ?_)
            refine lv_aload hx hb d_D_setGlue_119 (lv_at hl 8 rfl) ?_
            refine lv_iload hx hb d_D_setGlue_121 (lv_at hl 3 rfl) ?_
            refine lv_aload hx hb d_D_setGlue_123 (lv_at hl 2 rfl) ?_
            refine gf_D_218 cx hZ hxk rfl d_D_setGlue_125 ?_
            refine lv_i2l hx hb d_D_setGlue_128 rfl ?_
            refine lv_lload hx hb d_D_setGlue_129 (lv_at hl 0 rfl) ?_
            refine lv_ladd hx hb d_D_setGlue_131 ?_
            refine lv_lload hx hb d_D_setGlue_132 (lv_at hl 4 rfl) ?_
            refine lv_lsub hx hb d_D_setGlue_134 ?_
            refine is_D_219 (As := [.long ((((its i 1).toInt64) + (sgG u ex its (i + 1))) - (sgG u ex its i))]) (rest := [.int (nI i), .ref q_3]) cx (c_asSetWidth l G n0 e0 ((((its i 1).toInt64) + (sgG u ex its (i + 1))) - (sgG u ex its i)) w2) ⟨(Nat.le_of_ble_eq_true rfl), (Nat.le_of_ble_eq_true rfl)⟩ ⟨(by dsimp only; omega), (by dsimp only; omega)⟩ rfl hl.1 rfl (Nat.le_of_ble_eq_true rfl) d_D_setGlue_135 hZ hS (fun v w_42 H locs hp_43 hZ hS => ?_)
            obtain ⟨rfl, hq⟩ := hp_43
            subst w_42
            refine W.eq (g2 := F0 m 138 ls [.int (setW ((((its i 1).toInt64) + (sgG u ex its (i + 1))) - (sgG u ex its i))), .int (nI i), .ref q_3]) rfl ?_
            refine st_i cx hZ hS hqa (vp_in_nI hin (by omega)) d_D_setGlue_138 (fun w_44 H locs hw_45 hZ hS => ?_)
            have hk_46 : w_44 il = some (.inr (2, [.int (zi vt), .ref al])) := up_ne hw_45 hk_36 (z_neN hli hn_11)
            have hk_47 : w_44 al = some (.inr (0, [.int md, .ref ar, .int (nI n)])) := up_ne hw_45 hk_37 (z_neN hal hn_11)
            have hk_48 : w_44 x = some (.inr (1, [.int (its i 0), .int (its i 1), .int (its i 2), .int (its i 3), .int (its i 4), .int (its i 5), .int (its i 6), .int (its i 7), .int (its i 8), .int (its i 9), .int (its i 10), .int (its i 11)])) := up_ne hw_45 hxk (z_ne hxk hqa (by simp))
            have hk_49 : w_44 ar = some (.inl (G.2 3, cap, .inr (.inr (.inr (.inr fa))))) := up_ne hw_45 hark (z_ne hark hqa (by simp))
            have hF := hF.put hw_45 (Or.inr hn_11)
            have hc_50 : w_44 q_3 = some (.inl (G.2 0, n, .inl (upd fw (nI i).toNatClampNeg (setW ((((its i 1).toInt64) + (sgG u ex its (i + 1))) - (sgG u ex its i)))))) := up_self hw_45
            refine lv_lload hx hb d_D_setGlue_139 (lv_at hl 0 rfl) ?_
            refine lv_lstore (lv' := [(12, .long (sgG u ex its (i + 1))), (16, .long (sgG u ex its (i + 1))), (10, .long (sgP u ex its (i + 1))), (15, .ref x), (14, .int (nI i)), (8, .long (sgS u ex)), (6, .long (sgW u ex)), (5, .int (hiO u.2.2.2.2.1)), (4, .ref q_3), (0, .ref il), (1, .ref q), (2, .long ex)]) hx hb d_D_setGlue_141 hl (by decide) rfl (fun ls hl => ?_)
            refine lv_iinc (v := ((nI i) + 1)) (lv' := [(14, .int ((nI i) + 1)), (12, .long (sgG u ex its (i + 1))), (16, .long (sgG u ex its (i + 1))), (10, .long (sgP u ex its (i + 1))), (15, .ref x), (8, .long (sgS u ex)), (6, .long (sgW u ex)), (5, .int (hiO u.2.2.2.2.1)), (4, .ref q_3), (0, .ref il), (1, .ref q), (2, .long ex)]) hx hb d_D_setGlue_143 hl (k := 4) rfl rfl (by decide) rfl (fun ls hl => ?_)
            refine lv_goto (tgt := 57) hx hb d_D_setGlue_146 (by decide) ?_
            exact ih (i + 1) _ _ _ _ _ (by omega) hZ hS hF hc_50 (upd_stepX (by omega) hfw rfl) (lv_sub hl [0, 1, 3, 5, 6, 7, 8, 9, 10, 11] (by rw [← nI_1 i]; rfl))
    exact loop n 0 _ _ _ _ _ (by omega) hZ hS hF hc_12 (fun j hj => absurd hj (by omega)) (lv_sub hl [0, 1, 2, 3, 4, 5, 6, 7, 8, 9] rfl)
set_option maxHeartbeats 4000000 in
set_option maxRecDepth 100000 in
theorem c_B_init (l : Launch) (G : zG) (n0 e0 : Nat) (w : zw) (il al ar cap n q r : Nat) (vt : Bool) (md : Int32) (fa : Nat → Option Nat) (its : Nat → Nat → Int32) (u : MT) (wt : Int32) (b : Nat) (hli : w il = some (.inr (2, [.int (zi vt), .ref al]))) (hal : w al = some (.inr (0, fA md (.ref ar) (nI n)))) (har : n = 0 ∨ (w ar = some (.inl (G.2 3, cap, .inr (.inr (.inr (.inr fa))))) ∧ n ≤ cap)) (hcn : n ≤ 60000) (hcap : cap ≤ 100000) (hit : ∀ i, i < n → ∃ x, fa i = some x ∧ w x = some (.inr (1, fI (its i)))) (hq : w q = some (.inr (3, fMt u r))) (hr0 : w r = some (.inl (G.2 1, 4, .inr (.inl u.2.2.2.2.1)))) (hne : 0 < sgW u (wt.toInt64 - u.1) → ¬ 2 * sgW u (wt.toInt64 - u.1) = 0) (hb0 : w b = some (.inr (4, [.null, .null, .int 0, .int 0, .int 0, .int 0, .int 0])))  : Ct l G n0 e0 y_B_init b_B_init 4 (Option.none : Option FieldType) ({ frames := 4, cells := 1, slots := n, locals := 107 }) [.ref b, .ref il, .ref q, .int wt] w (fun v w1 => ∃ sw fw, v = none ∧ w sw = none ∧ w1 sw = some (.inl (G.2 0, n, .inl fw)) ∧ (∀ j, j < n → fw j = sgX u (wt.toInt64 - u.1) its j) ∧ w1 b = some (.inr (4, [.ref il, .ref sw, .int u.2.2.2.2.2.2.1, .int (u.2.2.2.2.2.2.2 + 1), .int (if vt = true then u.2.1.toInt32 else wt), .int (if vt = true then wt else u.2.2.1.toInt32), .int u.2.2.2.1.toInt32])) ∧ Fr [b] w w1) := by
  refine z_ct (by decide) (Nat.le_of_ble_eq_true rfl) ?_
  intro p e s m below meth c ls cx hnm hZ hS hl
  have hx := cx.1
  have hb := cx.2.1
  have hl : lv_has ls 4 [(0, .ref b), (1, .ref il), (2, .ref q), (3, .int wt)] := hl
  have hF : Fr [b] w w := Fr.rf
  refine lv_aload_n hx hb d_B_init_0 rfl (lv_at hl 0 rfl) ?_
  refine oi_B_1 cx hl.1 d_B_init_1 (Nat.le_of_ble_eq_true rfl) (Nat.le_of_ble_eq_true rfl) ?_
  refine W.eq (g2 := F0 m 4 ls []) rfl ?_
  refine lv_aload_n hx hb d_B_init_4 rfl (lv_at hl 0 rfl) ?_
  refine lv_aload_n hx hb d_B_init_5 rfl (lv_at hl 1 rfl) ?_
  refine pf_B_7 cx hnm hZ hS hb0 (Nat.le_of_ble_eq_true rfl) d_B_init_6 (fun w_1 H locs hw_2 hZ hS => ?_)
  have hk_3 : w_1 il = some (.inr (2, [.int (zi vt), .ref al])) := up_ne hw_2 hli (z_ne hli hb0 (by simp))
  have hk_4 : w_1 al = some (.inr (0, [.int md, .ref ar, .int (nI n)])) := up_ne hw_2 hal (z_ne hal hb0 (by simp))
  have hk_5 : w_1 q = some (.inr (3, [.long u.1, .long u.2.1, .long u.2.2.1, .long u.2.2.2.1, .ref r, .long u.2.2.2.2.2.1, .int u.2.2.2.2.2.2.1, .int u.2.2.2.2.2.2.2])) := up_ne hw_2 hq (z_ne hq hb0 (by simp))
  have hk_6 : w_1 r = some (.inl (G.2 1, 4, .inr (.inl u.2.2.2.2.1))) := up_ne hw_2 hr0 (z_ne hr0 hb0 (by simp))
  have hF := hF.put hw_2 (Or.inl (by simp))
  have hc_7 : w_1 b = some (.inr (4, [.ref il, .null, .int 0, .int 0, .int 0, .int 0, .int 0])) := up_self hw_2
  refine lv_aload_n hx hb d_B_init_9 rfl (lv_at hl 0 rfl) ?_
  refine lv_aload_n hx hb d_B_init_10 rfl (lv_at hl 1 rfl) ?_
  refine lv_aload_n hx hb d_B_init_11 rfl (lv_at hl 2 rfl) ?_
  refine lv_iload_n hx hb d_B_init_12 rfl (lv_at hl 3 rfl) ?_
  refine lv_i2l hx hb d_B_init_13 rfl ?_
  refine lv_aload_n hx hb d_B_init_14 rfl (lv_at hl 2 rfl) ?_
  refine gf_B_13 cx hZ hk_5 rfl d_B_init_15 ?_
  refine lv_lsub hx hb d_B_init_18 ?_
  refine is_B_19 (As := [.ref il, .ref q, .long (wt.toInt64 - u.1)]) (rest := [.ref b]) cx (c_setGlue l G n0 e0 w_1 il al ar cap n q r vt md fa its u (wt.toInt64 - u.1) hk_3 hk_4 (har.imp_right (fun h => ⟨up_ne hw_2 h.1 (z_ne h.1 hb0 (by simp)), h.2⟩)) hcn hcap (fun i hi => by obtain ⟨x, h1, h2⟩ := hit i hi; exact ⟨x, h1, up_ne hw_2 h2 (z_ne h2 hb0 (by simp))⟩) hk_5 hk_6 hne) ⟨(Nat.le_of_ble_eq_true rfl), (Nat.le_of_ble_eq_true rfl)⟩ ⟨(by dsimp only; omega), (by dsimp only; omega)⟩ rfl hl.1 rfl (Nat.le_of_ble_eq_true rfl) d_B_init_19 hZ hS (fun v w_10 H locs hp_11 hZ hS => ?_)
  obtain ⟨qa_8, fw_9, rfl, hc_12, hc_13, hc_14, hf_15⟩ := hp_11
  have hk_16 : w_10 il = some (.inr (2, [.int (zi vt), .ref al])) := hf_15.keep hk_3 (by simp)
  have hk_17 : w_10 al = some (.inr (0, [.int md, .ref ar, .int (nI n)])) := hf_15.keep hk_4 (by simp)
  have hk_18 : w_10 q = some (.inr (3, [.long u.1, .long u.2.1, .long u.2.2.1, .long u.2.2.2.1, .ref r, .long u.2.2.2.2.2.1, .int u.2.2.2.2.2.2.1, .int u.2.2.2.2.2.2.2])) := hf_15.keep hk_5 (by simp)
  have hk_19 : w_10 b = some (.inr (4, [.ref il, .null, .int 0, .int 0, .int 0, .int 0, .int 0])) := hf_15.keep hc_7 (by simp)
  have hk_20 : w_10 r = some (.inl (G.2 1, 4, .inr (.inl u.2.2.2.2.1))) := hf_15.keep hk_6 (by simp)
  have hn_21 := hF.2 _ hc_12
  have hF := hF.call hf_15 (fun _ h => absurd h List.not_mem_nil)
  refine W.eq (g2 := F0 m 22 ls [.ref qa_8, .ref b]) rfl ?_
  refine pf_B_25 cx hnm hZ hS hk_19 (Nat.le_of_ble_eq_true rfl) d_B_init_22 (fun w_22 H locs hw_23 hZ hS => ?_)
  have hk_24 : w_22 il = some (.inr (2, [.int (zi vt), .ref al])) := up_ne hw_23 hk_16 (z_ne hk_16 hk_19 (by simp))
  have hk_25 : w_22 al = some (.inr (0, [.int md, .ref ar, .int (nI n)])) := up_ne hw_23 hk_17 (z_ne hk_17 hk_19 (by simp))
  have hk_26 : w_22 q = some (.inr (3, [.long u.1, .long u.2.1, .long u.2.2.1, .long u.2.2.2.1, .ref r, .long u.2.2.2.2.2.1, .int u.2.2.2.2.2.2.1, .int u.2.2.2.2.2.2.2])) := up_ne hw_23 hk_18 (z_ne hk_18 hk_19 (by simp))
  have hk_27 : w_22 r = some (.inl (G.2 1, 4, .inr (.inl u.2.2.2.2.1))) := up_ne hw_23 hk_20 (z_ne hk_20 hk_19 (by simp))
  have hk_28 : w_22 qa_8 = some (.inl (G.2 0, n, .inl fw_9)) := up_ne hw_23 hc_13 ((Ne.symm (z_neN hb0 hn_21)))
  have hF := hF.put hw_23 (Or.inl (by simp))
  have hc_29 : w_22 b = some (.inr (4, [.ref il, .ref qa_8, .int 0, .int 0, .int 0, .int 0, .int 0])) := up_self hw_23
  refine lv_aload_n hx hb d_B_init_25 rfl (lv_at hl 0 rfl) ?_
  refine lv_aload_n hx hb d_B_init_26 rfl (lv_at hl 2 rfl) ?_
  refine gf_B_29 cx hZ hk_26 rfl d_B_init_27 ?_
  refine pf_B_33 cx hnm hZ hS hc_29 (Nat.le_of_ble_eq_true rfl) d_B_init_30 (fun w_30 H locs hw_31 hZ hS => ?_)
  have hk_32 : w_30 il = some (.inr (2, [.int (zi vt), .ref al])) := up_ne hw_31 hk_24 (z_ne hk_24 hc_29 (by simp))
  have hk_33 : w_30 al = some (.inr (0, [.int md, .ref ar, .int (nI n)])) := up_ne hw_31 hk_25 (z_ne hk_25 hc_29 (by simp))
  have hk_34 : w_30 q = some (.inr (3, [.long u.1, .long u.2.1, .long u.2.2.1, .long u.2.2.2.1, .ref r, .long u.2.2.2.2.2.1, .int u.2.2.2.2.2.2.1, .int u.2.2.2.2.2.2.2])) := up_ne hw_31 hk_26 (z_ne hk_26 hc_29 (by simp))
  have hk_35 : w_30 r = some (.inl (G.2 1, 4, .inr (.inl u.2.2.2.2.1))) := up_ne hw_31 hk_27 (z_ne hk_27 hc_29 (by simp))
  have hk_36 : w_30 qa_8 = some (.inl (G.2 0, n, .inl fw_9)) := up_ne hw_31 hk_28 ((Ne.symm (z_neN hb0 hn_21)))
  have hF := hF.put hw_31 (Or.inl (by simp))
  have hc_37 : w_30 b = some (.inr (4, [.ref il, .ref qa_8, .int u.2.2.2.2.2.2.1, .int 0, .int 0, .int 0, .int 0])) := up_self hw_31
  refine lv_aload_n hx hb d_B_init_33 rfl (lv_at hl 0 rfl) ?_
  refine lv_aload_n hx hb d_B_init_34 rfl (lv_at hl 2 rfl) ?_
  refine gf_B_34 cx hZ hk_34 rfl d_B_init_35 ?_
  refine lv_iconst (v := 1) hx hb d_B_init_38 (by decide) ?_
  refine lv_iadd hx hb d_B_init_39 ?_
  refine pf_B_37 cx hnm hZ hS hc_37 (Nat.le_of_ble_eq_true rfl) d_B_init_40 (fun w_38 H locs hw_39 hZ hS => ?_)
  have hk_40 : w_38 il = some (.inr (2, [.int (zi vt), .ref al])) := up_ne hw_39 hk_32 (z_ne hk_32 hc_37 (by simp))
  have hk_41 : w_38 al = some (.inr (0, [.int md, .ref ar, .int (nI n)])) := up_ne hw_39 hk_33 (z_ne hk_33 hc_37 (by simp))
  have hk_42 : w_38 q = some (.inr (3, [.long u.1, .long u.2.1, .long u.2.2.1, .long u.2.2.2.1, .ref r, .long u.2.2.2.2.2.1, .int u.2.2.2.2.2.2.1, .int u.2.2.2.2.2.2.2])) := up_ne hw_39 hk_34 (z_ne hk_34 hc_37 (by simp))
  have hk_43 : w_38 r = some (.inl (G.2 1, 4, .inr (.inl u.2.2.2.2.1))) := up_ne hw_39 hk_35 (z_ne hk_35 hc_37 (by simp))
  have hk_44 : w_38 qa_8 = some (.inl (G.2 0, n, .inl fw_9)) := up_ne hw_39 hk_36 ((Ne.symm (z_neN hb0 hn_21)))
  have hF := hF.put hw_39 (Or.inl (by simp))
  have hc_45 : w_38 b = some (.inr (4, [.ref il, .ref qa_8, .int u.2.2.2.2.2.2.1, .int (u.2.2.2.2.2.2.2 + 1), .int 0, .int 0, .int 0])) := up_self hw_39
  refine lv_aload_n hx hb d_B_init_43 rfl (lv_at hl 0 rfl) ?_
  refine lv_aload_n hx hb d_B_init_44 rfl (lv_at hl 1 rfl) ?_
  refine gf_B_40 cx hZ hk_40 rfl d_B_init_45 ?_
  refine lv_if_eq (tgt := 59) hx hb d_B_init_48 (by decide) (fun c48 => ?_) (fun c48 => ?_)
  · refine lv_iload_n hx hb d_B_init_59 rfl (lv_at hl 3 rfl) ?_
    refine pf_B_49 cx hZ hS hc_45 (Nat.le_of_ble_eq_true rfl) d_B_init_60 (fun w_46 H locs hw_47 hZ hS => ?_)
    have hk_48 : w_46 il = some (.inr (2, [.int (zi vt), .ref al])) := up_ne hw_47 hk_40 (z_ne hk_40 hc_45 (by simp))
    have hk_49 : w_46 al = some (.inr (0, [.int md, .ref ar, .int (nI n)])) := up_ne hw_47 hk_41 (z_ne hk_41 hc_45 (by simp))
    have hk_50 : w_46 q = some (.inr (3, [.long u.1, .long u.2.1, .long u.2.2.1, .long u.2.2.2.1, .ref r, .long u.2.2.2.2.2.1, .int u.2.2.2.2.2.2.1, .int u.2.2.2.2.2.2.2])) := up_ne hw_47 hk_42 (z_ne hk_42 hc_45 (by simp))
    have hk_51 : w_46 r = some (.inl (G.2 1, 4, .inr (.inl u.2.2.2.2.1))) := up_ne hw_47 hk_43 (z_ne hk_43 hc_45 (by simp))
    have hk_52 : w_46 qa_8 = some (.inl (G.2 0, n, .inl fw_9)) := up_ne hw_47 hk_44 ((Ne.symm (z_neN hb0 hn_21)))
    have hF := hF.put hw_47 (Or.inl (by simp))
    have hc_53 : w_46 b = some (.inr (4, [.ref il, .ref qa_8, .int u.2.2.2.2.2.2.1, .int (u.2.2.2.2.2.2.2 + 1), .int wt, .int 0, .int 0])) := up_self hw_47
    refine lv_aload_n hx hb d_B_init_63 rfl (lv_at hl 0 rfl) ?_
    refine lv_aload_n hx hb d_B_init_64 rfl (lv_at hl 1 rfl) ?_
    refine gf_B_40 cx hZ hk_48 rfl d_B_init_65 ?_
    refine lv_if_eq (tgt := 75) hx hb d_B_init_68 (by decide) (fun c68 => ?_) (fun c68 => ?_)
    · refine lv_aload_n hx hb d_B_init_75 rfl (lv_at hl 2 rfl) ?_
      refine gf_B_52 cx hZ hk_50 rfl d_B_init_76 ?_
      refine lv_l2i hx hb d_B_init_79 rfl ?_
      refine pf_B_55 cx hZ hS hc_53 (Nat.le_of_ble_eq_true rfl) d_B_init_80 (fun w_54 H locs hw_55 hZ hS => ?_)
      have hk_56 : w_54 il = some (.inr (2, [.int (zi vt), .ref al])) := up_ne hw_55 hk_48 (z_ne hk_48 hc_53 (by simp))
      have hk_57 : w_54 al = some (.inr (0, [.int md, .ref ar, .int (nI n)])) := up_ne hw_55 hk_49 (z_ne hk_49 hc_53 (by simp))
      have hk_58 : w_54 q = some (.inr (3, [.long u.1, .long u.2.1, .long u.2.2.1, .long u.2.2.2.1, .ref r, .long u.2.2.2.2.2.1, .int u.2.2.2.2.2.2.1, .int u.2.2.2.2.2.2.2])) := up_ne hw_55 hk_50 (z_ne hk_50 hc_53 (by simp))
      have hk_59 : w_54 r = some (.inl (G.2 1, 4, .inr (.inl u.2.2.2.2.1))) := up_ne hw_55 hk_51 (z_ne hk_51 hc_53 (by simp))
      have hk_60 : w_54 qa_8 = some (.inl (G.2 0, n, .inl fw_9)) := up_ne hw_55 hk_52 ((Ne.symm (z_neN hb0 hn_21)))
      have hF := hF.put hw_55 (Or.inl (by simp))
      have hc_61 : w_54 b = some (.inr (4, [.ref il, .ref qa_8, .int u.2.2.2.2.2.2.1, .int (u.2.2.2.2.2.2.2 + 1), .int wt, .int u.2.2.1.toInt32, .int 0])) := up_self hw_55
      refine lv_aload_n hx hb d_B_init_83 rfl (lv_at hl 0 rfl) ?_
      refine lv_aload_n hx hb d_B_init_84 rfl (lv_at hl 2 rfl) ?_
      refine gf_B_57 cx hZ hk_58 rfl d_B_init_85 ?_
      refine lv_l2i hx hb d_B_init_88 rfl ?_
      refine pf_B_60 cx hZ hS hc_61 (Nat.le_of_ble_eq_true rfl) d_B_init_89 (fun w_62 H locs hw_63 hZ hS => ?_)
      have hk_64 : w_62 il = some (.inr (2, [.int (zi vt), .ref al])) := up_ne hw_63 hk_56 (z_ne hk_56 hc_61 (by simp))
      have hk_65 : w_62 al = some (.inr (0, [.int md, .ref ar, .int (nI n)])) := up_ne hw_63 hk_57 (z_ne hk_57 hc_61 (by simp))
      have hk_66 : w_62 q = some (.inr (3, [.long u.1, .long u.2.1, .long u.2.2.1, .long u.2.2.2.1, .ref r, .long u.2.2.2.2.2.1, .int u.2.2.2.2.2.2.1, .int u.2.2.2.2.2.2.2])) := up_ne hw_63 hk_58 (z_ne hk_58 hc_61 (by simp))
      have hk_67 : w_62 r = some (.inl (G.2 1, 4, .inr (.inl u.2.2.2.2.1))) := up_ne hw_63 hk_59 (z_ne hk_59 hc_61 (by simp))
      have hk_68 : w_62 qa_8 = some (.inl (G.2 0, n, .inl fw_9)) := up_ne hw_63 hk_60 ((Ne.symm (z_neN hb0 hn_21)))
      have hF := hF.put hw_63 (Or.inl (by simp))
      have hc_69 : w_62 b = some (.inr (4, [.ref il, .ref qa_8, .int u.2.2.2.2.2.2.1, .int (u.2.2.2.2.2.2.2 + 1), .int wt, .int u.2.2.1.toInt32, .int u.2.2.2.1.toInt32])) := up_self hw_63
      exact z_vret cx.1 cx.2.1 cx.rt cx.lk hS hZ ⟨(by dsimp only; omega), (by dsimp only; omega)⟩ d_B_init_92 (⟨qa_8, fw_9, rfl, hn_21, hk_68, hc_14, (by rw [if_neg (show ¬ vt = true by rw [(zi_0 vt).mp c48]; decide), if_neg (show ¬ vt = true by rw [(zi_0 vt).mp c48]; decide)]; exact hc_69), hF⟩)
    · exact absurd c48 c68
  · refine lv_aload_n hx hb d_B_init_51 rfl (lv_at hl 2 rfl) ?_
    refine gf_B_46 cx hZ hk_42 rfl d_B_init_52 ?_
    refine lv_l2i hx hb d_B_init_55 rfl ?_
    refine lv_goto (tgt := 60) hx hb d_B_init_56 (by decide) ?_
    refine pf_B_49 cx hZ hS hc_45 (Nat.le_of_ble_eq_true rfl) d_B_init_60 (fun w_70 H locs hw_71 hZ hS => ?_)
    have hk_72 : w_70 il = some (.inr (2, [.int (zi vt), .ref al])) := up_ne hw_71 hk_40 (z_ne hk_40 hc_45 (by simp))
    have hk_73 : w_70 al = some (.inr (0, [.int md, .ref ar, .int (nI n)])) := up_ne hw_71 hk_41 (z_ne hk_41 hc_45 (by simp))
    have hk_74 : w_70 q = some (.inr (3, [.long u.1, .long u.2.1, .long u.2.2.1, .long u.2.2.2.1, .ref r, .long u.2.2.2.2.2.1, .int u.2.2.2.2.2.2.1, .int u.2.2.2.2.2.2.2])) := up_ne hw_71 hk_42 (z_ne hk_42 hc_45 (by simp))
    have hk_75 : w_70 r = some (.inl (G.2 1, 4, .inr (.inl u.2.2.2.2.1))) := up_ne hw_71 hk_43 (z_ne hk_43 hc_45 (by simp))
    have hk_76 : w_70 qa_8 = some (.inl (G.2 0, n, .inl fw_9)) := up_ne hw_71 hk_44 ((Ne.symm (z_neN hb0 hn_21)))
    have hF := hF.put hw_71 (Or.inl (by simp))
    have hc_77 : w_70 b = some (.inr (4, [.ref il, .ref qa_8, .int u.2.2.2.2.2.2.1, .int (u.2.2.2.2.2.2.2 + 1), .int u.2.1.toInt32, .int 0, .int 0])) := up_self hw_71
    refine lv_aload_n hx hb d_B_init_63 rfl (lv_at hl 0 rfl) ?_
    refine lv_aload_n hx hb d_B_init_64 rfl (lv_at hl 1 rfl) ?_
    refine gf_B_40 cx hZ hk_72 rfl d_B_init_65 ?_
    refine lv_if_eq (tgt := 75) hx hb d_B_init_68 (by decide) (fun c68 => ?_) (fun c68 => ?_)
    · exact absurd c68 c48
    · refine lv_iload_n hx hb d_B_init_71 rfl (lv_at hl 3 rfl) ?_
      refine lv_goto (tgt := 80) hx hb d_B_init_72 (by decide) ?_
      refine pf_B_55 cx hZ hS hc_77 (Nat.le_of_ble_eq_true rfl) d_B_init_80 (fun w_78 H locs hw_79 hZ hS => ?_)
      have hk_80 : w_78 il = some (.inr (2, [.int (zi vt), .ref al])) := up_ne hw_79 hk_72 (z_ne hk_72 hc_77 (by simp))
      have hk_81 : w_78 al = some (.inr (0, [.int md, .ref ar, .int (nI n)])) := up_ne hw_79 hk_73 (z_ne hk_73 hc_77 (by simp))
      have hk_82 : w_78 q = some (.inr (3, [.long u.1, .long u.2.1, .long u.2.2.1, .long u.2.2.2.1, .ref r, .long u.2.2.2.2.2.1, .int u.2.2.2.2.2.2.1, .int u.2.2.2.2.2.2.2])) := up_ne hw_79 hk_74 (z_ne hk_74 hc_77 (by simp))
      have hk_83 : w_78 r = some (.inl (G.2 1, 4, .inr (.inl u.2.2.2.2.1))) := up_ne hw_79 hk_75 (z_ne hk_75 hc_77 (by simp))
      have hk_84 : w_78 qa_8 = some (.inl (G.2 0, n, .inl fw_9)) := up_ne hw_79 hk_76 ((Ne.symm (z_neN hb0 hn_21)))
      have hF := hF.put hw_79 (Or.inl (by simp))
      have hc_85 : w_78 b = some (.inr (4, [.ref il, .ref qa_8, .int u.2.2.2.2.2.2.1, .int (u.2.2.2.2.2.2.2 + 1), .int u.2.1.toInt32, .int wt, .int 0])) := up_self hw_79
      refine lv_aload_n hx hb d_B_init_83 rfl (lv_at hl 0 rfl) ?_
      refine lv_aload_n hx hb d_B_init_84 rfl (lv_at hl 2 rfl) ?_
      refine gf_B_57 cx hZ hk_82 rfl d_B_init_85 ?_
      refine lv_l2i hx hb d_B_init_88 rfl ?_
      refine pf_B_60 cx hZ hS hc_85 (Nat.le_of_ble_eq_true rfl) d_B_init_89 (fun w_86 H locs hw_87 hZ hS => ?_)
      have hk_88 : w_86 il = some (.inr (2, [.int (zi vt), .ref al])) := up_ne hw_87 hk_80 (z_ne hk_80 hc_85 (by simp))
      have hk_89 : w_86 al = some (.inr (0, [.int md, .ref ar, .int (nI n)])) := up_ne hw_87 hk_81 (z_ne hk_81 hc_85 (by simp))
      have hk_90 : w_86 q = some (.inr (3, [.long u.1, .long u.2.1, .long u.2.2.1, .long u.2.2.2.1, .ref r, .long u.2.2.2.2.2.1, .int u.2.2.2.2.2.2.1, .int u.2.2.2.2.2.2.2])) := up_ne hw_87 hk_82 (z_ne hk_82 hc_85 (by simp))
      have hk_91 : w_86 r = some (.inl (G.2 1, 4, .inr (.inl u.2.2.2.2.1))) := up_ne hw_87 hk_83 (z_ne hk_83 hc_85 (by simp))
      have hk_92 : w_86 qa_8 = some (.inl (G.2 0, n, .inl fw_9)) := up_ne hw_87 hk_84 ((Ne.symm (z_neN hb0 hn_21)))
      have hF := hF.put hw_87 (Or.inl (by simp))
      have hc_93 : w_86 b = some (.inr (4, [.ref il, .ref qa_8, .int u.2.2.2.2.2.2.1, .int (u.2.2.2.2.2.2.2 + 1), .int u.2.1.toInt32, .int wt, .int u.2.2.2.1.toInt32])) := up_self hw_87
      exact z_vret cx.1 cx.2.1 cx.rt cx.lk hS hZ ⟨(by dsimp only; omega), (by dsimp only; omega)⟩ d_B_init_92 (⟨qa_8, fw_9, rfl, hn_21, hk_92, hc_14, (by rw [if_pos ((zi_n0 vt).mp c48), if_pos ((zi_n0 vt).mp c48)]; exact hc_93), hF⟩)
