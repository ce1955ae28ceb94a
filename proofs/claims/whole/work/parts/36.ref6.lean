def whatB (what : Int32) : Bool := !decide (what < 0) && !decide (5 < what)
theorem regB_in15 {k : Int32} (h : ¬ k < 0) (h2 : ¬ (15 : Int32) < k) : regB k = true := by
  refine regB_in h ?_
  rw [Int32.le_iff_toInt_le, show (16 : Int32).toInt = 16 from by decide]
  rw [Int32.lt_iff_toInt_lt, show (15 : Int32).toInt = 15 from by decide] at h2
  omega
theorem whatB_in {k : Int32} (h : ¬ k < 0) (h2 : k ≤ 5) : whatB k = true := by
  simp only [whatB, h, Int32.not_lt.mpr h2, decide_false, Bool.not_false, Bool.and_self]
theorem whatB_of {k : Int32} (h : whatB k = true) : ¬ k < 0 ∧ k ≤ 5 := by
  simp only [whatB, Bool.and_eq_true, Bool.not_eq_true', decide_eq_false_iff_not] at h
  exact ⟨h.1, Int32.not_lt.mp h.2⟩
def aboutR (F : Nat → Nat → Int32) (p : Nat) (n : Int32) (z : Int32) (what : Int32) : Int32 := if what = 0 then F 0 p - 1 else if what = 1 then F 1 p else if what = 2 then F 2 p else if what = 3 then F 3 p else if what = 4 then n else z
def clampR (x : Int64) : Int32 := (if 2147483647 < x then 2147483647 else if x < (-2147483647) then (-2147483647) else x).toInt32
def itemR (F : Nat → Nat → Int32) (M : Nat → Int64) (p : Nat) (what : Int32) : Int32 := if what = 0 then F 0 p else if F 0 p = 5 then (if what = 1 then clampR ((F 1 p).toInt64 + M p) else if what = 4 then F 4 p else if what = 5 then F 6 p else 0) else (if what = 1 then F 1 p else if what = 2 then F 2 p else if what = 3 then F 3 p else if what = 4 ∧ (F 0 p = 2 ∨ F 0 p = 3) then F 4 p else 0)
theorem nI_n15 {k : Nat} (h : k < 16) : ¬ (15 : Int32) < nI k := by
  rw [show (15 : Int32) = nI 15 from by decide]; exact nI_nlt (by omega) (by decide)
theorem SP.ge {F8 : Nat → Int32} {ps : Nat → Nat} {n : Nat} (h : SP F8 ps n) : n ≤ ps n := by
  induction n with
  | zero => exact Nat.zero_le _
  | succ n ih =>
    have h1 := ih (fun j hj => h j (by omega))
    have := (h n (by omega)).2
    omega
set_option maxHeartbeats 4000000 in
set_option maxRecDepth 100000 in
theorem r_about_bad (l : Launch) (G : zG) (n0 e0 : Nat) (w : zw) (o : Nat) (A : Nat → Nat) (S : Nat → Int32) (L : Nat → Int64) (ho : w o = some (.inr (6, fR A S L))) (kk what : Int32) (hbad : (regB kk && whatB what) = false)  : Ct l G n0 e0 y_R_about b_R_about 4 (Option.some FieldType.int) ({ frames := 1, cells := 0, slots := 0, locals := 25 }) [.ref o, .int kk, .int what] w (fun v w1 => v = some (.int 0) ∧ w1 o = some (.inr (6, fR A (upd S 0 1) L)) ∧ Fr [o] w w1) := by
  refine z_ct (by decide) (Nat.le_of_ble_eq_true rfl) ?_
  intro p e s m below meth c ls cx hnm hZ hS hl
  have hx := cx.1
  have hb := cx.2.1
  have hl : lv_has ls 4 [(0, .ref o), (1, .int kk), (2, .int what)] := hl
  have hF : Fr [o] w w := Fr.rf
  refine lv_iload_n hx hb d_R_about_0 rfl (lv_at hl 1 rfl) ?_
  refine lv_if_lt (tgt := 19) hx hb d_R_about_1 (by decide) (fun c1 => ?_) (fun c1 => ?_)
  · refine lv_aload_n hx hb d_R_about_19 rfl (lv_at hl 0 rfl) ?_
    refine lv_iconst (v := 1) hx hb d_R_about_20 (by decide) ?_
    refine iv_R_130 (As := [.int 1]) (rest := []) cx (r_fails l G n0 e0 w o A S L ho 1) ho ⟨(Nat.le_of_ble_eq_true rfl), (Nat.le_of_ble_eq_true rfl)⟩ ⟨(Nat.le_of_ble_eq_true rfl), (Nat.le_of_ble_eq_true rfl)⟩ rfl hl.1 rfl (Nat.le_of_ble_eq_true rfl) d_R_about_21 hZ hS (fun v w_1 H locs hp_2 hZ hS => ?_)
    obtain ⟨rfl, hc_3, hf_4⟩ := hp_2
    have hF := hF.call hf_4 (List.forall_mem_cons.mpr ⟨Or.inl (by simp), fun _ h => absurd h List.not_mem_nil⟩)
    refine W.eq (g2 := F0 m 24 ls [.int 0]) rfl ?_
    exact z_iret cx.1 cx.2.1 cx.rt cx.lk hS hZ ⟨(Nat.le_of_ble_eq_true rfl), (Nat.le_of_ble_eq_true rfl)⟩ d_R_about_24 (⟨rfl, hc_3, hF⟩)
  · refine lv_iload_n hx hb d_R_about_4 rfl (lv_at hl 1 rfl) ?_
    refine lv_bipush (v := 15) hx hb d_R_about_5 (by decide) ?_
    refine lv_icmp_gt (tgt := 19) hx hb d_R_about_7 (by decide) (fun c7 => ?_) (fun c7 => ?_)
    · refine lv_aload_n hx hb d_R_about_19 rfl (lv_at hl 0 rfl) ?_
      refine lv_iconst (v := 1) hx hb d_R_about_20 (by decide) ?_
      refine iv_R_130 (As := [.int 1]) (rest := []) cx (r_fails l G n0 e0 w o A S L ho 1) ho ⟨(Nat.le_of_ble_eq_true rfl), (Nat.le_of_ble_eq_true rfl)⟩ ⟨(Nat.le_of_ble_eq_true rfl), (Nat.le_of_ble_eq_true rfl)⟩ rfl hl.1 rfl (Nat.le_of_ble_eq_true rfl) d_R_about_21 hZ hS (fun v w_5 H locs hp_6 hZ hS => ?_)
      obtain ⟨rfl, hc_7, hf_8⟩ := hp_6
      have hF := hF.call hf_8 (List.forall_mem_cons.mpr ⟨Or.inl (by simp), fun _ h => absurd h List.not_mem_nil⟩)
      refine W.eq (g2 := F0 m 24 ls [.int 0]) rfl ?_
      exact z_iret cx.1 cx.2.1 cx.rt cx.lk hS hZ ⟨(Nat.le_of_ble_eq_true rfl), (Nat.le_of_ble_eq_true rfl)⟩ d_R_about_24 (⟨rfl, hc_7, hF⟩)
    · refine lv_iload_n hx hb d_R_about_10 rfl (lv_at hl 2 rfl) ?_
      refine lv_if_lt (tgt := 19) hx hb d_R_about_11 (by decide) (fun c11 => ?_) (fun c11 => ?_)
      · refine lv_aload_n hx hb d_R_about_19 rfl (lv_at hl 0 rfl) ?_
        refine lv_iconst (v := 1) hx hb d_R_about_20 (by decide) ?_
        refine iv_R_130 (As := [.int 1]) (rest := []) cx (r_fails l G n0 e0 w o A S L ho 1) ho ⟨(Nat.le_of_ble_eq_true rfl), (Nat.le_of_ble_eq_true rfl)⟩ ⟨(Nat.le_of_ble_eq_true rfl), (Nat.le_of_ble_eq_true rfl)⟩ rfl hl.1 rfl (Nat.le_of_ble_eq_true rfl) d_R_about_21 hZ hS (fun v w_9 H locs hp_10 hZ hS => ?_)
        obtain ⟨rfl, hc_11, hf_12⟩ := hp_10
        have hF := hF.call hf_12 (List.forall_mem_cons.mpr ⟨Or.inl (by simp), fun _ h => absurd h List.not_mem_nil⟩)
        refine W.eq (g2 := F0 m 24 ls [.int 0]) rfl ?_
        exact z_iret cx.1 cx.2.1 cx.rt cx.lk hS hZ ⟨(Nat.le_of_ble_eq_true rfl), (Nat.le_of_ble_eq_true rfl)⟩ d_R_about_24 (⟨rfl, hc_11, hF⟩)
      · refine lv_iload_n hx hb d_R_about_14 rfl (lv_at hl 2 rfl) ?_
        refine lv_iconst (v := 5) hx hb d_R_about_15 (by decide) ?_
        refine lv_icmp_le (tgt := 25) hx hb d_R_about_16 (by decide) (fun c16 => ?_) (fun c16 => ?_)
        · exact absurd hbad (by rw [regB_in15 c1 c7, whatB_in c11 c16]; decide)
        · refine lv_aload_n hx hb d_R_about_19 rfl (lv_at hl 0 rfl) ?_
          refine lv_iconst (v := 1) hx hb d_R_about_20 (by decide) ?_
          refine iv_R_130 (As := [.int 1]) (rest := []) cx (r_fails l G n0 e0 w o A S L ho 1) ho ⟨(Nat.le_of_ble_eq_true rfl), (Nat.le_of_ble_eq_true rfl)⟩ ⟨(Nat.le_of_ble_eq_true rfl), (Nat.le_of_ble_eq_true rfl)⟩ rfl hl.1 rfl (Nat.le_of_ble_eq_true rfl) d_R_about_21 hZ hS (fun v w_13 H locs hp_14 hZ hS => ?_)
          obtain ⟨rfl, hc_15, hf_16⟩ := hp_14
          have hF := hF.call hf_16 (List.forall_mem_cons.mpr ⟨Or.inl (by simp), fun _ h => absurd h List.not_mem_nil⟩)
          refine W.eq (g2 := F0 m 24 ls [.int 0]) rfl ?_
          exact z_iret cx.1 cx.2.1 cx.rt cx.lk hS hZ ⟨(Nat.le_of_ble_eq_true rfl), (Nat.le_of_ble_eq_true rfl)⟩ d_R_about_24 (⟨rfl, hc_15, hF⟩)
set_option maxHeartbeats 4000000 in
set_option maxRecDepth 100000 in
theorem r_about_void (l : Launch) (G : zG) (n0 e0 : Nat) (w : zw) (o : Nat) (A : Nat → Nat) (S : Nat → Int32) (L : Nat → Int64) (ho : w o = some (.inr (6, fR A S L))) (Z : Nat → Int32) (h11 : w (A 11) = some (.inl (G.2 0, 16, .inl Z))) (sz : Nat → Nat) (hsz : ∀ k, k < 16 → Z k = nI (sz k)) (hsum : sumN sz 16 ≤ 4000) (k : Nat) (hk : k < 16) (hz0 : sz k = 0) (what : Int32) (hwh : whatB what = true)  : Ct l G n0 e0 y_R_about b_R_about 4 (Option.some FieldType.int) ({ frames := 1, cells := 0, slots := 0, locals := 25 }) [.ref o, .int (nI k), .int what] w (fun v w1 => v = some (.int 0) ∧ w1 o = some (.inr (6, fR A (upd S 0 0) L)) ∧ Fr [o] w w1) := by
  refine z_ct (by decide) (Nat.le_of_ble_eq_true rfl) ?_
  intro p e s m below meth c ls cx hnm hZ hS hl
  have hx := cx.1
  have hb := cx.2.1
  have hl : lv_has ls 4 [(0, .ref o), (1, .int (nI k)), (2, .int what)] := hl
  have hF : Fr [o] w w := Fr.rf
  refine lv_iload_n hx hb d_R_about_0 rfl (lv_at hl 1 rfl) ?_
  refine lv_if_lt (tgt := 19) hx hb d_R_about_1 (by decide) (fun c1 => ?_) (fun c1 => ?_)
  · exact absurd c1 (nI_pos (by omega))
  · refine lv_iload_n hx hb d_R_about_4 rfl (lv_at hl 1 rfl) ?_
    refine lv_bipush (v := 15) hx hb d_R_about_5 (by decide) ?_
    refine lv_icmp_gt (tgt := 19) hx hb d_R_about_7 (by decide) (fun c7 => ?_) (fun c7 => ?_)
    · exact absurd c7 (nI_n15 hk)
    · refine lv_iload_n hx hb d_R_about_10 rfl (lv_at hl 2 rfl) ?_
      refine lv_if_lt (tgt := 19) hx hb d_R_about_11 (by decide) (fun c11 => ?_) (fun c11 => ?_)
      · exact absurd c11 (whatB_of hwh).1
      · refine lv_iload_n hx hb d_R_about_14 rfl (lv_at hl 2 rfl) ?_
        refine lv_iconst (v := 5) hx hb d_R_about_15 (by decide) ?_
        refine lv_icmp_le (tgt := 25) hx hb d_R_about_16 (by decide) (fun c16 => ?_) (fun c16 => ?_)
        · refine lv_aload_n hx hb d_R_about_25 rfl (lv_at hl 0 rfl) ?_
          refine lv_iconst (v := 0) hx hb d_R_about_26 (by decide) ?_
          refine pf_R_51 cx hZ hS ho (Nat.le_of_ble_eq_true rfl) d_R_about_27 (fun w_1 H locs hw_2 hZ hS => ?_)
          have hk_3 : w_1 (A 11) = some (.inl (G.2 0, 16, .inl Z)) := up_ne hw_2 h11 (z_ne h11 ho (by simp))
          have hF := hF.put hw_2 (Or.inl (by simp))
          have hc_4 : w_1 o = some (.inr (6, [.int 0, .ref (A 0), .ref (A 1), .ref (A 2), .ref (A 3), .ref (A 4), .ref (A 5), .ref (A 6), .ref (A 7), .ref (A 8), .int (S 1), .ref (A 9), .ref (A 10), .int (S 2), .ref (A 11), .long (L 0), .long (L 1), .long (L 2), .long (L 3), .ref (A 12), .long (L 4)])) := up_self hw_2
          refine lv_aload_n hx hb d_R_about_30 rfl (lv_at hl 0 rfl) ?_
          refine gf_R_45 cx hZ hc_4 rfl d_R_about_31 ?_
          refine lv_iload_n hx hb d_R_about_34 rfl (lv_at hl 1 rfl) ?_
          refine ld_i cx hZ hk_3 (vp_in_nI hk (by omega)) d_R_about_35 ?_
          rw [show ((Z (nI k).toNatClampNeg) : Int32) = nI (sz k) from by rw [nI_clamp (by omega)]; exact hsz k hk]
          refine lv_if_ne (tgt := 41) hx hb d_R_about_36 (by decide) (fun c36 => ?_) (fun c36 => ?_)
          · exact absurd (by rw [hz0]; rfl) c36
          · refine lv_iconst (v := 0) hx hb d_R_about_39 (by decide) ?_
            exact z_iret cx.1 cx.2.1 cx.rt cx.lk hS hZ ⟨(Nat.le_of_ble_eq_true rfl), (Nat.le_of_ble_eq_true rfl)⟩ d_R_about_40 (⟨rfl, hc_4, hF⟩)
        · exact absurd (whatB_of hwh).2 c16
set_option maxHeartbeats 4000000 in
set_option maxRecDepth 100000 in
theorem r_about (l : Launch) (G : zG) (n0 e0 : Nat) (w : zw) (o : Nat) (A : Nat → Nat) (S : Nat → Int32) (L : Nat → Int64) (ho : w o = some (.inr (6, fR A S L))) (F : Nat → Nat → Int32) (M : Nat → Int64) (hR : RW G w A F M) (hA : ∀ i j, i < 13 → j < 13 → i ≠ j → A i ≠ A j) (Z : Nat → Int32) (h11 : w (A 11) = some (.inl (G.2 0, 16, .inl Z))) (sz : Nat → Nat) (hsz : ∀ k, k < 16 → Z k = nI (sz k)) (hsum : sumN sz 16 ≤ 4000) (k : Nat) (hk : k < 16) (hz0 : ¬ sz k = 0) (ps : Nat → Nat) (n : Nat) (hps : SP (F 8) ps n) (hpe : ps n ≤ 8200) (hat : stN sz k + 1 = ps 0) (hat2 : F 8 (stN sz k) = nI (ps n - stN sz k)) (what : Int32) (hwh : whatB what = true)  : Ct l G n0 e0 y_R_about b_R_about 4 (Option.some FieldType.int) ({ frames := 1, cells := 0, slots := 0, locals := 25 }) [.ref o, .int (nI k), .int what] w (fun v w1 => v = some (.int (aboutR F (stN sz k) (nI n) (nI (sz k) - 1) what)) ∧ w1 o = some (.inr (6, fR A (upd S 0 0) L)) ∧ Fr [o] w w1) := by
  refine z_ct (by decide) (Nat.le_of_ble_eq_true rfl) ?_
  intro p e s m below meth c ls cx hnm hZ hS hl
  have hx := cx.1
  have hb := cx.2.1
  have hl : lv_has ls 4 [(0, .ref o), (1, .int (nI k)), (2, .int what)] := hl
  obtain ⟨h0, h1, h2, h3, h4, h5, h6, h7, h8⟩ := id hR
  have hlt := sumN_lt (f := sz) hk
  have hsN : stN sz k < 8200 := by unfold stN; omega
  have hF : Fr [o] w w := Fr.rf
  refine lv_iload_n hx hb d_R_about_0 rfl (lv_at hl 1 rfl) ?_
  refine lv_if_lt (tgt := 19) hx hb d_R_about_1 (by decide) (fun c1 => ?_) (fun c1 => ?_)
  · exact absurd c1 (nI_pos (by omega))
  · refine lv_iload_n hx hb d_R_about_4 rfl (lv_at hl 1 rfl) ?_
    refine lv_bipush (v := 15) hx hb d_R_about_5 (by decide) ?_
    refine lv_icmp_gt (tgt := 19) hx hb d_R_about_7 (by decide) (fun c7 => ?_) (fun c7 => ?_)
    · exact absurd c7 (nI_n15 hk)
    · refine lv_iload_n hx hb d_R_about_10 rfl (lv_at hl 2 rfl) ?_
      refine lv_if_lt (tgt := 19) hx hb d_R_about_11 (by decide) (fun c11 => ?_) (fun c11 => ?_)
      · exact absurd c11 (whatB_of hwh).1
      · refine lv_iload_n hx hb d_R_about_14 rfl (lv_at hl 2 rfl) ?_
        refine lv_iconst (v := 5) hx hb d_R_about_15 (by decide) ?_
        refine lv_icmp_le (tgt := 25) hx hb d_R_about_16 (by decide) (fun c16 => ?_) (fun c16 => ?_)
        · refine lv_aload_n hx hb d_R_about_25 rfl (lv_at hl 0 rfl) ?_
          refine lv_iconst (v := 0) hx hb d_R_about_26 (by decide) ?_
          refine pf_R_51 cx hZ hS ho (Nat.le_of_ble_eq_true rfl) d_R_about_27 (fun w_1 H locs hw_2 hZ hS => ?_)
          have hk_3 : w_1 (A 0) = some (.inl (G.2 0, 8200, .inl (F 0))) := up_ne hw_2 h0 (z_ne h0 ho (by simp))
          have hk_4 : w_1 (A 1) = some (.inl (G.2 0, 8200, .inl (F 1))) := up_ne hw_2 h1 (z_ne h1 ho (by simp))
          have hk_5 : w_1 (A 2) = some (.inl (G.2 0, 8200, .inl (F 2))) := up_ne hw_2 h2 (z_ne h2 ho (by simp))
          have hk_6 : w_1 (A 3) = some (.inl (G.2 0, 8200, .inl (F 3))) := up_ne hw_2 h3 (z_ne h3 ho (by simp))
          have hk_7 : w_1 (A 4) = some (.inl (G.2 0, 8200, .inl (F 4))) := up_ne hw_2 h4 (z_ne h4 ho (by simp))
          have hk_8 : w_1 (A 5) = some (.inl (G.2 0, 8200, .inl (F 5))) := up_ne hw_2 h5 (z_ne h5 ho (by simp))
          have hk_9 : w_1 (A 6) = some (.inl (G.2 0, 8200, .inl (F 6))) := up_ne hw_2 h6 (z_ne h6 ho (by simp))
          have hk_10 : w_1 (A 7) = some (.inl (G.2 1, 8200, .inr (.inl M))) := up_ne hw_2 h7 (z_ne h7 ho (by simp))
          have hk_11 : w_1 (A 8) = some (.inl (G.2 0, 8200, .inl (F 8))) := up_ne hw_2 h8 (z_ne h8 ho (by simp))
          have hk_12 : w_1 (A 11) = some (.inl (G.2 0, 16, .inl Z)) := up_ne hw_2 h11 (z_ne h11 ho (by simp))
          have hF := hF.put hw_2 (Or.inl (by simp))
          have hc_13 : w_1 o = some (.inr (6, [.int 0, .ref (A 0), .ref (A 1), .ref (A 2), .ref (A 3), .ref (A 4), .ref (A 5), .ref (A 6), .ref (A 7), .ref (A 8), .int (S 1), .ref (A 9), .ref (A 10), .int (S 2), .ref (A 11), .long (L 0), .long (L 1), .long (L 2), .long (L 3), .ref (A 12), .long (L 4)])) := up_self hw_2
          refine lv_aload_n hx hb d_R_about_30 rfl (lv_at hl 0 rfl) ?_
          refine gf_R_45 cx hZ hc_13 rfl d_R_about_31 ?_
          refine lv_iload_n hx hb d_R_about_34 rfl (lv_at hl 1 rfl) ?_
          refine ld_i cx hZ hk_12 (vp_in_nI hk (by omega)) d_R_about_35 ?_
          rw [show ((Z (nI k).toNatClampNeg) : Int32) = nI (sz k) from by rw [nI_clamp (by omega)]; exact hsz k hk]
          refine lv_if_ne (tgt := 41) hx hb d_R_about_36 (by decide) (fun c36 => ?_) (fun c36 => ?_)
          · refine lv_aload_n hx hb d_R_about_41 rfl (lv_at hl 0 rfl) ?_
            refine lv_iload_n hx hb d_R_about_42 rfl (lv_at hl 1 rfl) ?_
            refine iv_R_122 (As := [.int (nI k)]) (rest := []) cx (r_startN l G n0 e0 w_1 o A (upd S 0 0) L hc_13 Z hk_12 sz hsz k (by omega)) hc_13 ⟨(Nat.le_of_ble_eq_true rfl), (Nat.le_of_ble_eq_true rfl)⟩ ⟨(Nat.le_of_ble_eq_true rfl), (Nat.le_of_ble_eq_true rfl)⟩ rfl hl.1 rfl (Nat.le_of_ble_eq_true rfl) d_R_about_43 hZ hS (fun v w_14 H locs hp_15 hZ hS => ?_)
            obtain ⟨rfl, hq⟩ := hp_15
            subst w_14
            refine W.eq (g2 := F0 m 46 ls [.int (nI (stN sz k))]) rfl ?_
            refine lv_istore_n (lv' := [(3, .int (nI (stN sz k))), (0, .ref o), (1, .int (nI k)), (2, .int what)]) hx hb d_R_about_46 rfl hl (by decide) rfl (fun ls hl => ?_)
            refine lv_iload_n hx hb d_R_about_47 rfl (lv_at hl 3 rfl) ?_
            refine lv_if_ne (tgt := 62) hx hb d_R_about_48 (by decide) (fun c48 => ?_) (fun c48 => ?_)
            · refine lv_iload_n hx hb d_R_about_62 rfl (lv_at hl 3 rfl) ?_
              refine lv_iconst (v := 1) hx hb d_R_about_63 (by decide) ?_
              refine lv_icmp_ne (tgt := 76) hx hb d_R_about_64 (by decide) (fun c64 => ?_) (fun c64 => ?_)
              · refine lv_iload_n hx hb d_R_about_76 rfl (lv_at hl 3 rfl) ?_
                refine lv_iconst (v := 2) hx hb d_R_about_77 (by decide) ?_
                refine lv_icmp_ne (tgt := 90) hx hb d_R_about_78 (by decide) (fun c78 => ?_) (fun c78 => ?_)
                · refine lv_iload_n hx hb d_R_about_90 rfl (lv_at hl 3 rfl) ?_
                  refine lv_iconst (v := 3) hx hb d_R_about_91 (by decide) ?_
                  refine lv_icmp_ne (tgt := 104) hx hb d_R_about_92 (by decide) (fun c92 => ?_) (fun c92 => ?_)
                  · refine lv_iload_n hx hb d_R_about_104 rfl (lv_at hl 3 rfl) ?_
                    refine lv_iconst (v := 4) hx hb d_R_about_105 (by decide) ?_
                    refine lv_icmp_ne (tgt := 117) hx hb d_R_about_106 (by decide) (fun c106 => ?_) (fun c106 => ?_)
                    · refine lv_aload_n hx hb d_R_about_117 rfl (lv_at hl 1 rfl) ?_
                      refine gf_R_45 cx hZ hc_13 rfl d_R_about_118 ?_
                      refine lv_iload_n hx hb d_R_about_121 rfl (lv_at hl 2 rfl) ?_
                      refine ld_i cx hZ hk_12 (vp_in_nI hk (by omega)) d_R_about_122 ?_
                      rw [show ((Z (nI k).toNatClampNeg) : Int32) = nI (sz k) from by rw [nI_clamp (by omega)]; exact hsz k hk]
                      refine lv_iconst (v := 1) hx hb d_R_about_123 (by decide) ?_
                      refine lv_isub hx hb d_R_about_124 ?_
                      exact z_iret cx.1 cx.2.1 cx.rt cx.lk hS hZ ⟨(Nat.le_of_ble_eq_true rfl), (Nat.le_of_ble_eq_true rfl)⟩ d_R_about_125 (⟨by simp [aboutR, c48, c64, c78, c92, c106], hc_13, hF⟩)
                    · refine lv_aload_n hx hb d_R_about_109 rfl (lv_at hl 1 rfl) ?_
                      refine lv_iload_n hx hb d_R_about_110 rfl (lv_at hl 0 rfl) ?_
                      refine iv_R_160 (As := [.int (nI (stN sz k))]) (rest := []) cx (r_items l G n0 e0 w_1 o A (upd S 0 0) L hc_13 F hk_11 ps n hps hpe (stN sz k) hat hat2) hc_13 ⟨(Nat.le_of_ble_eq_true rfl), (Nat.le_of_ble_eq_true rfl)⟩ ⟨(Nat.le_of_ble_eq_true rfl), (Nat.le_of_ble_eq_true rfl)⟩ rfl hl.1 rfl (Nat.le_of_ble_eq_true rfl) d_R_about_111 hZ hS (fun v w_16 H locs hp_17 hZ hS => ?_)
                      obtain ⟨rfl, hq⟩ := hp_17
                      subst w_16
                      refine W.eq (g2 := F0 m 114 ls [.int (nI n)]) rfl ?_
                      refine lv_goto (tgt := 125) hx hb d_R_about_114 (by decide) ?_
                      exact z_iret cx.1 cx.2.1 cx.rt cx.lk hS hZ ⟨(Nat.le_of_ble_eq_true rfl), (Nat.le_of_ble_eq_true rfl)⟩ d_R_about_125 (⟨by simp [aboutR, c48, c64, c78, c92, c106], hc_13, hF⟩)
                  · refine lv_aload_n hx hb d_R_about_95 rfl (lv_at hl 1 rfl) ?_
                    refine gf_R_19 cx hZ hc_13 rfl d_R_about_96 ?_
                    refine lv_iload_n hx hb d_R_about_99 rfl (lv_at hl 0 rfl) ?_
                    refine ld_i cx hZ hk_6 (vp_in_nI hsN (by omega)) d_R_about_100 ?_
                    rw [show (((F 3) (nI (stN sz k)).toNatClampNeg) : Int32) = F 3 (stN sz k) from by rw [nI_clamp (by omega)]]
                    refine lv_goto (tgt := 125) hx hb d_R_about_101 (by decide) ?_
                    exact z_iret cx.1 cx.2.1 cx.rt cx.lk hS hZ ⟨(Nat.le_of_ble_eq_true rfl), (Nat.le_of_ble_eq_true rfl)⟩ d_R_about_125 (⟨by simp [aboutR, c48, c64, c78, c92], hc_13, hF⟩)
                · refine lv_aload_n hx hb d_R_about_81 rfl (lv_at hl 1 rfl) ?_
                  refine gf_R_16 cx hZ hc_13 rfl d_R_about_82 ?_
                  refine lv_iload_n hx hb d_R_about_85 rfl (lv_at hl 0 rfl) ?_
                  refine ld_i cx hZ hk_5 (vp_in_nI hsN (by omega)) d_R_about_86 ?_
                  rw [show (((F 2) (nI (stN sz k)).toNatClampNeg) : Int32) = F 2 (stN sz k) from by rw [nI_clamp (by omega)]]
                  refine lv_goto (tgt := 125) hx hb d_R_about_87 (by decide) ?_
                  exact z_iret cx.1 cx.2.1 cx.rt cx.lk hS hZ ⟨(Nat.le_of_ble_eq_true rfl), (Nat.le_of_ble_eq_true rfl)⟩ d_R_about_125 (⟨by simp [aboutR, c48, c64, c78], hc_13, hF⟩)
              · refine lv_aload_n hx hb d_R_about_67 rfl (lv_at hl 1 rfl) ?_
                refine gf_R_13 cx hZ hc_13 rfl d_R_about_68 ?_
                refine lv_iload_n hx hb d_R_about_71 rfl (lv_at hl 0 rfl) ?_
                refine ld_i cx hZ hk_4 (vp_in_nI hsN (by omega)) d_R_about_72 ?_
                rw [show (((F 1) (nI (stN sz k)).toNatClampNeg) : Int32) = F 1 (stN sz k) from by rw [nI_clamp (by omega)]]
                refine lv_goto (tgt := 125) hx hb d_R_about_73 (by decide) ?_
                exact z_iret cx.1 cx.2.1 cx.rt cx.lk hS hZ ⟨(Nat.le_of_ble_eq_true rfl), (Nat.le_of_ble_eq_true rfl)⟩ d_R_about_125 (⟨by simp [aboutR, c48, c64], hc_13, hF⟩)
            · refine lv_aload_n hx hb d_R_about_51 rfl (lv_at hl 1 rfl) ?_
              refine gf_R_7 cx hZ hc_13 rfl d_R_about_52 ?_
              refine lv_iload_n hx hb d_R_about_55 rfl (lv_at hl 0 rfl) ?_
              refine ld_i cx hZ hk_3 (vp_in_nI hsN (by omega)) d_R_about_56 ?_
              rw [show (((F 0) (nI (stN sz k)).toNatClampNeg) : Int32) = F 0 (stN sz k) from by rw [nI_clamp (by omega)]]
              refine lv_iconst (v := 1) hx hb d_R_about_57 (by decide) ?_
              refine lv_isub hx hb d_R_about_58 ?_
              refine lv_goto (tgt := 125) hx hb d_R_about_59 (by decide) ?_
              exact z_iret cx.1 cx.2.1 cx.rt cx.lk hS hZ ⟨(Nat.le_of_ble_eq_true rfl), (Nat.le_of_ble_eq_true rfl)⟩ d_R_about_125 (⟨by simp [aboutR, c48], hc_13, hF⟩)
          · exact absurd c36 (by rw [show (0 : Int32) = nI 0 from by decide, nI_eq (by omega) (by omega)]; exact hz0)
        · exact absurd (whatB_of hwh).2 c16
set_option maxHeartbeats 4000000 in
set_option maxRecDepth 100000 in
theorem r_item_out (l : Launch) (G : zG) (n0 e0 : Nat) (w : zw) (o : Nat) (A : Nat → Nat) (S : Nat → Int32) (L : Nat → Int64) (ho : w o = some (.inr (6, fR A S L))) (kk : Int32) (hkk : regB kk = false) (ii what : Int32)  : Ct l G n0 e0 y_R_item b_R_item 8 (Option.some FieldType.int) ({ frames := 1, cells := 0, slots := 0, locals := 25 }) [.ref o, .int kk, .int ii, .int what] w (fun v w1 => v = some (.int 0) ∧ w1 o = some (.inr (6, fR A (upd S 0 1) L)) ∧ Fr [o] w w1) := by
  refine z_ct (by decide) (Nat.le_of_ble_eq_true rfl) ?_
  intro p e s m below meth c ls cx hnm hZ hS hl
  have hx := cx.1
  have hb := cx.2.1
  have hl : lv_has ls 8 [(0, .ref o), (1, .int kk), (2, .int ii), (3, .int what)] := hl
  have hF : Fr [o] w w := Fr.rf
  refine lv_aload_n hx hb d_R_item_0 rfl (lv_at hl 0 rfl) ?_
  refine lv_iload_n hx hb d_R_item_1 rfl (lv_at hl 1 rfl) ?_
  refine iv_R_157 (As := [.int kk]) (rest := []) cx (r_isFull_out l G n0 e0 w o A S L ho kk hkk) ho ⟨(Nat.le_of_ble_eq_true rfl), (Nat.le_of_ble_eq_true rfl)⟩ ⟨(Nat.le_of_ble_eq_true rfl), (Nat.le_of_ble_eq_true rfl)⟩ rfl hl.1 rfl (Nat.le_of_ble_eq_true rfl) d_R_item_2 hZ hS (fun v w_1 H locs hp_2 hZ hS => ?_)
  obtain ⟨rfl, hq⟩ := hp_2
  subst w_1
  refine W.eq (g2 := F0 m 5 ls [.int 0]) rfl ?_
  refine lv_if_eq (tgt := 21) hx hb d_R_item_5 (by decide) (fun c5 => ?_) (fun c5 => ?_)
  · refine lv_aload_n hx hb d_R_item_21 rfl (lv_at hl 0 rfl) ?_
    refine lv_iconst (v := 1) hx hb d_R_item_22 (by decide) ?_
    refine iv_R_130 (As := [.int 1]) (rest := []) cx (r_fails l G n0 e0 w o A S L ho 1) ho ⟨(Nat.le_of_ble_eq_true rfl), (Nat.le_of_ble_eq_true rfl)⟩ ⟨(Nat.le_of_ble_eq_true rfl), (Nat.le_of_ble_eq_true rfl)⟩ rfl hl.1 rfl (Nat.le_of_ble_eq_true rfl) d_R_item_23 hZ hS (fun v w_3 H locs hp_4 hZ hS => ?_)
    obtain ⟨rfl, hc_5, hf_6⟩ := hp_4
    have hF := hF.call hf_6 (List.forall_mem_cons.mpr ⟨Or.inl (by simp), fun _ h => absurd h List.not_mem_nil⟩)
    refine W.eq (g2 := F0 m 26 ls [.int 0]) rfl ?_
    exact z_iret cx.1 cx.2.1 cx.rt cx.lk hS hZ ⟨(Nat.le_of_ble_eq_true rfl), (Nat.le_of_ble_eq_true rfl)⟩ d_R_item_26 (⟨rfl, hc_5, hF⟩)
  · exact absurd c5 (by decide)
set_option maxHeartbeats 4000000 in
set_option maxRecDepth 100000 in
theorem r_item_void (l : Launch) (G : zG) (n0 e0 : Nat) (w : zw) (o : Nat) (A : Nat → Nat) (S : Nat → Int32) (L : Nat → Int64) (ho : w o = some (.inr (6, fR A S L))) (Z : Nat → Int32) (h11 : w (A 11) = some (.inl (G.2 0, 16, .inl Z))) (sz : Nat → Nat) (hsz : ∀ k, k < 16 → Z k = nI (sz k)) (hsum : sumN sz 16 ≤ 4000) (k : Nat) (hk : k < 16) (hz0 : sz k = 0) (ii what : Int32)  : Ct l G n0 e0 y_R_item b_R_item 8 (Option.some FieldType.int) ({ frames := 1, cells := 0, slots := 0, locals := 25 }) [.ref o, .int (nI k), .int ii, .int what] w (fun v w1 => v = some (.int 0) ∧ w1 o = some (.inr (6, fR A (upd S 0 1) L)) ∧ Fr [o] w w1) := by
  refine z_ct (by decide) (Nat.le_of_ble_eq_true rfl) ?_
  intro p e s m below meth c ls cx hnm hZ hS hl
  have hx := cx.1
  have hb := cx.2.1
  have hl : lv_has ls 8 [(0, .ref o), (1, .int (nI k)), (2, .int ii), (3, .int what)] := hl
  have hF : Fr [o] w w := Fr.rf
  refine lv_aload_n hx hb d_R_item_0 rfl (lv_at hl 0 rfl) ?_
  refine lv_iload_n hx hb d_R_item_1 rfl (lv_at hl 1 rfl) ?_
  refine iv_R_157 (As := [.int (nI k)]) (rest := []) cx (r_isFull_in l G n0 e0 w o A S L ho (fun _ => Z) h11 k hk) ho ⟨(Nat.le_of_ble_eq_true rfl), (Nat.le_of_ble_eq_true rfl)⟩ ⟨(Nat.le_of_ble_eq_true rfl), (Nat.le_of_ble_eq_true rfl)⟩ rfl hl.1 rfl (Nat.le_of_ble_eq_true rfl) d_R_item_2 hZ hS (fun v w_1 H locs hp_2 hZ hS => ?_)
  obtain ⟨rfl, hq⟩ := hp_2
  subst w_1
  refine W.eq (g2 := F0 m 5 ls [.int (zi (!decide (Z k ≤ 0)))]) rfl ?_
  refine lv_if_eq (tgt := 21) hx hb d_R_item_5 (by decide) (fun c5 => ?_) (fun c5 => ?_)
  · refine lv_aload_n hx hb d_R_item_21 rfl (lv_at hl 0 rfl) ?_
    refine lv_iconst (v := 1) hx hb d_R_item_22 (by decide) ?_
    refine iv_R_130 (As := [.int 1]) (rest := []) cx (r_fails l G n0 e0 w o A S L ho 1) ho ⟨(Nat.le_of_ble_eq_true rfl), (Nat.le_of_ble_eq_true rfl)⟩ ⟨(Nat.le_of_ble_eq_true rfl), (Nat.le_of_ble_eq_true rfl)⟩ rfl hl.1 rfl (Nat.le_of_ble_eq_true rfl) d_R_item_23 hZ hS (fun v w_3 H locs hp_4 hZ hS => ?_)
    obtain ⟨rfl, hc_5, hf_6⟩ := hp_4
    have hk_7 : w_3 (A 11) = some (.inl (G.2 0, 16, .inl Z)) := hf_6.keep h11 (by simp only [List.mem_cons, List.not_mem_nil, or_false, not_or]; exact z_ne h11 ho (by simp))
    have hF := hF.call hf_6 (List.forall_mem_cons.mpr ⟨Or.inl (by simp), fun _ h => absurd h List.not_mem_nil⟩)
    refine W.eq (g2 := F0 m 26 ls [.int 0]) rfl ?_
    exact z_iret cx.1 cx.2.1 cx.rt cx.lk hS hZ ⟨(Nat.le_of_ble_eq_true rfl), (Nat.le_of_ble_eq_true rfl)⟩ d_R_item_26 (⟨rfl, hc_5, hF⟩)
  · exact absurd ((zi_n0 _).mp c5) (by rw [full_nI (hsz k hk) (by omega)]; simp [hz0])
set_option maxHeartbeats 4000000 in
set_option maxRecDepth 100000 in
theorem r_item_bad (l : Launch) (G : zG) (n0 e0 : Nat) (w : zw) (o : Nat) (A : Nat → Nat) (S : Nat → Int32) (L : Nat → Int64) (ho : w o = some (.inr (6, fR A S L))) (F : Nat → Nat → Int32) (M : Nat → Int64) (hR : RW G w A F M) (hA : ∀ i j, i < 13 → j < 13 → i ≠ j → A i ≠ A j) (Z : Nat → Int32) (h11 : w (A 11) = some (.inl (G.2 0, 16, .inl Z))) (sz : Nat → Nat) (hsz : ∀ k, k < 16 → Z k = nI (sz k)) (hsum : sumN sz 16 ≤ 4000) (k : Nat) (hk : k < 16) (hz0 : ¬ sz k = 0) (ps : Nat → Nat) (n : Nat) (hps : SP (F 8) ps n) (hpe : ps n ≤ 8200) (hat : stN sz k + 1 = ps 0) (hat2 : F 8 (stN sz k) = nI (ps n - stN sz k)) (ii what : Int32) (hbad : ii < 0 ∨ whatB what = false ∨ ¬ ii < nI n)  : Ct l G n0 e0 y_R_item b_R_item 8 (Option.some FieldType.int) ({ frames := 1, cells := 0, slots := 0, locals := 25 }) [.ref o, .int (nI k), .int ii, .int what] w (fun v w1 => v = some (.int 0) ∧ w1 o = some (.inr (6, fR A (upd S 0 1) L)) ∧ Fr [o] w w1) := by
  refine z_ct (by decide) (Nat.le_of_ble_eq_true rfl) ?_
  intro p e s m below meth c ls cx hnm hZ hS hl
  have hx := cx.1
  have hb := cx.2.1
  have hl : lv_has ls 8 [(0, .ref o), (1, .int (nI k)), (2, .int ii), (3, .int what)] := hl
  obtain ⟨h0, h1, h2, h3, h4, h5, h6, h7, h8⟩ := id hR
  have hlt := sumN_lt (f := sz) hk
  have hF : Fr [o] w w := Fr.rf
  refine lv_aload_n hx hb d_R_item_0 rfl (lv_at hl 0 rfl) ?_
  refine lv_iload_n hx hb d_R_item_1 rfl (lv_at hl 1 rfl) ?_
  refine iv_R_157 (As := [.int (nI k)]) (rest := []) cx (r_isFull_in l G n0 e0 w o A S L ho (fun _ => Z) h11 k hk) ho ⟨(Nat.le_of_ble_eq_true rfl), (Nat.le_of_ble_eq_true rfl)⟩ ⟨(Nat.le_of_ble_eq_true rfl), (Nat.le_of_ble_eq_true rfl)⟩ rfl hl.1 rfl (Nat.le_of_ble_eq_true rfl) d_R_item_2 hZ hS (fun v w_1 H locs hp_2 hZ hS => ?_)
  obtain ⟨rfl, hq⟩ := hp_2
  subst w_1
  refine W.eq (g2 := F0 m 5 ls [.int (zi (!decide (Z k ≤ 0)))]) rfl ?_
  refine lv_if_eq (tgt := 21) hx hb d_R_item_5 (by decide) (fun c5 => ?_) (fun c5 => ?_)
  · exact absurd ((zi_0 _).mp c5) (by rw [full_nI (hsz k hk) (by omega)]; simp [hz0])
  · refine lv_iload_n hx hb d_R_item_8 rfl (lv_at hl 2 rfl) ?_
    refine lv_if_lt (tgt := 21) hx hb d_R_item_9 (by decide) (fun c9 => ?_) (fun c9 => ?_)
    · refine lv_aload_n hx hb d_R_item_21 rfl (lv_at hl 0 rfl) ?_
      refine lv_iconst (v := 1) hx hb d_R_item_22 (by decide) ?_
      refine iv_R_130 (As := [.int 1]) (rest := []) cx (r_fails l G n0 e0 w o A S L ho 1) ho ⟨(Nat.le_of_ble_eq_true rfl), (Nat.le_of_ble_eq_true rfl)⟩ ⟨(Nat.le_of_ble_eq_true rfl), (Nat.le_of_ble_eq_true rfl)⟩ rfl hl.1 rfl (Nat.le_of_ble_eq_true rfl) d_R_item_23 hZ hS (fun v w_3 H locs hp_4 hZ hS => ?_)
      obtain ⟨rfl, hc_5, hf_6⟩ := hp_4
      have hk_7 : w_3 (A 0) = some (.inl (G.2 0, 8200, .inl (F 0))) := hf_6.keep h0 (by simp only [List.mem_cons, List.not_mem_nil, or_false, not_or]; exact z_ne h0 ho (by simp))
      have hk_8 : w_3 (A 1) = some (.inl (G.2 0, 8200, .inl (F 1))) := hf_6.keep h1 (by simp only [List.mem_cons, List.not_mem_nil, or_false, not_or]; exact z_ne h1 ho (by simp))
      have hk_9 : w_3 (A 2) = some (.inl (G.2 0, 8200, .inl (F 2))) := hf_6.keep h2 (by simp only [List.mem_cons, List.not_mem_nil, or_false, not_or]; exact z_ne h2 ho (by simp))
      have hk_10 : w_3 (A 3) = some (.inl (G.2 0, 8200, .inl (F 3))) := hf_6.keep h3 (by simp only [List.mem_cons, List.not_mem_nil, or_false, not_or]; exact z_ne h3 ho (by simp))
      have hk_11 : w_3 (A 4) = some (.inl (G.2 0, 8200, .inl (F 4))) := hf_6.keep h4 (by simp only [List.mem_cons, List.not_mem_nil, or_false, not_or]; exact z_ne h4 ho (by simp))
      have hk_12 : w_3 (A 5) = some (.inl (G.2 0, 8200, .inl (F 5))) := hf_6.keep h5 (by simp only [List.mem_cons, List.not_mem_nil, or_false, not_or]; exact z_ne h5 ho (by simp))
      have hk_13 : w_3 (A 6) = some (.inl (G.2 0, 8200, .inl (F 6))) := hf_6.keep h6 (by simp only [List.mem_cons, List.not_mem_nil, or_false, not_or]; exact z_ne h6 ho (by simp))
      have hk_14 : w_3 (A 7) = some (.inl (G.2 1, 8200, .inr (.inl M))) := hf_6.keep h7 (by simp only [List.mem_cons, List.not_mem_nil, or_false, not_or]; exact z_ne h7 ho (by simp))
      have hk_15 : w_3 (A 8) = some (.inl (G.2 0, 8200, .inl (F 8))) := hf_6.keep h8 (by simp only [List.mem_cons, List.not_mem_nil, or_false, not_or]; exact z_ne h8 ho (by simp))
      have hk_16 : w_3 (A 11) = some (.inl (G.2 0, 16, .inl Z)) := hf_6.keep h11 (by simp only [List.mem_cons, List.not_mem_nil, or_false, not_or]; exact z_ne h11 ho (by simp))
      have hF := hF.call hf_6 (List.forall_mem_cons.mpr ⟨Or.inl (by simp), fun _ h => absurd h List.not_mem_nil⟩)
      refine W.eq (g2 := F0 m 26 ls [.int 0]) rfl ?_
      exact z_iret cx.1 cx.2.1 cx.rt cx.lk hS hZ ⟨(Nat.le_of_ble_eq_true rfl), (Nat.le_of_ble_eq_true rfl)⟩ d_R_item_26 (⟨rfl, hc_5, hF⟩)
    · refine lv_iload_n hx hb d_R_item_12 rfl (lv_at hl 3 rfl) ?_
      refine lv_if_lt (tgt := 21) hx hb d_R_item_13 (by decide) (fun c13 => ?_) (fun c13 => ?_)
      · refine lv_aload_n hx hb d_R_item_21 rfl (lv_at hl 0 rfl) ?_
        refine lv_iconst (v := 1) hx hb d_R_item_22 (by decide) ?_
        refine iv_R_130 (As := [.int 1]) (rest := []) cx (r_fails l G n0 e0 w o A S L ho 1) ho ⟨(Nat.le_of_ble_eq_true rfl), (Nat.le_of_ble_eq_true rfl)⟩ ⟨(Nat.le_of_ble_eq_true rfl), (Nat.le_of_ble_eq_true rfl)⟩ rfl hl.1 rfl (Nat.le_of_ble_eq_true rfl) d_R_item_23 hZ hS (fun v w_17 H locs hp_18 hZ hS => ?_)
        obtain ⟨rfl, hc_19, hf_20⟩ := hp_18
        have hk_21 : w_17 (A 0) = some (.inl (G.2 0, 8200, .inl (F 0))) := hf_20.keep h0 (by simp only [List.mem_cons, List.not_mem_nil, or_false, not_or]; exact z_ne h0 ho (by simp))
        have hk_22 : w_17 (A 1) = some (.inl (G.2 0, 8200, .inl (F 1))) := hf_20.keep h1 (by simp only [List.mem_cons, List.not_mem_nil, or_false, not_or]; exact z_ne h1 ho (by simp))
        have hk_23 : w_17 (A 2) = some (.inl (G.2 0, 8200, .inl (F 2))) := hf_20.keep h2 (by simp only [List.mem_cons, List.not_mem_nil, or_false, not_or]; exact z_ne h2 ho (by simp))
        have hk_24 : w_17 (A 3) = some (.inl (G.2 0, 8200, .inl (F 3))) := hf_20.keep h3 (by simp only [List.mem_cons, List.not_mem_nil, or_false, not_or]; exact z_ne h3 ho (by simp))
        have hk_25 : w_17 (A 4) = some (.inl (G.2 0, 8200, .inl (F 4))) := hf_20.keep h4 (by simp only [List.mem_cons, List.not_mem_nil, or_false, not_or]; exact z_ne h4 ho (by simp))
        have hk_26 : w_17 (A 5) = some (.inl (G.2 0, 8200, .inl (F 5))) := hf_20.keep h5 (by simp only [List.mem_cons, List.not_mem_nil, or_false, not_or]; exact z_ne h5 ho (by simp))
        have hk_27 : w_17 (A 6) = some (.inl (G.2 0, 8200, .inl (F 6))) := hf_20.keep h6 (by simp only [List.mem_cons, List.not_mem_nil, or_false, not_or]; exact z_ne h6 ho (by simp))
        have hk_28 : w_17 (A 7) = some (.inl (G.2 1, 8200, .inr (.inl M))) := hf_20.keep h7 (by simp only [List.mem_cons, List.not_mem_nil, or_false, not_or]; exact z_ne h7 ho (by simp))
        have hk_29 : w_17 (A 8) = some (.inl (G.2 0, 8200, .inl (F 8))) := hf_20.keep h8 (by simp only [List.mem_cons, List.not_mem_nil, or_false, not_or]; exact z_ne h8 ho (by simp))
        have hk_30 : w_17 (A 11) = some (.inl (G.2 0, 16, .inl Z)) := hf_20.keep h11 (by simp only [List.mem_cons, List.not_mem_nil, or_false, not_or]; exact z_ne h11 ho (by simp))
        have hF := hF.call hf_20 (List.forall_mem_cons.mpr ⟨Or.inl (by simp), fun _ h => absurd h List.not_mem_nil⟩)
        refine W.eq (g2 := F0 m 26 ls [.int 0]) rfl ?_
        exact z_iret cx.1 cx.2.1 cx.rt cx.lk hS hZ ⟨(Nat.le_of_ble_eq_true rfl), (Nat.le_of_ble_eq_true rfl)⟩ d_R_item_26 (⟨rfl, hc_19, hF⟩)
      · refine lv_iload_n hx hb d_R_item_16 rfl (lv_at hl 3 rfl) ?_
        refine lv_iconst (v := 5) hx hb d_R_item_17 (by decide) ?_
        refine lv_icmp_le (tgt := 27) hx hb d_R_item_18 (by decide) (fun c18 => ?_) (fun c18 => ?_)
        · refine lv_aload_n hx hb d_R_item_27 rfl (lv_at hl 0 rfl) ?_
          refine lv_iload_n hx hb d_R_item_28 rfl (lv_at hl 1 rfl) ?_
          refine iv_R_122 (As := [.int (nI k)]) (rest := []) cx (r_startN l G n0 e0 w o A S L ho Z h11 sz hsz k (by omega)) ho ⟨(Nat.le_of_ble_eq_true rfl), (Nat.le_of_ble_eq_true rfl)⟩ ⟨(Nat.le_of_ble_eq_true rfl), (Nat.le_of_ble_eq_true rfl)⟩ rfl hl.1 rfl (Nat.le_of_ble_eq_true rfl) d_R_item_29 hZ hS (fun v w_31 H locs hp_32 hZ hS => ?_)
          obtain ⟨rfl, hq⟩ := hp_32
          subst w_31
          refine W.eq (g2 := F0 m 32 ls [.int (nI (stN sz k))]) rfl ?_
          refine lv_istore (lv' := [(4, .int (nI (stN sz k))), (0, .ref o), (1, .int (nI k)), (2, .int ii), (3, .int what)]) hx hb d_R_item_32 hl (by decide) rfl (fun ls hl => ?_)
          refine lv_iload_n hx hb d_R_item_34 rfl (lv_at hl 3 rfl) ?_
          refine lv_aload_n hx hb d_R_item_35 rfl (lv_at hl 1 rfl) ?_
          refine lv_iload hx hb d_R_item_36 (lv_at hl 0 rfl) ?_
          refine iv_R_160 (As := [.int (nI (stN sz k))]) (rest := [.int ii]) cx (r_items l G n0 e0 w o A S L ho F h8 ps n hps hpe (stN sz k) hat hat2) ho ⟨(Nat.le_of_ble_eq_true rfl), (Nat.le_of_ble_eq_true rfl)⟩ ⟨(Nat.le_of_ble_eq_true rfl), (Nat.le_of_ble_eq_true rfl)⟩ rfl hl.1 rfl (Nat.le_of_ble_eq_true rfl) d_R_item_38 hZ hS (fun v w_33 H locs hp_34 hZ hS => ?_)
          obtain ⟨rfl, hq⟩ := hp_34
          subst w_33
          refine W.eq (g2 := F0 m 41 ls [.int (nI n), .int ii]) rfl ?_
          refine lv_icmp_lt (tgt := 50) hx hb d_R_item_41 (by decide) (fun c41 => ?_) (fun c41 => ?_)
          · exact absurd hbad (by rw [whatB_in c13 c18]; simp [c9, c41])
          · refine lv_aload_n hx hb d_R_item_44 rfl (lv_at hl 1 rfl) ?_
            refine lv_iconst (v := 1) hx hb d_R_item_45 (by decide) ?_
            refine iv_R_130 (As := [.int 1]) (rest := []) cx (r_fails l G n0 e0 w o A S L ho 1) ho ⟨(Nat.le_of_ble_eq_true rfl), (Nat.le_of_ble_eq_true rfl)⟩ ⟨(Nat.le_of_ble_eq_true rfl), (Nat.le_of_ble_eq_true rfl)⟩ rfl hl.1 rfl (Nat.le_of_ble_eq_true rfl) d_R_item_46 hZ hS (fun v w_35 H locs hp_36 hZ hS => ?_)
            obtain ⟨rfl, hc_37, hf_38⟩ := hp_36
            have hk_39 : w_35 (A 0) = some (.inl (G.2 0, 8200, .inl (F 0))) := hf_38.keep h0 (by simp only [List.mem_cons, List.not_mem_nil, or_false, not_or]; exact z_ne h0 ho (by simp))
            have hk_40 : w_35 (A 1) = some (.inl (G.2 0, 8200, .inl (F 1))) := hf_38.keep h1 (by simp only [List.mem_cons, List.not_mem_nil, or_false, not_or]; exact z_ne h1 ho (by simp))
            have hk_41 : w_35 (A 2) = some (.inl (G.2 0, 8200, .inl (F 2))) := hf_38.keep h2 (by simp only [List.mem_cons, List.not_mem_nil, or_false, not_or]; exact z_ne h2 ho (by simp))
            have hk_42 : w_35 (A 3) = some (.inl (G.2 0, 8200, .inl (F 3))) := hf_38.keep h3 (by simp only [List.mem_cons, List.not_mem_nil, or_false, not_or]; exact z_ne h3 ho (by simp))
            have hk_43 : w_35 (A 4) = some (.inl (G.2 0, 8200, .inl (F 4))) := hf_38.keep h4 (by simp only [List.mem_cons, List.not_mem_nil, or_false, not_or]; exact z_ne h4 ho (by simp))
            have hk_44 : w_35 (A 5) = some (.inl (G.2 0, 8200, .inl (F 5))) := hf_38.keep h5 (by simp only [List.mem_cons, List.not_mem_nil, or_false, not_or]; exact z_ne h5 ho (by simp))
            have hk_45 : w_35 (A 6) = some (.inl (G.2 0, 8200, .inl (F 6))) := hf_38.keep h6 (by simp only [List.mem_cons, List.not_mem_nil, or_false, not_or]; exact z_ne h6 ho (by simp))
            have hk_46 : w_35 (A 7) = some (.inl (G.2 1, 8200, .inr (.inl M))) := hf_38.keep h7 (by simp only [List.mem_cons, List.not_mem_nil, or_false, not_or]; exact z_ne h7 ho (by simp))
            have hk_47 : w_35 (A 8) = some (.inl (G.2 0, 8200, .inl (F 8))) := hf_38.keep h8 (by simp only [List.mem_cons, List.not_mem_nil, or_false, not_or]; exact z_ne h8 ho (by simp))
            have hk_48 : w_35 (A 11) = some (.inl (G.2 0, 16, .inl Z)) := hf_38.keep h11 (by simp only [List.mem_cons, List.not_mem_nil, or_false, not_or]; exact z_ne h11 ho (by simp))
            have hF := hF.call hf_38 (List.forall_mem_cons.mpr ⟨Or.inl (by simp), fun _ h => absurd h List.not_mem_nil⟩)
            refine W.eq (g2 := F0 m 49 ls [.int 0]) rfl ?_
            exact z_iret cx.1 cx.2.1 cx.rt cx.lk hS hZ ⟨(Nat.le_of_ble_eq_true rfl), (Nat.le_of_ble_eq_true rfl)⟩ d_R_item_49 (⟨rfl, hc_37, hF⟩)
        · refine lv_aload_n hx hb d_R_item_21 rfl (lv_at hl 0 rfl) ?_
          refine lv_iconst (v := 1) hx hb d_R_item_22 (by decide) ?_
          refine iv_R_130 (As := [.int 1]) (rest := []) cx (r_fails l G n0 e0 w o A S L ho 1) ho ⟨(Nat.le_of_ble_eq_true rfl), (Nat.le_of_ble_eq_true rfl)⟩ ⟨(Nat.le_of_ble_eq_true rfl), (Nat.le_of_ble_eq_true rfl)⟩ rfl hl.1 rfl (Nat.le_of_ble_eq_true rfl) d_R_item_23 hZ hS (fun v w_49 H locs hp_50 hZ hS => ?_)
          obtain ⟨rfl, hc_51, hf_52⟩ := hp_50
          have hk_53 : w_49 (A 0) = some (.inl (G.2 0, 8200, .inl (F 0))) := hf_52.keep h0 (by simp only [List.mem_cons, List.not_mem_nil, or_false, not_or]; exact z_ne h0 ho (by simp))
          have hk_54 : w_49 (A 1) = some (.inl (G.2 0, 8200, .inl (F 1))) := hf_52.keep h1 (by simp only [List.mem_cons, List.not_mem_nil, or_false, not_or]; exact z_ne h1 ho (by simp))
          have hk_55 : w_49 (A 2) = some (.inl (G.2 0, 8200, .inl (F 2))) := hf_52.keep h2 (by simp only [List.mem_cons, List.not_mem_nil, or_false, not_or]; exact z_ne h2 ho (by simp))
          have hk_56 : w_49 (A 3) = some (.inl (G.2 0, 8200, .inl (F 3))) := hf_52.keep h3 (by simp only [List.mem_cons, List.not_mem_nil, or_false, not_or]; exact z_ne h3 ho (by simp))
          have hk_57 : w_49 (A 4) = some (.inl (G.2 0, 8200, .inl (F 4))) := hf_52.keep h4 (by simp only [List.mem_cons, List.not_mem_nil, or_false, not_or]; exact z_ne h4 ho (by simp))
          have hk_58 : w_49 (A 5) = some (.inl (G.2 0, 8200, .inl (F 5))) := hf_52.keep h5 (by simp only [List.mem_cons, List.not_mem_nil, or_false, not_or]; exact z_ne h5 ho (by simp))
          have hk_59 : w_49 (A 6) = some (.inl (G.2 0, 8200, .inl (F 6))) := hf_52.keep h6 (by simp only [List.mem_cons, List.not_mem_nil, or_false, not_or]; exact z_ne h6 ho (by simp))
          have hk_60 : w_49 (A 7) = some (.inl (G.2 1, 8200, .inr (.inl M))) := hf_52.keep h7 (by simp only [List.mem_cons, List.not_mem_nil, or_false, not_or]; exact z_ne h7 ho (by simp))
          have hk_61 : w_49 (A 8) = some (.inl (G.2 0, 8200, .inl (F 8))) := hf_52.keep h8 (by simp only [List.mem_cons, List.not_mem_nil, or_false, not_or]; exact z_ne h8 ho (by simp))
          have hk_62 : w_49 (A 11) = some (.inl (G.2 0, 16, .inl Z)) := hf_52.keep h11 (by simp only [List.mem_cons, List.not_mem_nil, or_false, not_or]; exact z_ne h11 ho (by simp))
          have hF := hF.call hf_52 (List.forall_mem_cons.mpr ⟨Or.inl (by simp), fun _ h => absurd h List.not_mem_nil⟩)
          refine W.eq (g2 := F0 m 26 ls [.int 0]) rfl ?_
          exact z_iret cx.1 cx.2.1 cx.rt cx.lk hS hZ ⟨(Nat.le_of_ble_eq_true rfl), (Nat.le_of_ble_eq_true rfl)⟩ d_R_item_26 (⟨rfl, hc_51, hF⟩)
set_option maxHeartbeats 4000000 in
set_option maxRecDepth 100000 in
theorem r_item (l : Launch) (G : zG) (n0 e0 : Nat) (w : zw) (o : Nat) (A : Nat → Nat) (S : Nat → Int32) (L : Nat → Int64) (ho : w o = some (.inr (6, fR A S L))) (F : Nat → Nat → Int32) (M : Nat → Int64) (hR : RW G w A F M) (hA : ∀ i j, i < 13 → j < 13 → i ≠ j → A i ≠ A j) (Z : Nat → Int32) (h11 : w (A 11) = some (.inl (G.2 0, 16, .inl Z))) (sz : Nat → Nat) (hsz : ∀ k, k < 16 → Z k = nI (sz k)) (hsum : sumN sz 16 ≤ 4000) (k : Nat) (hk : k < 16) (hz0 : ¬ sz k = 0) (ps : Nat → Nat) (n : Nat) (hps : SP (F 8) ps n) (hpe : ps n ≤ 8200) (hat : stN sz k + 1 = ps 0) (hat2 : F 8 (stN sz k) = nI (ps n - stN sz k)) (jj : Nat) (hjj : jj < n) (what : Int32) (hwh : whatB what = true)  : Ct l G n0 e0 y_R_item b_R_item 8 (Option.some FieldType.int) ({ frames := 1, cells := 0, slots := 0, locals := 25 }) [.ref o, .int (nI k), .int (nI jj), .int what] w (fun v w1 => v = some (.int (itemR F M (ps jj) what)) ∧ w1 o = some (.inr (6, fR A (upd S 0 0) L)) ∧ Fr [o] w w1) := by
  refine z_ct (by decide) (Nat.le_of_ble_eq_true rfl) ?_
  intro p e s m below meth c ls cx hnm hZ hS hl
  have hx := cx.1
  have hb := cx.2.1
  have hl : lv_has ls 8 [(0, .ref o), (1, .int (nI k)), (2, .int (nI jj)), (3, .int what)] := hl
  obtain ⟨h0, h1, h2, h3, h4, h5, h6, h7, h8⟩ := id hR
  have hlt := sumN_lt (f := sz) hk
  have hpj : ps jj < 8200 := by have := hps.lt hjj; omega
  have hnn : n < 8201 := by have := SP.ge hps; omega
  have hF : Fr [o] w w := Fr.rf
  refine lv_aload_n hx hb d_R_item_0 rfl (lv_at hl 0 rfl) ?_
  refine lv_iload_n hx hb d_R_item_1 rfl (lv_at hl 1 rfl) ?_
  refine iv_R_157 (As := [.int (nI k)]) (rest := []) cx (r_isFull_in l G n0 e0 w o A S L ho (fun _ => Z) h11 k hk) ho ⟨(Nat.le_of_ble_eq_true rfl), (Nat.le_of_ble_eq_true rfl)⟩ ⟨(Nat.le_of_ble_eq_true rfl), (Nat.le_of_ble_eq_true rfl)⟩ rfl hl.1 rfl (Nat.le_of_ble_eq_true rfl) d_R_item_2 hZ hS (fun v w_1 H locs hp_2 hZ hS => ?_)
  obtain ⟨rfl, hq⟩ := hp_2
  subst w_1
  refine W.eq (g2 := F0 m 5 ls [.int (zi (!decide (Z k ≤ 0)))]) rfl ?_
  refine lv_if_eq (tgt := 21) hx hb d_R_item_5 (by decide) (fun c5 => ?_) (fun c5 => ?_)
  · exact absurd ((zi_0 _).mp c5) (by rw [full_nI (hsz k hk) (by omega)]; simp [hz0])
  · refine lv_iload_n hx hb d_R_item_8 rfl (lv_at hl 2 rfl) ?_
    refine lv_if_lt (tgt := 21) hx hb d_R_item_9 (by decide) (fun c9 => ?_) (fun c9 => ?_)
    · exact absurd c9 (nI_pos (by omega))
    · refine lv_iload_n hx hb d_R_item_12 rfl (lv_at hl 3 rfl) ?_
      refine lv_if_lt (tgt := 21) hx hb d_R_item_13 (by decide) (fun c13 => ?_) (fun c13 => ?_)
      · exact absurd c13 (whatB_of hwh).1
      · refine lv_iload_n hx hb d_R_item_16 rfl (lv_at hl 3 rfl) ?_
        refine lv_iconst (v := 5) hx hb d_R_item_17 (by decide) ?_
        refine lv_icmp_le (tgt := 27) hx hb d_R_item_18 (by decide) (fun c18 => ?_) (fun c18 => ?_)
        · refine lv_aload_n hx hb d_R_item_27 rfl (lv_at hl 0 rfl) ?_
          refine lv_iload_n hx hb d_R_item_28 rfl (lv_at hl 1 rfl) ?_
          refine iv_R_122 (As := [.int (nI k)]) (rest := []) cx (r_startN l G n0 e0 w o A S L ho Z h11 sz hsz k (by omega)) ho ⟨(Nat.le_of_ble_eq_true rfl), (Nat.le_of_ble_eq_true rfl)⟩ ⟨(Nat.le_of_ble_eq_true rfl), (Nat.le_of_ble_eq_true rfl)⟩ rfl hl.1 rfl (Nat.le_of_ble_eq_true rfl) d_R_item_29 hZ hS (fun v w_3 H locs hp_4 hZ hS => ?_)
          obtain ⟨rfl, hq⟩ := hp_4
          subst w_3
          refine W.eq (g2 := F0 m 32 ls [.int (nI (stN sz k))]) rfl ?_
          refine lv_istore (lv' := [(4, .int (nI (stN sz k))), (0, .ref o), (1, .int (nI k)), (2, .int (nI jj)), (3, .int what)]) hx hb d_R_item_32 hl (by decide) rfl (fun ls hl => ?_)
          refine lv_iload_n hx hb d_R_item_34 rfl (lv_at hl 3 rfl) ?_
          refine lv_aload_n hx hb d_R_item_35 rfl (lv_at hl 1 rfl) ?_
          refine lv_iload hx hb d_R_item_36 (lv_at hl 0 rfl) ?_
          refine iv_R_160 (As := [.int (nI (stN sz k))]) (rest := [.int (nI jj)]) cx (r_items l G n0 e0 w o A S L ho F h8 ps n hps hpe (stN sz k) hat hat2) ho ⟨(Nat.le_of_ble_eq_true rfl), (Nat.le_of_ble_eq_true rfl)⟩ ⟨(Nat.le_of_ble_eq_true rfl), (Nat.le_of_ble_eq_true rfl)⟩ rfl hl.1 rfl (Nat.le_of_ble_eq_true rfl) d_R_item_38 hZ hS (fun v w_5 H locs hp_6 hZ hS => ?_)
          obtain ⟨rfl, hq⟩ := hp_6
          subst w_5
          refine W.eq (g2 := F0 m 41 ls [.int (nI n), .int (nI jj)]) rfl ?_
          refine lv_icmp_lt (tgt := 50) hx hb d_R_item_41 (by decide) (fun c41 => ?_) (fun c41 => ?_)
          · refine lv_aload_n hx hb d_R_item_50 rfl (lv_at hl 1 rfl) ?_
            refine lv_iconst (v := 0) hx hb d_R_item_51 (by decide) ?_
            refine pf_R_51 cx hZ hS ho (Nat.le_of_ble_eq_true rfl) d_R_item_52 (fun w_7 H locs hw_8 hZ hS => ?_)
            have hk_9 : w_7 (A 0) = some (.inl (G.2 0, 8200, .inl (F 0))) := up_ne hw_8 h0 (z_ne h0 ho (by simp))
            have hk_10 : w_7 (A 1) = some (.inl (G.2 0, 8200, .inl (F 1))) := up_ne hw_8 h1 (z_ne h1 ho (by simp))
            have hk_11 : w_7 (A 2) = some (.inl (G.2 0, 8200, .inl (F 2))) := up_ne hw_8 h2 (z_ne h2 ho (by simp))
            have hk_12 : w_7 (A 3) = some (.inl (G.2 0, 8200, .inl (F 3))) := up_ne hw_8 h3 (z_ne h3 ho (by simp))
            have hk_13 : w_7 (A 4) = some (.inl (G.2 0, 8200, .inl (F 4))) := up_ne hw_8 h4 (z_ne h4 ho (by simp))
            have hk_14 : w_7 (A 5) = some (.inl (G.2 0, 8200, .inl (F 5))) := up_ne hw_8 h5 (z_ne h5 ho (by simp))
            have hk_15 : w_7 (A 6) = some (.inl (G.2 0, 8200, .inl (F 6))) := up_ne hw_8 h6 (z_ne h6 ho (by simp))
            have hk_16 : w_7 (A 7) = some (.inl (G.2 1, 8200, .inr (.inl M))) := up_ne hw_8 h7 (z_ne h7 ho (by simp))
            have hk_17 : w_7 (A 8) = some (.inl (G.2 0, 8200, .inl (F 8))) := up_ne hw_8 h8 (z_ne h8 ho (by simp))
            have hk_18 : w_7 (A 11) = some (.inl (G.2 0, 16, .inl Z)) := up_ne hw_8 h11 (z_ne h11 ho (by simp))
            have hF := hF.put hw_8 (Or.inl (by simp))
            have hc_19 : w_7 o = some (.inr (6, [.int 0, .ref (A 0), .ref (A 1), .ref (A 2), .ref (A 3), .ref (A 4), .ref (A 5), .ref (A 6), .ref (A 7), .ref (A 8), .int (S 1), .ref (A 9), .ref (A 10), .int (S 2), .ref (A 11), .long (L 0), .long (L 1), .long (L 2), .long (L 3), .ref (A 12), .long (L 4)])) := up_self hw_8
            refine lv_iload hx hb d_R_item_55 (lv_at hl 0 rfl) ?_
            refine lv_iconst (v := 1) hx hb d_R_item_57 (by decide) ?_
            refine lv_iadd hx hb d_R_item_58 ?_
            rw [show (((nI (stN sz k)) + 1) : Int32) = nI (ps 0) from by rw [← hat]; exact nI_1 _]
            refine lv_istore (lv' := [(5, .int (nI (ps 0))), (4, .int (nI (stN sz k))), (0, .ref o), (1, .int (nI k)), (2, .int (nI jj)), (3, .int what)]) hx hb d_R_item_59 hl (by decide) rfl (fun ls hl => ?_)
            refine lv_iconst (v := 0) hx hb d_R_item_61 (by decide) ?_
            refine lv_istore (lv' := [(6, .int 0), (5, .int (nI (ps 0))), (4, .int (nI (stN sz k))), (0, .ref o), (1, .int (nI k)), (2, .int (nI jj)), (3, .int what)]) hx hb d_R_item_62 hl (by decide) rfl (fun ls hl => ?_)
            have loop : ∀ (j i : Nat) (H : Heap) (locs : List Loc) (ls : Array Slot), i + j = jj → Zw G.1 vwC (zA n0) w_7 H → va_S (zA n0) s.heap H locs → lv_has ls 8 [(6, .int (nI i)), (5, .int (nI (ps i))), (0, .ref o), (2, .int (nI jj)), (3, .int what)] → W p l e ({ frames := 1, cells := 0, slots := 0, locals := 25 }) s m [.ref o, .int (nI k), .int (nI jj), .int what].toArray below meth c H locs 0 0 (MQ below (zQ G.1 vwC n0 (fun v w1 => v = some (.int (itemR F M (ps jj) what)) ∧ w1 o = some (.inr (6, fR A (upd S 0 0) L)) ∧ Fr [o] w w1)) [.ref o, .int (nI k), .int (nI jj), .int what].toArray s ({ frames := 1, cells := 0, slots := 0, locals := 25 } : Room).cells ({ frames := 1, cells := 0, slots := 0, locals := 25 } : Room).slots (zA n0)) (F0 m 64 ls []) := by
              intro j
              induction j with
              | zero =>
                intro i H locs ls hij hZ hS hl
                have hin : jj = i := by omega
                subst hin
                refine lv_iload hx hb d_R_item_64 (lv_at hl 0 rfl) ?_
                refine lv_iload_n hx hb d_R_item_66 rfl (lv_at hl 3 rfl) ?_
                refine lv_icmp_ge (tgt := 88) hx hb d_R_item_67 (by decide) (fun c67 => ?_) (fun c67 => ?_)
                · refine lv_iload_n hx hb d_R_item_88 rfl (lv_at hl 4 rfl) ?_
                  refine lv_if_ne (tgt := 100) hx hb d_R_item_89 (by decide) (fun c89 => ?_) (fun c89 => ?_)
                  · refine lv_aload_n hx hb d_R_item_100 rfl (lv_at hl 2 rfl) ?_
                    refine gf_R_7 cx hZ hc_19 rfl d_R_item_101 ?_
                    refine lv_iload hx hb d_R_item_104 (lv_at hl 1 rfl) ?_
                    refine ld_i cx hZ hk_9 (vp_in_nI hpj (by omega)) d_R_item_106 ?_
                    rw [show (((F 0) (nI (ps jj)).toNatClampNeg) : Int32) = F 0 (ps jj) from by rw [nI_clamp (by omega)]]
                    refine lv_iconst (v := 5) hx hb d_R_item_107 (by decide) ?_
                    refine lv_icmp_ne (tgt := 202) hx hb d_R_item_108 (by decide) (fun c108 => ?_) (fun c108 => ?_)
                    · refine lv_iload_n hx hb d_R_item_202 rfl (lv_at hl 4 rfl) ?_
                      refine lv_iconst (v := 1) hx hb d_R_item_203 (by decide) ?_
                      refine lv_icmp_ne (tgt := 217) hx hb d_R_item_204 (by decide) (fun c204 => ?_) (fun c204 => ?_)
                      · refine lv_iload_n hx hb d_R_item_217 rfl (lv_at hl 4 rfl) ?_
                        refine lv_iconst (v := 2) hx hb d_R_item_218 (by decide) ?_
                        refine lv_icmp_ne (tgt := 232) hx hb d_R_item_219 (by decide) (fun c219 => ?_) (fun c219 => ?_)
                        · refine lv_iload_n hx hb d_R_item_232 rfl (lv_at hl 4 rfl) ?_
                          refine lv_iconst (v := 3) hx hb d_R_item_233 (by decide) ?_
                          refine lv_icmp_ne (tgt := 247) hx hb d_R_item_234 (by decide) (fun c234 => ?_) (fun c234 => ?_)
                          · refine lv_iload_n hx hb d_R_item_247 rfl (lv_at hl 4 rfl) ?_
                            refine lv_iconst (v := 4) hx hb d_R_item_248 (by decide) ?_
                            refine lv_icmp_ne (tgt := 271) hx hb d_R_item_249 (by decide) (fun c249 => ?_) (fun c249 => ?_)
                            · refine lv_iconst (v := 0) hx hb d_R_item_271 (by decide) ?_
                              exact z_iret cx.1 cx.2.1 cx.rt cx.lk hS hZ ⟨(Nat.le_of_ble_eq_true rfl), (Nat.le_of_ble_eq_true rfl)⟩ d_R_item_272 (⟨by skip; simp [itemR, clampR, c89, c108, c204, c219, c234, c249], hc_19, hF⟩)
                            · refine lv_aload_n hx hb d_R_item_252 rfl (lv_at hl 2 rfl) ?_
                              refine lv_iload hx hb d_R_item_253 (lv_at hl 1 rfl) ?_
                              refine iv_R_87 (As := [.int (nI (ps jj))]) (rest := []) cx (r_isBox l G n0 e0 w_7 o A (upd S 0 0) L hc_19 F hk_9 (ps jj) hpj) hc_19 ⟨(Nat.le_of_ble_eq_true rfl), (Nat.le_of_ble_eq_true rfl)⟩ ⟨(Nat.le_of_ble_eq_true rfl), (Nat.le_of_ble_eq_true rfl)⟩ rfl hl.1 rfl (Nat.le_of_ble_eq_true rfl) d_R_item_255 hZ hS (fun v w_20 H locs hp_21 hZ hS => ?_)
                              obtain ⟨rfl, hq⟩ := hp_21
                              subst w_20
                              refine W.eq (g2 := F0 m 258 ls [.int (zi (decide (F 0 (ps jj) = 2 ∨ F 0 (ps jj) = 3)))]) rfl ?_
                              refine lv_if_eq (tgt := 271) hx hb d_R_item_258 (by decide) (fun c258 => ?_) (fun c258 => ?_)
                              · refine lv_iconst (v := 0) hx hb d_R_item_271 (by decide) ?_
                                exact z_iret cx.1 cx.2.1 cx.rt cx.lk hS hZ ⟨(Nat.le_of_ble_eq_true rfl), (Nat.le_of_ble_eq_true rfl)⟩ d_R_item_272 (⟨by have e258 := dz_f c258; simp [itemR, clampR, c89, c108, c204, c219, c234, c249, e258], hc_19, hF⟩)
                              · refine lv_aload_n hx hb d_R_item_261 rfl (lv_at hl 2 rfl) ?_
                                refine gf_R_22 cx hZ hc_19 rfl d_R_item_262 ?_
                                refine lv_iload hx hb d_R_item_265 (lv_at hl 1 rfl) ?_
                                refine ld_i cx hZ hk_13 (vp_in_nI hpj (by omega)) d_R_item_267 ?_
                                rw [show (((F 4) (nI (ps jj)).toNatClampNeg) : Int32) = F 4 (ps jj) from by rw [nI_clamp (by omega)]]
                                refine lv_goto (tgt := 272) hx hb d_R_item_268 (by decide) ?_
                                exact z_iret cx.1 cx.2.1 cx.rt cx.lk hS hZ ⟨(Nat.le_of_ble_eq_true rfl), (Nat.le_of_ble_eq_true rfl)⟩ d_R_item_272 (⟨by have e258 := dz_t c258; simp [itemR, clampR, c89, c108, c204, c219, c234, c249, e258], hc_19, hF⟩)
                          · refine lv_aload_n hx hb d_R_item_237 rfl (lv_at hl 2 rfl) ?_
                            refine gf_R_19 cx hZ hc_19 rfl d_R_item_238 ?_
                            refine lv_iload hx hb d_R_item_241 (lv_at hl 1 rfl) ?_
                            refine ld_i cx hZ hk_12 (vp_in_nI hpj (by omega)) d_R_item_243 ?_
                            rw [show (((F 3) (nI (ps jj)).toNatClampNeg) : Int32) = F 3 (ps jj) from by rw [nI_clamp (by omega)]]
                            refine lv_goto (tgt := 272) hx hb d_R_item_244 (by decide) ?_
                            exact z_iret cx.1 cx.2.1 cx.rt cx.lk hS hZ ⟨(Nat.le_of_ble_eq_true rfl), (Nat.le_of_ble_eq_true rfl)⟩ d_R_item_272 (⟨by skip; simp [itemR, clampR, c89, c108, c204, c219, c234], hc_19, hF⟩)
                        · refine lv_aload_n hx hb d_R_item_222 rfl (lv_at hl 2 rfl) ?_
                          refine gf_R_16 cx hZ hc_19 rfl d_R_item_223 ?_
                          refine lv_iload hx hb d_R_item_226 (lv_at hl 1 rfl) ?_
                          refine ld_i cx hZ hk_11 (vp_in_nI hpj (by omega)) d_R_item_228 ?_
                          rw [show (((F 2) (nI (ps jj)).toNatClampNeg) : Int32) = F 2 (ps jj) from by rw [nI_clamp (by omega)]]
                          refine lv_goto (tgt := 272) hx hb d_R_item_229 (by decide) ?_
                          exact z_iret cx.1 cx.2.1 cx.rt cx.lk hS hZ ⟨(Nat.le_of_ble_eq_true rfl), (Nat.le_of_ble_eq_true rfl)⟩ d_R_item_272 (⟨by skip; simp [itemR, clampR, c89, c108, c204, c219], hc_19, hF⟩)
                      · refine lv_aload_n hx hb d_R_item_207 rfl (lv_at hl 2 rfl) ?_
                        refine gf_R_13 cx hZ hc_19 rfl d_R_item_208 ?_
                        refine lv_iload hx hb d_R_item_211 (lv_at hl 1 rfl) ?_
                        refine ld_i cx hZ hk_10 (vp_in_nI hpj (by omega)) d_R_item_213 ?_
                        rw [show (((F 1) (nI (ps jj)).toNatClampNeg) : Int32) = F 1 (ps jj) from by rw [nI_clamp (by omega)]]
                        refine lv_goto (tgt := 272) hx hb d_R_item_214 (by decide) ?_
                        exact z_iret cx.1 cx.2.1 cx.rt cx.lk hS hZ ⟨(Nat.le_of_ble_eq_true rfl), (Nat.le_of_ble_eq_true rfl)⟩ d_R_item_272 (⟨by skip; simp [itemR, clampR, c89, c108, c204], hc_19, hF⟩)
                    · refine lv_aload_n hx hb d_R_item_111 rfl (lv_at hl 2 rfl) ?_
                      refine gf_R_13 cx hZ hc_19 rfl d_R_item_112 ?_
                      refine lv_iload hx hb d_R_item_115 (lv_at hl 1 rfl) ?_
                      refine ld_i cx hZ hk_10 (vp_in_nI hpj (by omega)) d_R_item_117 ?_
                      rw [show (((F 1) (nI (ps jj)).toNatClampNeg) : Int32) = F 1 (ps jj) from by rw [nI_clamp (by omega)]]
                      refine lv_i2l hx hb d_R_item_118 rfl ?_
                      refine lv_aload_n hx hb d_R_item_119 rfl (lv_at hl 2 rfl) ?_
                      refine gf_R_31 cx hZ hc_19 rfl d_R_item_120 ?_
                      refine lv_iload hx hb d_R_item_123 (lv_at hl 1 rfl) ?_
                      refine ld_l cx hZ hk_16 (vp_in_nI hpj (by omega)) d_R_item_125 ?_
                      rw [show ((M (nI (ps jj)).toNatClampNeg) : Int64) = M (ps jj) from by rw [nI_clamp (by omega)]]
                      refine lv_ladd hx hb d_R_item_126 ?_
                      refine lv_lstore (lv' := [(6, .long (((F 1 (ps jj)).toInt64) + (M (ps jj)))), (5, .int (nI (ps jj))), (0, .ref o), (2, .int (nI jj)), (3, .int what)]) hx hb d_R_item_127 hl (by decide) rfl (fun ls hl => ?_)
                      refine lv_iload_n hx hb d_R_item_129 rfl (lv_at hl 4 rfl) ?_
                      refine lv_iconst (v := 1) hx hb d_R_item_130 (by decide) ?_
                      refine lv_icmp_ne (tgt := 170) hx hb d_R_item_131 (by decide) (fun c131 => ?_) (fun c131 => ?_)
                      · refine lv_iload_n hx hb d_R_item_170 rfl (lv_at hl 4 rfl) ?_
                        refine lv_iconst (v := 4) hx hb d_R_item_171 (by decide) ?_
                        refine lv_icmp_ne (tgt := 185) hx hb d_R_item_172 (by decide) (fun c172 => ?_) (fun c172 => ?_)
                        · refine lv_iload_n hx hb d_R_item_185 rfl (lv_at hl 4 rfl) ?_
                          refine lv_iconst (v := 5) hx hb d_R_item_186 (by decide) ?_
                          refine lv_icmp_ne (tgt := 200) hx hb d_R_item_187 (by decide) (fun c187 => ?_) (fun c187 => ?_)
                          · refine lv_iconst (v := 0) hx hb d_R_item_200 (by decide) ?_
                            exact z_iret cx.1 cx.2.1 cx.rt cx.lk hS hZ ⟨(Nat.le_of_ble_eq_true rfl), (Nat.le_of_ble_eq_true rfl)⟩ d_R_item_201 (⟨by skip; simp [itemR, clampR, c89, c108, c131, c172, c187], hc_19, hF⟩)
                          · refine lv_aload_n hx hb d_R_item_190 rfl (lv_at hl 2 rfl) ?_
                            refine gf_R_28 cx hZ hc_19 rfl d_R_item_191 ?_
                            refine lv_iload hx hb d_R_item_194 (lv_at hl 1 rfl) ?_
                            refine ld_i cx hZ hk_15 (vp_in_nI hpj (by omega)) d_R_item_196 ?_
                            rw [show (((F 6) (nI (ps jj)).toNatClampNeg) : Int32) = F 6 (ps jj) from by rw [nI_clamp (by omega)]]
                            refine lv_goto (tgt := 201) hx hb d_R_item_197 (by decide) ?_
                            exact z_iret cx.1 cx.2.1 cx.rt cx.lk hS hZ ⟨(Nat.le_of_ble_eq_true rfl), (Nat.le_of_ble_eq_true rfl)⟩ d_R_item_201 (⟨by skip; simp [itemR, clampR, c89, c108, c131, c172, c187], hc_19, hF⟩)
                        · refine lv_aload_n hx hb d_R_item_175 rfl (lv_at hl 2 rfl) ?_
                          refine gf_R_22 cx hZ hc_19 rfl d_R_item_176 ?_
                          refine lv_iload hx hb d_R_item_179 (lv_at hl 1 rfl) ?_
                          refine ld_i cx hZ hk_13 (vp_in_nI hpj (by omega)) d_R_item_181 ?_
                          rw [show (((F 4) (nI (ps jj)).toNatClampNeg) : Int32) = F 4 (ps jj) from by rw [nI_clamp (by omega)]]
                          refine lv_goto (tgt := 201) hx hb d_R_item_182 (by decide) ?_
                          exact z_iret cx.1 cx.2.1 cx.rt cx.lk hS hZ ⟨(Nat.le_of_ble_eq_true rfl), (Nat.le_of_ble_eq_true rfl)⟩ d_R_item_201 (⟨by skip; simp [itemR, clampR, c89, c108, c131, c172], hc_19, hF⟩)
                      · refine lv_lload hx hb d_R_item_134 (lv_at hl 0 rfl) ?_
                        refine lc_R_163 cx d_R_item_136 ?_
                        refine W.lcmp hx hb d_R_item_139 ?_
                        refine lv_if_le (tgt := 149) hx hb d_R_item_140 (by decide) (fun c140 => ?_) (fun c140 => ?_)
                        · have c140 := (lg_cmp_le _ _).mp c140
                          refine lv_lload hx hb d_R_item_149 (lv_at hl 0 rfl) ?_
                          refine lc_R_165 cx d_R_item_151 ?_
                          refine W.lcmp hx hb d_R_item_154 ?_
                          refine lv_if_ge (tgt := 164) hx hb d_R_item_155 (by decide) (fun c155 => ?_) (fun c155 => ?_)
                          · have c155 := (lg_cmp_ge _ _).mp c155
                            refine lv_lload hx hb d_R_item_164 (lv_at hl 0 rfl) ?_
                            refine lv_l2i hx hb d_R_item_166 rfl ?_
                            refine lv_goto (tgt := 201) hx hb d_R_item_167 (by decide) ?_
                            exact z_iret cx.1 cx.2.1 cx.rt cx.lk hS hZ ⟨(Nat.le_of_ble_eq_true rfl), (Nat.le_of_ble_eq_true rfl)⟩ d_R_item_201 (⟨by skip; simp [itemR, clampR, c89, c108, c131, Int64.not_lt.mpr c140, Int64.not_lt.mpr c155], hc_19, hF⟩)
                          · have c155 := fun q => c155 ((lg_cmp_ge _ _).mpr q)
                            refine lc_R_165 cx d_R_item_158 ?_
                            refine lv_goto (tgt := 166) hx hb d_R_item_161 (by decide) ?_
                            refine lv_l2i hx hb d_R_item_166 rfl ?_
                            refine lv_goto (tgt := 201) hx hb d_R_item_167 (by decide) ?_
                            exact z_iret cx.1 cx.2.1 cx.rt cx.lk hS hZ ⟨(Nat.le_of_ble_eq_true rfl), (Nat.le_of_ble_eq_true rfl)⟩ d_R_item_201 (⟨by skip; simp [itemR, clampR, c89, c108, c131, Int64.not_lt.mpr c140, Int64.not_le.mp c155], hc_19, hF⟩)
                        · have c140 := fun q => c140 ((lg_cmp_le _ _).mpr q)
                          refine lc_R_163 cx d_R_item_143 ?_
                          refine lv_goto (tgt := 166) hx hb d_R_item_146 (by decide) ?_
                          refine lv_l2i hx hb d_R_item_166 rfl ?_
                          refine lv_goto (tgt := 201) hx hb d_R_item_167 (by decide) ?_
                          exact z_iret cx.1 cx.2.1 cx.rt cx.lk hS hZ ⟨(Nat.le_of_ble_eq_true rfl), (Nat.le_of_ble_eq_true rfl)⟩ d_R_item_201 (⟨by skip; simp [itemR, clampR, c89, c108, c131, Int64.not_le.mp c140], hc_19, hF⟩)
                  · refine lv_aload_n hx hb d_R_item_92 rfl (lv_at hl 2 rfl) ?_
                    refine gf_R_7 cx hZ hc_19 rfl d_R_item_93 ?_
                    refine lv_iload hx hb d_R_item_96 (lv_at hl 1 rfl) ?_
                    refine ld_i cx hZ hk_9 (vp_in_nI hpj (by omega)) d_R_item_98 ?_
                    rw [show (((F 0) (nI (ps jj)).toNatClampNeg) : Int32) = F 0 (ps jj) from by rw [nI_clamp (by omega)]]
                    exact z_iret cx.1 cx.2.1 cx.rt cx.lk hS hZ ⟨(Nat.le_of_ble_eq_true rfl), (Nat.le_of_ble_eq_true rfl)⟩ d_R_item_99 (⟨by skip; simp [itemR, clampR, c89], hc_19, hF⟩)
                · exact absurd (nI_le (by omega) (by omega)) c67
              | succ j ih =>
                intro i H locs ls hij hZ hS hl
                refine lv_iload hx hb d_R_item_64 (lv_at hl 0 rfl) ?_
                refine lv_iload_n hx hb d_R_item_66 rfl (lv_at hl 3 rfl) ?_
                refine lv_icmp_ge (tgt := 88) hx hb d_R_item_67 (by decide) (fun c67 => ?_) (fun c67 => ?_)
                · exact absurd c67 (nI_ge (by omega) (by omega))
                · refine lv_iload hx hb d_R_item_70 (lv_at hl 1 rfl) ?_
                  refine lv_aload_n hx hb d_R_item_72 rfl (lv_at hl 2 rfl) ?_
                  refine gf_R_35 cx hZ hc_19 rfl d_R_item_73 ?_
                  refine lv_iload hx hb d_R_item_76 (lv_at hl 1 rfl) ?_
                  refine ld_i cx hZ hk_17 (vp_in_nI (by have := hps.lt (show i < n by omega); omega) (by omega)) d_R_item_78 ?_
                  rw [show (((F 8) (nI (ps i)).toNatClampNeg) : Int32) = F 8 (ps i) from by rw [nI_clamp (by have := hps.le (show i ≤ n by omega) (Nat.le_refl _); omega)]]
                  refine lv_iadd hx hb d_R_item_79 ?_
                  rw [show (((nI (ps i)) + (F 8 (ps i))) : Int32) = nI (ps (i + 1)) from hps.step (by omega)]
                  refine lv_istore (lv' := [(5, .int (nI (ps (i + 1)))), (6, .int (nI i)), (0, .ref o), (2, .int (nI jj)), (3, .int what)]) hx hb d_R_item_80 hl (by decide) rfl (fun ls hl => ?_)
                  refine lv_iinc (v := ((nI i) + 1)) (lv' := [(6, .int ((nI i) + 1)), (5, .int (nI (ps (i + 1)))), (0, .ref o), (2, .int (nI jj)), (3, .int what)]) hx hb d_R_item_82 hl (k := 1) rfl rfl (by decide) rfl (fun ls hl => ?_)
                  refine lv_goto (tgt := 64) hx hb d_R_item_85 (by decide) ?_
                  exact ih (i + 1) _ _ _ (by omega) hZ hS (lv_sub hl [0, 1, 2, 3, 4] (by rw [← nI_1 i]; rfl))
            exact loop jj 0 _ _ _ (by omega) hZ hS (lv_sub hl [0, 1, 3, 5, 6] rfl)
          · exact absurd (nI_lt hjj (by omega)) c41
        · exact absurd (whatB_of hwh).2 c18
