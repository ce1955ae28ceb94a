theorem cpF_e {F : Nat → Nat → Int32} {a b a' b' i : Nat} (ha : a' = a + 1) (hb : b' = b + 1) (hab : a ≤ b) : setF (cpF F a' b' i) b (fun c => cpF F a' b' i c a) = cpF F a b (i + 1) := by
  subst ha hb; exact cpF_d hab
theorem cpM_e {M : Nat → Int64} {a b a' b' i : Nat} (ha : a' = a + 1) (hb : b' = b + 1) (hab : a ≤ b) : vp_updL (cpM M a' b' i) b (cpM M a' b' i a) = cpM M a b (i + 1) := by
  subst ha hb; exact cpM_d hab
theorem nI_dec (n : Nat) : nI (n + 1) + (-1) = nI n := by
  rw [← nI_pred n, Int32.sub_eq_add_neg]
theorem nI_dec2 {a b : Nat} (h : a = b + 1) : nI a + (-1) = nI b := by subst h; exact nI_dec b
theorem r_hasRoomN (l : Launch) (G : zG) (n0 e0 : Nat) (w : zw) (o : Nat) (A : Nat → Nat) (S : Nat → Int32) (L : Nat → Int64) (ho : w o = some (.inr (6, fR A S L))) (Z : Nat → Int32) (h11 : w (A 11) = some (.inl (G.2 0, 16, .inl Z))) (sz : Nat → Nat) (hsz : ∀ k, k < 16 → Z k = nI (sz k)) (en x : Nat) (hen : S 2 = nI en) (hb : en + sumN sz 16 + x < 100000) : Ct l G n0 e0 y_R_hasRoom b_R_hasRoom 2 (Option.some FieldType.boolean) ({ frames := 1, cells := 0, slots := 0, locals := 22 }) [.ref o, .int (nI x)] w (fun v w1 => v = some (.int (zi (decide (en + sumN sz 16 + x ≤ 4000)))) ∧ w1 = w) := by
  have h := r_hasRoom l G n0 e0 w o A S L ho (fun _ => Z) h11 (nI x)
  rw [sumI_nI (fun j hj => hsz j (by omega)), hen, nI_add, nI_add] at h
  have e : (!decide ((4000 : Int32) < nI (en + sumN sz 16 + x))) = decide (en + sumN sz 16 + x ≤ 4000) := by
    by_cases q : en + sumN sz 16 + x ≤ 4000
    · rw [decide_eq_true q, decide_eq_false (by rw [show (4000 : Int32) = nI 4000 from by decide]; exact nI_nlt q (by omega))]; rfl
    · rw [decide_eq_false q, decide_eq_true (by rw [show (4000 : Int32) = nI 4000 from by decide]; exact nI_lt (by omega) (by omega))]; rfl
  rw [e] at h
  exact h
set_option maxHeartbeats 4000000 in
set_option maxRecDepth 100000 in
theorem r_make (l : Launch) (G : zG) (n0 e0 : Nat) (w : zw) (o : Nat) (A : Nat → Nat) (S : Nat → Int32) (L : Nat → Int64) (F : Nat → Nat → Int32) (M : Nat → Int64) (B V Z : Nat → Int32) (T : Nat → Int64) (hr : RA G w o A S L F M B V Z T) (hA : ∀ i j, i < 13 → j < 13 → i ≠ j → A i ≠ A j) (sz : Nat → Nat) (hsz : ∀ k, k < 16 → Z k = nI (sz k)) (hsum : sumN sz 16 ≤ 4000) (k : Nat) (hk : k < 16) (n : Nat) (hn : sumN sz 16 + n ≤ 4000)  : Ct l G n0 e0 y_R_make b_R_make 5 (Option.none : Option FieldType) ({ frames := 1, cells := 0, slots := 0, locals := 23 }) [.ref o, .int (nI k), .int (nI n)] w (fun v w1 => v = none ∧ RA G w1 o A S L (cpF F (stN sz k) (stN sz k + n) (sumN sz 16 - sumN sz k)) (cpM M (stN sz k) (stN sz k + n) (sumN sz 16 - sumN sz k)) B V (upd Z k (nI n)) T ∧ Fr (allR o A) w w1) := by
  refine z_ct (by decide) (Nat.le_of_ble_eq_true rfl) ?_
  intro p e s m below meth c ls cx hnm hZ hS hl
  have hx := cx.1
  have hb := cx.2.1
  have hl : lv_has ls 5 [(0, .ref o), (1, .int (nI k)), (2, .int (nI n))] := hl
  obtain ⟨ho, ⟨h0, h1, h2, h3, h4, h5, h6, h7, h8⟩, h9, h10, h11, h12⟩ := id hr
  have hlt := sumN_lt (f := sz) hk
  have eM : (4100 + sumN sz 16) - (sumN sz 16 - sumN sz k) = stN sz k := by unfold stN; omega
  have hF : Fr [o, (A 0), (A 1), (A 2), (A 3), (A 4), (A 5), (A 6), (A 7), (A 8), (A 9), (A 10), (A 11), (A 12)] w w := Fr.rf
  refine lv_aload_n hx hb d_R_make_0 rfl (lv_at hl 0 rfl) ?_
  refine lv_iload_n hx hb d_R_make_1 rfl (lv_at hl 1 rfl) ?_
  refine iv_R_122 (As := [.int (nI k)]) (rest := []) cx (r_startN l G n0 e0 w o A S L ho Z h11 sz hsz k (by omega)) ho ⟨(Nat.le_of_ble_eq_true rfl), (Nat.le_of_ble_eq_true rfl)⟩ ⟨(Nat.le_of_ble_eq_true rfl), (Nat.le_of_ble_eq_true rfl)⟩ rfl hl.1 rfl (Nat.le_of_ble_eq_true rfl) d_R_make_2 hZ hS (fun v w_1 H locs hp_2 hZ hS => ?_)
  obtain ⟨rfl, hq⟩ := hp_2
  subst w_1
  refine W.eq (g2 := F0 m 5 ls [.int (nI (stN sz k))]) rfl ?_
  refine lv_istore_n (lv' := [(3, .int (nI (stN sz k))), (0, .ref o), (1, .int (nI k)), (2, .int (nI n))]) hx hb d_R_make_5 rfl hl (by decide) rfl (fun ls hl => ?_)
  refine lv_sipush (v := 4100) hx hb d_R_make_6 (by decide) ?_
  refine lv_aload_n hx hb d_R_make_9 rfl (lv_at hl 1 rfl) ?_
  refine iv_R_64 (As := []) (rest := [.int 4100]) cx (r_shelvedN l G n0 e0 w o A S L ho Z h11 sz hsz) ho ⟨(Nat.le_of_ble_eq_true rfl), (Nat.le_of_ble_eq_true rfl)⟩ ⟨(Nat.le_of_ble_eq_true rfl), (Nat.le_of_ble_eq_true rfl)⟩ rfl hl.1 rfl (Nat.le_of_ble_eq_true rfl) d_R_make_10 hZ hS (fun v w_3 H locs hp_4 hZ hS => ?_)
  obtain ⟨rfl, hq⟩ := hp_4
  subst w_3
  refine W.eq (g2 := F0 m 13 ls [.int (nI (sumN sz 16)), .int 4100]) rfl ?_
  refine lv_iadd hx hb d_R_make_13 ?_
  rw [show ((4100 + (nI (sumN sz 16))) : Int32) = nI (4100 + sumN sz 16) from nI_add 4100 _]
  refine lv_iconst (v := 1) hx hb d_R_make_14 (by decide) ?_
  refine lv_isub hx hb d_R_make_15 ?_
  rw [show (((nI (4100 + sumN sz 16)) - 1) : Int32) = nI ((4100 + sumN sz 16) - (0 + 1)) from nI_subN (b := 1) (by omega)]
  refine lv_istore (lv' := [(4, .int (nI ((4100 + sumN sz 16) - (0 + 1)))), (3, .int (nI (stN sz k))), (0, .ref o), (1, .int (nI k)), (2, .int (nI n))]) hx hb d_R_make_16 hl (by decide) rfl (fun ls hl => ?_)
  have loop_18 : ∀ (j i : Nat) (w2 : zw) (H : Heap) (locs : List Loc) (ls : Array Slot), i + j = (sumN sz 16 - sumN sz k) → Zw G.1 vwC (zA n0) w2 H → va_S (zA n0) s.heap H locs → Fr [o, (A 0), (A 1), (A 2), (A 3), (A 4), (A 5), (A 6), (A 7), (A 8), (A 9), (A 10), (A 11), (A 12)] w w2 → RA G w2 o A S L (cpF F ((4100 + sumN sz 16) - i) ((4100 + sumN sz 16) - i + n) i) (cpM M ((4100 + sumN sz 16) - i) ((4100 + sumN sz 16) - i + n) i) B V Z T → lv_has ls 5 [(4, .int (nI ((4100 + sumN sz 16) - (i + 1)))), (3, .int (nI (stN sz k))), (0, .ref o), (1, .int (nI k)), (2, .int (nI n))] → W p l e ({ frames := 1, cells := 0, slots := 0, locals := 23 }) s m [.ref o, .int (nI k), .int (nI n)].toArray below meth c H locs 0 0 (MQ below (zQ G.1 vwC n0 (fun v w1 => v = none ∧ RA G w1 o A S L (cpF F (stN sz k) (stN sz k + n) (sumN sz 16 - sumN sz k)) (cpM M (stN sz k) (stN sz k + n) (sumN sz 16 - sumN sz k)) B V (upd Z k (nI n)) T ∧ Fr (allR o A) w w1)) [.ref o, .int (nI k), .int (nI n)].toArray s ({ frames := 1, cells := 0, slots := 0, locals := 23 } : Room).cells ({ frames := 1, cells := 0, slots := 0, locals := 23 } : Room).slots (zA n0)) (F0 m 18 ls []) := by
    intro j
    induction j with
    | zero =>
      intro i w2 H locs ls hik hZ hS hF hr2 hl
      have hin : i = (sumN sz 16 - sumN sz k) := by omega
      subst hin
      obtain ⟨ho_5, ⟨h0_5, h1_5, h2_5, h3_5, h4_5, h5_5, h6_5, h7_5, h8_5⟩, h9_5, h10_5, h11_5, h12_5⟩ := id hr2
      have ho_5 : w2 o = some (.inr (6, [.int (S 0), .ref (A 0), .ref (A 1), .ref (A 2), .ref (A 3), .ref (A 4), .ref (A 5), .ref (A 6), .ref (A 7), .ref (A 8), .int (S 1), .ref (A 9), .ref (A 10), .int (S 2), .ref (A 11), .long (L 0), .long (L 1), .long (L 2), .long (L 3), .ref (A 12), .long (L 4)])) := ho_5
      refine lv_iload hx hb d_R_make_18 (lv_at hl 0 rfl) ?_
      refine lv_iload_n hx hb d_R_make_20 rfl (lv_at hl 1 rfl) ?_
      refine lv_icmp_lt (tgt := 40) hx hb d_R_make_21 (by decide) (fun c21 => ?_) (fun c21 => ?_)
      · refine lv_aload_n hx hb d_R_make_40 rfl (lv_at hl 2 rfl) ?_
        refine gf_R_45 cx hZ ho_5 rfl d_R_make_41 ?_
        refine lv_iload_n hx hb d_R_make_44 rfl (lv_at hl 3 rfl) ?_
        refine lv_iload_n hx hb d_R_make_45 rfl (lv_at hl 4 rfl) ?_
        refine st_i cx hZ hS h11_5 (vp_in_nI hk (by omega)) d_R_make_46 (fun w_6 H locs hw_7 hZ hS => ?_)
        have hk_8 : w_6 o = some (.inr (6, [.int (S 0), .ref (A 0), .ref (A 1), .ref (A 2), .ref (A 3), .ref (A 4), .ref (A 5), .ref (A 6), .ref (A 7), .ref (A 8), .int (S 1), .ref (A 9), .ref (A 10), .int (S 2), .ref (A 11), .long (L 0), .long (L 1), .long (L 2), .long (L 3), .ref (A 12), .long (L 4)])) := up_ne hw_7 ho_5 (z_ne ho_5 h11_5 (by simp))
        have hk_9 : w_6 (A 0) = some (.inl (G.2 0, 8200, .inl ((cpF F ((4100 + sumN sz 16) - (sumN sz 16 - sumN sz k)) ((4100 + sumN sz 16) - (sumN sz 16 - sumN sz k) + n) (sumN sz 16 - sumN sz k)) 0))) := up_ne hw_7 h0_5 ((hA 0 11 (by decide) (by decide) (by decide)))
        have hk_10 : w_6 (A 1) = some (.inl (G.2 0, 8200, .inl ((cpF F ((4100 + sumN sz 16) - (sumN sz 16 - sumN sz k)) ((4100 + sumN sz 16) - (sumN sz 16 - sumN sz k) + n) (sumN sz 16 - sumN sz k)) 1))) := up_ne hw_7 h1_5 ((hA 1 11 (by decide) (by decide) (by decide)))
        have hk_11 : w_6 (A 2) = some (.inl (G.2 0, 8200, .inl ((cpF F ((4100 + sumN sz 16) - (sumN sz 16 - sumN sz k)) ((4100 + sumN sz 16) - (sumN sz 16 - sumN sz k) + n) (sumN sz 16 - sumN sz k)) 2))) := up_ne hw_7 h2_5 ((hA 2 11 (by decide) (by decide) (by decide)))
        have hk_12 : w_6 (A 3) = some (.inl (G.2 0, 8200, .inl ((cpF F ((4100 + sumN sz 16) - (sumN sz 16 - sumN sz k)) ((4100 + sumN sz 16) - (sumN sz 16 - sumN sz k) + n) (sumN sz 16 - sumN sz k)) 3))) := up_ne hw_7 h3_5 ((hA 3 11 (by decide) (by decide) (by decide)))
        have hk_13 : w_6 (A 4) = some (.inl (G.2 0, 8200, .inl ((cpF F ((4100 + sumN sz 16) - (sumN sz 16 - sumN sz k)) ((4100 + sumN sz 16) - (sumN sz 16 - sumN sz k) + n) (sumN sz 16 - sumN sz k)) 4))) := up_ne hw_7 h4_5 ((hA 4 11 (by decide) (by decide) (by decide)))
        have hk_14 : w_6 (A 5) = some (.inl (G.2 0, 8200, .inl ((cpF F ((4100 + sumN sz 16) - (sumN sz 16 - sumN sz k)) ((4100 + sumN sz 16) - (sumN sz 16 - sumN sz k) + n) (sumN sz 16 - sumN sz k)) 5))) := up_ne hw_7 h5_5 ((hA 5 11 (by decide) (by decide) (by decide)))
        have hk_15 : w_6 (A 6) = some (.inl (G.2 0, 8200, .inl ((cpF F ((4100 + sumN sz 16) - (sumN sz 16 - sumN sz k)) ((4100 + sumN sz 16) - (sumN sz 16 - sumN sz k) + n) (sumN sz 16 - sumN sz k)) 6))) := up_ne hw_7 h6_5 ((hA 6 11 (by decide) (by decide) (by decide)))
        have hk_16 : w_6 (A 7) = some (.inl (G.2 1, 8200, .inr (.inl (cpM M ((4100 + sumN sz 16) - (sumN sz 16 - sumN sz k)) ((4100 + sumN sz 16) - (sumN sz 16 - sumN sz k) + n) (sumN sz 16 - sumN sz k))))) := up_ne hw_7 h7_5 ((hA 7 11 (by decide) (by decide) (by decide)))
        have hk_17 : w_6 (A 8) = some (.inl (G.2 0, 8200, .inl ((cpF F ((4100 + sumN sz 16) - (sumN sz 16 - sumN sz k)) ((4100 + sumN sz 16) - (sumN sz 16 - sumN sz k) + n) (sumN sz 16 - sumN sz k)) 8))) := up_ne hw_7 h8_5 ((hA 8 11 (by decide) (by decide) (by decide)))
        have hk_18 : w_6 (A 9) = some (.inl (G.2 0, 101, .inl B)) := up_ne hw_7 h9_5 ((hA 9 11 (by decide) (by decide) (by decide)))
        have hk_19 : w_6 (A 10) = some (.inl (G.2 2, 101, .inl V)) := up_ne hw_7 h10_5 ((hA 10 11 (by decide) (by decide) (by decide)))
        have hk_20 : w_6 (A 12) = some (.inl (G.2 1, 4, .inr (.inl T))) := up_ne hw_7 h12_5 ((hA 12 11 (by decide) (by decide) (by decide)))
        have hF := hF.put hw_7 (Or.inl (by simp))
        have hc_21 : w_6 (A 11) = some (.inl (G.2 0, 16, .inl (upd Z k (nI n)))) := by have q := up_self hw_7; rw [nI_clamp (by first | omega | (unfold stN; omega))] at q; exact q
        exact z_vret cx.1 cx.2.1 cx.rt cx.lk hS hZ ⟨(Nat.le_of_ble_eq_true rfl), (Nat.le_of_ble_eq_true rfl)⟩ d_R_make_47 (⟨rfl, (by rw [← eM]; exact ⟨hk_8, ⟨hk_9, hk_10, hk_11, hk_12, hk_13, hk_14, hk_15, hk_16, hk_17⟩, hk_18, hk_19, hc_21, hk_20⟩), hF⟩)
      · exact absurd (nI_lt (by unfold stN; omega) (by unfold stN; omega)) c21
    | succ j ih =>
      intro i w2 H locs ls hik hZ hS hF hr2 hl
      obtain ⟨ho_22, ⟨h0_22, h1_22, h2_22, h3_22, h4_22, h5_22, h6_22, h7_22, h8_22⟩, h9_22, h10_22, h11_22, h12_22⟩ := id hr2
      have ho_22 : w2 o = some (.inr (6, [.int (S 0), .ref (A 0), .ref (A 1), .ref (A 2), .ref (A 3), .ref (A 4), .ref (A 5), .ref (A 6), .ref (A 7), .ref (A 8), .int (S 1), .ref (A 9), .ref (A 10), .int (S 2), .ref (A 11), .long (L 0), .long (L 1), .long (L 2), .long (L 3), .ref (A 12), .long (L 4)])) := ho_22
      refine lv_iload hx hb d_R_make_18 (lv_at hl 0 rfl) ?_
      refine lv_iload_n hx hb d_R_make_20 rfl (lv_at hl 1 rfl) ?_
      refine lv_icmp_lt (tgt := 40) hx hb d_R_make_21 (by decide) (fun c21 => ?_) (fun c21 => ?_)
      · exact absurd c21 (nI_nlt (by unfold stN; omega) (by omega))
      · refine lv_aload_n hx hb d_R_make_24 rfl (lv_at hl 2 rfl) ?_
        refine lv_iload hx hb d_R_make_25 (lv_at hl 0 rfl) ?_
        refine lv_iload hx hb d_R_make_27 (lv_at hl 0 rfl) ?_
        refine lv_iload_n hx hb d_R_make_29 rfl (lv_at hl 4 rfl) ?_
        refine lv_iadd hx hb d_R_make_30 ?_
        rw [show (((nI ((4100 + sumN sz 16) - (i + 1))) + (nI n)) : Int32) = nI ((4100 + sumN sz 16) - (i + 1) + n) from nI_add _ _]
        refine iv_R_126 (As := [.int (nI ((4100 + sumN sz 16) - (i + 1))), .int (nI ((4100 + sumN sz 16) - (i + 1) + n))]) (rest := []) cx (r_moveA l G n0 e0 w2 o A S L (cpF F ((4100 + sumN sz 16) - i) ((4100 + sumN sz 16) - i + n) i) (cpM M ((4100 + sumN sz 16) - i) ((4100 + sumN sz 16) - i + n) i) B V Z T ⟨ho_22, ⟨h0_22, h1_22, h2_22, h3_22, h4_22, h5_22, h6_22, h7_22, h8_22⟩, h9_22, h10_22, h11_22, h12_22⟩ hA ((4100 + sumN sz 16) - (i + 1)) ((4100 + sumN sz 16) - (i + 1) + n) (by first | omega | (unfold stN; omega)) (by first | omega | (unfold stN; omega))) ho_22 ⟨(Nat.le_of_ble_eq_true rfl), (Nat.le_of_ble_eq_true rfl)⟩ ⟨(Nat.le_of_ble_eq_true rfl), (Nat.le_of_ble_eq_true rfl)⟩ rfl hl.1 rfl (Nat.le_of_ble_eq_true rfl) d_R_make_31 hZ hS (fun v w_23 H locs hp_24 hZ hS => ?_)
        obtain ⟨rfl, hr_25, hf_26⟩ := hp_24
        obtain ⟨ho_27, ⟨h0_27, h1_27, h2_27, h3_27, h4_27, h5_27, h6_27, h7_27, h8_27⟩, h9_27, h10_27, h11_27, h12_27⟩ := id hr_25
        have ho_27 : w_23 o = some (.inr (6, [.int (S 0), .ref (A 0), .ref (A 1), .ref (A 2), .ref (A 3), .ref (A 4), .ref (A 5), .ref (A 6), .ref (A 7), .ref (A 8), .int (S 1), .ref (A 9), .ref (A 10), .int (S 2), .ref (A 11), .long (L 0), .long (L 1), .long (L 2), .long (L 3), .ref (A 12), .long (L 4)])) := ho_27
        have hF := hF.call hf_26 (fun t ht => Or.inl ht)
        refine W.eq (g2 := F0 m 34 ls []) rfl ?_
        refine lv_iinc (v := ((nI ((4100 + sumN sz 16) - (i + 1))) + (-1))) (lv' := [(4, .int ((nI ((4100 + sumN sz 16) - (i + 1))) + (-1))), (3, .int (nI (stN sz k))), (0, .ref o), (1, .int (nI k)), (2, .int (nI n))]) hx hb d_R_make_34 hl (k := 0) rfl rfl (by decide) rfl (fun ls hl => ?_)
        refine lv_goto (tgt := 18) hx hb d_R_make_37 (by decide) ?_
        exact ih (i + 1) _ _ _ _ (by omega) hZ hS hF (by rw [← cpF_e (a' := (4100 + sumN sz 16) - i) (b' := (4100 + sumN sz 16) - i + n) (by first | omega | (unfold stN; omega)) (by first | omega | (unfold stN; omega)) (by first | omega | (unfold stN; omega)), ← cpM_e (a' := (4100 + sumN sz 16) - i) (b' := (4100 + sumN sz 16) - i + n) (by first | omega | (unfold stN; omega)) (by first | omega | (unfold stN; omega)) (by first | omega | (unfold stN; omega))]; exact ⟨ho_27, ⟨h0_27, h1_27, h2_27, h3_27, h4_27, h5_27, h6_27, h7_27, h8_27⟩, h9_27, h10_27, h11_27, h12_27⟩) (lv_sub hl [0, 1, 2, 3, 4] (by rw [← nI_dec2 (show (4100 + sumN sz 16) - (i + 1) = (4100 + sumN sz 16) - (i + 1 + 1) + 1 by omega)]; rfl))
  exact loop_18 ((sumN sz 16 - sumN sz k)) 0 _ _ _ _ (by omega) hZ hS hF (by rw [cpF_0, cpM_0]; exact ⟨ho, ⟨h0, h1, h2, h3, h4, h5, h6, h7, h8⟩, h9, h10, h11, h12⟩) (lv_sub hl [0, 1, 2, 3, 4] rfl)
