/-- the reference's whole state: its fields, its arrays -/
def RA (G : zG) (w : zw) (o : Nat) (A : Nat → Nat) (S : Nat → Int32) (L : Nat → Int64) (F : Nat → Nat → Int32) (M : Nat → Int64) (B V Z : Nat → Int32) (T : Nat → Int64) : Prop := w o = some (.inr (6, fR A S L)) ∧ RW G w A F M ∧ w (A 9) = some (.inl (G.2 0, 101, .inl B)) ∧ w (A 10) = some (.inl (G.2 2, 101, .inl V)) ∧ w (A 11) = some (.inl (G.2 0, 16, .inl Z)) ∧ w (A 12) = some (.inl (G.2 1, 4, .inr (.inl T)))
abbrev allR (o : Nat) (A : Nat → Nat) : List Nat := [o, A 0, A 1, A 2, A 3, A 4, A 5, A 6, A 7, A 8, A 9, A 10, A 11, A 12]
theorem RW.no {G : zG} {w : zw} {A : Nat → Nat} {F : Nat → Nat → Int32} {M : Nat → Int64} (h : RW G w A F M) {b : Nat} {x : Nat × List Value} (hb : w b = some (.inr x)) : b ∉ rowsA A := by
  obtain ⟨h0, h1, h2, h3, h4, h5, h6, h7, h8⟩ := h
  simp only [List.mem_cons, List.not_mem_nil, or_false, not_or]
  refine ⟨z_ne hb h0 (by simp), z_ne hb h1 (by simp), z_ne hb h2 (by simp), z_ne hb h3 (by simp), z_ne hb h4 (by simp), z_ne hb h5 (by simp), z_ne hb h6 (by simp), z_ne hb h7 (by simp), z_ne hb h8 (by simp)⟩
theorem rows_no {A : Nat → Nat} (hA : ∀ i j, i < 13 → j < 13 → i ≠ j → A i ≠ A j) {j : Nat} (h9 : 9 ≤ j) (hj : j < 13) : A j ∉ rowsA A := by
  simp only [List.mem_cons, List.not_mem_nil, or_false, not_or]
  exact ⟨hA _ _ hj (by decide) (by omega), hA _ _ hj (by decide) (by omega), hA _ _ hj (by decide) (by omega), hA _ _ hj (by decide) (by omega), hA _ _ hj (by decide) (by omega), hA _ _ hj (by decide) (by omega), hA _ _ hj (by decide) (by omega), hA _ _ hj (by decide) (by omega), hA _ _ hj (by decide) (by omega)⟩
theorem rows_sub {o : Nat} {A : Nat → Nat} : ∀ t ∈ rowsA A, t ∈ allR o A := by
  intro t ht
  exact List.mem_cons_of_mem _ (List.mem_append_left [A 9, A 10, A 11, A 12] ht)
theorem r_moveA (l : Launch) (G : zG) (n0 e0 : Nat) (w : zw) (o : Nat) (A : Nat → Nat) (S : Nat → Int32) (L : Nat → Int64) (F : Nat → Nat → Int32) (M : Nat → Int64) (B V Z : Nat → Int32) (T : Nat → Int64) (hr : RA G w o A S L F M B V Z T) (hA : ∀ i j, i < 13 → j < 13 → i ≠ j → A i ≠ A j) (f t : Nat) (hf : f < 8200) (ht : t < 8200) : Ct l G n0 e0 y_R_move b_R_move 3 (Option.none : Option FieldType) ({ frames := 0, cells := 0, slots := 0, locals := 0 }) [.ref o, .int (nI f), .int (nI t)] w (fun v w1 => v = none ∧ RA G w1 o A S L (setF F t (fun i => F i f)) (vp_updL M t (M f)) B V Z T ∧ Fr (allR o A) w w1) := by
  obtain ⟨ho, hR, h9, h10, h11, h12⟩ := hr
  refine (r_move l G n0 e0 w o A S L ho F M hR hA f t hf ht).mono (Nat.le_refl _) (Nat.le_refl _) (Nat.le_refl _) (Nat.le_refl _) ?_
  rintro v w1 ⟨rfl, hR1, hF⟩
  exact ⟨rfl, ⟨hF.keep ho (hR.no ho), hR1, hF.keep h9 (rows_no hA (by decide) (by decide)), hF.keep h10 (rows_no hA (by decide) (by decide)), hF.keep h11 (rows_no hA (by decide) (by decide)), hF.keep h12 (rows_no hA (by decide) (by decide))⟩, hF.sub rows_sub⟩
/-- n rows copied from a on to b on -/
def cpF (F : Nat → Nat → Int32) (a b n : Nat) : Nat → Nat → Int32 := fun c x => if b ≤ x ∧ x < b + n then F c (a + (x - b)) else F c x
def cpM (M : Nat → Int64) (a b n : Nat) : Nat → Int64 := fun x => if b ≤ x ∧ x < b + n then M (a + (x - b)) else M x
theorem cpF_0 (F : Nat → Nat → Int32) (a b : Nat) : cpF F a b 0 = F := by
  funext c x; unfold cpF; rw [if_neg (by omega)]
theorem cpM_0 (M : Nat → Int64) (a b : Nat) : cpM M a b 0 = M := by
  funext x; unfold cpM; rw [if_neg (by omega)]
theorem cpF_s {F : Nat → Nat → Int32} {a b i : Nat} (h : b ≤ a ∨ a + i < b) : setF (cpF F a b i) (b + i) (fun c => cpF F a b i c (a + i)) = cpF F a b (i + 1) := by
  funext c x
  unfold setF
  by_cases hx : x = b + i
  · subst hx
    rw [pk_us]
    unfold cpF
    dsimp only
    rw [if_neg (by omega), if_pos (by omega), Nat.add_sub_cancel_left]
  · rw [pk_un hx]
    unfold cpF
    by_cases h2 : b ≤ x ∧ x < b + i
    · rw [if_pos h2, if_pos (by omega)]
    · rw [if_neg h2, if_neg (by omega)]
theorem cpM_s {M : Nat → Int64} {a b i : Nat} (h : b ≤ a ∨ a + i < b) : vp_updL (cpM M a b i) (b + i) (cpM M a b i (a + i)) = cpM M a b (i + 1) := by
  funext x
  by_cases hx : x = b + i
  · subst hx
    rw [pk_uLs]
    unfold cpM
    rw [if_neg (by omega), if_pos (by omega), Nat.add_sub_cancel_left]
  · rw [pk_uLn hx]
    unfold cpM
    by_cases h2 : b ≤ x ∧ x < b + i
    · rw [if_pos h2, if_pos (by omega)]
    · rw [if_neg h2, if_neg (by omega)]
theorem cpF_d {F : Nat → Nat → Int32} {a b i : Nat} (hab : a ≤ b) : setF (cpF F (a + 1) (b + 1) i) b (fun c => cpF F (a + 1) (b + 1) i c a) = cpF F a b (i + 1) := by
  funext c x
  unfold setF
  by_cases hx : x = b
  · subst hx
    rw [pk_us]
    unfold cpF
    dsimp only
    rw [if_neg (by omega), if_pos (by omega), Nat.sub_self, Nat.add_zero]
  · rw [pk_un hx]
    unfold cpF
    by_cases h2 : b + 1 ≤ x ∧ x < b + 1 + i
    · rw [if_pos h2, if_pos (by omega)]; congr 1; omega
    · rw [if_neg h2, if_neg (by omega)]
theorem cpM_d {M : Nat → Int64} {a b i : Nat} (hab : a ≤ b) : vp_updL (cpM M (a + 1) (b + 1) i) b (cpM M (a + 1) (b + 1) i a) = cpM M a b (i + 1) := by
  funext x
  by_cases hx : x = b
  · subst hx
    rw [pk_uLs]
    unfold cpM
    rw [if_neg (by omega), if_pos (by omega), Nat.sub_self, Nat.add_zero]
  · rw [pk_uLn hx]
    unfold cpM
    by_cases h2 : b + 1 ≤ x ∧ x < b + 1 + i
    · rw [if_pos h2, if_pos (by omega)]; congr 1; omega
    · rw [if_neg h2, if_neg (by omega)]
theorem nI_subN {a b : Nat} (h : b ≤ a) : nI a - nI b = nI (a - b) := by
  have e : nI a = nI (a - b) + nI b := by rw [nI_add]; congr 1; omega
  rw [e, Int32.add_sub_cancel]
set_option maxHeartbeats 4000000 in
set_option maxRecDepth 100000 in
theorem r_empty (l : Launch) (G : zG) (n0 e0 : Nat) (w : zw) (o : Nat) (A : Nat → Nat) (S : Nat → Int32) (L : Nat → Int64) (F : Nat → Nat → Int32) (M : Nat → Int64) (B V Z : Nat → Int32) (T : Nat → Int64) (hr : RA G w o A S L F M B V Z T) (hA : ∀ i j, i < 13 → j < 13 → i ≠ j → A i ≠ A j) (sz : Nat → Nat) (hsz : ∀ k, k < 16 → Z k = nI (sz k)) (hsum : sumN sz 16 ≤ 4000) (k : Nat) (hk : k < 16)  : Ct l G n0 e0 y_R_empty b_R_empty 6 (Option.none : Option FieldType) ({ frames := 1, cells := 0, slots := 0, locals := 23 }) [.ref o, .int (nI k)] w (fun v w1 => v = none ∧ RA G w1 o A S L (cpF F (stN sz k + sz k) (stN sz k) (sumN sz 16 - sumN sz k - sz k)) (cpM M (stN sz k + sz k) (stN sz k) (sumN sz 16 - sumN sz k - sz k)) B V (upd Z k 0) T ∧ Fr (allR o A) w w1) := by
  refine z_ct (by decide) (Nat.le_of_ble_eq_true rfl) ?_
  intro p e s m below meth c ls cx hnm hZ hS hl
  have hx := cx.1
  have hb := cx.2.1
  have hl : lv_has ls 6 [(0, .ref o), (1, .int (nI k))] := hl
  obtain ⟨ho, ⟨h0, h1, h2, h3, h4, h5, h6, h7, h8⟩, h9, h10, h11, h12⟩ := id hr
  have hlt := sumN_lt (f := sz) hk
  have hF : Fr [o, (A 0), (A 1), (A 2), (A 3), (A 4), (A 5), (A 6), (A 7), (A 8), (A 9), (A 10), (A 11), (A 12)] w w := Fr.rf
  refine lv_aload_n hx hb d_R_empty_0 rfl (lv_at hl 0 rfl) ?_
  refine lv_iload_n hx hb d_R_empty_1 rfl (lv_at hl 1 rfl) ?_
  refine iv_R_122 (As := [.int (nI k)]) (rest := []) cx (r_startN l G n0 e0 w o A S L ho Z h11 sz hsz k (by omega)) ho ⟨(Nat.le_of_ble_eq_true rfl), (Nat.le_of_ble_eq_true rfl)⟩ ⟨(Nat.le_of_ble_eq_true rfl), (Nat.le_of_ble_eq_true rfl)⟩ rfl hl.1 rfl (Nat.le_of_ble_eq_true rfl) d_R_empty_2 hZ hS (fun v w_1 H locs hp_2 hZ hS => ?_)
  obtain ⟨rfl, hq⟩ := hp_2
  subst w_1
  refine W.eq (g2 := F0 m 5 ls [.int (nI (stN sz k))]) rfl ?_
  refine lv_istore_n (lv' := [(2, .int (nI (stN sz k))), (0, .ref o), (1, .int (nI k))]) hx hb d_R_empty_5 rfl hl (by decide) rfl (fun ls hl => ?_)
  refine lv_aload_n hx hb d_R_empty_6 rfl (lv_at hl 1 rfl) ?_
  refine gf_R_45 cx hZ ho rfl d_R_empty_7 ?_
  refine lv_iload_n hx hb d_R_empty_10 rfl (lv_at hl 2 rfl) ?_
  refine ld_i cx hZ h11 (vp_in_nI hk (by omega)) d_R_empty_11 ?_
  rw [show ((Z (nI k).toNatClampNeg) : Int32) = nI (sz k) from by rw [nI_clamp (by omega)]; exact hsz k hk]
  refine lv_istore_n (lv' := [(3, .int (nI (sz k))), (2, .int (nI (stN sz k))), (0, .ref o), (1, .int (nI k))]) hx hb d_R_empty_12 rfl hl (by decide) rfl (fun ls hl => ?_)
  refine lv_sipush (v := 4100) hx hb d_R_empty_13 (by decide) ?_
  refine lv_aload_n hx hb d_R_empty_16 rfl (lv_at hl 2 rfl) ?_
  refine iv_R_64 (As := []) (rest := [.int 4100]) cx (r_shelvedN l G n0 e0 w o A S L ho Z h11 sz hsz) ho ⟨(Nat.le_of_ble_eq_true rfl), (Nat.le_of_ble_eq_true rfl)⟩ ⟨(Nat.le_of_ble_eq_true rfl), (Nat.le_of_ble_eq_true rfl)⟩ rfl hl.1 rfl (Nat.le_of_ble_eq_true rfl) d_R_empty_17 hZ hS (fun v w_3 H locs hp_4 hZ hS => ?_)
  obtain ⟨rfl, hq⟩ := hp_4
  subst w_3
  refine W.eq (g2 := F0 m 20 ls [.int (nI (sumN sz 16)), .int 4100]) rfl ?_
  refine lv_iadd hx hb d_R_empty_20 ?_
  rw [show ((4100 + (nI (sumN sz 16))) : Int32) = nI (4100 + sumN sz 16) from nI_add 4100 _]
  refine lv_istore (lv' := [(4, .int (nI (4100 + sumN sz 16))), (3, .int (nI (sz k))), (2, .int (nI (stN sz k))), (0, .ref o), (1, .int (nI k))]) hx hb d_R_empty_21 hl (by decide) rfl (fun ls hl => ?_)
  refine lv_iload_n hx hb d_R_empty_23 rfl (lv_at hl 2 rfl) ?_
  refine lv_iload_n hx hb d_R_empty_24 rfl (lv_at hl 1 rfl) ?_
  refine lv_iadd hx hb d_R_empty_25 ?_
  rw [show (((nI (stN sz k)) + (nI (sz k))) : Int32) = nI (stN sz k + sz k) from nI_add _ _]
  refine lv_istore (lv' := [(5, .int (nI (stN sz k + sz k))), (4, .int (nI (4100 + sumN sz 16))), (3, .int (nI (sz k))), (2, .int (nI (stN sz k))), (0, .ref o), (1, .int (nI k))]) hx hb d_R_empty_26 hl (by decide) rfl (fun ls hl => ?_)
  have loop_28 : ∀ (j i : Nat) (w2 : zw) (H : Heap) (locs : List Loc) (ls : Array Slot), i + j = (sumN sz 16 - sumN sz k - sz k) → Zw G.1 vwC (zA n0) w2 H → va_S (zA n0) s.heap H locs → Fr [o, (A 0), (A 1), (A 2), (A 3), (A 4), (A 5), (A 6), (A 7), (A 8), (A 9), (A 10), (A 11), (A 12)] w w2 → RA G w2 o A S L (cpF F (stN sz k + sz k) (stN sz k) i) (cpM M (stN sz k + sz k) (stN sz k) i) B V Z T → lv_has ls 6 [(5, .int (nI ((stN sz k + sz k) + i))), (4, .int (nI (4100 + sumN sz 16))), (3, .int (nI (sz k))), (0, .ref o), (1, .int (nI k))] → W p l e ({ frames := 1, cells := 0, slots := 0, locals := 23 }) s m [.ref o, .int (nI k)].toArray below meth c H locs 0 0 (MQ below (zQ G.1 vwC n0 (fun v w1 => v = none ∧ RA G w1 o A S L (cpF F (stN sz k + sz k) (stN sz k) (sumN sz 16 - sumN sz k - sz k)) (cpM M (stN sz k + sz k) (stN sz k) (sumN sz 16 - sumN sz k - sz k)) B V (upd Z k 0) T ∧ Fr (allR o A) w w1)) [.ref o, .int (nI k)].toArray s ({ frames := 1, cells := 0, slots := 0, locals := 23 } : Room).cells ({ frames := 1, cells := 0, slots := 0, locals := 23 } : Room).slots (zA n0)) (F0 m 28 ls []) := by
    intro j
    induction j with
    | zero =>
      intro i w2 H locs ls hik hZ hS hF hr2 hl
      have hin : i = (sumN sz 16 - sumN sz k - sz k) := by omega
      subst hin
      obtain ⟨ho_5, ⟨h0_5, h1_5, h2_5, h3_5, h4_5, h5_5, h6_5, h7_5, h8_5⟩, h9_5, h10_5, h11_5, h12_5⟩ := id hr2
      have ho_5 : w2 o = some (.inr (6, [.int (S 0), .ref (A 0), .ref (A 1), .ref (A 2), .ref (A 3), .ref (A 4), .ref (A 5), .ref (A 6), .ref (A 7), .ref (A 8), .int (S 1), .ref (A 9), .ref (A 10), .int (S 2), .ref (A 11), .long (L 0), .long (L 1), .long (L 2), .long (L 3), .ref (A 12), .long (L 4)])) := ho_5
      refine lv_iload hx hb d_R_empty_28 (lv_at hl 0 rfl) ?_
      refine lv_iload hx hb d_R_empty_30 (lv_at hl 1 rfl) ?_
      refine lv_icmp_ge (tgt := 51) hx hb d_R_empty_32 (by decide) (fun c32 => ?_) (fun c32 => ?_)
      · refine lv_aload_n hx hb d_R_empty_51 rfl (lv_at hl 3 rfl) ?_
        refine gf_R_45 cx hZ ho_5 rfl d_R_empty_52 ?_
        refine lv_iload_n hx hb d_R_empty_55 rfl (lv_at hl 4 rfl) ?_
        refine lv_iconst (v := 0) hx hb d_R_empty_56 (by decide) ?_
        refine st_i cx hZ hS h11_5 (vp_in_nI hk (by omega)) d_R_empty_57 (fun w_6 H locs hw_7 hZ hS => ?_)
        have hk_8 : w_6 o = some (.inr (6, [.int (S 0), .ref (A 0), .ref (A 1), .ref (A 2), .ref (A 3), .ref (A 4), .ref (A 5), .ref (A 6), .ref (A 7), .ref (A 8), .int (S 1), .ref (A 9), .ref (A 10), .int (S 2), .ref (A 11), .long (L 0), .long (L 1), .long (L 2), .long (L 3), .ref (A 12), .long (L 4)])) := up_ne hw_7 ho_5 (z_ne ho_5 h11_5 (by simp))
        have hk_9 : w_6 (A 0) = some (.inl (G.2 0, 8200, .inl ((cpF F (stN sz k + sz k) (stN sz k) (sumN sz 16 - sumN sz k - sz k)) 0))) := up_ne hw_7 h0_5 ((hA 0 11 (by decide) (by decide) (by decide)))
        have hk_10 : w_6 (A 1) = some (.inl (G.2 0, 8200, .inl ((cpF F (stN sz k + sz k) (stN sz k) (sumN sz 16 - sumN sz k - sz k)) 1))) := up_ne hw_7 h1_5 ((hA 1 11 (by decide) (by decide) (by decide)))
        have hk_11 : w_6 (A 2) = some (.inl (G.2 0, 8200, .inl ((cpF F (stN sz k + sz k) (stN sz k) (sumN sz 16 - sumN sz k - sz k)) 2))) := up_ne hw_7 h2_5 ((hA 2 11 (by decide) (by decide) (by decide)))
        have hk_12 : w_6 (A 3) = some (.inl (G.2 0, 8200, .inl ((cpF F (stN sz k + sz k) (stN sz k) (sumN sz 16 - sumN sz k - sz k)) 3))) := up_ne hw_7 h3_5 ((hA 3 11 (by decide) (by decide) (by decide)))
        have hk_13 : w_6 (A 4) = some (.inl (G.2 0, 8200, .inl ((cpF F (stN sz k + sz k) (stN sz k) (sumN sz 16 - sumN sz k - sz k)) 4))) := up_ne hw_7 h4_5 ((hA 4 11 (by decide) (by decide) (by decide)))
        have hk_14 : w_6 (A 5) = some (.inl (G.2 0, 8200, .inl ((cpF F (stN sz k + sz k) (stN sz k) (sumN sz 16 - sumN sz k - sz k)) 5))) := up_ne hw_7 h5_5 ((hA 5 11 (by decide) (by decide) (by decide)))
        have hk_15 : w_6 (A 6) = some (.inl (G.2 0, 8200, .inl ((cpF F (stN sz k + sz k) (stN sz k) (sumN sz 16 - sumN sz k - sz k)) 6))) := up_ne hw_7 h6_5 ((hA 6 11 (by decide) (by decide) (by decide)))
        have hk_16 : w_6 (A 7) = some (.inl (G.2 1, 8200, .inr (.inl (cpM M (stN sz k + sz k) (stN sz k) (sumN sz 16 - sumN sz k - sz k))))) := up_ne hw_7 h7_5 ((hA 7 11 (by decide) (by decide) (by decide)))
        have hk_17 : w_6 (A 8) = some (.inl (G.2 0, 8200, .inl ((cpF F (stN sz k + sz k) (stN sz k) (sumN sz 16 - sumN sz k - sz k)) 8))) := up_ne hw_7 h8_5 ((hA 8 11 (by decide) (by decide) (by decide)))
        have hk_18 : w_6 (A 9) = some (.inl (G.2 0, 101, .inl B)) := up_ne hw_7 h9_5 ((hA 9 11 (by decide) (by decide) (by decide)))
        have hk_19 : w_6 (A 10) = some (.inl (G.2 2, 101, .inl V)) := up_ne hw_7 h10_5 ((hA 10 11 (by decide) (by decide) (by decide)))
        have hk_20 : w_6 (A 12) = some (.inl (G.2 1, 4, .inr (.inl T))) := up_ne hw_7 h12_5 ((hA 12 11 (by decide) (by decide) (by decide)))
        have hF := hF.put hw_7 (Or.inl (by simp))
        have hc_21 : w_6 (A 11) = some (.inl (G.2 0, 16, .inl (upd Z (nI k).toNatClampNeg 0))) := up_self hw_7
        exact z_vret cx.1 cx.2.1 cx.rt cx.lk hS hZ ⟨(Nat.le_of_ble_eq_true rfl), (Nat.le_of_ble_eq_true rfl)⟩ d_R_empty_58 (⟨rfl, (by have q := hc_21; rw [nI_clamp (by omega)] at q; exact ⟨hk_8, ⟨hk_9, hk_10, hk_11, hk_12, hk_13, hk_14, hk_15, hk_16, hk_17⟩, hk_18, hk_19, q, hk_20⟩), hF⟩)
      · exact absurd (nI_le (by unfold stN; omega) (by unfold stN; omega)) c32
    | succ j ih =>
      intro i w2 H locs ls hik hZ hS hF hr2 hl
      obtain ⟨ho_22, ⟨h0_22, h1_22, h2_22, h3_22, h4_22, h5_22, h6_22, h7_22, h8_22⟩, h9_22, h10_22, h11_22, h12_22⟩ := id hr2
      have ho_22 : w2 o = some (.inr (6, [.int (S 0), .ref (A 0), .ref (A 1), .ref (A 2), .ref (A 3), .ref (A 4), .ref (A 5), .ref (A 6), .ref (A 7), .ref (A 8), .int (S 1), .ref (A 9), .ref (A 10), .int (S 2), .ref (A 11), .long (L 0), .long (L 1), .long (L 2), .long (L 3), .ref (A 12), .long (L 4)])) := ho_22
      refine lv_iload hx hb d_R_empty_28 (lv_at hl 0 rfl) ?_
      refine lv_iload hx hb d_R_empty_30 (lv_at hl 1 rfl) ?_
      refine lv_icmp_ge (tgt := 51) hx hb d_R_empty_32 (by decide) (fun c32 => ?_) (fun c32 => ?_)
      · exact absurd c32 (nI_ge (by unfold stN; omega) (by omega))
      · refine lv_aload_n hx hb d_R_empty_35 rfl (lv_at hl 3 rfl) ?_
        refine lv_iload hx hb d_R_empty_36 (lv_at hl 0 rfl) ?_
        refine lv_iload hx hb d_R_empty_38 (lv_at hl 0 rfl) ?_
        refine lv_iload_n hx hb d_R_empty_40 rfl (lv_at hl 2 rfl) ?_
        refine lv_isub hx hb d_R_empty_41 ?_
        rw [show (((nI ((stN sz k + sz k) + i)) - (nI (sz k))) : Int32) = nI (stN sz k + i) from by rw [nI_subN (by omega)]; congr 1; omega]
        refine iv_R_126 (As := [.int (nI ((stN sz k + sz k) + i)), .int (nI (stN sz k + i))]) (rest := []) cx (r_moveA l G n0 e0 w2 o A S L (cpF F (stN sz k + sz k) (stN sz k) i) (cpM M (stN sz k + sz k) (stN sz k) i) B V Z T ⟨ho_22, ⟨h0_22, h1_22, h2_22, h3_22, h4_22, h5_22, h6_22, h7_22, h8_22⟩, h9_22, h10_22, h11_22, h12_22⟩ hA ((stN sz k + sz k) + i) ((stN sz k) + i) (by unfold stN; omega) (by unfold stN; omega)) ho_22 ⟨(Nat.le_of_ble_eq_true rfl), (Nat.le_of_ble_eq_true rfl)⟩ ⟨(Nat.le_of_ble_eq_true rfl), (Nat.le_of_ble_eq_true rfl)⟩ rfl hl.1 rfl (Nat.le_of_ble_eq_true rfl) d_R_empty_42 hZ hS (fun v w_23 H locs hp_24 hZ hS => ?_)
        obtain ⟨rfl, hr_25, hf_26⟩ := hp_24
        obtain ⟨ho_27, ⟨h0_27, h1_27, h2_27, h3_27, h4_27, h5_27, h6_27, h7_27, h8_27⟩, h9_27, h10_27, h11_27, h12_27⟩ := id hr_25
        have ho_27 : w_23 o = some (.inr (6, [.int (S 0), .ref (A 0), .ref (A 1), .ref (A 2), .ref (A 3), .ref (A 4), .ref (A 5), .ref (A 6), .ref (A 7), .ref (A 8), .int (S 1), .ref (A 9), .ref (A 10), .int (S 2), .ref (A 11), .long (L 0), .long (L 1), .long (L 2), .long (L 3), .ref (A 12), .long (L 4)])) := ho_27
        have hF := hF.call hf_26 (fun t ht => Or.inl ht)
        refine W.eq (g2 := F0 m 45 ls []) rfl ?_
        refine lv_iinc (v := ((nI ((stN sz k + sz k) + i)) + 1)) (lv' := [(5, .int ((nI ((stN sz k + sz k) + i)) + 1)), (4, .int (nI (4100 + sumN sz 16))), (3, .int (nI (sz k))), (0, .ref o), (1, .int (nI k))]) hx hb d_R_empty_45 hl (k := 0) rfl rfl (by decide) rfl (fun ls hl => ?_)
        refine lv_goto (tgt := 28) hx hb d_R_empty_48 (by decide) ?_
        exact ih (i + 1) _ _ _ _ (by omega) hZ hS hF (by rw [← cpF_s (Or.inl (by omega)), ← cpM_s (Or.inl (by omega))]; exact ⟨ho_27, ⟨h0_27, h1_27, h2_27, h3_27, h4_27, h5_27, h6_27, h7_27, h8_27⟩, h9_27, h10_27, h11_27, h12_27⟩) (lv_sub hl [0, 1, 2, 3, 4] (by rw [← Nat.add_assoc, ← nI_1 ((stN sz k + sz k) + i)]; rfl))
  exact loop_28 ((sumN sz 16 - sumN sz k - sz k)) 0 _ _ _ _ (by omega) hZ hS hF (by rw [cpF_0, cpM_0]; exact ⟨ho, ⟨h0, h1, h2, h3, h4, h5, h6, h7, h8⟩, h9, h10, h11, h12⟩) (lv_sub hl [0, 1, 2, 4, 5] rfl)
