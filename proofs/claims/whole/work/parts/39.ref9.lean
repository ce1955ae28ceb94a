def cpC (sz : Nat → Nat) (k : Nat) : Nat := sumN sz 16 - sumN sz k - sz k
/-- put: the box's rows behind the lists' end, its shift set -/
def putF (F : Nat → Nat → Int32) (a en n : Nat) (x : Int32) : Nat → Nat → Int32 := colF (cpF F a en n) 4 en x
def emF (F : Nat → Nat → Int32) (sz : Nat → Nat) (k : Nat) : Nat → Nat → Int32 := cpF F (stN sz k + sz k) (stN sz k) (cpC sz k)
def emM (M : Nat → Int64) (sz : Nat → Nat) (k : Nat) : Nat → Int64 := cpM M (stN sz k + sz k) (stN sz k) (cpC sz k)
theorem RA.up {G : zG} {w : zw} {o : Nat} {A : Nat → Nat} {S S2 : Nat → Int32} {L : Nat → Int64} {F F2 : Nat → Nat → Int32} {M : Nat → Int64} {B V Z : Nat → Int32} {T : Nat → Int64} (h : RA G w o A S L F M B V Z T) (e : S = S2) (e2 : F = F2) : RA G w o A S2 L F2 M B V Z T := by subst e e2; exact h
set_option maxHeartbeats 4000000 in
set_option maxRecDepth 100000 in
theorem r_put_0 (l : Launch) (G : zG) (n0 e0 : Nat) (w : zw) (o : Nat) (A : Nat → Nat) (S : Nat → Int32) (L : Nat → Int64) (F : Nat → Nat → Int32) (M : Nat → Int64) (B V Z : Nat → Int32) (T : Nat → Int64) (hr : RA G w o A S L F M B V Z T) (hA : ∀ i j, i < 13 → j < 13 → i ≠ j → A i ≠ A j) (hl0 : S 1 = 0) (kk : Int32) (x : Int32) (cp : Bool)  : Ct l G n0 e0 y_R_put b_R_put 7 (Option.some FieldType.boolean) ({ frames := 2, cells := 0, slots := 0, locals := 55 }) [.ref o, .int kk, .int x, .int (zi cp)] w (fun v w1 => v = some (.int 0) ∧ RA G w1 o A (upd S 0 0) L F M B V Z T ∧ Fr (allR o A) w w1) := by
  refine z_ct (by decide) (Nat.le_of_ble_eq_true rfl) ?_
  intro p e s m below meth c ls cx hnm hZ hS hl
  have hx := cx.1
  have hb := cx.2.1
  have hl : lv_has ls 7 [(0, .ref o), (1, .int kk), (2, .int x), (3, .int (zi cp))] := hl
  obtain ⟨ho, ⟨h0, h1, h2, h3, h4, h5, h6, h7, h8⟩, h9, h10, h11, h12⟩ := id hr
  have hF : Fr [o, (A 0), (A 1), (A 2), (A 3), (A 4), (A 5), (A 6), (A 7), (A 8), (A 9), (A 10), (A 11), (A 12)] w w := Fr.rf
  refine lv_aload_n hx hb d_R_put_0 rfl (lv_at hl 0 rfl) ?_
  refine lv_iconst (v := 0) hx hb d_R_put_1 (by decide) ?_
  refine pf_R_51 cx hZ hS ho (Nat.le_of_ble_eq_true rfl) d_R_put_2 (fun w_1 H locs hw_2 hZ hS => ?_)
  have hk_3 : w_1 (A 0) = some (.inl (G.2 0, 8200, .inl (F 0))) := up_ne hw_2 h0 (z_ne h0 ho (by simp))
  have hk_4 : w_1 (A 1) = some (.inl (G.2 0, 8200, .inl (F 1))) := up_ne hw_2 h1 (z_ne h1 ho (by simp))
  have hk_5 : w_1 (A 2) = some (.inl (G.2 0, 8200, .inl (F 2))) := up_ne hw_2 h2 (z_ne h2 ho (by simp))
  have hk_6 : w_1 (A 3) = some (.inl (G.2 0, 8200, .inl (F 3))) := up_ne hw_2 h3 (z_ne h3 ho (by simp))
  have hk_7 : w_1 (A 4) = some (.inl (G.2 0, 8200, .inl (F 4))) := up_ne hw_2 h4 (z_ne h4 ho (by simp))
  have hk_8 : w_1 (A 5) = some (.inl (G.2 0, 8200, .inl (F 5))) := up_ne hw_2 h5 (z_ne h5 ho (by simp))
  have hk_9 : w_1 (A 6) = some (.inl (G.2 0, 8200, .inl (F 6))) := up_ne hw_2 h6 (z_ne h6 ho (by simp))
  have hk_10 : w_1 (A 7) = some (.inl (G.2 1, 8200, .inr (.inl M))) := up_ne hw_2 h7 (z_ne h7 ho (by simp))
  have hk_11 : w_1 (A 8) = some (.inl (G.2 0, 8200, .inl (F 8))) := up_ne hw_2 h8 (z_ne h8 ho (by simp))
  have hk_12 : w_1 (A 9) = some (.inl (G.2 0, 101, .inl B)) := up_ne hw_2 h9 (z_ne h9 ho (by simp))
  have hk_13 : w_1 (A 10) = some (.inl (G.2 2, 101, .inl V)) := up_ne hw_2 h10 (z_ne h10 ho (by simp))
  have hk_14 : w_1 (A 11) = some (.inl (G.2 0, 16, .inl Z)) := up_ne hw_2 h11 (z_ne h11 ho (by simp))
  have hk_15 : w_1 (A 12) = some (.inl (G.2 1, 4, .inr (.inl T))) := up_ne hw_2 h12 (z_ne h12 ho (by simp))
  have hF := hF.put hw_2 (Or.inl (by simp))
  have hc_16 : w_1 o = some (.inr (6, [.int 0, .ref (A 0), .ref (A 1), .ref (A 2), .ref (A 3), .ref (A 4), .ref (A 5), .ref (A 6), .ref (A 7), .ref (A 8), .int (S 1), .ref (A 9), .ref (A 10), .int (S 2), .ref (A 11), .long (L 0), .long (L 1), .long (L 2), .long (L 3), .ref (A 12), .long (L 4)])) := up_self hw_2
  refine lv_aload_n hx hb d_R_put_5 rfl (lv_at hl 0 rfl) ?_
  refine gf_R_68 cx hZ hc_16 rfl d_R_put_6 ?_
  refine lv_if_eq (tgt := 44) hx hb d_R_put_9 (by decide) (fun c9 => ?_) (fun c9 => ?_)
  · refine lv_iconst (v := 0) hx hb d_R_put_44 (by decide) ?_
    exact z_zret cx.1 cx.2.1 cx.rt cx.lk (by first | rfl | (simp [narrow]; done) | simp_all [narrow]) hS hZ ⟨(Nat.le_of_ble_eq_true rfl), (Nat.le_of_ble_eq_true rfl)⟩ d_R_put_45 (⟨rfl, ⟨hc_16, ⟨hk_3, hk_4, hk_5, hk_6, hk_7, hk_8, hk_9, hk_10, hk_11⟩, hk_12, hk_13, hk_14, hk_15⟩, hF⟩)
  · exact absurd hl0 c9
set_option maxHeartbeats 4000000 in
set_option maxRecDepth 100000 in
theorem r_put_out (l : Launch) (G : zG) (n0 e0 : Nat) (w : zw) (o : Nat) (A : Nat → Nat) (S : Nat → Int32) (L : Nat → Int64) (F : Nat → Nat → Int32) (M : Nat → Int64) (B V Z : Nat → Int32) (T : Nat → Int64) (hr : RA G w o A S L F M B V Z T) (hA : ∀ i j, i < 13 → j < 13 → i ≠ j → A i ≠ A j) (kk : Int32) (hkk : regB kk = false) (x : Int32) (cp : Bool)  : Ct l G n0 e0 y_R_put b_R_put 7 (Option.some FieldType.boolean) ({ frames := 2, cells := 0, slots := 0, locals := 55 }) [.ref o, .int kk, .int x, .int (zi cp)] w (fun v w1 => v = some (.int 0) ∧ RA G w1 o A (upd S 0 0) L F M B V Z T ∧ Fr (allR o A) w w1) := by
  refine z_ct (by decide) (Nat.le_of_ble_eq_true rfl) ?_
  intro p e s m below meth c ls cx hnm hZ hS hl
  have hx := cx.1
  have hb := cx.2.1
  have hl : lv_has ls 7 [(0, .ref o), (1, .int kk), (2, .int x), (3, .int (zi cp))] := hl
  obtain ⟨ho, ⟨h0, h1, h2, h3, h4, h5, h6, h7, h8⟩, h9, h10, h11, h12⟩ := id hr
  have hF : Fr [o, (A 0), (A 1), (A 2), (A 3), (A 4), (A 5), (A 6), (A 7), (A 8), (A 9), (A 10), (A 11), (A 12)] w w := Fr.rf
  refine lv_aload_n hx hb d_R_put_0 rfl (lv_at hl 0 rfl) ?_
  refine lv_iconst (v := 0) hx hb d_R_put_1 (by decide) ?_
  refine pf_R_51 cx hZ hS ho (Nat.le_of_ble_eq_true rfl) d_R_put_2 (fun w_1 H locs hw_2 hZ hS => ?_)
  have hk_3 : w_1 (A 0) = some (.inl (G.2 0, 8200, .inl (F 0))) := up_ne hw_2 h0 (z_ne h0 ho (by simp))
  have hk_4 : w_1 (A 1) = some (.inl (G.2 0, 8200, .inl (F 1))) := up_ne hw_2 h1 (z_ne h1 ho (by simp))
  have hk_5 : w_1 (A 2) = some (.inl (G.2 0, 8200, .inl (F 2))) := up_ne hw_2 h2 (z_ne h2 ho (by simp))
  have hk_6 : w_1 (A 3) = some (.inl (G.2 0, 8200, .inl (F 3))) := up_ne hw_2 h3 (z_ne h3 ho (by simp))
  have hk_7 : w_1 (A 4) = some (.inl (G.2 0, 8200, .inl (F 4))) := up_ne hw_2 h4 (z_ne h4 ho (by simp))
  have hk_8 : w_1 (A 5) = some (.inl (G.2 0, 8200, .inl (F 5))) := up_ne hw_2 h5 (z_ne h5 ho (by simp))
  have hk_9 : w_1 (A 6) = some (.inl (G.2 0, 8200, .inl (F 6))) := up_ne hw_2 h6 (z_ne h6 ho (by simp))
  have hk_10 : w_1 (A 7) = some (.inl (G.2 1, 8200, .inr (.inl M))) := up_ne hw_2 h7 (z_ne h7 ho (by simp))
  have hk_11 : w_1 (A 8) = some (.inl (G.2 0, 8200, .inl (F 8))) := up_ne hw_2 h8 (z_ne h8 ho (by simp))
  have hk_12 : w_1 (A 9) = some (.inl (G.2 0, 101, .inl B)) := up_ne hw_2 h9 (z_ne h9 ho (by simp))
  have hk_13 : w_1 (A 10) = some (.inl (G.2 2, 101, .inl V)) := up_ne hw_2 h10 (z_ne h10 ho (by simp))
  have hk_14 : w_1 (A 11) = some (.inl (G.2 0, 16, .inl Z)) := up_ne hw_2 h11 (z_ne h11 ho (by simp))
  have hk_15 : w_1 (A 12) = some (.inl (G.2 1, 4, .inr (.inl T))) := up_ne hw_2 h12 (z_ne h12 ho (by simp))
  have hF := hF.put hw_2 (Or.inl (by simp))
  have hc_16 : w_1 o = some (.inr (6, [.int 0, .ref (A 0), .ref (A 1), .ref (A 2), .ref (A 3), .ref (A 4), .ref (A 5), .ref (A 6), .ref (A 7), .ref (A 8), .int (S 1), .ref (A 9), .ref (A 10), .int (S 2), .ref (A 11), .long (L 0), .long (L 1), .long (L 2), .long (L 3), .ref (A 12), .long (L 4)])) := up_self hw_2
  refine lv_aload_n hx hb d_R_put_5 rfl (lv_at hl 0 rfl) ?_
  refine gf_R_68 cx hZ hc_16 rfl d_R_put_6 ?_
  refine lv_if_eq (tgt := 44) hx hb d_R_put_9 (by decide) (fun c9 => ?_) (fun c9 => ?_)
  · refine lv_iconst (v := 0) hx hb d_R_put_44 (by decide) ?_
    exact z_zret cx.1 cx.2.1 cx.rt cx.lk (by first | rfl | (simp [narrow]; done) | simp_all [narrow]) hS hZ ⟨(Nat.le_of_ble_eq_true rfl), (Nat.le_of_ble_eq_true rfl)⟩ d_R_put_45 (⟨rfl, ⟨hc_16, ⟨hk_3, hk_4, hk_5, hk_6, hk_7, hk_8, hk_9, hk_10, hk_11⟩, hk_12, hk_13, hk_14, hk_15⟩, hF⟩)
  · refine lv_aload_n hx hb d_R_put_12 rfl (lv_at hl 0 rfl) ?_
    refine lv_iload_n hx hb d_R_put_13 rfl (lv_at hl 1 rfl) ?_
    refine iv_R_157 (As := [.int kk]) (rest := []) cx (r_isFull_out l G n0 e0 w_1 o A (upd S 0 0) L hc_16 kk hkk) hc_16 ⟨(Nat.le_of_ble_eq_true rfl), (Nat.le_of_ble_eq_true rfl)⟩ ⟨(Nat.le_of_ble_eq_true rfl), (Nat.le_of_ble_eq_true rfl)⟩ rfl hl.1 rfl (Nat.le_of_ble_eq_true rfl) d_R_put_14 hZ hS (fun v w_17 H locs hp_18 hZ hS => ?_)
    obtain ⟨rfl, hq⟩ := hp_18
    subst w_17
    refine W.eq (g2 := F0 m 17 ls [.int 0]) rfl ?_
    refine lv_if_eq (tgt := 44) hx hb d_R_put_17 (by decide) (fun c17 => ?_) (fun c17 => ?_)
    · refine lv_iconst (v := 0) hx hb d_R_put_44 (by decide) ?_
      exact z_zret cx.1 cx.2.1 cx.rt cx.lk (by first | rfl | (simp [narrow]; done) | simp_all [narrow]) hS hZ ⟨(Nat.le_of_ble_eq_true rfl), (Nat.le_of_ble_eq_true rfl)⟩ d_R_put_45 (⟨rfl, ⟨hc_16, ⟨hk_3, hk_4, hk_5, hk_6, hk_7, hk_8, hk_9, hk_10, hk_11⟩, hk_12, hk_13, hk_14, hk_15⟩, hF⟩)
    · exact absurd c17 (by decide)
set_option maxHeartbeats 4000000 in
set_option maxRecDepth 100000 in
theorem r_put_void (l : Launch) (G : zG) (n0 e0 : Nat) (w : zw) (o : Nat) (A : Nat → Nat) (S : Nat → Int32) (L : Nat → Int64) (F : Nat → Nat → Int32) (M : Nat → Int64) (B V Z : Nat → Int32) (T : Nat → Int64) (hr : RA G w o A S L F M B V Z T) (hA : ∀ i j, i < 13 → j < 13 → i ≠ j → A i ≠ A j) (sz : Nat → Nat) (hsz : ∀ k, k < 16 → Z k = nI (sz k)) (hsum : sumN sz 16 ≤ 4000) (k : Nat) (hk : k < 16) (hz0 : sz k = 0) (x : Int32) (cp : Bool)  : Ct l G n0 e0 y_R_put b_R_put 7 (Option.some FieldType.boolean) ({ frames := 2, cells := 0, slots := 0, locals := 55 }) [.ref o, .int (nI k), .int x, .int (zi cp)] w (fun v w1 => v = some (.int 0) ∧ RA G w1 o A (upd S 0 0) L F M B V Z T ∧ Fr (allR o A) w w1) := by
  refine z_ct (by decide) (Nat.le_of_ble_eq_true rfl) ?_
  intro p e s m below meth c ls cx hnm hZ hS hl
  have hx := cx.1
  have hb := cx.2.1
  have hl : lv_has ls 7 [(0, .ref o), (1, .int (nI k)), (2, .int x), (3, .int (zi cp))] := hl
  obtain ⟨ho, ⟨h0, h1, h2, h3, h4, h5, h6, h7, h8⟩, h9, h10, h11, h12⟩ := id hr
  have hlt := sumN_lt (f := sz) hk
  have hF : Fr [o, (A 0), (A 1), (A 2), (A 3), (A 4), (A 5), (A 6), (A 7), (A 8), (A 9), (A 10), (A 11), (A 12)] w w := Fr.rf
  refine lv_aload_n hx hb d_R_put_0 rfl (lv_at hl 0 rfl) ?_
  refine lv_iconst (v := 0) hx hb d_R_put_1 (by decide) ?_
  refine pf_R_51 cx hZ hS ho (Nat.le_of_ble_eq_true rfl) d_R_put_2 (fun w_1 H locs hw_2 hZ hS => ?_)
  have hk_3 : w_1 (A 0) = some (.inl (G.2 0, 8200, .inl (F 0))) := up_ne hw_2 h0 (z_ne h0 ho (by simp))
  have hk_4 : w_1 (A 1) = some (.inl (G.2 0, 8200, .inl (F 1))) := up_ne hw_2 h1 (z_ne h1 ho (by simp))
  have hk_5 : w_1 (A 2) = some (.inl (G.2 0, 8200, .inl (F 2))) := up_ne hw_2 h2 (z_ne h2 ho (by simp))
  have hk_6 : w_1 (A 3) = some (.inl (G.2 0, 8200, .inl (F 3))) := up_ne hw_2 h3 (z_ne h3 ho (by simp))
  have hk_7 : w_1 (A 4) = some (.inl (G.2 0, 8200, .inl (F 4))) := up_ne hw_2 h4 (z_ne h4 ho (by simp))
  have hk_8 : w_1 (A 5) = some (.inl (G.2 0, 8200, .inl (F 5))) := up_ne hw_2 h5 (z_ne h5 ho (by simp))
  have hk_9 : w_1 (A 6) = some (.inl (G.2 0, 8200, .inl (F 6))) := up_ne hw_2 h6 (z_ne h6 ho (by simp))
  have hk_10 : w_1 (A 7) = some (.inl (G.2 1, 8200, .inr (.inl M))) := up_ne hw_2 h7 (z_ne h7 ho (by simp))
  have hk_11 : w_1 (A 8) = some (.inl (G.2 0, 8200, .inl (F 8))) := up_ne hw_2 h8 (z_ne h8 ho (by simp))
  have hk_12 : w_1 (A 9) = some (.inl (G.2 0, 101, .inl B)) := up_ne hw_2 h9 (z_ne h9 ho (by simp))
  have hk_13 : w_1 (A 10) = some (.inl (G.2 2, 101, .inl V)) := up_ne hw_2 h10 (z_ne h10 ho (by simp))
  have hk_14 : w_1 (A 11) = some (.inl (G.2 0, 16, .inl Z)) := up_ne hw_2 h11 (z_ne h11 ho (by simp))
  have hk_15 : w_1 (A 12) = some (.inl (G.2 1, 4, .inr (.inl T))) := up_ne hw_2 h12 (z_ne h12 ho (by simp))
  have hF := hF.put hw_2 (Or.inl (by simp))
  have hc_16 : w_1 o = some (.inr (6, [.int 0, .ref (A 0), .ref (A 1), .ref (A 2), .ref (A 3), .ref (A 4), .ref (A 5), .ref (A 6), .ref (A 7), .ref (A 8), .int (S 1), .ref (A 9), .ref (A 10), .int (S 2), .ref (A 11), .long (L 0), .long (L 1), .long (L 2), .long (L 3), .ref (A 12), .long (L 4)])) := up_self hw_2
  refine lv_aload_n hx hb d_R_put_5 rfl (lv_at hl 0 rfl) ?_
  refine gf_R_68 cx hZ hc_16 rfl d_R_put_6 ?_
  refine lv_if_eq (tgt := 44) hx hb d_R_put_9 (by decide) (fun c9 => ?_) (fun c9 => ?_)
  · refine lv_iconst (v := 0) hx hb d_R_put_44 (by decide) ?_
    exact z_zret cx.1 cx.2.1 cx.rt cx.lk (by first | rfl | (simp [narrow]; done) | simp_all [narrow]) hS hZ ⟨(Nat.le_of_ble_eq_true rfl), (Nat.le_of_ble_eq_true rfl)⟩ d_R_put_45 (⟨rfl, ⟨hc_16, ⟨hk_3, hk_4, hk_5, hk_6, hk_7, hk_8, hk_9, hk_10, hk_11⟩, hk_12, hk_13, hk_14, hk_15⟩, hF⟩)
  · refine lv_aload_n hx hb d_R_put_12 rfl (lv_at hl 0 rfl) ?_
    refine lv_iload_n hx hb d_R_put_13 rfl (lv_at hl 1 rfl) ?_
    refine iv_R_157 (As := [.int (nI k)]) (rest := []) cx (r_isFull_in l G n0 e0 w_1 o A (upd S 0 0) L hc_16 (fun _ => Z) hk_14 k hk) hc_16 ⟨(Nat.le_of_ble_eq_true rfl), (Nat.le_of_ble_eq_true rfl)⟩ ⟨(Nat.le_of_ble_eq_true rfl), (Nat.le_of_ble_eq_true rfl)⟩ rfl hl.1 rfl (Nat.le_of_ble_eq_true rfl) d_R_put_14 hZ hS (fun v w_17 H locs hp_18 hZ hS => ?_)
    obtain ⟨rfl, hq⟩ := hp_18
    subst w_17
    refine W.eq (g2 := F0 m 17 ls [.int (zi (!decide (Z k ≤ 0)))]) rfl ?_
    refine lv_if_eq (tgt := 44) hx hb d_R_put_17 (by decide) (fun c17 => ?_) (fun c17 => ?_)
    · refine lv_iconst (v := 0) hx hb d_R_put_44 (by decide) ?_
      exact z_zret cx.1 cx.2.1 cx.rt cx.lk (by first | rfl | (simp [narrow]; done) | simp_all [narrow]) hS hZ ⟨(Nat.le_of_ble_eq_true rfl), (Nat.le_of_ble_eq_true rfl)⟩ d_R_put_45 (⟨rfl, ⟨hc_16, ⟨hk_3, hk_4, hk_5, hk_6, hk_7, hk_8, hk_9, hk_10, hk_11⟩, hk_12, hk_13, hk_14, hk_15⟩, hF⟩)
    · exact absurd ((zi_n0 _).mp c17) (by rw [full_nI (hsz k hk) (by omega)]; simp [hz0])
set_option maxHeartbeats 4000000 in
set_option maxRecDepth 100000 in
theorem r_unbox_0 (l : Launch) (G : zG) (n0 e0 : Nat) (w : zw) (o : Nat) (A : Nat → Nat) (S : Nat → Int32) (L : Nat → Int64) (F : Nat → Nat → Int32) (M : Nat → Int64) (B V Z : Nat → Int32) (T : Nat → Int64) (hr : RA G w o A S L F M B V Z T) (hA : ∀ i j, i < 13 → j < 13 → i ≠ j → A i ≠ A j) (hl0 : S 1 = 0) (kk : Int32)  : Ct l G n0 e0 y_R_unbox b_R_unbox 5 (Option.some FieldType.boolean) ({ frames := 2, cells := 0, slots := 0, locals := 55 }) [.ref o, .int kk] w (fun v w1 => v = some (.int 0) ∧ RA G w1 o A (upd S 0 0) L F M B V Z T ∧ Fr (allR o A) w w1) := by
  refine z_ct (by decide) (Nat.le_of_ble_eq_true rfl) ?_
  intro p e s m below meth c ls cx hnm hZ hS hl
  have hx := cx.1
  have hb := cx.2.1
  have hl : lv_has ls 5 [(0, .ref o), (1, .int kk)] := hl
  obtain ⟨ho, ⟨h0, h1, h2, h3, h4, h5, h6, h7, h8⟩, h9, h10, h11, h12⟩ := id hr
  have hF : Fr [o, (A 0), (A 1), (A 2), (A 3), (A 4), (A 5), (A 6), (A 7), (A 8), (A 9), (A 10), (A 11), (A 12)] w w := Fr.rf
  refine lv_aload_n hx hb d_R_unbox_0 rfl (lv_at hl 0 rfl) ?_
  refine lv_iconst (v := 0) hx hb d_R_unbox_1 (by decide) ?_
  refine pf_R_51 cx hZ hS ho (Nat.le_of_ble_eq_true rfl) d_R_unbox_2 (fun w_1 H locs hw_2 hZ hS => ?_)
  have hk_3 : w_1 (A 0) = some (.inl (G.2 0, 8200, .inl (F 0))) := up_ne hw_2 h0 (z_ne h0 ho (by simp))
  have hk_4 : w_1 (A 1) = some (.inl (G.2 0, 8200, .inl (F 1))) := up_ne hw_2 h1 (z_ne h1 ho (by simp))
  have hk_5 : w_1 (A 2) = some (.inl (G.2 0, 8200, .inl (F 2))) := up_ne hw_2 h2 (z_ne h2 ho (by simp))
  have hk_6 : w_1 (A 3) = some (.inl (G.2 0, 8200, .inl (F 3))) := up_ne hw_2 h3 (z_ne h3 ho (by simp))
  have hk_7 : w_1 (A 4) = some (.inl (G.2 0, 8200, .inl (F 4))) := up_ne hw_2 h4 (z_ne h4 ho (by simp))
  have hk_8 : w_1 (A 5) = some (.inl (G.2 0, 8200, .inl (F 5))) := up_ne hw_2 h5 (z_ne h5 ho (by simp))
  have hk_9 : w_1 (A 6) = some (.inl (G.2 0, 8200, .inl (F 6))) := up_ne hw_2 h6 (z_ne h6 ho (by simp))
  have hk_10 : w_1 (A 7) = some (.inl (G.2 1, 8200, .inr (.inl M))) := up_ne hw_2 h7 (z_ne h7 ho (by simp))
  have hk_11 : w_1 (A 8) = some (.inl (G.2 0, 8200, .inl (F 8))) := up_ne hw_2 h8 (z_ne h8 ho (by simp))
  have hk_12 : w_1 (A 9) = some (.inl (G.2 0, 101, .inl B)) := up_ne hw_2 h9 (z_ne h9 ho (by simp))
  have hk_13 : w_1 (A 10) = some (.inl (G.2 2, 101, .inl V)) := up_ne hw_2 h10 (z_ne h10 ho (by simp))
  have hk_14 : w_1 (A 11) = some (.inl (G.2 0, 16, .inl Z)) := up_ne hw_2 h11 (z_ne h11 ho (by simp))
  have hk_15 : w_1 (A 12) = some (.inl (G.2 1, 4, .inr (.inl T))) := up_ne hw_2 h12 (z_ne h12 ho (by simp))
  have hF := hF.put hw_2 (Or.inl (by simp))
  have hc_16 : w_1 o = some (.inr (6, [.int 0, .ref (A 0), .ref (A 1), .ref (A 2), .ref (A 3), .ref (A 4), .ref (A 5), .ref (A 6), .ref (A 7), .ref (A 8), .int (S 1), .ref (A 9), .ref (A 10), .int (S 2), .ref (A 11), .long (L 0), .long (L 1), .long (L 2), .long (L 3), .ref (A 12), .long (L 4)])) := up_self hw_2
  refine lv_aload_n hx hb d_R_unbox_5 rfl (lv_at hl 0 rfl) ?_
  refine gf_R_68 cx hZ hc_16 rfl d_R_unbox_6 ?_
  refine lv_if_eq (tgt := 45) hx hb d_R_unbox_9 (by decide) (fun c9 => ?_) (fun c9 => ?_)
  · refine lv_iconst (v := 0) hx hb d_R_unbox_45 (by decide) ?_
    exact z_zret cx.1 cx.2.1 cx.rt cx.lk (by first | rfl | (simp [narrow]; done) | simp_all [narrow]) hS hZ ⟨(Nat.le_of_ble_eq_true rfl), (Nat.le_of_ble_eq_true rfl)⟩ d_R_unbox_46 (⟨rfl, ⟨hc_16, ⟨hk_3, hk_4, hk_5, hk_6, hk_7, hk_8, hk_9, hk_10, hk_11⟩, hk_12, hk_13, hk_14, hk_15⟩, hF⟩)
  · exact absurd hl0 c9
set_option maxHeartbeats 4000000 in
set_option maxRecDepth 100000 in
theorem r_unbox_out (l : Launch) (G : zG) (n0 e0 : Nat) (w : zw) (o : Nat) (A : Nat → Nat) (S : Nat → Int32) (L : Nat → Int64) (F : Nat → Nat → Int32) (M : Nat → Int64) (B V Z : Nat → Int32) (T : Nat → Int64) (hr : RA G w o A S L F M B V Z T) (hA : ∀ i j, i < 13 → j < 13 → i ≠ j → A i ≠ A j) (kk : Int32) (hkk : regB kk = false)  : Ct l G n0 e0 y_R_unbox b_R_unbox 5 (Option.some FieldType.boolean) ({ frames := 2, cells := 0, slots := 0, locals := 55 }) [.ref o, .int kk] w (fun v w1 => v = some (.int 0) ∧ RA G w1 o A (upd S 0 0) L F M B V Z T ∧ Fr (allR o A) w w1) := by
  refine z_ct (by decide) (Nat.le_of_ble_eq_true rfl) ?_
  intro p e s m below meth c ls cx hnm hZ hS hl
  have hx := cx.1
  have hb := cx.2.1
  have hl : lv_has ls 5 [(0, .ref o), (1, .int kk)] := hl
  obtain ⟨ho, ⟨h0, h1, h2, h3, h4, h5, h6, h7, h8⟩, h9, h10, h11, h12⟩ := id hr
  have hF : Fr [o, (A 0), (A 1), (A 2), (A 3), (A 4), (A 5), (A 6), (A 7), (A 8), (A 9), (A 10), (A 11), (A 12)] w w := Fr.rf
  refine lv_aload_n hx hb d_R_unbox_0 rfl (lv_at hl 0 rfl) ?_
  refine lv_iconst (v := 0) hx hb d_R_unbox_1 (by decide) ?_
  refine pf_R_51 cx hZ hS ho (Nat.le_of_ble_eq_true rfl) d_R_unbox_2 (fun w_1 H locs hw_2 hZ hS => ?_)
  have hk_3 : w_1 (A 0) = some (.inl (G.2 0, 8200, .inl (F 0))) := up_ne hw_2 h0 (z_ne h0 ho (by simp))
  have hk_4 : w_1 (A 1) = some (.inl (G.2 0, 8200, .inl (F 1))) := up_ne hw_2 h1 (z_ne h1 ho (by simp))
  have hk_5 : w_1 (A 2) = some (.inl (G.2 0, 8200, .inl (F 2))) := up_ne hw_2 h2 (z_ne h2 ho (by simp))
  have hk_6 : w_1 (A 3) = some (.inl (G.2 0, 8200, .inl (F 3))) := up_ne hw_2 h3 (z_ne h3 ho (by simp))
  have hk_7 : w_1 (A 4) = some (.inl (G.2 0, 8200, .inl (F 4))) := up_ne hw_2 h4 (z_ne h4 ho (by simp))
  have hk_8 : w_1 (A 5) = some (.inl (G.2 0, 8200, .inl (F 5))) := up_ne hw_2 h5 (z_ne h5 ho (by simp))
  have hk_9 : w_1 (A 6) = some (.inl (G.2 0, 8200, .inl (F 6))) := up_ne hw_2 h6 (z_ne h6 ho (by simp))
  have hk_10 : w_1 (A 7) = some (.inl (G.2 1, 8200, .inr (.inl M))) := up_ne hw_2 h7 (z_ne h7 ho (by simp))
  have hk_11 : w_1 (A 8) = some (.inl (G.2 0, 8200, .inl (F 8))) := up_ne hw_2 h8 (z_ne h8 ho (by simp))
  have hk_12 : w_1 (A 9) = some (.inl (G.2 0, 101, .inl B)) := up_ne hw_2 h9 (z_ne h9 ho (by simp))
  have hk_13 : w_1 (A 10) = some (.inl (G.2 2, 101, .inl V)) := up_ne hw_2 h10 (z_ne h10 ho (by simp))
  have hk_14 : w_1 (A 11) = some (.inl (G.2 0, 16, .inl Z)) := up_ne hw_2 h11 (z_ne h11 ho (by simp))
  have hk_15 : w_1 (A 12) = some (.inl (G.2 1, 4, .inr (.inl T))) := up_ne hw_2 h12 (z_ne h12 ho (by simp))
  have hF := hF.put hw_2 (Or.inl (by simp))
  have hc_16 : w_1 o = some (.inr (6, [.int 0, .ref (A 0), .ref (A 1), .ref (A 2), .ref (A 3), .ref (A 4), .ref (A 5), .ref (A 6), .ref (A 7), .ref (A 8), .int (S 1), .ref (A 9), .ref (A 10), .int (S 2), .ref (A 11), .long (L 0), .long (L 1), .long (L 2), .long (L 3), .ref (A 12), .long (L 4)])) := up_self hw_2
  refine lv_aload_n hx hb d_R_unbox_5 rfl (lv_at hl 0 rfl) ?_
  refine gf_R_68 cx hZ hc_16 rfl d_R_unbox_6 ?_
  refine lv_if_eq (tgt := 45) hx hb d_R_unbox_9 (by decide) (fun c9 => ?_) (fun c9 => ?_)
  · refine lv_iconst (v := 0) hx hb d_R_unbox_45 (by decide) ?_
    exact z_zret cx.1 cx.2.1 cx.rt cx.lk (by first | rfl | (simp [narrow]; done) | simp_all [narrow]) hS hZ ⟨(Nat.le_of_ble_eq_true rfl), (Nat.le_of_ble_eq_true rfl)⟩ d_R_unbox_46 (⟨rfl, ⟨hc_16, ⟨hk_3, hk_4, hk_5, hk_6, hk_7, hk_8, hk_9, hk_10, hk_11⟩, hk_12, hk_13, hk_14, hk_15⟩, hF⟩)
  · refine lv_aload_n hx hb d_R_unbox_12 rfl (lv_at hl 0 rfl) ?_
    refine lv_iload_n hx hb d_R_unbox_13 rfl (lv_at hl 1 rfl) ?_
    refine iv_R_157 (As := [.int kk]) (rest := []) cx (r_isFull_out l G n0 e0 w_1 o A (upd S 0 0) L hc_16 kk hkk) hc_16 ⟨(Nat.le_of_ble_eq_true rfl), (Nat.le_of_ble_eq_true rfl)⟩ ⟨(Nat.le_of_ble_eq_true rfl), (Nat.le_of_ble_eq_true rfl)⟩ rfl hl.1 rfl (Nat.le_of_ble_eq_true rfl) d_R_unbox_14 hZ hS (fun v w_17 H locs hp_18 hZ hS => ?_)
    obtain ⟨rfl, hq⟩ := hp_18
    subst w_17
    refine W.eq (g2 := F0 m 17 ls [.int 0]) rfl ?_
    refine lv_if_eq (tgt := 45) hx hb d_R_unbox_17 (by decide) (fun c17 => ?_) (fun c17 => ?_)
    · refine lv_iconst (v := 0) hx hb d_R_unbox_45 (by decide) ?_
      exact z_zret cx.1 cx.2.1 cx.rt cx.lk (by first | rfl | (simp [narrow]; done) | simp_all [narrow]) hS hZ ⟨(Nat.le_of_ble_eq_true rfl), (Nat.le_of_ble_eq_true rfl)⟩ d_R_unbox_46 (⟨rfl, ⟨hc_16, ⟨hk_3, hk_4, hk_5, hk_6, hk_7, hk_8, hk_9, hk_10, hk_11⟩, hk_12, hk_13, hk_14, hk_15⟩, hF⟩)
    · exact absurd c17 (by decide)
set_option maxHeartbeats 4000000 in
set_option maxRecDepth 100000 in
theorem r_unbox_void (l : Launch) (G : zG) (n0 e0 : Nat) (w : zw) (o : Nat) (A : Nat → Nat) (S : Nat → Int32) (L : Nat → Int64) (F : Nat → Nat → Int32) (M : Nat → Int64) (B V Z : Nat → Int32) (T : Nat → Int64) (hr : RA G w o A S L F M B V Z T) (hA : ∀ i j, i < 13 → j < 13 → i ≠ j → A i ≠ A j) (sz : Nat → Nat) (hsz : ∀ k, k < 16 → Z k = nI (sz k)) (hsum : sumN sz 16 ≤ 4000) (k : Nat) (hk : k < 16) (hz0 : sz k = 0)  : Ct l G n0 e0 y_R_unbox b_R_unbox 5 (Option.some FieldType.boolean) ({ frames := 2, cells := 0, slots := 0, locals := 55 }) [.ref o, .int (nI k)] w (fun v w1 => v = some (.int 0) ∧ RA G w1 o A (upd S 0 0) L F M B V Z T ∧ Fr (allR o A) w w1) := by
  refine z_ct (by decide) (Nat.le_of_ble_eq_true rfl) ?_
  intro p e s m below meth c ls cx hnm hZ hS hl
  have hx := cx.1
  have hb := cx.2.1
  have hl : lv_has ls 5 [(0, .ref o), (1, .int (nI k))] := hl
  obtain ⟨ho, ⟨h0, h1, h2, h3, h4, h5, h6, h7, h8⟩, h9, h10, h11, h12⟩ := id hr
  have hlt := sumN_lt (f := sz) hk
  have hF : Fr [o, (A 0), (A 1), (A 2), (A 3), (A 4), (A 5), (A 6), (A 7), (A 8), (A 9), (A 10), (A 11), (A 12)] w w := Fr.rf
  refine lv_aload_n hx hb d_R_unbox_0 rfl (lv_at hl 0 rfl) ?_
  refine lv_iconst (v := 0) hx hb d_R_unbox_1 (by decide) ?_
  refine pf_R_51 cx hZ hS ho (Nat.le_of_ble_eq_true rfl) d_R_unbox_2 (fun w_1 H locs hw_2 hZ hS => ?_)
  have hk_3 : w_1 (A 0) = some (.inl (G.2 0, 8200, .inl (F 0))) := up_ne hw_2 h0 (z_ne h0 ho (by simp))
  have hk_4 : w_1 (A 1) = some (.inl (G.2 0, 8200, .inl (F 1))) := up_ne hw_2 h1 (z_ne h1 ho (by simp))
  have hk_5 : w_1 (A 2) = some (.inl (G.2 0, 8200, .inl (F 2))) := up_ne hw_2 h2 (z_ne h2 ho (by simp))
  have hk_6 : w_1 (A 3) = some (.inl (G.2 0, 8200, .inl (F 3))) := up_ne hw_2 h3 (z_ne h3 ho (by simp))
  have hk_7 : w_1 (A 4) = some (.inl (G.2 0, 8200, .inl (F 4))) := up_ne hw_2 h4 (z_ne h4 ho (by simp))
  have hk_8 : w_1 (A 5) = some (.inl (G.2 0, 8200, .inl (F 5))) := up_ne hw_2 h5 (z_ne h5 ho (by simp))
  have hk_9 : w_1 (A 6) = some (.inl (G.2 0, 8200, .inl (F 6))) := up_ne hw_2 h6 (z_ne h6 ho (by simp))
  have hk_10 : w_1 (A 7) = some (.inl (G.2 1, 8200, .inr (.inl M))) := up_ne hw_2 h7 (z_ne h7 ho (by simp))
  have hk_11 : w_1 (A 8) = some (.inl (G.2 0, 8200, .inl (F 8))) := up_ne hw_2 h8 (z_ne h8 ho (by simp))
  have hk_12 : w_1 (A 9) = some (.inl (G.2 0, 101, .inl B)) := up_ne hw_2 h9 (z_ne h9 ho (by simp))
  have hk_13 : w_1 (A 10) = some (.inl (G.2 2, 101, .inl V)) := up_ne hw_2 h10 (z_ne h10 ho (by simp))
  have hk_14 : w_1 (A 11) = some (.inl (G.2 0, 16, .inl Z)) := up_ne hw_2 h11 (z_ne h11 ho (by simp))
  have hk_15 : w_1 (A 12) = some (.inl (G.2 1, 4, .inr (.inl T))) := up_ne hw_2 h12 (z_ne h12 ho (by simp))
  have hF := hF.put hw_2 (Or.inl (by simp))
  have hc_16 : w_1 o = some (.inr (6, [.int 0, .ref (A 0), .ref (A 1), .ref (A 2), .ref (A 3), .ref (A 4), .ref (A 5), .ref (A 6), .ref (A 7), .ref (A 8), .int (S 1), .ref (A 9), .ref (A 10), .int (S 2), .ref (A 11), .long (L 0), .long (L 1), .long (L 2), .long (L 3), .ref (A 12), .long (L 4)])) := up_self hw_2
  refine lv_aload_n hx hb d_R_unbox_5 rfl (lv_at hl 0 rfl) ?_
  refine gf_R_68 cx hZ hc_16 rfl d_R_unbox_6 ?_
  refine lv_if_eq (tgt := 45) hx hb d_R_unbox_9 (by decide) (fun c9 => ?_) (fun c9 => ?_)
  · refine lv_iconst (v := 0) hx hb d_R_unbox_45 (by decide) ?_
    exact z_zret cx.1 cx.2.1 cx.rt cx.lk (by first | rfl | (simp [narrow]; done) | simp_all [narrow]) hS hZ ⟨(Nat.le_of_ble_eq_true rfl), (Nat.le_of_ble_eq_true rfl)⟩ d_R_unbox_46 (⟨rfl, ⟨hc_16, ⟨hk_3, hk_4, hk_5, hk_6, hk_7, hk_8, hk_9, hk_10, hk_11⟩, hk_12, hk_13, hk_14, hk_15⟩, hF⟩)
  · refine lv_aload_n hx hb d_R_unbox_12 rfl (lv_at hl 0 rfl) ?_
    refine lv_iload_n hx hb d_R_unbox_13 rfl (lv_at hl 1 rfl) ?_
    refine iv_R_157 (As := [.int (nI k)]) (rest := []) cx (r_isFull_in l G n0 e0 w_1 o A (upd S 0 0) L hc_16 (fun _ => Z) hk_14 k hk) hc_16 ⟨(Nat.le_of_ble_eq_true rfl), (Nat.le_of_ble_eq_true rfl)⟩ ⟨(Nat.le_of_ble_eq_true rfl), (Nat.le_of_ble_eq_true rfl)⟩ rfl hl.1 rfl (Nat.le_of_ble_eq_true rfl) d_R_unbox_14 hZ hS (fun v w_17 H locs hp_18 hZ hS => ?_)
    obtain ⟨rfl, hq⟩ := hp_18
    subst w_17
    refine W.eq (g2 := F0 m 17 ls [.int (zi (!decide (Z k ≤ 0)))]) rfl ?_
    refine lv_if_eq (tgt := 45) hx hb d_R_unbox_17 (by decide) (fun c17 => ?_) (fun c17 => ?_)
    · refine lv_iconst (v := 0) hx hb d_R_unbox_45 (by decide) ?_
      exact z_zret cx.1 cx.2.1 cx.rt cx.lk (by first | rfl | (simp [narrow]; done) | simp_all [narrow]) hS hZ ⟨(Nat.le_of_ble_eq_true rfl), (Nat.le_of_ble_eq_true rfl)⟩ d_R_unbox_46 (⟨rfl, ⟨hc_16, ⟨hk_3, hk_4, hk_5, hk_6, hk_7, hk_8, hk_9, hk_10, hk_11⟩, hk_12, hk_13, hk_14, hk_15⟩, hF⟩)
    · exact absurd ((zi_n0 _).mp c17) (by rw [full_nI (hsz k hk) (by omega)]; simp [hz0])
set_option maxHeartbeats 4000000 in
set_option maxRecDepth 100000 in
theorem r_put_m (l : Launch) (G : zG) (n0 e0 : Nat) (w : zw) (o : Nat) (A : Nat → Nat) (S : Nat → Int32) (L : Nat → Int64) (F : Nat → Nat → Int32) (M : Nat → Int64) (B V Z : Nat → Int32) (T : Nat → Int64) (hr : RA G w o A S L F M B V Z T) (hA : ∀ i j, i < 13 → j < 13 → i ≠ j → A i ≠ A j) (sz : Nat → Nat) (hsz : ∀ k, k < 16 → Z k = nI (sz k)) (hsum : sumN sz 16 ≤ 4000) (k : Nat) (hk : k < 16) (hz0 : ¬ sz k = 0) (x : Int32) (lists : Nat) (hls : S 1 = nI lists) (hll : lists ≤ 100) (hl0 : lists ≠ 0) (en : Nat) (hen : S 2 = nI en) (hen2 : en + sumN sz 16 ≤ 4000)  : Ct l G n0 e0 y_R_put b_R_put 7 (Option.some FieldType.boolean) ({ frames := 2, cells := 0, slots := 0, locals := 55 }) [.ref o, .int (nI k), .int x, .int 0] w (fun v w1 => ∃ r, v = some (.int r) ∧ (((szI x) = true ∧ r = 1 ∧ RA G w1 o A (upd (upd S 0 0) 2 (nI (en + sz k))) L (emF (putF F (stN sz k) en (sz k) x) sz k) (emM (cpM M (stN sz k) en (sz k)) sz k) B V (upd Z k 0) T) ∨ ((szI x) = false ∧ r = 0 ∧ RA G w1 o A (upd S 0 0) L F M B V Z T)) ∧ Fr (allR o A) w w1) := by
  refine z_ct (by decide) (Nat.le_of_ble_eq_true rfl) ?_
  intro p e s m below meth c ls cx hnm hZ hS hl
  have hx := cx.1
  have hb := cx.2.1
  have hl : lv_has ls 7 [(0, .ref o), (1, .int (nI k)), (2, .int x), (3, .int 0)] := hl
  obtain ⟨ho, ⟨h0, h1, h2, h3, h4, h5, h6, h7, h8⟩, h9, h10, h11, h12⟩ := id hr
  have hlt := sumN_lt (f := sz) hk
  have hF : Fr [o, (A 0), (A 1), (A 2), (A 3), (A 4), (A 5), (A 6), (A 7), (A 8), (A 9), (A 10), (A 11), (A 12)] w w := Fr.rf
  refine lv_aload_n hx hb d_R_put_0 rfl (lv_at hl 0 rfl) ?_
  refine lv_iconst (v := 0) hx hb d_R_put_1 (by decide) ?_
  refine pf_R_51 cx hZ hS ho (Nat.le_of_ble_eq_true rfl) d_R_put_2 (fun w_1 H locs hw_2 hZ hS => ?_)
  have hk_3 : w_1 (A 0) = some (.inl (G.2 0, 8200, .inl (F 0))) := up_ne hw_2 h0 (z_ne h0 ho (by simp))
  have hk_4 : w_1 (A 1) = some (.inl (G.2 0, 8200, .inl (F 1))) := up_ne hw_2 h1 (z_ne h1 ho (by simp))
  have hk_5 : w_1 (A 2) = some (.inl (G.2 0, 8200, .inl (F 2))) := up_ne hw_2 h2 (z_ne h2 ho (by simp))
  have hk_6 : w_1 (A 3) = some (.inl (G.2 0, 8200, .inl (F 3))) := up_ne hw_2 h3 (z_ne h3 ho (by simp))
  have hk_7 : w_1 (A 4) = some (.inl (G.2 0, 8200, .inl (F 4))) := up_ne hw_2 h4 (z_ne h4 ho (by simp))
  have hk_8 : w_1 (A 5) = some (.inl (G.2 0, 8200, .inl (F 5))) := up_ne hw_2 h5 (z_ne h5 ho (by simp))
  have hk_9 : w_1 (A 6) = some (.inl (G.2 0, 8200, .inl (F 6))) := up_ne hw_2 h6 (z_ne h6 ho (by simp))
  have hk_10 : w_1 (A 7) = some (.inl (G.2 1, 8200, .inr (.inl M))) := up_ne hw_2 h7 (z_ne h7 ho (by simp))
  have hk_11 : w_1 (A 8) = some (.inl (G.2 0, 8200, .inl (F 8))) := up_ne hw_2 h8 (z_ne h8 ho (by simp))
  have hk_12 : w_1 (A 9) = some (.inl (G.2 0, 101, .inl B)) := up_ne hw_2 h9 (z_ne h9 ho (by simp))
  have hk_13 : w_1 (A 10) = some (.inl (G.2 2, 101, .inl V)) := up_ne hw_2 h10 (z_ne h10 ho (by simp))
  have hk_14 : w_1 (A 11) = some (.inl (G.2 0, 16, .inl Z)) := up_ne hw_2 h11 (z_ne h11 ho (by simp))
  have hk_15 : w_1 (A 12) = some (.inl (G.2 1, 4, .inr (.inl T))) := up_ne hw_2 h12 (z_ne h12 ho (by simp))
  have hF := hF.put hw_2 (Or.inl (by simp))
  have hc_16 : w_1 o = some (.inr (6, [.int 0, .ref (A 0), .ref (A 1), .ref (A 2), .ref (A 3), .ref (A 4), .ref (A 5), .ref (A 6), .ref (A 7), .ref (A 8), .int (S 1), .ref (A 9), .ref (A 10), .int (S 2), .ref (A 11), .long (L 0), .long (L 1), .long (L 2), .long (L 3), .ref (A 12), .long (L 4)])) := up_self hw_2
  refine lv_aload_n hx hb d_R_put_5 rfl (lv_at hl 0 rfl) ?_
  refine gf_R_68 cx hZ hc_16 rfl d_R_put_6 ?_
  refine lv_if_eq (tgt := 44) hx hb d_R_put_9 (by decide) (fun c9 => ?_) (fun c9 => ?_)
  · exact absurd (by rw [← hls]; exact c9) (nI_ne0 (n := lists) (by omega) (by omega))
  · refine lv_aload_n hx hb d_R_put_12 rfl (lv_at hl 0 rfl) ?_
    refine lv_iload_n hx hb d_R_put_13 rfl (lv_at hl 1 rfl) ?_
    refine iv_R_157 (As := [.int (nI k)]) (rest := []) cx (r_isFull_in l G n0 e0 w_1 o A (upd S 0 0) L hc_16 (fun _ => Z) hk_14 k hk) hc_16 ⟨(Nat.le_of_ble_eq_true rfl), (Nat.le_of_ble_eq_true rfl)⟩ ⟨(Nat.le_of_ble_eq_true rfl), (Nat.le_of_ble_eq_true rfl)⟩ rfl hl.1 rfl (Nat.le_of_ble_eq_true rfl) d_R_put_14 hZ hS (fun v w_17 H locs hp_18 hZ hS => ?_)
    obtain ⟨rfl, hq⟩ := hp_18
    subst w_17
    refine W.eq (g2 := F0 m 17 ls [.int (zi (!decide (Z k ≤ 0)))]) rfl ?_
    refine lv_if_eq (tgt := 44) hx hb d_R_put_17 (by decide) (fun c17 => ?_) (fun c17 => ?_)
    · exact absurd ((zi_0 _).mp c17) (by rw [full_nI (hsz k hk) (by omega)]; simp [hz0])
    · refine lv_iload_n hx hb d_R_put_20 rfl (lv_at hl 2 rfl) ?_
      refine is_R_79 (As := [.int x]) (rest := []) cx (r_isSize l G n0 e0 x w_1) ⟨(Nat.le_of_ble_eq_true rfl), (Nat.le_of_ble_eq_true rfl)⟩ ⟨(Nat.le_of_ble_eq_true rfl), (Nat.le_of_ble_eq_true rfl)⟩ rfl hl.1 rfl (Nat.le_of_ble_eq_true rfl) d_R_put_21 hZ hS (fun v w_19 H locs hp_20 hZ hS => ?_)
      obtain ⟨rfl, hq⟩ := hp_20
      subst w_19
      refine W.eq (g2 := F0 m 24 ls [.int (zi (szI x))]) rfl ?_
      refine lv_if_eq (tgt := 44) hx hb d_R_put_24 (by decide) (fun c24 => ?_) (fun c24 => ?_)
      · refine lv_iconst (v := 0) hx hb d_R_put_44 (by decide) ?_
        exact z_zret cx.1 cx.2.1 cx.rt cx.lk (by first | rfl | (simp [narrow]; done) | simp_all [narrow]) hS hZ ⟨(Nat.le_of_ble_eq_true rfl), (Nat.le_of_ble_eq_true rfl)⟩ d_R_put_45 (⟨0, rfl, Or.inr ⟨by have h := (zi_0 _).mp c24; simp [h], rfl, ⟨hc_16, ⟨hk_3, hk_4, hk_5, hk_6, hk_7, hk_8, hk_9, hk_10, hk_11⟩, hk_12, hk_13, hk_14, hk_15⟩⟩, hF⟩)
      · refine lv_iload_n hx hb d_R_put_27 rfl (lv_at hl 3 rfl) ?_
        refine lv_if_eq (tgt := 46) hx hb d_R_put_28 (by decide) (fun c28 => ?_) (fun c28 => ?_)
        · refine lv_aload_n hx hb d_R_put_46 rfl (lv_at hl 0 rfl) ?_
          refine lv_iload_n hx hb d_R_put_47 rfl (lv_at hl 1 rfl) ?_
          refine iv_R_122 (As := [.int (nI k)]) (rest := []) cx (r_startN l G n0 e0 w_1 o A (upd S 0 0) L hc_16 Z hk_14 sz hsz k (by omega)) hc_16 ⟨(Nat.le_of_ble_eq_true rfl), (Nat.le_of_ble_eq_true rfl)⟩ ⟨(Nat.le_of_ble_eq_true rfl), (Nat.le_of_ble_eq_true rfl)⟩ rfl hl.1 rfl (Nat.le_of_ble_eq_true rfl) d_R_put_48 hZ hS (fun v w_21 H locs hp_22 hZ hS => ?_)
          obtain ⟨rfl, hq⟩ := hp_22
          subst w_21
          refine W.eq (g2 := F0 m 51 ls [.int (nI (stN sz k))]) rfl ?_
          refine lv_istore (lv' := [(4, .int (nI (stN sz k))), (0, .ref o), (1, .int (nI k)), (2, .int x), (3, .int 0)]) hx hb d_R_put_51 hl (by decide) rfl (fun ls hl => ?_)
          refine lv_aload_n hx hb d_R_put_53 rfl (lv_at hl 1 rfl) ?_
          refine gf_R_45 cx hZ hc_16 rfl d_R_put_54 ?_
          refine lv_iload_n hx hb d_R_put_57 rfl (lv_at hl 2 rfl) ?_
          refine ld_i cx hZ hk_14 (vp_in_nI hk (by omega)) d_R_put_58 ?_
          rw [show (Z (nI k).toNatClampNeg : Int32) = Z k from by rw [nI_clamp (by first | omega | (unfold stN; omega))]]
          rw [show ((Z k) : Int32) = nI (sz k) from hsz k hk]
          refine lv_istore (lv' := [(5, .int (nI (sz k))), (4, .int (nI (stN sz k))), (0, .ref o), (1, .int (nI k)), (2, .int x), (3, .int 0)]) hx hb d_R_put_59 hl (by decide) rfl (fun ls hl => ?_)
          refine lv_iconst (v := 0) hx hb d_R_put_61 (by decide) ?_
          refine lv_istore (lv' := [(6, .int 0), (5, .int (nI (sz k))), (4, .int (nI (stN sz k))), (0, .ref o), (1, .int (nI k)), (2, .int x), (3, .int 0)]) hx hb d_R_put_62 hl (by decide) rfl (fun ls hl => ?_)
          have loop_64 : ∀ (j i : Nat) (w2 : zw) (H : Heap) (locs : List Loc) (ls : Array Slot), i + j = (sz k) → Zw G.1 vwC (zA n0) w2 H → va_S (zA n0) s.heap H locs → Fr [o, (A 0), (A 1), (A 2), (A 3), (A 4), (A 5), (A 6), (A 7), (A 8), (A 9), (A 10), (A 11), (A 12)] w w2 → RA G w2 o A (upd S 0 0) L (cpF F (stN sz k) en i) (cpM M (stN sz k) en i) B V Z T → lv_has ls 7 [(6, .int (nI i)), (5, .int (nI (sz k))), (4, .int (nI (stN sz k))), (0, .ref o), (1, .int (nI k)), (2, .int x), (3, .int 0)] → W p l e ({ frames := 2, cells := 0, slots := 0, locals := 55 }) s m [.ref o, .int (nI k), .int x, .int 0].toArray below meth c H locs 0 0 (MQ below (zQ G.1 vwC n0 (fun v w1 => ∃ r, v = some (.int r) ∧ (((szI x) = true ∧ r = 1 ∧ RA G w1 o A (upd (upd S 0 0) 2 (nI (en + sz k))) L (emF (putF F (stN sz k) en (sz k) x) sz k) (emM (cpM M (stN sz k) en (sz k)) sz k) B V (upd Z k 0) T) ∨ ((szI x) = false ∧ r = 0 ∧ RA G w1 o A (upd S 0 0) L F M B V Z T)) ∧ Fr (allR o A) w w1)) [.ref o, .int (nI k), .int x, .int 0].toArray s ({ frames := 2, cells := 0, slots := 0, locals := 55 } : Room).cells ({ frames := 2, cells := 0, slots := 0, locals := 55 } : Room).slots (zA n0)) (F0 m 64 ls []) := by
            intro j
            induction j with
            | zero =>
              intro i w2 H locs ls hik hZ hS hF hr2 hl
              have hin : i = sz k := by omega
              subst hin
              obtain ⟨ho_23, ⟨h0_23, h1_23, h2_23, h3_23, h4_23, h5_23, h6_23, h7_23, h8_23⟩, h9_23, h10_23, h11_23, h12_23⟩ := id hr2
              have ho_23 : w2 o = some (.inr (6, [.int 0, .ref (A 0), .ref (A 1), .ref (A 2), .ref (A 3), .ref (A 4), .ref (A 5), .ref (A 6), .ref (A 7), .ref (A 8), .int (S 1), .ref (A 9), .ref (A 10), .int (S 2), .ref (A 11), .long (L 0), .long (L 1), .long (L 2), .long (L 3), .ref (A 12), .long (L 4)])) := ho_23
              refine lv_iload hx hb d_R_put_64 (lv_at hl 0 rfl) ?_
              refine lv_iload hx hb d_R_put_66 (lv_at hl 1 rfl) ?_
              refine lv_icmp_ge (tgt := 93) hx hb d_R_put_68 (by decide) (fun c68 => ?_) (fun c68 => ?_)
              · refine lv_aload_n hx hb d_R_put_93 rfl (lv_at hl 3 rfl) ?_
                refine gf_R_22 cx hZ ho_23 rfl d_R_put_94 ?_
                refine lv_aload_n hx hb d_R_put_97 rfl (lv_at hl 3 rfl) ?_
                refine gf_R_61 cx hZ ho_23 rfl d_R_put_98 ?_
                rw [show ((S 2) : Int32) = nI en from hen]
                refine lv_iload_n hx hb d_R_put_101 rfl (lv_at hl 5 rfl) ?_
                refine st_i cx hZ hS h4_23 (vp_in_nI (by omega) (by omega)) d_R_put_102 (fun w_24 H locs hw_25 hZ hS => ?_)
                have hk_26 : w_24 o = some (.inr (6, [.int 0, .ref (A 0), .ref (A 1), .ref (A 2), .ref (A 3), .ref (A 4), .ref (A 5), .ref (A 6), .ref (A 7), .ref (A 8), .int (S 1), .ref (A 9), .ref (A 10), .int (S 2), .ref (A 11), .long (L 0), .long (L 1), .long (L 2), .long (L 3), .ref (A 12), .long (L 4)])) := up_ne hw_25 ho_23 (z_ne ho_23 h4_23 (by simp))
                have hk_27 : w_24 (A 0) = some (.inl (G.2 0, 8200, .inl ((cpF F (stN sz k) en (sz k)) 0))) := up_ne hw_25 h0_23 ((hA 0 4 (by decide) (by decide) (by decide)))
                have hk_28 : w_24 (A 1) = some (.inl (G.2 0, 8200, .inl ((cpF F (stN sz k) en (sz k)) 1))) := up_ne hw_25 h1_23 ((hA 1 4 (by decide) (by decide) (by decide)))
                have hk_29 : w_24 (A 2) = some (.inl (G.2 0, 8200, .inl ((cpF F (stN sz k) en (sz k)) 2))) := up_ne hw_25 h2_23 ((hA 2 4 (by decide) (by decide) (by decide)))
                have hk_30 : w_24 (A 3) = some (.inl (G.2 0, 8200, .inl ((cpF F (stN sz k) en (sz k)) 3))) := up_ne hw_25 h3_23 ((hA 3 4 (by decide) (by decide) (by decide)))
                have hk_31 : w_24 (A 5) = some (.inl (G.2 0, 8200, .inl ((cpF F (stN sz k) en (sz k)) 5))) := up_ne hw_25 h5_23 ((hA 5 4 (by decide) (by decide) (by decide)))
                have hk_32 : w_24 (A 6) = some (.inl (G.2 0, 8200, .inl ((cpF F (stN sz k) en (sz k)) 6))) := up_ne hw_25 h6_23 ((hA 6 4 (by decide) (by decide) (by decide)))
                have hk_33 : w_24 (A 7) = some (.inl (G.2 1, 8200, .inr (.inl (cpM M (stN sz k) en (sz k))))) := up_ne hw_25 h7_23 ((hA 7 4 (by decide) (by decide) (by decide)))
                have hk_34 : w_24 (A 8) = some (.inl (G.2 0, 8200, .inl ((cpF F (stN sz k) en (sz k)) 8))) := up_ne hw_25 h8_23 ((hA 8 4 (by decide) (by decide) (by decide)))
                have hk_35 : w_24 (A 9) = some (.inl (G.2 0, 101, .inl B)) := up_ne hw_25 h9_23 ((hA 9 4 (by decide) (by decide) (by decide)))
                have hk_36 : w_24 (A 10) = some (.inl (G.2 2, 101, .inl V)) := up_ne hw_25 h10_23 ((hA 10 4 (by decide) (by decide) (by decide)))
                have hk_37 : w_24 (A 11) = some (.inl (G.2 0, 16, .inl Z)) := up_ne hw_25 h11_23 ((hA 11 4 (by decide) (by decide) (by decide)))
                have hk_38 : w_24 (A 12) = some (.inl (G.2 1, 4, .inr (.inl T))) := up_ne hw_25 h12_23 ((hA 12 4 (by decide) (by decide) (by decide)))
                have hF := hF.put hw_25 (Or.inl (by simp))
                have hc_39 : w_24 (A 4) = some (.inl (G.2 0, 8200, .inl (upd ((cpF F (stN sz k) en (sz k)) 4) en x))) := by have q := up_self hw_25; rw [nI_clamp (by first | omega | (unfold stN; omega))] at q; exact q
                refine lv_aload_n hx hb d_R_put_103 rfl (lv_at hl 3 rfl) ?_
                refine lv_dup hx hb d_R_put_104 rfl ?_
                refine gf_R_61 cx hZ hk_26 rfl d_R_put_105 ?_
                refine lv_iload hx hb d_R_put_108 (lv_at hl 1 rfl) ?_
                refine lv_iadd hx hb d_R_put_110 ?_
                rw [show (((S 2) + (nI (sz k))) : Int32) = nI (en + sz k) from by rw [hen, nI_add]]
                refine pf_R_61 cx hZ hS hk_26 (Nat.le_of_ble_eq_true rfl) d_R_put_111 (fun w_40 H locs hw_41 hZ hS => ?_)
                have hk_42 : w_40 (A 0) = some (.inl (G.2 0, 8200, .inl ((cpF F (stN sz k) en (sz k)) 0))) := up_ne hw_41 hk_27 (z_ne hk_27 hk_26 (by simp))
                have hk_43 : w_40 (A 1) = some (.inl (G.2 0, 8200, .inl ((cpF F (stN sz k) en (sz k)) 1))) := up_ne hw_41 hk_28 (z_ne hk_28 hk_26 (by simp))
                have hk_44 : w_40 (A 2) = some (.inl (G.2 0, 8200, .inl ((cpF F (stN sz k) en (sz k)) 2))) := up_ne hw_41 hk_29 (z_ne hk_29 hk_26 (by simp))
                have hk_45 : w_40 (A 3) = some (.inl (G.2 0, 8200, .inl ((cpF F (stN sz k) en (sz k)) 3))) := up_ne hw_41 hk_30 (z_ne hk_30 hk_26 (by simp))
                have hk_46 : w_40 (A 4) = some (.inl (G.2 0, 8200, .inl (upd ((cpF F (stN sz k) en (sz k)) 4) en x))) := up_ne hw_41 hc_39 (z_ne hc_39 hk_26 (by simp))
                have hk_47 : w_40 (A 5) = some (.inl (G.2 0, 8200, .inl ((cpF F (stN sz k) en (sz k)) 5))) := up_ne hw_41 hk_31 (z_ne hk_31 hk_26 (by simp))
                have hk_48 : w_40 (A 6) = some (.inl (G.2 0, 8200, .inl ((cpF F (stN sz k) en (sz k)) 6))) := up_ne hw_41 hk_32 (z_ne hk_32 hk_26 (by simp))
                have hk_49 : w_40 (A 7) = some (.inl (G.2 1, 8200, .inr (.inl (cpM M (stN sz k) en (sz k))))) := up_ne hw_41 hk_33 (z_ne hk_33 hk_26 (by simp))
                have hk_50 : w_40 (A 8) = some (.inl (G.2 0, 8200, .inl ((cpF F (stN sz k) en (sz k)) 8))) := up_ne hw_41 hk_34 (z_ne hk_34 hk_26 (by simp))
                have hk_51 : w_40 (A 9) = some (.inl (G.2 0, 101, .inl B)) := up_ne hw_41 hk_35 (z_ne hk_35 hk_26 (by simp))
                have hk_52 : w_40 (A 10) = some (.inl (G.2 2, 101, .inl V)) := up_ne hw_41 hk_36 (z_ne hk_36 hk_26 (by simp))
                have hk_53 : w_40 (A 11) = some (.inl (G.2 0, 16, .inl Z)) := up_ne hw_41 hk_37 (z_ne hk_37 hk_26 (by simp))
                have hk_54 : w_40 (A 12) = some (.inl (G.2 1, 4, .inr (.inl T))) := up_ne hw_41 hk_38 (z_ne hk_38 hk_26 (by simp))
                have hF := hF.put hw_41 (Or.inl (by simp))
                have hc_55 : w_40 o = some (.inr (6, [.int 0, .ref (A 0), .ref (A 1), .ref (A 2), .ref (A 3), .ref (A 4), .ref (A 5), .ref (A 6), .ref (A 7), .ref (A 8), .int (S 1), .ref (A 9), .ref (A 10), .int (nI (en + sz k)), .ref (A 11), .long (L 0), .long (L 1), .long (L 2), .long (L 3), .ref (A 12), .long (L 4)])) := up_self hw_41
                refine lv_iload_n hx hb d_R_put_114 rfl (lv_at hl 6 rfl) ?_
                refine lv_if_ne (tgt := 123) hx hb d_R_put_115 (by decide) (fun c115 => ?_) (fun c115 => ?_)
                · exact absurd c115 (by decide)
                · refine lv_aload_n hx hb d_R_put_118 rfl (lv_at hl 3 rfl) ?_
                  refine lv_iload_n hx hb d_R_put_119 rfl (lv_at hl 4 rfl) ?_
                  refine iv_R_151 (As := [.int (nI k)]) (rest := []) cx (r_empty l G n0 e0 w_40 o A (upd (upd S 0 0) 2 (nI (en + sz k))) L (putF F (stN sz k) en (sz k) x) (cpM M (stN sz k) en (sz k)) B V Z T ⟨hc_55, ⟨hk_42, hk_43, hk_44, hk_45, hk_46, hk_47, hk_48, hk_49, hk_50⟩, hk_51, hk_52, hk_53, hk_54⟩ hA sz hsz hsum k hk) hc_55 ⟨(Nat.le_of_ble_eq_true rfl), (Nat.le_of_ble_eq_true rfl)⟩ ⟨(Nat.le_of_ble_eq_true rfl), (Nat.le_of_ble_eq_true rfl)⟩ rfl hl.1 rfl (Nat.le_of_ble_eq_true rfl) d_R_put_120 hZ hS (fun v w_56 H locs hp_57 hZ hS => ?_)
                  obtain ⟨rfl, hr_58, hf_59⟩ := hp_57
                  obtain ⟨ho_60, ⟨h0_60, h1_60, h2_60, h3_60, h4_60, h5_60, h6_60, h7_60, h8_60⟩, h9_60, h10_60, h11_60, h12_60⟩ := id hr_58
                  have ho_60 : w_56 o = some (.inr (6, [.int 0, .ref (A 0), .ref (A 1), .ref (A 2), .ref (A 3), .ref (A 4), .ref (A 5), .ref (A 6), .ref (A 7), .ref (A 8), .int (S 1), .ref (A 9), .ref (A 10), .int (nI (en + sz k)), .ref (A 11), .long (L 0), .long (L 1), .long (L 2), .long (L 3), .ref (A 12), .long (L 4)])) := ho_60
                  have hF := hF.call hf_59 (fun t ht => Or.inl ht)
                  refine W.eq (g2 := F0 m 123 ls []) rfl ?_
                  refine lv_iconst (v := 1) hx hb d_R_put_123 (by decide) ?_
                  exact z_zret cx.1 cx.2.1 cx.rt cx.lk (by first | rfl | (simp [narrow]; done) | simp_all [narrow]) hS hZ ⟨(Nat.le_of_ble_eq_true rfl), (Nat.le_of_ble_eq_true rfl)⟩ d_R_put_124 (⟨1, rfl, Or.inl ⟨by have h := (zi_n0 _).mp c24; simp [h], rfl, ⟨ho_60, ⟨h0_60, h1_60, h2_60, h3_60, h4_60, h5_60, h6_60, h7_60, h8_60⟩, h9_60, h10_60, h11_60, h12_60⟩⟩, hF⟩)
              · exact absurd (nI_le (by omega) (by omega)) c68
            | succ j ih =>
              intro i w2 H locs ls hik hZ hS hF hr2 hl
              obtain ⟨ho_61, ⟨h0_61, h1_61, h2_61, h3_61, h4_61, h5_61, h6_61, h7_61, h8_61⟩, h9_61, h10_61, h11_61, h12_61⟩ := id hr2
              have ho_61 : w2 o = some (.inr (6, [.int 0, .ref (A 0), .ref (A 1), .ref (A 2), .ref (A 3), .ref (A 4), .ref (A 5), .ref (A 6), .ref (A 7), .ref (A 8), .int (S 1), .ref (A 9), .ref (A 10), .int (S 2), .ref (A 11), .long (L 0), .long (L 1), .long (L 2), .long (L 3), .ref (A 12), .long (L 4)])) := ho_61
              refine lv_iload hx hb d_R_put_64 (lv_at hl 0 rfl) ?_
              refine lv_iload hx hb d_R_put_66 (lv_at hl 1 rfl) ?_
              refine lv_icmp_ge (tgt := 93) hx hb d_R_put_68 (by decide) (fun c68 => ?_) (fun c68 => ?_)
              · exact absurd c68 (nI_ge (by omega) (by omega))
              · refine lv_aload_n hx hb d_R_put_71 rfl (lv_at hl 3 rfl) ?_
                refine lv_iload hx hb d_R_put_72 (lv_at hl 2 rfl) ?_
                refine lv_iload hx hb d_R_put_74 (lv_at hl 0 rfl) ?_
                refine lv_iadd hx hb d_R_put_76 ?_
                rw [show (((nI (stN sz k)) + (nI i)) : Int32) = nI (stN sz k + i) from nI_add _ _]
                refine lv_aload_n hx hb d_R_put_77 rfl (lv_at hl 3 rfl) ?_
                refine gf_R_61 cx hZ ho_61 rfl d_R_put_78 ?_
                refine lv_iload hx hb d_R_put_81 (lv_at hl 0 rfl) ?_
                refine lv_iadd hx hb d_R_put_83 ?_
                rw [show (((S 2) + (nI i)) : Int32) = nI (en + i) from by rw [hen, nI_add]]
                refine iv_R_126 (As := [.int (nI (stN sz k + i)), .int (nI (en + i))]) (rest := []) cx (r_moveA l G n0 e0 w2 o A (upd S 0 0) L (cpF F (stN sz k) en i) (cpM M (stN sz k) en i) B V Z T ⟨ho_61, ⟨h0_61, h1_61, h2_61, h3_61, h4_61, h5_61, h6_61, h7_61, h8_61⟩, h9_61, h10_61, h11_61, h12_61⟩ hA (stN sz k + i) (en + i) (by first | omega | (unfold stN; omega)) (by first | omega | (unfold stN; omega))) ho_61 ⟨(Nat.le_of_ble_eq_true rfl), (Nat.le_of_ble_eq_true rfl)⟩ ⟨(Nat.le_of_ble_eq_true rfl), (Nat.le_of_ble_eq_true rfl)⟩ rfl hl.1 rfl (Nat.le_of_ble_eq_true rfl) d_R_put_84 hZ hS (fun v w_62 H locs hp_63 hZ hS => ?_)
                obtain ⟨rfl, hr_64, hf_65⟩ := hp_63
                obtain ⟨ho_66, ⟨h0_66, h1_66, h2_66, h3_66, h4_66, h5_66, h6_66, h7_66, h8_66⟩, h9_66, h10_66, h11_66, h12_66⟩ := id hr_64
                have ho_66 : w_62 o = some (.inr (6, [.int 0, .ref (A 0), .ref (A 1), .ref (A 2), .ref (A 3), .ref (A 4), .ref (A 5), .ref (A 6), .ref (A 7), .ref (A 8), .int (S 1), .ref (A 9), .ref (A 10), .int (S 2), .ref (A 11), .long (L 0), .long (L 1), .long (L 2), .long (L 3), .ref (A 12), .long (L 4)])) := ho_66
                have hF := hF.call hf_65 (fun t ht => Or.inl ht)
                refine W.eq (g2 := F0 m 87 ls []) rfl ?_
                refine lv_iinc (v := ((nI i) + 1)) (lv' := [(6, .int ((nI i) + 1)), (5, .int (nI (sz k))), (4, .int (nI (stN sz k))), (0, .ref o), (1, .int (nI k)), (2, .int x), (3, .int 0)]) hx hb d_R_put_87 hl (k := 0) rfl rfl (by decide) rfl (fun ls hl => ?_)
                refine lv_goto (tgt := 64) hx hb d_R_put_90 (by decide) ?_
                exact ih (i + 1) _ _ _ _ (by omega) hZ hS hF (by rw [← cpF_s (Or.inl (by first | omega | (unfold stN; omega))), ← cpM_s (Or.inl (by first | omega | (unfold stN; omega)))]; exact ⟨ho_66, ⟨h0_66, h1_66, h2_66, h3_66, h4_66, h5_66, h6_66, h7_66, h8_66⟩, h9_66, h10_66, h11_66, h12_66⟩) (lv_sub hl [0, 1, 2, 3, 4, 5, 6] (by rw [← nI_1 i]; rfl))
          exact loop_64 ((sz k)) 0 _ _ _ _ (by omega) hZ hS hF (by rw [cpF_0, cpM_0]; exact ⟨hc_16, ⟨hk_3, hk_4, hk_5, hk_6, hk_7, hk_8, hk_9, hk_10, hk_11⟩, hk_12, hk_13, hk_14, hk_15⟩) (lv_sub hl [0, 1, 2, 3, 4, 5, 6] rfl)
        · exact absurd c28 (by decide)
set_option maxHeartbeats 4000000 in
set_option maxRecDepth 100000 in
theorem r_put_c (l : Launch) (G : zG) (n0 e0 : Nat) (w : zw) (o : Nat) (A : Nat → Nat) (S : Nat → Int32) (L : Nat → Int64) (F : Nat → Nat → Int32) (M : Nat → Int64) (B V Z : Nat → Int32) (T : Nat → Int64) (hr : RA G w o A S L F M B V Z T) (hA : ∀ i j, i < 13 → j < 13 → i ≠ j → A i ≠ A j) (sz : Nat → Nat) (hsz : ∀ k, k < 16 → Z k = nI (sz k)) (hsum : sumN sz 16 ≤ 4000) (k : Nat) (hk : k < 16) (hz0 : ¬ sz k = 0) (x : Int32) (lists : Nat) (hls : S 1 = nI lists) (hll : lists ≤ 100) (hl0 : lists ≠ 0) (en : Nat) (hen : S 2 = nI en) (hen2 : en + sumN sz 16 ≤ 4000)  : Ct l G n0 e0 y_R_put b_R_put 7 (Option.some FieldType.boolean) ({ frames := 2, cells := 0, slots := 0, locals := 55 }) [.ref o, .int (nI k), .int x, .int 1] w (fun v w1 => ∃ r, v = some (.int r) ∧ (((szI x && decide (en + sumN sz 16 + sz k ≤ 4000)) = true ∧ r = 1 ∧ RA G w1 o A (upd (upd S 0 0) 2 (nI (en + sz k))) L (putF F (stN sz k) en (sz k) x) (cpM M (stN sz k) en (sz k)) B V Z T) ∨ ((szI x && decide (en + sumN sz 16 + sz k ≤ 4000)) = false ∧ r = 0 ∧ RA G w1 o A (upd S 0 0) L F M B V Z T)) ∧ Fr (allR o A) w w1) := by
  refine z_ct (by decide) (Nat.le_of_ble_eq_true rfl) ?_
  intro p e s m below meth c ls cx hnm hZ hS hl
  have hx := cx.1
  have hb := cx.2.1
  have hl : lv_has ls 7 [(0, .ref o), (1, .int (nI k)), (2, .int x), (3, .int 1)] := hl
  obtain ⟨ho, ⟨h0, h1, h2, h3, h4, h5, h6, h7, h8⟩, h9, h10, h11, h12⟩ := id hr
  have hlt := sumN_lt (f := sz) hk
  have hF : Fr [o, (A 0), (A 1), (A 2), (A 3), (A 4), (A 5), (A 6), (A 7), (A 8), (A 9), (A 10), (A 11), (A 12)] w w := Fr.rf
  refine lv_aload_n hx hb d_R_put_0 rfl (lv_at hl 0 rfl) ?_
  refine lv_iconst (v := 0) hx hb d_R_put_1 (by decide) ?_
  refine pf_R_51 cx hZ hS ho (Nat.le_of_ble_eq_true rfl) d_R_put_2 (fun w_1 H locs hw_2 hZ hS => ?_)
  have hk_3 : w_1 (A 0) = some (.inl (G.2 0, 8200, .inl (F 0))) := up_ne hw_2 h0 (z_ne h0 ho (by simp))
  have hk_4 : w_1 (A 1) = some (.inl (G.2 0, 8200, .inl (F 1))) := up_ne hw_2 h1 (z_ne h1 ho (by simp))
  have hk_5 : w_1 (A 2) = some (.inl (G.2 0, 8200, .inl (F 2))) := up_ne hw_2 h2 (z_ne h2 ho (by simp))
  have hk_6 : w_1 (A 3) = some (.inl (G.2 0, 8200, .inl (F 3))) := up_ne hw_2 h3 (z_ne h3 ho (by simp))
  have hk_7 : w_1 (A 4) = some (.inl (G.2 0, 8200, .inl (F 4))) := up_ne hw_2 h4 (z_ne h4 ho (by simp))
  have hk_8 : w_1 (A 5) = some (.inl (G.2 0, 8200, .inl (F 5))) := up_ne hw_2 h5 (z_ne h5 ho (by simp))
  have hk_9 : w_1 (A 6) = some (.inl (G.2 0, 8200, .inl (F 6))) := up_ne hw_2 h6 (z_ne h6 ho (by simp))
  have hk_10 : w_1 (A 7) = some (.inl (G.2 1, 8200, .inr (.inl M))) := up_ne hw_2 h7 (z_ne h7 ho (by simp))
  have hk_11 : w_1 (A 8) = some (.inl (G.2 0, 8200, .inl (F 8))) := up_ne hw_2 h8 (z_ne h8 ho (by simp))
  have hk_12 : w_1 (A 9) = some (.inl (G.2 0, 101, .inl B)) := up_ne hw_2 h9 (z_ne h9 ho (by simp))
  have hk_13 : w_1 (A 10) = some (.inl (G.2 2, 101, .inl V)) := up_ne hw_2 h10 (z_ne h10 ho (by simp))
  have hk_14 : w_1 (A 11) = some (.inl (G.2 0, 16, .inl Z)) := up_ne hw_2 h11 (z_ne h11 ho (by simp))
  have hk_15 : w_1 (A 12) = some (.inl (G.2 1, 4, .inr (.inl T))) := up_ne hw_2 h12 (z_ne h12 ho (by simp))
  have hF := hF.put hw_2 (Or.inl (by simp))
  have hc_16 : w_1 o = some (.inr (6, [.int 0, .ref (A 0), .ref (A 1), .ref (A 2), .ref (A 3), .ref (A 4), .ref (A 5), .ref (A 6), .ref (A 7), .ref (A 8), .int (S 1), .ref (A 9), .ref (A 10), .int (S 2), .ref (A 11), .long (L 0), .long (L 1), .long (L 2), .long (L 3), .ref (A 12), .long (L 4)])) := up_self hw_2
  refine lv_aload_n hx hb d_R_put_5 rfl (lv_at hl 0 rfl) ?_
  refine gf_R_68 cx hZ hc_16 rfl d_R_put_6 ?_
  refine lv_if_eq (tgt := 44) hx hb d_R_put_9 (by decide) (fun c9 => ?_) (fun c9 => ?_)
  · exact absurd (by rw [← hls]; exact c9) (nI_ne0 (n := lists) (by omega) (by omega))
  · refine lv_aload_n hx hb d_R_put_12 rfl (lv_at hl 0 rfl) ?_
    refine lv_iload_n hx hb d_R_put_13 rfl (lv_at hl 1 rfl) ?_
    refine iv_R_157 (As := [.int (nI k)]) (rest := []) cx (r_isFull_in l G n0 e0 w_1 o A (upd S 0 0) L hc_16 (fun _ => Z) hk_14 k hk) hc_16 ⟨(Nat.le_of_ble_eq_true rfl), (Nat.le_of_ble_eq_true rfl)⟩ ⟨(Nat.le_of_ble_eq_true rfl), (Nat.le_of_ble_eq_true rfl)⟩ rfl hl.1 rfl (Nat.le_of_ble_eq_true rfl) d_R_put_14 hZ hS (fun v w_17 H locs hp_18 hZ hS => ?_)
    obtain ⟨rfl, hq⟩ := hp_18
    subst w_17
    refine W.eq (g2 := F0 m 17 ls [.int (zi (!decide (Z k ≤ 0)))]) rfl ?_
    refine lv_if_eq (tgt := 44) hx hb d_R_put_17 (by decide) (fun c17 => ?_) (fun c17 => ?_)
    · exact absurd ((zi_0 _).mp c17) (by rw [full_nI (hsz k hk) (by omega)]; simp [hz0])
    · refine lv_iload_n hx hb d_R_put_20 rfl (lv_at hl 2 rfl) ?_
      refine is_R_79 (As := [.int x]) (rest := []) cx (r_isSize l G n0 e0 x w_1) ⟨(Nat.le_of_ble_eq_true rfl), (Nat.le_of_ble_eq_true rfl)⟩ ⟨(Nat.le_of_ble_eq_true rfl), (Nat.le_of_ble_eq_true rfl)⟩ rfl hl.1 rfl (Nat.le_of_ble_eq_true rfl) d_R_put_21 hZ hS (fun v w_19 H locs hp_20 hZ hS => ?_)
      obtain ⟨rfl, hq⟩ := hp_20
      subst w_19
      refine W.eq (g2 := F0 m 24 ls [.int (zi (szI x))]) rfl ?_
      refine lv_if_eq (tgt := 44) hx hb d_R_put_24 (by decide) (fun c24 => ?_) (fun c24 => ?_)
      · refine lv_iconst (v := 0) hx hb d_R_put_44 (by decide) ?_
        exact z_zret cx.1 cx.2.1 cx.rt cx.lk (by first | rfl | (simp [narrow]; done) | simp_all [narrow]) hS hZ ⟨(Nat.le_of_ble_eq_true rfl), (Nat.le_of_ble_eq_true rfl)⟩ d_R_put_45 (⟨0, rfl, Or.inr ⟨by have h := (zi_0 _).mp c24; simp [h], rfl, ⟨hc_16, ⟨hk_3, hk_4, hk_5, hk_6, hk_7, hk_8, hk_9, hk_10, hk_11⟩, hk_12, hk_13, hk_14, hk_15⟩⟩, hF⟩)
      · refine lv_iload_n hx hb d_R_put_27 rfl (lv_at hl 3 rfl) ?_
        refine lv_if_eq (tgt := 46) hx hb d_R_put_28 (by decide) (fun c28 => ?_) (fun c28 => ?_)
        · exact absurd c28 (by decide)
        · refine lv_aload_n hx hb d_R_put_31 rfl (lv_at hl 0 rfl) ?_
          refine lv_aload_n hx hb d_R_put_32 rfl (lv_at hl 0 rfl) ?_
          refine gf_R_45 cx hZ hc_16 rfl d_R_put_33 ?_
          refine lv_iload_n hx hb d_R_put_36 rfl (lv_at hl 1 rfl) ?_
          refine ld_i cx hZ hk_14 (vp_in_nI hk (by omega)) d_R_put_37 ?_
          rw [show (Z (nI k).toNatClampNeg : Int32) = Z k from by rw [nI_clamp (by first | omega | (unfold stN; omega))]]
          rw [show ((Z k) : Int32) = nI (sz k) from hsz k hk]
          refine iv_R_71 (As := [.int (nI (sz k))]) (rest := []) cx (r_hasRoomN l G n0 e0 w_1 o A (upd S 0 0) L hc_16 Z hk_14 sz hsz en (sz k) hen (by omega)) hc_16 ⟨(Nat.le_of_ble_eq_true rfl), (Nat.le_of_ble_eq_true rfl)⟩ ⟨(Nat.le_of_ble_eq_true rfl), (Nat.le_of_ble_eq_true rfl)⟩ rfl hl.1 rfl (Nat.le_of_ble_eq_true rfl) d_R_put_38 hZ hS (fun v w_21 H locs hp_22 hZ hS => ?_)
          obtain ⟨rfl, hq⟩ := hp_22
          subst w_21
          refine W.eq (g2 := F0 m 41 ls [.int (zi (decide (en + sumN sz 16 + (sz k) ≤ 4000)))]) rfl ?_
          refine lv_if_ne (tgt := 46) hx hb d_R_put_41 (by decide) (fun c41 => ?_) (fun c41 => ?_)
          · refine lv_aload_n hx hb d_R_put_46 rfl (lv_at hl 0 rfl) ?_
            refine lv_iload_n hx hb d_R_put_47 rfl (lv_at hl 1 rfl) ?_
            refine iv_R_122 (As := [.int (nI k)]) (rest := []) cx (r_startN l G n0 e0 w_1 o A (upd S 0 0) L hc_16 Z hk_14 sz hsz k (by omega)) hc_16 ⟨(Nat.le_of_ble_eq_true rfl), (Nat.le_of_ble_eq_true rfl)⟩ ⟨(Nat.le_of_ble_eq_true rfl), (Nat.le_of_ble_eq_true rfl)⟩ rfl hl.1 rfl (Nat.le_of_ble_eq_true rfl) d_R_put_48 hZ hS (fun v w_23 H locs hp_24 hZ hS => ?_)
            obtain ⟨rfl, hq⟩ := hp_24
            subst w_23
            refine W.eq (g2 := F0 m 51 ls [.int (nI (stN sz k))]) rfl ?_
            refine lv_istore (lv' := [(4, .int (nI (stN sz k))), (0, .ref o), (1, .int (nI k)), (2, .int x), (3, .int 1)]) hx hb d_R_put_51 hl (by decide) rfl (fun ls hl => ?_)
            refine lv_aload_n hx hb d_R_put_53 rfl (lv_at hl 1 rfl) ?_
            refine gf_R_45 cx hZ hc_16 rfl d_R_put_54 ?_
            refine lv_iload_n hx hb d_R_put_57 rfl (lv_at hl 2 rfl) ?_
            refine ld_i cx hZ hk_14 (vp_in_nI hk (by omega)) d_R_put_58 ?_
            rw [show (Z (nI k).toNatClampNeg : Int32) = Z k from by rw [nI_clamp (by first | omega | (unfold stN; omega))]]
            rw [show ((Z k) : Int32) = nI (sz k) from hsz k hk]
            refine lv_istore (lv' := [(5, .int (nI (sz k))), (4, .int (nI (stN sz k))), (0, .ref o), (1, .int (nI k)), (2, .int x), (3, .int 1)]) hx hb d_R_put_59 hl (by decide) rfl (fun ls hl => ?_)
            refine lv_iconst (v := 0) hx hb d_R_put_61 (by decide) ?_
            refine lv_istore (lv' := [(6, .int 0), (5, .int (nI (sz k))), (4, .int (nI (stN sz k))), (0, .ref o), (1, .int (nI k)), (2, .int x), (3, .int 1)]) hx hb d_R_put_62 hl (by decide) rfl (fun ls hl => ?_)
            have loop_64 : ∀ (j i : Nat) (w2 : zw) (H : Heap) (locs : List Loc) (ls : Array Slot), i + j = (sz k) → Zw G.1 vwC (zA n0) w2 H → va_S (zA n0) s.heap H locs → Fr [o, (A 0), (A 1), (A 2), (A 3), (A 4), (A 5), (A 6), (A 7), (A 8), (A 9), (A 10), (A 11), (A 12)] w w2 → RA G w2 o A (upd S 0 0) L (cpF F (stN sz k) en i) (cpM M (stN sz k) en i) B V Z T → lv_has ls 7 [(6, .int (nI i)), (5, .int (nI (sz k))), (4, .int (nI (stN sz k))), (0, .ref o), (1, .int (nI k)), (2, .int x), (3, .int 1)] → W p l e ({ frames := 2, cells := 0, slots := 0, locals := 55 }) s m [.ref o, .int (nI k), .int x, .int 1].toArray below meth c H locs 0 0 (MQ below (zQ G.1 vwC n0 (fun v w1 => ∃ r, v = some (.int r) ∧ (((szI x && decide (en + sumN sz 16 + sz k ≤ 4000)) = true ∧ r = 1 ∧ RA G w1 o A (upd (upd S 0 0) 2 (nI (en + sz k))) L (putF F (stN sz k) en (sz k) x) (cpM M (stN sz k) en (sz k)) B V Z T) ∨ ((szI x && decide (en + sumN sz 16 + sz k ≤ 4000)) = false ∧ r = 0 ∧ RA G w1 o A (upd S 0 0) L F M B V Z T)) ∧ Fr (allR o A) w w1)) [.ref o, .int (nI k), .int x, .int 1].toArray s ({ frames := 2, cells := 0, slots := 0, locals := 55 } : Room).cells ({ frames := 2, cells := 0, slots := 0, locals := 55 } : Room).slots (zA n0)) (F0 m 64 ls []) := by
              intro j
              induction j with
              | zero =>
                intro i w2 H locs ls hik hZ hS hF hr2 hl
                have hin : i = sz k := by omega
                subst hin
                obtain ⟨ho_25, ⟨h0_25, h1_25, h2_25, h3_25, h4_25, h5_25, h6_25, h7_25, h8_25⟩, h9_25, h10_25, h11_25, h12_25⟩ := id hr2
                have ho_25 : w2 o = some (.inr (6, [.int 0, .ref (A 0), .ref (A 1), .ref (A 2), .ref (A 3), .ref (A 4), .ref (A 5), .ref (A 6), .ref (A 7), .ref (A 8), .int (S 1), .ref (A 9), .ref (A 10), .int (S 2), .ref (A 11), .long (L 0), .long (L 1), .long (L 2), .long (L 3), .ref (A 12), .long (L 4)])) := ho_25
                refine lv_iload hx hb d_R_put_64 (lv_at hl 0 rfl) ?_
                refine lv_iload hx hb d_R_put_66 (lv_at hl 1 rfl) ?_
                refine lv_icmp_ge (tgt := 93) hx hb d_R_put_68 (by decide) (fun c68 => ?_) (fun c68 => ?_)
                · refine lv_aload_n hx hb d_R_put_93 rfl (lv_at hl 3 rfl) ?_
                  refine gf_R_22 cx hZ ho_25 rfl d_R_put_94 ?_
                  refine lv_aload_n hx hb d_R_put_97 rfl (lv_at hl 3 rfl) ?_
                  refine gf_R_61 cx hZ ho_25 rfl d_R_put_98 ?_
                  rw [show ((S 2) : Int32) = nI en from hen]
                  refine lv_iload_n hx hb d_R_put_101 rfl (lv_at hl 5 rfl) ?_
                  refine st_i cx hZ hS h4_25 (vp_in_nI (by omega) (by omega)) d_R_put_102 (fun w_26 H locs hw_27 hZ hS => ?_)
                  have hk_28 : w_26 o = some (.inr (6, [.int 0, .ref (A 0), .ref (A 1), .ref (A 2), .ref (A 3), .ref (A 4), .ref (A 5), .ref (A 6), .ref (A 7), .ref (A 8), .int (S 1), .ref (A 9), .ref (A 10), .int (S 2), .ref (A 11), .long (L 0), .long (L 1), .long (L 2), .long (L 3), .ref (A 12), .long (L 4)])) := up_ne hw_27 ho_25 (z_ne ho_25 h4_25 (by simp))
                  have hk_29 : w_26 (A 0) = some (.inl (G.2 0, 8200, .inl ((cpF F (stN sz k) en (sz k)) 0))) := up_ne hw_27 h0_25 ((hA 0 4 (by decide) (by decide) (by decide)))
                  have hk_30 : w_26 (A 1) = some (.inl (G.2 0, 8200, .inl ((cpF F (stN sz k) en (sz k)) 1))) := up_ne hw_27 h1_25 ((hA 1 4 (by decide) (by decide) (by decide)))
                  have hk_31 : w_26 (A 2) = some (.inl (G.2 0, 8200, .inl ((cpF F (stN sz k) en (sz k)) 2))) := up_ne hw_27 h2_25 ((hA 2 4 (by decide) (by decide) (by decide)))
                  have hk_32 : w_26 (A 3) = some (.inl (G.2 0, 8200, .inl ((cpF F (stN sz k) en (sz k)) 3))) := up_ne hw_27 h3_25 ((hA 3 4 (by decide) (by decide) (by decide)))
                  have hk_33 : w_26 (A 5) = some (.inl (G.2 0, 8200, .inl ((cpF F (stN sz k) en (sz k)) 5))) := up_ne hw_27 h5_25 ((hA 5 4 (by decide) (by decide) (by decide)))
                  have hk_34 : w_26 (A 6) = some (.inl (G.2 0, 8200, .inl ((cpF F (stN sz k) en (sz k)) 6))) := up_ne hw_27 h6_25 ((hA 6 4 (by decide) (by decide) (by decide)))
                  have hk_35 : w_26 (A 7) = some (.inl (G.2 1, 8200, .inr (.inl (cpM M (stN sz k) en (sz k))))) := up_ne hw_27 h7_25 ((hA 7 4 (by decide) (by decide) (by decide)))
                  have hk_36 : w_26 (A 8) = some (.inl (G.2 0, 8200, .inl ((cpF F (stN sz k) en (sz k)) 8))) := up_ne hw_27 h8_25 ((hA 8 4 (by decide) (by decide) (by decide)))
                  have hk_37 : w_26 (A 9) = some (.inl (G.2 0, 101, .inl B)) := up_ne hw_27 h9_25 ((hA 9 4 (by decide) (by decide) (by decide)))
                  have hk_38 : w_26 (A 10) = some (.inl (G.2 2, 101, .inl V)) := up_ne hw_27 h10_25 ((hA 10 4 (by decide) (by decide) (by decide)))
                  have hk_39 : w_26 (A 11) = some (.inl (G.2 0, 16, .inl Z)) := up_ne hw_27 h11_25 ((hA 11 4 (by decide) (by decide) (by decide)))
                  have hk_40 : w_26 (A 12) = some (.inl (G.2 1, 4, .inr (.inl T))) := up_ne hw_27 h12_25 ((hA 12 4 (by decide) (by decide) (by decide)))
                  have hF := hF.put hw_27 (Or.inl (by simp))
                  have hc_41 : w_26 (A 4) = some (.inl (G.2 0, 8200, .inl (upd ((cpF F (stN sz k) en (sz k)) 4) en x))) := by have q := up_self hw_27; rw [nI_clamp (by first | omega | (unfold stN; omega))] at q; exact q
                  refine lv_aload_n hx hb d_R_put_103 rfl (lv_at hl 3 rfl) ?_
                  refine lv_dup hx hb d_R_put_104 rfl ?_
                  refine gf_R_61 cx hZ hk_28 rfl d_R_put_105 ?_
                  refine lv_iload hx hb d_R_put_108 (lv_at hl 1 rfl) ?_
                  refine lv_iadd hx hb d_R_put_110 ?_
                  rw [show (((S 2) + (nI (sz k))) : Int32) = nI (en + sz k) from by rw [hen, nI_add]]
                  refine pf_R_61 cx hZ hS hk_28 (Nat.le_of_ble_eq_true rfl) d_R_put_111 (fun w_42 H locs hw_43 hZ hS => ?_)
                  have hk_44 : w_42 (A 0) = some (.inl (G.2 0, 8200, .inl ((cpF F (stN sz k) en (sz k)) 0))) := up_ne hw_43 hk_29 (z_ne hk_29 hk_28 (by simp))
                  have hk_45 : w_42 (A 1) = some (.inl (G.2 0, 8200, .inl ((cpF F (stN sz k) en (sz k)) 1))) := up_ne hw_43 hk_30 (z_ne hk_30 hk_28 (by simp))
                  have hk_46 : w_42 (A 2) = some (.inl (G.2 0, 8200, .inl ((cpF F (stN sz k) en (sz k)) 2))) := up_ne hw_43 hk_31 (z_ne hk_31 hk_28 (by simp))
                  have hk_47 : w_42 (A 3) = some (.inl (G.2 0, 8200, .inl ((cpF F (stN sz k) en (sz k)) 3))) := up_ne hw_43 hk_32 (z_ne hk_32 hk_28 (by simp))
                  have hk_48 : w_42 (A 4) = some (.inl (G.2 0, 8200, .inl (upd ((cpF F (stN sz k) en (sz k)) 4) en x))) := up_ne hw_43 hc_41 (z_ne hc_41 hk_28 (by simp))
                  have hk_49 : w_42 (A 5) = some (.inl (G.2 0, 8200, .inl ((cpF F (stN sz k) en (sz k)) 5))) := up_ne hw_43 hk_33 (z_ne hk_33 hk_28 (by simp))
                  have hk_50 : w_42 (A 6) = some (.inl (G.2 0, 8200, .inl ((cpF F (stN sz k) en (sz k)) 6))) := up_ne hw_43 hk_34 (z_ne hk_34 hk_28 (by simp))
                  have hk_51 : w_42 (A 7) = some (.inl (G.2 1, 8200, .inr (.inl (cpM M (stN sz k) en (sz k))))) := up_ne hw_43 hk_35 (z_ne hk_35 hk_28 (by simp))
                  have hk_52 : w_42 (A 8) = some (.inl (G.2 0, 8200, .inl ((cpF F (stN sz k) en (sz k)) 8))) := up_ne hw_43 hk_36 (z_ne hk_36 hk_28 (by simp))
                  have hk_53 : w_42 (A 9) = some (.inl (G.2 0, 101, .inl B)) := up_ne hw_43 hk_37 (z_ne hk_37 hk_28 (by simp))
                  have hk_54 : w_42 (A 10) = some (.inl (G.2 2, 101, .inl V)) := up_ne hw_43 hk_38 (z_ne hk_38 hk_28 (by simp))
                  have hk_55 : w_42 (A 11) = some (.inl (G.2 0, 16, .inl Z)) := up_ne hw_43 hk_39 (z_ne hk_39 hk_28 (by simp))
                  have hk_56 : w_42 (A 12) = some (.inl (G.2 1, 4, .inr (.inl T))) := up_ne hw_43 hk_40 (z_ne hk_40 hk_28 (by simp))
                  have hF := hF.put hw_43 (Or.inl (by simp))
                  have hc_57 : w_42 o = some (.inr (6, [.int 0, .ref (A 0), .ref (A 1), .ref (A 2), .ref (A 3), .ref (A 4), .ref (A 5), .ref (A 6), .ref (A 7), .ref (A 8), .int (S 1), .ref (A 9), .ref (A 10), .int (nI (en + sz k)), .ref (A 11), .long (L 0), .long (L 1), .long (L 2), .long (L 3), .ref (A 12), .long (L 4)])) := up_self hw_43
                  refine lv_iload_n hx hb d_R_put_114 rfl (lv_at hl 6 rfl) ?_
                  refine lv_if_ne (tgt := 123) hx hb d_R_put_115 (by decide) (fun c115 => ?_) (fun c115 => ?_)
                  · refine lv_iconst (v := 1) hx hb d_R_put_123 (by decide) ?_
                    exact z_zret cx.1 cx.2.1 cx.rt cx.lk (by first | rfl | (simp [narrow]; done) | simp_all [narrow]) hS hZ ⟨(Nat.le_of_ble_eq_true rfl), (Nat.le_of_ble_eq_true rfl)⟩ d_R_put_124 (⟨1, rfl, Or.inl ⟨by have h := (zi_n0 _).mp c24; have h2 := (zi_n0 _).mp c41; simp [h, h2], rfl, ⟨hc_57, ⟨hk_44, hk_45, hk_46, hk_47, hk_48, hk_49, hk_50, hk_51, hk_52⟩, hk_53, hk_54, hk_55, hk_56⟩⟩, hF⟩)
                  · exact absurd c115 (by decide)
                · exact absurd (nI_le (by omega) (by omega)) c68
              | succ j ih =>
                intro i w2 H locs ls hik hZ hS hF hr2 hl
                obtain ⟨ho_58, ⟨h0_58, h1_58, h2_58, h3_58, h4_58, h5_58, h6_58, h7_58, h8_58⟩, h9_58, h10_58, h11_58, h12_58⟩ := id hr2
                have ho_58 : w2 o = some (.inr (6, [.int 0, .ref (A 0), .ref (A 1), .ref (A 2), .ref (A 3), .ref (A 4), .ref (A 5), .ref (A 6), .ref (A 7), .ref (A 8), .int (S 1), .ref (A 9), .ref (A 10), .int (S 2), .ref (A 11), .long (L 0), .long (L 1), .long (L 2), .long (L 3), .ref (A 12), .long (L 4)])) := ho_58
                refine lv_iload hx hb d_R_put_64 (lv_at hl 0 rfl) ?_
                refine lv_iload hx hb d_R_put_66 (lv_at hl 1 rfl) ?_
                refine lv_icmp_ge (tgt := 93) hx hb d_R_put_68 (by decide) (fun c68 => ?_) (fun c68 => ?_)
                · exact absurd c68 (nI_ge (by omega) (by omega))
                · refine lv_aload_n hx hb d_R_put_71 rfl (lv_at hl 3 rfl) ?_
                  refine lv_iload hx hb d_R_put_72 (lv_at hl 2 rfl) ?_
                  refine lv_iload hx hb d_R_put_74 (lv_at hl 0 rfl) ?_
                  refine lv_iadd hx hb d_R_put_76 ?_
                  rw [show (((nI (stN sz k)) + (nI i)) : Int32) = nI (stN sz k + i) from nI_add _ _]
                  refine lv_aload_n hx hb d_R_put_77 rfl (lv_at hl 3 rfl) ?_
                  refine gf_R_61 cx hZ ho_58 rfl d_R_put_78 ?_
                  refine lv_iload hx hb d_R_put_81 (lv_at hl 0 rfl) ?_
                  refine lv_iadd hx hb d_R_put_83 ?_
                  rw [show (((S 2) + (nI i)) : Int32) = nI (en + i) from by rw [hen, nI_add]]
                  refine iv_R_126 (As := [.int (nI (stN sz k + i)), .int (nI (en + i))]) (rest := []) cx (r_moveA l G n0 e0 w2 o A (upd S 0 0) L (cpF F (stN sz k) en i) (cpM M (stN sz k) en i) B V Z T ⟨ho_58, ⟨h0_58, h1_58, h2_58, h3_58, h4_58, h5_58, h6_58, h7_58, h8_58⟩, h9_58, h10_58, h11_58, h12_58⟩ hA (stN sz k + i) (en + i) (by first | omega | (unfold stN; omega)) (by first | omega | (unfold stN; omega))) ho_58 ⟨(Nat.le_of_ble_eq_true rfl), (Nat.le_of_ble_eq_true rfl)⟩ ⟨(Nat.le_of_ble_eq_true rfl), (Nat.le_of_ble_eq_true rfl)⟩ rfl hl.1 rfl (Nat.le_of_ble_eq_true rfl) d_R_put_84 hZ hS (fun v w_59 H locs hp_60 hZ hS => ?_)
                  obtain ⟨rfl, hr_61, hf_62⟩ := hp_60
                  obtain ⟨ho_63, ⟨h0_63, h1_63, h2_63, h3_63, h4_63, h5_63, h6_63, h7_63, h8_63⟩, h9_63, h10_63, h11_63, h12_63⟩ := id hr_61
                  have ho_63 : w_59 o = some (.inr (6, [.int 0, .ref (A 0), .ref (A 1), .ref (A 2), .ref (A 3), .ref (A 4), .ref (A 5), .ref (A 6), .ref (A 7), .ref (A 8), .int (S 1), .ref (A 9), .ref (A 10), .int (S 2), .ref (A 11), .long (L 0), .long (L 1), .long (L 2), .long (L 3), .ref (A 12), .long (L 4)])) := ho_63
                  have hF := hF.call hf_62 (fun t ht => Or.inl ht)
                  refine W.eq (g2 := F0 m 87 ls []) rfl ?_
                  refine lv_iinc (v := ((nI i) + 1)) (lv' := [(6, .int ((nI i) + 1)), (5, .int (nI (sz k))), (4, .int (nI (stN sz k))), (0, .ref o), (1, .int (nI k)), (2, .int x), (3, .int 1)]) hx hb d_R_put_87 hl (k := 0) rfl rfl (by decide) rfl (fun ls hl => ?_)
                  refine lv_goto (tgt := 64) hx hb d_R_put_90 (by decide) ?_
                  exact ih (i + 1) _ _ _ _ (by omega) hZ hS hF (by rw [← cpF_s (Or.inl (by first | omega | (unfold stN; omega))), ← cpM_s (Or.inl (by first | omega | (unfold stN; omega)))]; exact ⟨ho_63, ⟨h0_63, h1_63, h2_63, h3_63, h4_63, h5_63, h6_63, h7_63, h8_63⟩, h9_63, h10_63, h11_63, h12_63⟩) (lv_sub hl [0, 1, 2, 3, 4, 5, 6] (by rw [← nI_1 i]; rfl))
            exact loop_64 ((sz k)) 0 _ _ _ _ (by omega) hZ hS hF (by rw [cpF_0, cpM_0]; exact ⟨hc_16, ⟨hk_3, hk_4, hk_5, hk_6, hk_7, hk_8, hk_9, hk_10, hk_11⟩, hk_12, hk_13, hk_14, hk_15⟩) (lv_sub hl [0, 1, 2, 3, 4, 5, 6] rfl)
          · refine lv_iconst (v := 0) hx hb d_R_put_44 (by decide) ?_
            exact z_zret cx.1 cx.2.1 cx.rt cx.lk (by first | rfl | (simp [narrow]; done) | simp_all [narrow]) hS hZ ⟨(Nat.le_of_ble_eq_true rfl), (Nat.le_of_ble_eq_true rfl)⟩ d_R_put_45 (⟨0, rfl, Or.inr ⟨by have h := (zi_0 _).mp c41; simp [h], rfl, ⟨hc_16, ⟨hk_3, hk_4, hk_5, hk_6, hk_7, hk_8, hk_9, hk_10, hk_11⟩, hk_12, hk_13, hk_14, hk_15⟩⟩, hF⟩)
set_option maxHeartbeats 4000000 in
set_option maxRecDepth 100000 in
theorem r_unbox (l : Launch) (G : zG) (n0 e0 : Nat) (w : zw) (o : Nat) (A : Nat → Nat) (S : Nat → Int32) (L : Nat → Int64) (F : Nat → Nat → Int32) (M : Nat → Int64) (B V Z : Nat → Int32) (T : Nat → Int64) (hr : RA G w o A S L F M B V Z T) (hA : ∀ i j, i < 13 → j < 13 → i ≠ j → A i ≠ A j) (sz : Nat → Nat) (hsz : ∀ k, k < 16 → Z k = nI (sz k)) (hsum : sumN sz 16 ≤ 4000) (k : Nat) (hk : k < 16) (hz0 : ¬ sz k = 0) (vt2 : Bool) (hvt : F 0 (stN sz k) = if vt2 = true then 3 else 2) (lists : Nat) (hls : S 1 = nI lists) (hll : lists ≤ 100) (hl0 : lists ≠ 0) (vb : Bool) (hvb : (lists = 0 ∧ vb = false) ∨ ∃ k, lists = k + 1 ∧ V k = zi vb) (en : Nat) (hen : S 2 = nI en) (hen2 : en + sumN sz 16 ≤ 4000)  : Ct l G n0 e0 y_R_unbox b_R_unbox 5 (Option.some FieldType.boolean) ({ frames := 2, cells := 0, slots := 0, locals := 55 }) [.ref o, .int (nI k)] w (fun v w1 => ∃ r, v = some (.int r) ∧ ((vt2 = vb ∧ r = 1 ∧ RA G w1 o A (upd (upd S 0 0) 2 (nI (en + (sz k - 1)))) L (emF (cpF F (stN sz k + 1) en (sz k - 1)) sz k) (emM (cpM M (stN sz k + 1) en (sz k - 1)) sz k) B V (upd Z k 0) T) ∨ (vt2 ≠ vb ∧ r = 0 ∧ RA G w1 o A (upd S 0 0) L F M B V Z T)) ∧ Fr (allR o A) w w1) := by
  refine z_ct (by decide) (Nat.le_of_ble_eq_true rfl) ?_
  intro p e s m below meth c ls cx hnm hZ hS hl
  have hx := cx.1
  have hb := cx.2.1
  have hl : lv_has ls 5 [(0, .ref o), (1, .int (nI k))] := hl
  obtain ⟨ho, ⟨h0, h1, h2, h3, h4, h5, h6, h7, h8⟩, h9, h10, h11, h12⟩ := id hr
  have hlt := sumN_lt (f := sz) hk
  have hF : Fr [o, (A 0), (A 1), (A 2), (A 3), (A 4), (A 5), (A 6), (A 7), (A 8), (A 9), (A 10), (A 11), (A 12)] w w := Fr.rf
  refine lv_aload_n hx hb d_R_unbox_0 rfl (lv_at hl 0 rfl) ?_
  refine lv_iconst (v := 0) hx hb d_R_unbox_1 (by decide) ?_
  refine pf_R_51 cx hZ hS ho (Nat.le_of_ble_eq_true rfl) d_R_unbox_2 (fun w_1 H locs hw_2 hZ hS => ?_)
  have hk_3 : w_1 (A 0) = some (.inl (G.2 0, 8200, .inl (F 0))) := up_ne hw_2 h0 (z_ne h0 ho (by simp))
  have hk_4 : w_1 (A 1) = some (.inl (G.2 0, 8200, .inl (F 1))) := up_ne hw_2 h1 (z_ne h1 ho (by simp))
  have hk_5 : w_1 (A 2) = some (.inl (G.2 0, 8200, .inl (F 2))) := up_ne hw_2 h2 (z_ne h2 ho (by simp))
  have hk_6 : w_1 (A 3) = some (.inl (G.2 0, 8200, .inl (F 3))) := up_ne hw_2 h3 (z_ne h3 ho (by simp))
  have hk_7 : w_1 (A 4) = some (.inl (G.2 0, 8200, .inl (F 4))) := up_ne hw_2 h4 (z_ne h4 ho (by simp))
  have hk_8 : w_1 (A 5) = some (.inl (G.2 0, 8200, .inl (F 5))) := up_ne hw_2 h5 (z_ne h5 ho (by simp))
  have hk_9 : w_1 (A 6) = some (.inl (G.2 0, 8200, .inl (F 6))) := up_ne hw_2 h6 (z_ne h6 ho (by simp))
  have hk_10 : w_1 (A 7) = some (.inl (G.2 1, 8200, .inr (.inl M))) := up_ne hw_2 h7 (z_ne h7 ho (by simp))
  have hk_11 : w_1 (A 8) = some (.inl (G.2 0, 8200, .inl (F 8))) := up_ne hw_2 h8 (z_ne h8 ho (by simp))
  have hk_12 : w_1 (A 9) = some (.inl (G.2 0, 101, .inl B)) := up_ne hw_2 h9 (z_ne h9 ho (by simp))
  have hk_13 : w_1 (A 10) = some (.inl (G.2 2, 101, .inl V)) := up_ne hw_2 h10 (z_ne h10 ho (by simp))
  have hk_14 : w_1 (A 11) = some (.inl (G.2 0, 16, .inl Z)) := up_ne hw_2 h11 (z_ne h11 ho (by simp))
  have hk_15 : w_1 (A 12) = some (.inl (G.2 1, 4, .inr (.inl T))) := up_ne hw_2 h12 (z_ne h12 ho (by simp))
  have hF := hF.put hw_2 (Or.inl (by simp))
  have hc_16 : w_1 o = some (.inr (6, [.int 0, .ref (A 0), .ref (A 1), .ref (A 2), .ref (A 3), .ref (A 4), .ref (A 5), .ref (A 6), .ref (A 7), .ref (A 8), .int (S 1), .ref (A 9), .ref (A 10), .int (S 2), .ref (A 11), .long (L 0), .long (L 1), .long (L 2), .long (L 3), .ref (A 12), .long (L 4)])) := up_self hw_2
  refine lv_aload_n hx hb d_R_unbox_5 rfl (lv_at hl 0 rfl) ?_
  refine gf_R_68 cx hZ hc_16 rfl d_R_unbox_6 ?_
  refine lv_if_eq (tgt := 45) hx hb d_R_unbox_9 (by decide) (fun c9 => ?_) (fun c9 => ?_)
  · exact absurd (by rw [← hls]; exact c9) (nI_ne0 (n := lists) (by omega) (by omega))
  · refine lv_aload_n hx hb d_R_unbox_12 rfl (lv_at hl 0 rfl) ?_
    refine lv_iload_n hx hb d_R_unbox_13 rfl (lv_at hl 1 rfl) ?_
    refine iv_R_157 (As := [.int (nI k)]) (rest := []) cx (r_isFull_in l G n0 e0 w_1 o A (upd S 0 0) L hc_16 (fun _ => Z) hk_14 k hk) hc_16 ⟨(Nat.le_of_ble_eq_true rfl), (Nat.le_of_ble_eq_true rfl)⟩ ⟨(Nat.le_of_ble_eq_true rfl), (Nat.le_of_ble_eq_true rfl)⟩ rfl hl.1 rfl (Nat.le_of_ble_eq_true rfl) d_R_unbox_14 hZ hS (fun v w_17 H locs hp_18 hZ hS => ?_)
    obtain ⟨rfl, hq⟩ := hp_18
    subst w_17
    refine W.eq (g2 := F0 m 17 ls [.int (zi (!decide (Z k ≤ 0)))]) rfl ?_
    refine lv_if_eq (tgt := 45) hx hb d_R_unbox_17 (by decide) (fun c17 => ?_) (fun c17 => ?_)
    · exact absurd ((zi_0 _).mp c17) (by rw [full_nI (hsz k hk) (by omega)]; simp [hz0])
    · refine lv_aload_n hx hb d_R_unbox_20 rfl (lv_at hl 0 rfl) ?_
      refine gf_R_7 cx hZ hc_16 rfl d_R_unbox_21 ?_
      refine lv_aload_n hx hb d_R_unbox_24 rfl (lv_at hl 0 rfl) ?_
      refine lv_iload_n hx hb d_R_unbox_25 rfl (lv_at hl 1 rfl) ?_
      refine iv_R_122 (As := [.int (nI k)]) (rest := [.ref (A 0)]) cx (r_startN l G n0 e0 w_1 o A (upd S 0 0) L hc_16 Z hk_14 sz hsz k (by omega)) hc_16 ⟨(Nat.le_of_ble_eq_true rfl), (Nat.le_of_ble_eq_true rfl)⟩ ⟨(Nat.le_of_ble_eq_true rfl), (Nat.le_of_ble_eq_true rfl)⟩ rfl hl.1 rfl (Nat.le_of_ble_eq_true rfl) d_R_unbox_26 hZ hS (fun v w_19 H locs hp_20 hZ hS => ?_)
      obtain ⟨rfl, hq⟩ := hp_20
      subst w_19
      refine W.eq (g2 := F0 m 29 ls [.int (nI (stN sz k)), .ref (A 0)]) rfl ?_
      refine ld_i cx hZ hk_3 (vp_in_nI (by unfold stN; omega) (by omega)) d_R_unbox_29 ?_
      rw [show ((F 0) (nI (stN sz k)).toNatClampNeg : Int32) = (F 0) (stN sz k) from by rw [nI_clamp (by first | omega | (unfold stN; omega))]]
      refine lv_aload_n hx hb d_R_unbox_30 rfl (lv_at hl 0 rfl) ?_
      refine iv_R_75 (As := []) (rest := [.int ((F 0) (stN sz k))]) cx (r_isVertical l G n0 e0 w_1 o A (upd S 0 0) L hc_16 (fun _ => V) hk_13 lists hls hll vb hvb) hc_16 ⟨(Nat.le_of_ble_eq_true rfl), (Nat.le_of_ble_eq_true rfl)⟩ ⟨(Nat.le_of_ble_eq_true rfl), (Nat.le_of_ble_eq_true rfl)⟩ rfl hl.1 rfl (Nat.le_of_ble_eq_true rfl) d_R_unbox_31 hZ hS (fun v w_21 H locs hp_22 hZ hS => ?_)
      obtain ⟨rfl, hq⟩ := hp_22
      subst w_21
      refine W.eq (g2 := F0 m 34 ls [.int (zi vb), .int ((F 0) (stN sz k))]) rfl ?_
      refine lv_if_eq (tgt := 41) hx hb d_R_unbox_34 (by decide) (fun c34 => ?_) (fun c34 => ?_)
      · refine lv_iconst (v := 2) hx hb d_R_unbox_41 (by decide) ?_
        refine lv_icmp_eq (tgt := 47) hx hb d_R_unbox_42 (by decide) (fun c42 => ?_) (fun c42 => ?_)
        · refine lv_aload_n hx hb d_R_unbox_47 rfl (lv_at hl 0 rfl) ?_
          refine lv_iload_n hx hb d_R_unbox_48 rfl (lv_at hl 1 rfl) ?_
          refine iv_R_122 (As := [.int (nI k)]) (rest := []) cx (r_startN l G n0 e0 w_1 o A (upd S 0 0) L hc_16 Z hk_14 sz hsz k (by omega)) hc_16 ⟨(Nat.le_of_ble_eq_true rfl), (Nat.le_of_ble_eq_true rfl)⟩ ⟨(Nat.le_of_ble_eq_true rfl), (Nat.le_of_ble_eq_true rfl)⟩ rfl hl.1 rfl (Nat.le_of_ble_eq_true rfl) d_R_unbox_49 hZ hS (fun v w_23 H locs hp_24 hZ hS => ?_)
          obtain ⟨rfl, hq⟩ := hp_24
          subst w_23
          refine W.eq (g2 := F0 m 52 ls [.int (nI (stN sz k))]) rfl ?_
          refine lv_istore_n (lv' := [(2, .int (nI (stN sz k))), (0, .ref o), (1, .int (nI k))]) hx hb d_R_unbox_52 rfl hl (by decide) rfl (fun ls hl => ?_)
          refine lv_aload_n hx hb d_R_unbox_53 rfl (lv_at hl 1 rfl) ?_
          refine gf_R_45 cx hZ hc_16 rfl d_R_unbox_54 ?_
          refine lv_iload_n hx hb d_R_unbox_57 rfl (lv_at hl 2 rfl) ?_
          refine ld_i cx hZ hk_14 (vp_in_nI hk (by omega)) d_R_unbox_58 ?_
          rw [show (Z (nI k).toNatClampNeg : Int32) = Z k from by rw [nI_clamp (by first | omega | (unfold stN; omega))]]
          rw [show ((Z k) : Int32) = nI (sz k) from hsz k hk]
          refine lv_iconst (v := 1) hx hb d_R_unbox_59 (by decide) ?_
          refine lv_isub hx hb d_R_unbox_60 ?_
          rw [show (((nI (sz k)) - 1) : Int32) = nI (sz k - 1) from nI_subN (b := 1) (by omega)]
          refine lv_istore_n (lv' := [(3, .int (nI (sz k - 1))), (2, .int (nI (stN sz k))), (0, .ref o), (1, .int (nI k))]) hx hb d_R_unbox_61 rfl hl (by decide) rfl (fun ls hl => ?_)
          refine lv_iconst (v := 0) hx hb d_R_unbox_62 (by decide) ?_
          refine lv_istore (lv' := [(4, .int 0), (3, .int (nI (sz k - 1))), (2, .int (nI (stN sz k))), (0, .ref o), (1, .int (nI k))]) hx hb d_R_unbox_63 hl (by decide) rfl (fun ls hl => ?_)
          have loop_65 : ∀ (j i : Nat) (w2 : zw) (H : Heap) (locs : List Loc) (ls : Array Slot), i + j = (sz k - 1) → Zw G.1 vwC (zA n0) w2 H → va_S (zA n0) s.heap H locs → Fr [o, (A 0), (A 1), (A 2), (A 3), (A 4), (A 5), (A 6), (A 7), (A 8), (A 9), (A 10), (A 11), (A 12)] w w2 → RA G w2 o A (upd S 0 0) L (cpF F (stN sz k + 1) en i) (cpM M (stN sz k + 1) en i) B V Z T → lv_has ls 5 [(4, .int (nI i)), (3, .int (nI (sz k - 1))), (2, .int (nI (stN sz k))), (0, .ref o), (1, .int (nI k))] → W p l e ({ frames := 2, cells := 0, slots := 0, locals := 55 }) s m [.ref o, .int (nI k)].toArray below meth c H locs 0 0 (MQ below (zQ G.1 vwC n0 (fun v w1 => ∃ r, v = some (.int r) ∧ ((vt2 = vb ∧ r = 1 ∧ RA G w1 o A (upd (upd S 0 0) 2 (nI (en + (sz k - 1)))) L (emF (cpF F (stN sz k + 1) en (sz k - 1)) sz k) (emM (cpM M (stN sz k + 1) en (sz k - 1)) sz k) B V (upd Z k 0) T) ∨ (vt2 ≠ vb ∧ r = 0 ∧ RA G w1 o A (upd S 0 0) L F M B V Z T)) ∧ Fr (allR o A) w w1)) [.ref o, .int (nI k)].toArray s ({ frames := 2, cells := 0, slots := 0, locals := 55 } : Room).cells ({ frames := 2, cells := 0, slots := 0, locals := 55 } : Room).slots (zA n0)) (F0 m 65 ls []) := by
            intro j
            induction j with
            | zero =>
              intro i w2 H locs ls hik hZ hS hF hr2 hl
              have hin : i = sz k - 1 := by omega
              subst hin
              obtain ⟨ho_25, ⟨h0_25, h1_25, h2_25, h3_25, h4_25, h5_25, h6_25, h7_25, h8_25⟩, h9_25, h10_25, h11_25, h12_25⟩ := id hr2
              have ho_25 : w2 o = some (.inr (6, [.int 0, .ref (A 0), .ref (A 1), .ref (A 2), .ref (A 3), .ref (A 4), .ref (A 5), .ref (A 6), .ref (A 7), .ref (A 8), .int (S 1), .ref (A 9), .ref (A 10), .int (S 2), .ref (A 11), .long (L 0), .long (L 1), .long (L 2), .long (L 3), .ref (A 12), .long (L 4)])) := ho_25
              refine lv_iload hx hb d_R_unbox_65 (lv_at hl 0 rfl) ?_
              refine lv_iload_n hx hb d_R_unbox_67 rfl (lv_at hl 1 rfl) ?_
              refine lv_icmp_ge (tgt := 94) hx hb d_R_unbox_68 (by decide) (fun c68 => ?_) (fun c68 => ?_)
              · refine lv_aload_n hx hb d_R_unbox_94 rfl (lv_at hl 3 rfl) ?_
                refine lv_dup hx hb d_R_unbox_95 rfl ?_
                refine gf_R_61 cx hZ ho_25 rfl d_R_unbox_96 ?_
                refine lv_iload_n hx hb d_R_unbox_99 rfl (lv_at hl 1 rfl) ?_
                refine lv_iadd hx hb d_R_unbox_100 ?_
                rw [show (((S 2) + (nI (sz k - 1))) : Int32) = nI (en + (sz k - 1)) from by rw [hen, nI_add]]
                refine pf_R_61 cx hZ hS ho_25 (Nat.le_of_ble_eq_true rfl) d_R_unbox_101 (fun w_26 H locs hw_27 hZ hS => ?_)
                have hk_28 : w_26 (A 0) = some (.inl (G.2 0, 8200, .inl ((cpF F (stN sz k + 1) en (sz k - 1)) 0))) := up_ne hw_27 h0_25 (z_ne h0_25 ho_25 (by simp))
                have hk_29 : w_26 (A 1) = some (.inl (G.2 0, 8200, .inl ((cpF F (stN sz k + 1) en (sz k - 1)) 1))) := up_ne hw_27 h1_25 (z_ne h1_25 ho_25 (by simp))
                have hk_30 : w_26 (A 2) = some (.inl (G.2 0, 8200, .inl ((cpF F (stN sz k + 1) en (sz k - 1)) 2))) := up_ne hw_27 h2_25 (z_ne h2_25 ho_25 (by simp))
                have hk_31 : w_26 (A 3) = some (.inl (G.2 0, 8200, .inl ((cpF F (stN sz k + 1) en (sz k - 1)) 3))) := up_ne hw_27 h3_25 (z_ne h3_25 ho_25 (by simp))
                have hk_32 : w_26 (A 4) = some (.inl (G.2 0, 8200, .inl ((cpF F (stN sz k + 1) en (sz k - 1)) 4))) := up_ne hw_27 h4_25 (z_ne h4_25 ho_25 (by simp))
                have hk_33 : w_26 (A 5) = some (.inl (G.2 0, 8200, .inl ((cpF F (stN sz k + 1) en (sz k - 1)) 5))) := up_ne hw_27 h5_25 (z_ne h5_25 ho_25 (by simp))
                have hk_34 : w_26 (A 6) = some (.inl (G.2 0, 8200, .inl ((cpF F (stN sz k + 1) en (sz k - 1)) 6))) := up_ne hw_27 h6_25 (z_ne h6_25 ho_25 (by simp))
                have hk_35 : w_26 (A 7) = some (.inl (G.2 1, 8200, .inr (.inl (cpM M (stN sz k + 1) en (sz k - 1))))) := up_ne hw_27 h7_25 (z_ne h7_25 ho_25 (by simp))
                have hk_36 : w_26 (A 8) = some (.inl (G.2 0, 8200, .inl ((cpF F (stN sz k + 1) en (sz k - 1)) 8))) := up_ne hw_27 h8_25 (z_ne h8_25 ho_25 (by simp))
                have hk_37 : w_26 (A 9) = some (.inl (G.2 0, 101, .inl B)) := up_ne hw_27 h9_25 (z_ne h9_25 ho_25 (by simp))
                have hk_38 : w_26 (A 10) = some (.inl (G.2 2, 101, .inl V)) := up_ne hw_27 h10_25 (z_ne h10_25 ho_25 (by simp))
                have hk_39 : w_26 (A 11) = some (.inl (G.2 0, 16, .inl Z)) := up_ne hw_27 h11_25 (z_ne h11_25 ho_25 (by simp))
                have hk_40 : w_26 (A 12) = some (.inl (G.2 1, 4, .inr (.inl T))) := up_ne hw_27 h12_25 (z_ne h12_25 ho_25 (by simp))
                have hF := hF.put hw_27 (Or.inl (by simp))
                have hc_41 : w_26 o = some (.inr (6, [.int 0, .ref (A 0), .ref (A 1), .ref (A 2), .ref (A 3), .ref (A 4), .ref (A 5), .ref (A 6), .ref (A 7), .ref (A 8), .int (S 1), .ref (A 9), .ref (A 10), .int (nI (en + (sz k - 1))), .ref (A 11), .long (L 0), .long (L 1), .long (L 2), .long (L 3), .ref (A 12), .long (L 4)])) := up_self hw_27
                refine lv_aload_n hx hb d_R_unbox_104 rfl (lv_at hl 3 rfl) ?_
                refine lv_iload_n hx hb d_R_unbox_105 rfl (lv_at hl 4 rfl) ?_
                refine iv_R_151 (As := [.int (nI k)]) (rest := []) cx (r_empty l G n0 e0 w_26 o A (upd (upd S 0 0) 2 (nI (en + (sz k - 1)))) L (cpF F (stN sz k + 1) en (sz k - 1)) (cpM M (stN sz k + 1) en (sz k - 1)) B V Z T ⟨hc_41, ⟨hk_28, hk_29, hk_30, hk_31, hk_32, hk_33, hk_34, hk_35, hk_36⟩, hk_37, hk_38, hk_39, hk_40⟩ hA sz hsz hsum k hk) hc_41 ⟨(Nat.le_of_ble_eq_true rfl), (Nat.le_of_ble_eq_true rfl)⟩ ⟨(Nat.le_of_ble_eq_true rfl), (Nat.le_of_ble_eq_true rfl)⟩ rfl hl.1 rfl (Nat.le_of_ble_eq_true rfl) d_R_unbox_106 hZ hS (fun v w_42 H locs hp_43 hZ hS => ?_)
                obtain ⟨rfl, hr_44, hf_45⟩ := hp_43
                obtain ⟨ho_46, ⟨h0_46, h1_46, h2_46, h3_46, h4_46, h5_46, h6_46, h7_46, h8_46⟩, h9_46, h10_46, h11_46, h12_46⟩ := id hr_44
                have ho_46 : w_42 o = some (.inr (6, [.int 0, .ref (A 0), .ref (A 1), .ref (A 2), .ref (A 3), .ref (A 4), .ref (A 5), .ref (A 6), .ref (A 7), .ref (A 8), .int (S 1), .ref (A 9), .ref (A 10), .int (nI (en + (sz k - 1))), .ref (A 11), .long (L 0), .long (L 1), .long (L 2), .long (L 3), .ref (A 12), .long (L 4)])) := ho_46
                have hF := hF.call hf_45 (fun t ht => Or.inl ht)
                refine W.eq (g2 := F0 m 109 ls []) rfl ?_
                refine lv_iconst (v := 1) hx hb d_R_unbox_109 (by decide) ?_
                exact z_zret cx.1 cx.2.1 cx.rt cx.lk (by first | rfl | (simp [narrow]; done) | simp_all [narrow]) hS hZ ⟨(Nat.le_of_ble_eq_true rfl), (Nat.le_of_ble_eq_true rfl)⟩ d_R_unbox_110 (⟨1, rfl, Or.inl ⟨by have e34 := (zi_0 _).mp c34; rw [hvt] at c42; rw [e34]; cases vt2 <;> simp at c42 ⊢, rfl, ⟨ho_46, ⟨h0_46, h1_46, h2_46, h3_46, h4_46, h5_46, h6_46, h7_46, h8_46⟩, h9_46, h10_46, h11_46, h12_46⟩⟩, hF⟩)
              · exact absurd (nI_le (by omega) (by omega)) c68
            | succ j ih =>
              intro i w2 H locs ls hik hZ hS hF hr2 hl
              obtain ⟨ho_47, ⟨h0_47, h1_47, h2_47, h3_47, h4_47, h5_47, h6_47, h7_47, h8_47⟩, h9_47, h10_47, h11_47, h12_47⟩ := id hr2
              have ho_47 : w2 o = some (.inr (6, [.int 0, .ref (A 0), .ref (A 1), .ref (A 2), .ref (A 3), .ref (A 4), .ref (A 5), .ref (A 6), .ref (A 7), .ref (A 8), .int (S 1), .ref (A 9), .ref (A 10), .int (S 2), .ref (A 11), .long (L 0), .long (L 1), .long (L 2), .long (L 3), .ref (A 12), .long (L 4)])) := ho_47
              refine lv_iload hx hb d_R_unbox_65 (lv_at hl 0 rfl) ?_
              refine lv_iload_n hx hb d_R_unbox_67 rfl (lv_at hl 1 rfl) ?_
              refine lv_icmp_ge (tgt := 94) hx hb d_R_unbox_68 (by decide) (fun c68 => ?_) (fun c68 => ?_)
              · exact absurd c68 (nI_ge (by omega) (by omega))
              · refine lv_aload_n hx hb d_R_unbox_71 rfl (lv_at hl 3 rfl) ?_
                refine lv_iload_n hx hb d_R_unbox_72 rfl (lv_at hl 2 rfl) ?_
                refine lv_iconst (v := 1) hx hb d_R_unbox_73 (by decide) ?_
                refine lv_iadd hx hb d_R_unbox_74 ?_
                rw [show (((nI (stN sz k)) + 1) : Int32) = nI (stN sz k + 1) from nI_1 _]
                refine lv_iload hx hb d_R_unbox_75 (lv_at hl 0 rfl) ?_
                refine lv_iadd hx hb d_R_unbox_77 ?_
                rw [show (((nI (stN sz k + 1)) + (nI i)) : Int32) = nI (stN sz k + 1 + i) from nI_add _ _]
                refine lv_aload_n hx hb d_R_unbox_78 rfl (lv_at hl 3 rfl) ?_
                refine gf_R_61 cx hZ ho_47 rfl d_R_unbox_79 ?_
                refine lv_iload hx hb d_R_unbox_82 (lv_at hl 0 rfl) ?_
                refine lv_iadd hx hb d_R_unbox_84 ?_
                rw [show (((S 2) + (nI i)) : Int32) = nI (en + i) from by rw [hen, nI_add]]
                refine iv_R_126 (As := [.int (nI (stN sz k + 1 + i)), .int (nI (en + i))]) (rest := []) cx (r_moveA l G n0 e0 w2 o A (upd S 0 0) L (cpF F (stN sz k + 1) en i) (cpM M (stN sz k + 1) en i) B V Z T ⟨ho_47, ⟨h0_47, h1_47, h2_47, h3_47, h4_47, h5_47, h6_47, h7_47, h8_47⟩, h9_47, h10_47, h11_47, h12_47⟩ hA (stN sz k + 1 + i) (en + i) (by first | omega | (unfold stN; omega)) (by first | omega | (unfold stN; omega))) ho_47 ⟨(Nat.le_of_ble_eq_true rfl), (Nat.le_of_ble_eq_true rfl)⟩ ⟨(Nat.le_of_ble_eq_true rfl), (Nat.le_of_ble_eq_true rfl)⟩ rfl hl.1 rfl (Nat.le_of_ble_eq_true rfl) d_R_unbox_85 hZ hS (fun v w_48 H locs hp_49 hZ hS => ?_)
                obtain ⟨rfl, hr_50, hf_51⟩ := hp_49
                obtain ⟨ho_52, ⟨h0_52, h1_52, h2_52, h3_52, h4_52, h5_52, h6_52, h7_52, h8_52⟩, h9_52, h10_52, h11_52, h12_52⟩ := id hr_50
                have ho_52 : w_48 o = some (.inr (6, [.int 0, .ref (A 0), .ref (A 1), .ref (A 2), .ref (A 3), .ref (A 4), .ref (A 5), .ref (A 6), .ref (A 7), .ref (A 8), .int (S 1), .ref (A 9), .ref (A 10), .int (S 2), .ref (A 11), .long (L 0), .long (L 1), .long (L 2), .long (L 3), .ref (A 12), .long (L 4)])) := ho_52
                have hF := hF.call hf_51 (fun t ht => Or.inl ht)
                refine W.eq (g2 := F0 m 88 ls []) rfl ?_
                refine lv_iinc (v := ((nI i) + 1)) (lv' := [(4, .int ((nI i) + 1)), (3, .int (nI (sz k - 1))), (2, .int (nI (stN sz k))), (0, .ref o), (1, .int (nI k))]) hx hb d_R_unbox_88 hl (k := 0) rfl rfl (by decide) rfl (fun ls hl => ?_)
                refine lv_goto (tgt := 65) hx hb d_R_unbox_91 (by decide) ?_
                exact ih (i + 1) _ _ _ _ (by omega) hZ hS hF (by rw [← cpF_s (Or.inl (by first | omega | (unfold stN; omega))), ← cpM_s (Or.inl (by first | omega | (unfold stN; omega)))]; exact ⟨ho_52, ⟨h0_52, h1_52, h2_52, h3_52, h4_52, h5_52, h6_52, h7_52, h8_52⟩, h9_52, h10_52, h11_52, h12_52⟩) (lv_sub hl [0, 1, 2, 3, 4] (by rw [← nI_1 i]; rfl))
          exact loop_65 ((sz k - 1)) 0 _ _ _ _ (by omega) hZ hS hF (by rw [cpF_0, cpM_0]; exact ⟨hc_16, ⟨hk_3, hk_4, hk_5, hk_6, hk_7, hk_8, hk_9, hk_10, hk_11⟩, hk_12, hk_13, hk_14, hk_15⟩) (lv_sub hl [0, 1, 2, 3, 4] rfl)
        · refine lv_iconst (v := 0) hx hb d_R_unbox_45 (by decide) ?_
          exact z_zret cx.1 cx.2.1 cx.rt cx.lk (by first | rfl | (simp [narrow]; done) | simp_all [narrow]) hS hZ ⟨(Nat.le_of_ble_eq_true rfl), (Nat.le_of_ble_eq_true rfl)⟩ d_R_unbox_46 (⟨0, rfl, Or.inr ⟨by have e34 := (zi_0 _).mp c34; rw [hvt] at c42; rw [e34]; intro q; subst q; simp at c42, rfl, ⟨hc_16, ⟨hk_3, hk_4, hk_5, hk_6, hk_7, hk_8, hk_9, hk_10, hk_11⟩, hk_12, hk_13, hk_14, hk_15⟩⟩, hF⟩)
      · refine lv_iconst (v := 3) hx hb d_R_unbox_37 (by decide) ?_
        refine lv_goto (tgt := 42) hx hb d_R_unbox_38 (by decide) ?_
        refine lv_icmp_eq (tgt := 47) hx hb d_R_unbox_42 (by decide) (fun c42 => ?_) (fun c42 => ?_)
        · refine lv_aload_n hx hb d_R_unbox_47 rfl (lv_at hl 0 rfl) ?_
          refine lv_iload_n hx hb d_R_unbox_48 rfl (lv_at hl 1 rfl) ?_
          refine iv_R_122 (As := [.int (nI k)]) (rest := []) cx (r_startN l G n0 e0 w_1 o A (upd S 0 0) L hc_16 Z hk_14 sz hsz k (by omega)) hc_16 ⟨(Nat.le_of_ble_eq_true rfl), (Nat.le_of_ble_eq_true rfl)⟩ ⟨(Nat.le_of_ble_eq_true rfl), (Nat.le_of_ble_eq_true rfl)⟩ rfl hl.1 rfl (Nat.le_of_ble_eq_true rfl) d_R_unbox_49 hZ hS (fun v w_53 H locs hp_54 hZ hS => ?_)
          obtain ⟨rfl, hq⟩ := hp_54
          subst w_53
          refine W.eq (g2 := F0 m 52 ls [.int (nI (stN sz k))]) rfl ?_
          refine lv_istore_n (lv' := [(2, .int (nI (stN sz k))), (0, .ref o), (1, .int (nI k))]) hx hb d_R_unbox_52 rfl hl (by decide) rfl (fun ls hl => ?_)
          refine lv_aload_n hx hb d_R_unbox_53 rfl (lv_at hl 1 rfl) ?_
          refine gf_R_45 cx hZ hc_16 rfl d_R_unbox_54 ?_
          refine lv_iload_n hx hb d_R_unbox_57 rfl (lv_at hl 2 rfl) ?_
          refine ld_i cx hZ hk_14 (vp_in_nI hk (by omega)) d_R_unbox_58 ?_
          rw [show (Z (nI k).toNatClampNeg : Int32) = Z k from by rw [nI_clamp (by first | omega | (unfold stN; omega))]]
          rw [show ((Z k) : Int32) = nI (sz k) from hsz k hk]
          refine lv_iconst (v := 1) hx hb d_R_unbox_59 (by decide) ?_
          refine lv_isub hx hb d_R_unbox_60 ?_
          rw [show (((nI (sz k)) - 1) : Int32) = nI (sz k - 1) from nI_subN (b := 1) (by omega)]
          refine lv_istore_n (lv' := [(3, .int (nI (sz k - 1))), (2, .int (nI (stN sz k))), (0, .ref o), (1, .int (nI k))]) hx hb d_R_unbox_61 rfl hl (by decide) rfl (fun ls hl => ?_)
          refine lv_iconst (v := 0) hx hb d_R_unbox_62 (by decide) ?_
          refine lv_istore (lv' := [(4, .int 0), (3, .int (nI (sz k - 1))), (2, .int (nI (stN sz k))), (0, .ref o), (1, .int (nI k))]) hx hb d_R_unbox_63 hl (by decide) rfl (fun ls hl => ?_)
          have loop_65 : ∀ (j i : Nat) (w2 : zw) (H : Heap) (locs : List Loc) (ls : Array Slot), i + j = (sz k - 1) → Zw G.1 vwC (zA n0) w2 H → va_S (zA n0) s.heap H locs → Fr [o, (A 0), (A 1), (A 2), (A 3), (A 4), (A 5), (A 6), (A 7), (A 8), (A 9), (A 10), (A 11), (A 12)] w w2 → RA G w2 o A (upd S 0 0) L (cpF F (stN sz k + 1) en i) (cpM M (stN sz k + 1) en i) B V Z T → lv_has ls 5 [(4, .int (nI i)), (3, .int (nI (sz k - 1))), (2, .int (nI (stN sz k))), (0, .ref o), (1, .int (nI k))] → W p l e ({ frames := 2, cells := 0, slots := 0, locals := 55 }) s m [.ref o, .int (nI k)].toArray below meth c H locs 0 0 (MQ below (zQ G.1 vwC n0 (fun v w1 => ∃ r, v = some (.int r) ∧ ((vt2 = vb ∧ r = 1 ∧ RA G w1 o A (upd (upd S 0 0) 2 (nI (en + (sz k - 1)))) L (emF (cpF F (stN sz k + 1) en (sz k - 1)) sz k) (emM (cpM M (stN sz k + 1) en (sz k - 1)) sz k) B V (upd Z k 0) T) ∨ (vt2 ≠ vb ∧ r = 0 ∧ RA G w1 o A (upd S 0 0) L F M B V Z T)) ∧ Fr (allR o A) w w1)) [.ref o, .int (nI k)].toArray s ({ frames := 2, cells := 0, slots := 0, locals := 55 } : Room).cells ({ frames := 2, cells := 0, slots := 0, locals := 55 } : Room).slots (zA n0)) (F0 m 65 ls []) := by
            intro j
            induction j with
            | zero =>
              intro i w2 H locs ls hik hZ hS hF hr2 hl
              have hin : i = sz k - 1 := by omega
              subst hin
              obtain ⟨ho_55, ⟨h0_55, h1_55, h2_55, h3_55, h4_55, h5_55, h6_55, h7_55, h8_55⟩, h9_55, h10_55, h11_55, h12_55⟩ := id hr2
              have ho_55 : w2 o = some (.inr (6, [.int 0, .ref (A 0), .ref (A 1), .ref (A 2), .ref (A 3), .ref (A 4), .ref (A 5), .ref (A 6), .ref (A 7), .ref (A 8), .int (S 1), .ref (A 9), .ref (A 10), .int (S 2), .ref (A 11), .long (L 0), .long (L 1), .long (L 2), .long (L 3), .ref (A 12), .long (L 4)])) := ho_55
              refine lv_iload hx hb d_R_unbox_65 (lv_at hl 0 rfl) ?_
              refine lv_iload_n hx hb d_R_unbox_67 rfl (lv_at hl 1 rfl) ?_
              refine lv_icmp_ge (tgt := 94) hx hb d_R_unbox_68 (by decide) (fun c68 => ?_) (fun c68 => ?_)
              · refine lv_aload_n hx hb d_R_unbox_94 rfl (lv_at hl 3 rfl) ?_
                refine lv_dup hx hb d_R_unbox_95 rfl ?_
                refine gf_R_61 cx hZ ho_55 rfl d_R_unbox_96 ?_
                refine lv_iload_n hx hb d_R_unbox_99 rfl (lv_at hl 1 rfl) ?_
                refine lv_iadd hx hb d_R_unbox_100 ?_
                rw [show (((S 2) + (nI (sz k - 1))) : Int32) = nI (en + (sz k - 1)) from by rw [hen, nI_add]]
                refine pf_R_61 cx hZ hS ho_55 (Nat.le_of_ble_eq_true rfl) d_R_unbox_101 (fun w_56 H locs hw_57 hZ hS => ?_)
                have hk_58 : w_56 (A 0) = some (.inl (G.2 0, 8200, .inl ((cpF F (stN sz k + 1) en (sz k - 1)) 0))) := up_ne hw_57 h0_55 (z_ne h0_55 ho_55 (by simp))
                have hk_59 : w_56 (A 1) = some (.inl (G.2 0, 8200, .inl ((cpF F (stN sz k + 1) en (sz k - 1)) 1))) := up_ne hw_57 h1_55 (z_ne h1_55 ho_55 (by simp))
                have hk_60 : w_56 (A 2) = some (.inl (G.2 0, 8200, .inl ((cpF F (stN sz k + 1) en (sz k - 1)) 2))) := up_ne hw_57 h2_55 (z_ne h2_55 ho_55 (by simp))
                have hk_61 : w_56 (A 3) = some (.inl (G.2 0, 8200, .inl ((cpF F (stN sz k + 1) en (sz k - 1)) 3))) := up_ne hw_57 h3_55 (z_ne h3_55 ho_55 (by simp))
                have hk_62 : w_56 (A 4) = some (.inl (G.2 0, 8200, .inl ((cpF F (stN sz k + 1) en (sz k - 1)) 4))) := up_ne hw_57 h4_55 (z_ne h4_55 ho_55 (by simp))
                have hk_63 : w_56 (A 5) = some (.inl (G.2 0, 8200, .inl ((cpF F (stN sz k + 1) en (sz k - 1)) 5))) := up_ne hw_57 h5_55 (z_ne h5_55 ho_55 (by simp))
                have hk_64 : w_56 (A 6) = some (.inl (G.2 0, 8200, .inl ((cpF F (stN sz k + 1) en (sz k - 1)) 6))) := up_ne hw_57 h6_55 (z_ne h6_55 ho_55 (by simp))
                have hk_65 : w_56 (A 7) = some (.inl (G.2 1, 8200, .inr (.inl (cpM M (stN sz k + 1) en (sz k - 1))))) := up_ne hw_57 h7_55 (z_ne h7_55 ho_55 (by simp))
                have hk_66 : w_56 (A 8) = some (.inl (G.2 0, 8200, .inl ((cpF F (stN sz k + 1) en (sz k - 1)) 8))) := up_ne hw_57 h8_55 (z_ne h8_55 ho_55 (by simp))
                have hk_67 : w_56 (A 9) = some (.inl (G.2 0, 101, .inl B)) := up_ne hw_57 h9_55 (z_ne h9_55 ho_55 (by simp))
                have hk_68 : w_56 (A 10) = some (.inl (G.2 2, 101, .inl V)) := up_ne hw_57 h10_55 (z_ne h10_55 ho_55 (by simp))
                have hk_69 : w_56 (A 11) = some (.inl (G.2 0, 16, .inl Z)) := up_ne hw_57 h11_55 (z_ne h11_55 ho_55 (by simp))
                have hk_70 : w_56 (A 12) = some (.inl (G.2 1, 4, .inr (.inl T))) := up_ne hw_57 h12_55 (z_ne h12_55 ho_55 (by simp))
                have hF := hF.put hw_57 (Or.inl (by simp))
                have hc_71 : w_56 o = some (.inr (6, [.int 0, .ref (A 0), .ref (A 1), .ref (A 2), .ref (A 3), .ref (A 4), .ref (A 5), .ref (A 6), .ref (A 7), .ref (A 8), .int (S 1), .ref (A 9), .ref (A 10), .int (nI (en + (sz k - 1))), .ref (A 11), .long (L 0), .long (L 1), .long (L 2), .long (L 3), .ref (A 12), .long (L 4)])) := up_self hw_57
                refine lv_aload_n hx hb d_R_unbox_104 rfl (lv_at hl 3 rfl) ?_
                refine lv_iload_n hx hb d_R_unbox_105 rfl (lv_at hl 4 rfl) ?_
                refine iv_R_151 (As := [.int (nI k)]) (rest := []) cx (r_empty l G n0 e0 w_56 o A (upd (upd S 0 0) 2 (nI (en + (sz k - 1)))) L (cpF F (stN sz k + 1) en (sz k - 1)) (cpM M (stN sz k + 1) en (sz k - 1)) B V Z T ⟨hc_71, ⟨hk_58, hk_59, hk_60, hk_61, hk_62, hk_63, hk_64, hk_65, hk_66⟩, hk_67, hk_68, hk_69, hk_70⟩ hA sz hsz hsum k hk) hc_71 ⟨(Nat.le_of_ble_eq_true rfl), (Nat.le_of_ble_eq_true rfl)⟩ ⟨(Nat.le_of_ble_eq_true rfl), (Nat.le_of_ble_eq_true rfl)⟩ rfl hl.1 rfl (Nat.le_of_ble_eq_true rfl) d_R_unbox_106 hZ hS (fun v w_72 H locs hp_73 hZ hS => ?_)
                obtain ⟨rfl, hr_74, hf_75⟩ := hp_73
                obtain ⟨ho_76, ⟨h0_76, h1_76, h2_76, h3_76, h4_76, h5_76, h6_76, h7_76, h8_76⟩, h9_76, h10_76, h11_76, h12_76⟩ := id hr_74
                have ho_76 : w_72 o = some (.inr (6, [.int 0, .ref (A 0), .ref (A 1), .ref (A 2), .ref (A 3), .ref (A 4), .ref (A 5), .ref (A 6), .ref (A 7), .ref (A 8), .int (S 1), .ref (A 9), .ref (A 10), .int (nI (en + (sz k - 1))), .ref (A 11), .long (L 0), .long (L 1), .long (L 2), .long (L 3), .ref (A 12), .long (L 4)])) := ho_76
                have hF := hF.call hf_75 (fun t ht => Or.inl ht)
                refine W.eq (g2 := F0 m 109 ls []) rfl ?_
                refine lv_iconst (v := 1) hx hb d_R_unbox_109 (by decide) ?_
                exact z_zret cx.1 cx.2.1 cx.rt cx.lk (by first | rfl | (simp [narrow]; done) | simp_all [narrow]) hS hZ ⟨(Nat.le_of_ble_eq_true rfl), (Nat.le_of_ble_eq_true rfl)⟩ d_R_unbox_110 (⟨1, rfl, Or.inl ⟨by have e34 := (zi_n0 _).mp c34; rw [hvt] at c42; rw [e34]; cases vt2 <;> simp at c42 ⊢, rfl, ⟨ho_76, ⟨h0_76, h1_76, h2_76, h3_76, h4_76, h5_76, h6_76, h7_76, h8_76⟩, h9_76, h10_76, h11_76, h12_76⟩⟩, hF⟩)
              · exact absurd (nI_le (by omega) (by omega)) c68
            | succ j ih =>
              intro i w2 H locs ls hik hZ hS hF hr2 hl
              obtain ⟨ho_77, ⟨h0_77, h1_77, h2_77, h3_77, h4_77, h5_77, h6_77, h7_77, h8_77⟩, h9_77, h10_77, h11_77, h12_77⟩ := id hr2
              have ho_77 : w2 o = some (.inr (6, [.int 0, .ref (A 0), .ref (A 1), .ref (A 2), .ref (A 3), .ref (A 4), .ref (A 5), .ref (A 6), .ref (A 7), .ref (A 8), .int (S 1), .ref (A 9), .ref (A 10), .int (S 2), .ref (A 11), .long (L 0), .long (L 1), .long (L 2), .long (L 3), .ref (A 12), .long (L 4)])) := ho_77
              refine lv_iload hx hb d_R_unbox_65 (lv_at hl 0 rfl) ?_
              refine lv_iload_n hx hb d_R_unbox_67 rfl (lv_at hl 1 rfl) ?_
              refine lv_icmp_ge (tgt := 94) hx hb d_R_unbox_68 (by decide) (fun c68 => ?_) (fun c68 => ?_)
              · exact absurd c68 (nI_ge (by omega) (by omega))
              · refine lv_aload_n hx hb d_R_unbox_71 rfl (lv_at hl 3 rfl) ?_
                refine lv_iload_n hx hb d_R_unbox_72 rfl (lv_at hl 2 rfl) ?_
                refine lv_iconst (v := 1) hx hb d_R_unbox_73 (by decide) ?_
                refine lv_iadd hx hb d_R_unbox_74 ?_
                rw [show (((nI (stN sz k)) + 1) : Int32) = nI (stN sz k + 1) from nI_1 _]
                refine lv_iload hx hb d_R_unbox_75 (lv_at hl 0 rfl) ?_
                refine lv_iadd hx hb d_R_unbox_77 ?_
                rw [show (((nI (stN sz k + 1)) + (nI i)) : Int32) = nI (stN sz k + 1 + i) from nI_add _ _]
                refine lv_aload_n hx hb d_R_unbox_78 rfl (lv_at hl 3 rfl) ?_
                refine gf_R_61 cx hZ ho_77 rfl d_R_unbox_79 ?_
                refine lv_iload hx hb d_R_unbox_82 (lv_at hl 0 rfl) ?_
                refine lv_iadd hx hb d_R_unbox_84 ?_
                rw [show (((S 2) + (nI i)) : Int32) = nI (en + i) from by rw [hen, nI_add]]
                refine iv_R_126 (As := [.int (nI (stN sz k + 1 + i)), .int (nI (en + i))]) (rest := []) cx (r_moveA l G n0 e0 w2 o A (upd S 0 0) L (cpF F (stN sz k + 1) en i) (cpM M (stN sz k + 1) en i) B V Z T ⟨ho_77, ⟨h0_77, h1_77, h2_77, h3_77, h4_77, h5_77, h6_77, h7_77, h8_77⟩, h9_77, h10_77, h11_77, h12_77⟩ hA (stN sz k + 1 + i) (en + i) (by first | omega | (unfold stN; omega)) (by first | omega | (unfold stN; omega))) ho_77 ⟨(Nat.le_of_ble_eq_true rfl), (Nat.le_of_ble_eq_true rfl)⟩ ⟨(Nat.le_of_ble_eq_true rfl), (Nat.le_of_ble_eq_true rfl)⟩ rfl hl.1 rfl (Nat.le_of_ble_eq_true rfl) d_R_unbox_85 hZ hS (fun v w_78 H locs hp_79 hZ hS => ?_)
                obtain ⟨rfl, hr_80, hf_81⟩ := hp_79
                obtain ⟨ho_82, ⟨h0_82, h1_82, h2_82, h3_82, h4_82, h5_82, h6_82, h7_82, h8_82⟩, h9_82, h10_82, h11_82, h12_82⟩ := id hr_80
                have ho_82 : w_78 o = some (.inr (6, [.int 0, .ref (A 0), .ref (A 1), .ref (A 2), .ref (A 3), .ref (A 4), .ref (A 5), .ref (A 6), .ref (A 7), .ref (A 8), .int (S 1), .ref (A 9), .ref (A 10), .int (S 2), .ref (A 11), .long (L 0), .long (L 1), .long (L 2), .long (L 3), .ref (A 12), .long (L 4)])) := ho_82
                have hF := hF.call hf_81 (fun t ht => Or.inl ht)
                refine W.eq (g2 := F0 m 88 ls []) rfl ?_
                refine lv_iinc (v := ((nI i) + 1)) (lv' := [(4, .int ((nI i) + 1)), (3, .int (nI (sz k - 1))), (2, .int (nI (stN sz k))), (0, .ref o), (1, .int (nI k))]) hx hb d_R_unbox_88 hl (k := 0) rfl rfl (by decide) rfl (fun ls hl => ?_)
                refine lv_goto (tgt := 65) hx hb d_R_unbox_91 (by decide) ?_
                exact ih (i + 1) _ _ _ _ (by omega) hZ hS hF (by rw [← cpF_s (Or.inl (by first | omega | (unfold stN; omega))), ← cpM_s (Or.inl (by first | omega | (unfold stN; omega)))]; exact ⟨ho_82, ⟨h0_82, h1_82, h2_82, h3_82, h4_82, h5_82, h6_82, h7_82, h8_82⟩, h9_82, h10_82, h11_82, h12_82⟩) (lv_sub hl [0, 1, 2, 3, 4] (by rw [← nI_1 i]; rfl))
          exact loop_65 ((sz k - 1)) 0 _ _ _ _ (by omega) hZ hS hF (by rw [cpF_0, cpM_0]; exact ⟨hc_16, ⟨hk_3, hk_4, hk_5, hk_6, hk_7, hk_8, hk_9, hk_10, hk_11⟩, hk_12, hk_13, hk_14, hk_15⟩) (lv_sub hl [0, 1, 2, 3, 4] rfl)
        · refine lv_iconst (v := 0) hx hb d_R_unbox_45 (by decide) ?_
          exact z_zret cx.1 cx.2.1 cx.rt cx.lk (by first | rfl | (simp [narrow]; done) | simp_all [narrow]) hS hZ ⟨(Nat.le_of_ble_eq_true rfl), (Nat.le_of_ble_eq_true rfl)⟩ d_R_unbox_46 (⟨0, rfl, Or.inr ⟨by have e34 := (zi_n0 _).mp c34; rw [hvt] at c42; rw [e34]; intro q; subst q; simp at c42, rfl, ⟨hc_16, ⟨hk_3, hk_4, hk_5, hk_6, hk_7, hk_8, hk_9, hk_10, hk_11⟩, hk_12, hk_13, hk_14, hk_15⟩⟩, hF⟩)
