theorem r_startN (l : Launch) (G : zG) (n0 e0 : Nat) (w : zw) (o : Nat) (A : Nat → Nat) (S : Nat → Int32) (L : Nat → Int64) (ho : w o = some (.inr (6, fR A S L))) (Z : Nat → Int32) (h11 : w (A 11) = some (.inl (G.2 0, 16, .inl Z))) (sz : Nat → Nat) (hsz : ∀ k, k < 16 → Z k = nI (sz k)) (k : Nat) (hk : k ≤ 16) : Ct l G n0 e0 y_R_start b_R_start 4 (Option.some FieldType.int) ({ frames := 0, cells := 0, slots := 0, locals := 0 }) [.ref o, .int (nI k)] w (fun v w1 => v = some (.int (nI (4100 + sumN sz k))) ∧ w1 = w) := by
  have h := r_start l G n0 e0 w o A S L ho (fun _ => Z) h11 k hk
  rw [sumI_nI (fun j hj => hsz j (by omega)), show (4100 : Int32) = nI 4100 from by decide, nI_add] at h
  exact h
theorem r_shelvedN (l : Launch) (G : zG) (n0 e0 : Nat) (w : zw) (o : Nat) (A : Nat → Nat) (S : Nat → Int32) (L : Nat → Int64) (ho : w o = some (.inr (6, fR A S L))) (Z : Nat → Int32) (h11 : w (A 11) = some (.inl (G.2 0, 16, .inl Z))) (sz : Nat → Nat) (hsz : ∀ k, k < 16 → Z k = nI (sz k)) : Ct l G n0 e0 y_R_shelved b_R_shelved 3 (Option.some FieldType.int) ({ frames := 0, cells := 0, slots := 0, locals := 0 }) [.ref o] w (fun v w1 => v = some (.int (nI (sumN sz 16))) ∧ w1 = w) := by
  have h := r_shelved l G n0 e0 w o A S L ho (fun _ => Z) h11
  rw [sumI_nI (fun j hj => hsz j (by omega))] at h
  exact h
theorem sumN_le {f : Nat → Nat} {j k : Nat} (h : j ≤ k) : sumN f j ≤ sumN f k := by
  induction k with
  | zero => rw [show j = 0 by omega]; exact Nat.le_refl _
  | succ k ih =>
    by_cases hj : j = k + 1
    · rw [hj]; exact Nat.le_refl _
    · rw [sumN]; have := ih (by omega); omega
theorem sumN_lt {f : Nat → Nat} {k n : Nat} (h : k < n) : sumN f k + f k ≤ sumN f n := by
  have := sumN_le (f := f) (show k + 1 ≤ n from h)
  rw [sumN] at this; exact this
def stN (sz : Nat → Nat) (k : Nat) : Nat := 4100 + sumN sz k
theorem full_nI {Z : Nat → Int32} {sz : Nat → Nat} {k : Nat} (h : Z k = nI (sz k)) (h2 : sz k ≤ 4000) : decide (Z k ≤ 0) = decide (sz k = 0) := by
  rw [h]
  by_cases h0 : sz k = 0
  · rw [h0]; decide
  · rw [decide_eq_false h0, decide_eq_false (nI_nle (by omega) (by omega))]
def colF (F : Nat → Nat → Int32) (c t : Nat) (x : Int32) : Nat → Nat → Int32 := fun i => if i = c then upd (F i) t x else F i
def whN (which : Int32) : Nat := if which = 0 then 1 else if which = 1 then 2 else 3
def SizeR (G : zG) (o : Nat) (A : Nat → Nat) (S : Nat → Int32) (L : Nat → Int64) (F : Nat → Nat → Int32) (M : Nat → Int64) (at1 : Nat) (which x : Int32) (v : Option Value) (w w1 : zw) : Prop := v = some (.int (zi (sizeB which x))) ∧ RW G w1 A (if sizeB which x = true then colF F (whN which) at1 x else F) M ∧ w1 o = some (.inr (6, fR A (upd S 0 0) L)) ∧ Fr (o :: rowsA A) w w1
theorem SizeR.yes {G : zG} {o : Nat} {A : Nat → Nat} {S : Nat → Int32} {L : Nat → Int64} {F : Nat → Nat → Int32} {M : Nat → Int64} {at1 : Nat} {which x : Int32} {w w1 : zw} (h : sizeB which x = true) (hR : RW G w1 A (colF F (whN which) at1 x) M) (ho : w1 o = some (.inr (6, fR A (upd S 0 0) L))) (hF : Fr (o :: rowsA A) w w1) : SizeR G o A S L F M at1 which x (some (.int 1)) w w1 := ⟨by rw [h]; rfl, by rw [if_pos h]; exact hR, ho, hF⟩
theorem SizeR.no {G : zG} {o : Nat} {A : Nat → Nat} {S : Nat → Int32} {L : Nat → Int64} {F : Nat → Nat → Int32} {M : Nat → Int64} {at1 : Nat} {which x : Int32} {w w1 : zw} (h : sizeB which x = false) (hR : RW G w1 A F M) (ho : w1 o = some (.inr (6, fR A (upd S 0 0) L))) (hF : Fr (o :: rowsA A) w w1) : SizeR G o A S L F M at1 which x (some (.int 0)) w w1 := ⟨by rw [h]; rfl, by rw [if_neg (by rw [h]; decide)]; exact hR, ho, hF⟩
theorem wh_lt {x : Int32} (h : x < 0) : ¬ x = 0 ∧ ¬ x = 1 ∧ ¬ x = 2 := by
  refine ⟨fun q => ?_, fun q => ?_, fun q => ?_⟩ <;> subst q <;> exact absurd h (by decide)
theorem wh_gt {x : Int32} (h : 2 < x) : ¬ x = 0 ∧ ¬ x = 1 ∧ ¬ x = 2 := by
  refine ⟨fun q => ?_, fun q => ?_, fun q => ?_⟩ <;> subst q <;> exact absurd h (by decide)
theorem wh_2 {x : Int32} (h : ¬ x < 0) (h2 : ¬ 2 < x) (h3 : ¬ x = 0) (h4 : ¬ x = 1) : x = 2 := by
  rw [Int32.lt_iff_toInt_lt, show (0 : Int32).toInt = 0 from by decide] at h
  rw [Int32.lt_iff_toInt_lt, show (2 : Int32).toInt = 2 from by decide] at h2
  rw [← Int32.toInt_inj, show (0 : Int32).toInt = 0 from by decide] at h3
  rw [← Int32.toInt_inj, show (1 : Int32).toInt = 1 from by decide] at h4
  rw [← Int32.toInt_inj, show (2 : Int32).toInt = 2 from by decide]
  omega
set_option maxHeartbeats 4000000 in
set_option maxRecDepth 100000 in
theorem r_size_out (l : Launch) (G : zG) (n0 e0 : Nat) (w : zw) (o : Nat) (A : Nat → Nat) (S : Nat → Int32) (L : Nat → Int64) (ho : w o = some (.inr (6, fR A S L))) (kk : Int32) (hkk : regB kk = false) (which x : Int32)  : Ct l G n0 e0 y_R_size b_R_size 5 (Option.some FieldType.boolean) ({ frames := 1, cells := 0, slots := 0, locals := 25 }) [.ref o, .int kk, .int which, .int x] w (fun v w1 => v = some (.int 0) ∧ w1 o = some (.inr (6, fR A (upd S 0 0) L)) ∧ Fr [o] w w1) := by
  refine z_ct (by decide) (Nat.le_of_ble_eq_true rfl) ?_
  intro p e s m below meth c ls cx hnm hZ hS hl
  have hx := cx.1
  have hb := cx.2.1
  have hl : lv_has ls 5 [(0, .ref o), (1, .int kk), (2, .int which), (3, .int x)] := hl
  have hF : Fr [o] w w := Fr.rf
  refine lv_aload_n hx hb d_R_size_0 rfl (lv_at hl 0 rfl) ?_
  refine lv_iconst (v := 0) hx hb d_R_size_1 (by decide) ?_
  refine pf_R_51 cx hZ hS ho (Nat.le_of_ble_eq_true rfl) d_R_size_2 (fun w_1 H locs hw_2 hZ hS => ?_)
  have hF := hF.put hw_2 (Or.inl (by simp))
  have hc_3 : w_1 o = some (.inr (6, [.int 0, .ref (A 0), .ref (A 1), .ref (A 2), .ref (A 3), .ref (A 4), .ref (A 5), .ref (A 6), .ref (A 7), .ref (A 8), .int (S 1), .ref (A 9), .ref (A 10), .int (S 2), .ref (A 11), .long (L 0), .long (L 1), .long (L 2), .long (L 3), .ref (A 12), .long (L 4)])) := up_self hw_2
  refine lv_aload_n hx hb d_R_size_5 rfl (lv_at hl 0 rfl) ?_
  refine lv_iload_n hx hb d_R_size_6 rfl (lv_at hl 1 rfl) ?_
  refine iv_R_157 (As := [.int kk]) (rest := []) cx (r_isFull_out l G n0 e0 w_1 o A (upd S 0 0) L hc_3 kk hkk) hc_3 ⟨(Nat.le_of_ble_eq_true rfl), (Nat.le_of_ble_eq_true rfl)⟩ ⟨(Nat.le_of_ble_eq_true rfl), (Nat.le_of_ble_eq_true rfl)⟩ rfl hl.1 rfl (Nat.le_of_ble_eq_true rfl) d_R_size_7 hZ hS (fun v w_4 H locs hp_5 hZ hS => ?_)
  obtain ⟨rfl, hq⟩ := hp_5
  subst w_4
  refine W.eq (g2 := F0 m 10 ls [.int 0]) rfl ?_
  refine lv_if_eq (tgt := 29) hx hb d_R_size_10 (by decide) (fun c10 => ?_) (fun c10 => ?_)
  · refine lv_iconst (v := 0) hx hb d_R_size_29 (by decide) ?_
    exact z_zret cx.1 cx.2.1 cx.rt cx.lk (by first | rfl | (simp [narrow]; done) | simp_all [narrow]) hS hZ ⟨(Nat.le_of_ble_eq_true rfl), (Nat.le_of_ble_eq_true rfl)⟩ d_R_size_30 (⟨rfl, hc_3, hF⟩)
  · exact absurd c10 (by decide)
set_option maxHeartbeats 4000000 in
set_option maxRecDepth 100000 in
theorem r_size_void (l : Launch) (G : zG) (n0 e0 : Nat) (w : zw) (o : Nat) (A : Nat → Nat) (S : Nat → Int32) (L : Nat → Int64) (ho : w o = some (.inr (6, fR A S L))) (Z : Nat → Int32) (h11 : w (A 11) = some (.inl (G.2 0, 16, .inl Z))) (sz : Nat → Nat) (hsz : ∀ k, k < 16 → Z k = nI (sz k)) (hsum : sumN sz 16 ≤ 4000) (k : Nat) (hk : k < 16) (hz0 : sz k = 0) (which x : Int32)  : Ct l G n0 e0 y_R_size b_R_size 5 (Option.some FieldType.boolean) ({ frames := 1, cells := 0, slots := 0, locals := 25 }) [.ref o, .int (nI k), .int which, .int x] w (fun v w1 => v = some (.int 0) ∧ w1 o = some (.inr (6, fR A (upd S 0 0) L)) ∧ Fr [o] w w1) := by
  refine z_ct (by decide) (Nat.le_of_ble_eq_true rfl) ?_
  intro p e s m below meth c ls cx hnm hZ hS hl
  have hx := cx.1
  have hb := cx.2.1
  have hl : lv_has ls 5 [(0, .ref o), (1, .int (nI k)), (2, .int which), (3, .int x)] := hl
  have hF : Fr [o] w w := Fr.rf
  refine lv_aload_n hx hb d_R_size_0 rfl (lv_at hl 0 rfl) ?_
  refine lv_iconst (v := 0) hx hb d_R_size_1 (by decide) ?_
  refine pf_R_51 cx hZ hS ho (Nat.le_of_ble_eq_true rfl) d_R_size_2 (fun w_1 H locs hw_2 hZ hS => ?_)
  have hk_3 : w_1 (A 11) = some (.inl (G.2 0, 16, .inl Z)) := up_ne hw_2 h11 (z_ne h11 ho (by simp))
  have hF := hF.put hw_2 (Or.inl (by simp))
  have hc_4 : w_1 o = some (.inr (6, [.int 0, .ref (A 0), .ref (A 1), .ref (A 2), .ref (A 3), .ref (A 4), .ref (A 5), .ref (A 6), .ref (A 7), .ref (A 8), .int (S 1), .ref (A 9), .ref (A 10), .int (S 2), .ref (A 11), .long (L 0), .long (L 1), .long (L 2), .long (L 3), .ref (A 12), .long (L 4)])) := up_self hw_2
  refine lv_aload_n hx hb d_R_size_5 rfl (lv_at hl 0 rfl) ?_
  refine lv_iload_n hx hb d_R_size_6 rfl (lv_at hl 1 rfl) ?_
  refine iv_R_157 (As := [.int (nI k)]) (rest := []) cx (r_isFull_in l G n0 e0 w_1 o A (upd S 0 0) L hc_4 (fun _ => Z) hk_3 k hk) hc_4 ⟨(Nat.le_of_ble_eq_true rfl), (Nat.le_of_ble_eq_true rfl)⟩ ⟨(Nat.le_of_ble_eq_true rfl), (Nat.le_of_ble_eq_true rfl)⟩ rfl hl.1 rfl (Nat.le_of_ble_eq_true rfl) d_R_size_7 hZ hS (fun v w_5 H locs hp_6 hZ hS => ?_)
  obtain ⟨rfl, hq⟩ := hp_6
  subst w_5
  refine W.eq (g2 := F0 m 10 ls [.int (zi (!decide (Z k ≤ 0)))]) rfl ?_
  refine lv_if_eq (tgt := 29) hx hb d_R_size_10 (by decide) (fun c10 => ?_) (fun c10 => ?_)
  · refine lv_iconst (v := 0) hx hb d_R_size_29 (by decide) ?_
    exact z_zret cx.1 cx.2.1 cx.rt cx.lk (by first | rfl | (simp [narrow]; done) | simp_all [narrow]) hS hZ ⟨(Nat.le_of_ble_eq_true rfl), (Nat.le_of_ble_eq_true rfl)⟩ d_R_size_30 (⟨rfl, hc_4, hF⟩)
  · exact absurd ((zi_n0 _).mp c10) (by rw [full_nI (hsz k hk) (by omega)]; simp [hz0])
set_option maxHeartbeats 4000000 in
set_option maxRecDepth 100000 in
theorem r_size (l : Launch) (G : zG) (n0 e0 : Nat) (w : zw) (o : Nat) (A : Nat → Nat) (S : Nat → Int32) (L : Nat → Int64) (ho : w o = some (.inr (6, fR A S L))) (F : Nat → Nat → Int32) (M : Nat → Int64) (hR : RW G w A F M) (hA : ∀ i j, i < 13 → j < 13 → i ≠ j → A i ≠ A j) (Z : Nat → Int32) (h11 : w (A 11) = some (.inl (G.2 0, 16, .inl Z))) (sz : Nat → Nat) (hsz : ∀ k, k < 16 → Z k = nI (sz k)) (hsum : sumN sz 16 ≤ 4000) (k : Nat) (hk : k < 16) (hz0 : ¬ sz k = 0) (which x : Int32)  : Ct l G n0 e0 y_R_size b_R_size 5 (Option.some FieldType.boolean) ({ frames := 1, cells := 0, slots := 0, locals := 25 }) [.ref o, .int (nI k), .int which, .int x] w (fun v w1 => SizeR G o A S L F M (stN sz k) which x v w w1) := by
  refine z_ct (by decide) (Nat.le_of_ble_eq_true rfl) ?_
  intro p e s m below meth c ls cx hnm hZ hS hl
  have hx := cx.1
  have hb := cx.2.1
  have hl : lv_has ls 5 [(0, .ref o), (1, .int (nI k)), (2, .int which), (3, .int x)] := hl
  obtain ⟨h0, h1, h2, h3, h4, h5, h6, h7, h8⟩ := id hR
  have hlt := sumN_lt (f := sz) hk
  have hsN : stN sz k < 8200 := by unfold stN; omega
  have hF : Fr [o, (A 0), (A 1), (A 2), (A 3), (A 4), (A 5), (A 6), (A 7), (A 8)] w w := Fr.rf
  refine lv_aload_n hx hb d_R_size_0 rfl (lv_at hl 0 rfl) ?_
  refine lv_iconst (v := 0) hx hb d_R_size_1 (by decide) ?_
  refine pf_R_51 cx hZ hS ho (Nat.le_of_ble_eq_true rfl) d_R_size_2 (fun w_1 H locs hw_2 hZ hS => ?_)
  have hk_3 : w_1 (A 0) = some (.inl (G.2 0, 8200, .inl (F 0))) := up_ne hw_2 h0 (z_ne h0 ho (by simp))
  have hk_4 : w_1 (A 1) = some (.inl (G.2 0, 8200, .inl (F 1))) := up_ne hw_2 h1 (z_ne h1 ho (by simp))
  have hk_5 : w_1 (A 2) = some (.inl (G.2 0, 8200, .inl (F 2))) := up_ne hw_2 h2 (z_ne h2 ho (by simp))
  have hk_6 : w_1 (A 3) = some (.inl (G.2 0, 8200, .inl (F 3))) := up_ne hw_2 h3 (z_ne h3 ho (by simp))
  have hk_7 : w_1 (A 4) = some (.inl (G.2 0, 8200, .inl (F 4))) := up_ne hw_2 h4 (z_ne h4 ho (by simp))
  have hk_8 : w_1 (A 5) = some (.inl (G.2 0, 8200, .inl (F 5))) := up_ne hw_2 h5 (z_ne h5 ho (by simp))
  have hk_9 : w_1 (A 6) = some (.inl (G.2 0, 8200, .inl (F 6))) := up_ne hw_2 h6 (z_ne h6 ho (by simp))
  have hk_10 : w_1 (A 7) = some (.inl (G.2 1, 8200, .inr (.inl M))) := up_ne hw_2 h7 (z_ne h7 ho (by simp))
  have hk_11 : w_1 (A 8) = some (.inl (G.2 0, 8200, .inl (F 8))) := up_ne hw_2 h8 (z_ne h8 ho (by simp))
  have hk_12 : w_1 (A 11) = some (.inl (G.2 0, 16, .inl Z)) := up_ne hw_2 h11 (z_ne h11 ho (by simp))
  have hF := hF.put hw_2 (Or.inl (by simp))
  have hc_13 : w_1 o = some (.inr (6, [.int 0, .ref (A 0), .ref (A 1), .ref (A 2), .ref (A 3), .ref (A 4), .ref (A 5), .ref (A 6), .ref (A 7), .ref (A 8), .int (S 1), .ref (A 9), .ref (A 10), .int (S 2), .ref (A 11), .long (L 0), .long (L 1), .long (L 2), .long (L 3), .ref (A 12), .long (L 4)])) := up_self hw_2
  refine lv_aload_n hx hb d_R_size_5 rfl (lv_at hl 0 rfl) ?_
  refine lv_iload_n hx hb d_R_size_6 rfl (lv_at hl 1 rfl) ?_
  refine iv_R_157 (As := [.int (nI k)]) (rest := []) cx (r_isFull_in l G n0 e0 w_1 o A (upd S 0 0) L hc_13 (fun _ => Z) hk_12 k hk) hc_13 ⟨(Nat.le_of_ble_eq_true rfl), (Nat.le_of_ble_eq_true rfl)⟩ ⟨(Nat.le_of_ble_eq_true rfl), (Nat.le_of_ble_eq_true rfl)⟩ rfl hl.1 rfl (Nat.le_of_ble_eq_true rfl) d_R_size_7 hZ hS (fun v w_14 H locs hp_15 hZ hS => ?_)
  obtain ⟨rfl, hq⟩ := hp_15
  subst w_14
  refine W.eq (g2 := F0 m 10 ls [.int (zi (!decide (Z k ≤ 0)))]) rfl ?_
  refine lv_if_eq (tgt := 29) hx hb d_R_size_10 (by decide) (fun c10 => ?_) (fun c10 => ?_)
  · exact absurd ((zi_0 _).mp c10) (by rw [full_nI (hsz k hk) (by omega)]; simp [hz0])
  · refine lv_iload_n hx hb d_R_size_13 rfl (lv_at hl 2 rfl) ?_
    refine lv_if_lt (tgt := 29) hx hb d_R_size_14 (by decide) (fun c14 => ?_) (fun c14 => ?_)
    · refine lv_iconst (v := 0) hx hb d_R_size_29 (by decide) ?_
      exact z_zret cx.1 cx.2.1 cx.rt cx.lk (by first | rfl | (simp [narrow]; done) | simp_all [narrow]) hS hZ ⟨(Nat.le_of_ble_eq_true rfl), (Nat.le_of_ble_eq_true rfl)⟩ d_R_size_30 (SizeR.no (by obtain ⟨q1, q2, q3⟩ := wh_lt c14; simp [sizeB, q1, q2, q3]) ⟨hk_3, hk_4, hk_5, hk_6, hk_7, hk_8, hk_9, hk_10, hk_11⟩ hc_13 hF)
    · refine lv_iload_n hx hb d_R_size_17 rfl (lv_at hl 2 rfl) ?_
      refine lv_iconst (v := 2) hx hb d_R_size_18 (by decide) ?_
      refine lv_icmp_gt (tgt := 29) hx hb d_R_size_19 (by decide) (fun c19 => ?_) (fun c19 => ?_)
      · refine lv_iconst (v := 0) hx hb d_R_size_29 (by decide) ?_
        exact z_zret cx.1 cx.2.1 cx.rt cx.lk (by first | rfl | (simp [narrow]; done) | simp_all [narrow]) hS hZ ⟨(Nat.le_of_ble_eq_true rfl), (Nat.le_of_ble_eq_true rfl)⟩ d_R_size_30 (SizeR.no (by obtain ⟨q1, q2, q3⟩ := wh_gt c19; simp [sizeB, q1, q2, q3]) ⟨hk_3, hk_4, hk_5, hk_6, hk_7, hk_8, hk_9, hk_10, hk_11⟩ hc_13 hF)
      · refine lv_iload_n hx hb d_R_size_22 rfl (lv_at hl 3 rfl) ?_
        refine is_R_79 (As := [.int x]) (rest := []) cx (r_isSize l G n0 e0 x w_1) ⟨(Nat.le_of_ble_eq_true rfl), (Nat.le_of_ble_eq_true rfl)⟩ ⟨(Nat.le_of_ble_eq_true rfl), (Nat.le_of_ble_eq_true rfl)⟩ rfl hl.1 rfl (Nat.le_of_ble_eq_true rfl) d_R_size_23 hZ hS (fun v w_16 H locs hp_17 hZ hS => ?_)
        obtain ⟨rfl, hq⟩ := hp_17
        subst w_16
        refine W.eq (g2 := F0 m 26 ls [.int (zi (szI x))]) rfl ?_
        refine lv_if_ne (tgt := 31) hx hb d_R_size_26 (by decide) (fun c26 => ?_) (fun c26 => ?_)
        · refine lv_aload_n hx hb d_R_size_31 rfl (lv_at hl 0 rfl) ?_
          refine lv_iload_n hx hb d_R_size_32 rfl (lv_at hl 1 rfl) ?_
          refine iv_R_122 (As := [.int (nI k)]) (rest := []) cx (r_startN l G n0 e0 w_1 o A (upd S 0 0) L hc_13 Z hk_12 sz hsz k (by omega)) hc_13 ⟨(Nat.le_of_ble_eq_true rfl), (Nat.le_of_ble_eq_true rfl)⟩ ⟨(Nat.le_of_ble_eq_true rfl), (Nat.le_of_ble_eq_true rfl)⟩ rfl hl.1 rfl (Nat.le_of_ble_eq_true rfl) d_R_size_33 hZ hS (fun v w_18 H locs hp_19 hZ hS => ?_)
          obtain ⟨rfl, hq⟩ := hp_19
          subst w_18
          refine W.eq (g2 := F0 m 36 ls [.int (nI (stN sz k))]) rfl ?_
          refine lv_istore (lv' := [(4, .int (nI (stN sz k))), (0, .ref o), (1, .int (nI k)), (2, .int which), (3, .int x)]) hx hb d_R_size_36 hl (by decide) rfl (fun ls hl => ?_)
          refine lv_iload_n hx hb d_R_size_38 rfl (lv_at hl 3 rfl) ?_
          refine lv_if_ne (tgt := 53) hx hb d_R_size_39 (by decide) (fun c39 => ?_) (fun c39 => ?_)
          · refine lv_iload_n hx hb d_R_size_53 rfl (lv_at hl 3 rfl) ?_
            refine lv_iconst (v := 1) hx hb d_R_size_54 (by decide) ?_
            refine lv_icmp_ne (tgt := 69) hx hb d_R_size_55 (by decide) (fun c55 => ?_) (fun c55 => ?_)
            · refine lv_aload_n hx hb d_R_size_69 rfl (lv_at hl 1 rfl) ?_
              refine gf_R_19 cx hZ hc_13 rfl d_R_size_70 ?_
              refine lv_iload hx hb d_R_size_73 (lv_at hl 0 rfl) ?_
              refine lv_iload_n hx hb d_R_size_75 rfl (lv_at hl 4 rfl) ?_
              refine st_i cx hZ hS hk_6 (vp_in_nI hsN (by omega)) d_R_size_76 (fun w_20 H locs hw_21 hZ hS => ?_)
              have hk_22 : w_20 o = some (.inr (6, [.int 0, .ref (A 0), .ref (A 1), .ref (A 2), .ref (A 3), .ref (A 4), .ref (A 5), .ref (A 6), .ref (A 7), .ref (A 8), .int (S 1), .ref (A 9), .ref (A 10), .int (S 2), .ref (A 11), .long (L 0), .long (L 1), .long (L 2), .long (L 3), .ref (A 12), .long (L 4)])) := up_ne hw_21 hc_13 (z_ne hc_13 hk_6 (by simp))
              have hk_23 : w_20 (A 0) = some (.inl (G.2 0, 8200, .inl (F 0))) := up_ne hw_21 hk_3 ((hA 0 3 (by decide) (by decide) (by decide)))
              have hk_24 : w_20 (A 1) = some (.inl (G.2 0, 8200, .inl (F 1))) := up_ne hw_21 hk_4 ((hA 1 3 (by decide) (by decide) (by decide)))
              have hk_25 : w_20 (A 2) = some (.inl (G.2 0, 8200, .inl (F 2))) := up_ne hw_21 hk_5 ((hA 2 3 (by decide) (by decide) (by decide)))
              have hk_26 : w_20 (A 4) = some (.inl (G.2 0, 8200, .inl (F 4))) := up_ne hw_21 hk_7 ((hA 4 3 (by decide) (by decide) (by decide)))
              have hk_27 : w_20 (A 5) = some (.inl (G.2 0, 8200, .inl (F 5))) := up_ne hw_21 hk_8 ((hA 5 3 (by decide) (by decide) (by decide)))
              have hk_28 : w_20 (A 6) = some (.inl (G.2 0, 8200, .inl (F 6))) := up_ne hw_21 hk_9 ((hA 6 3 (by decide) (by decide) (by decide)))
              have hk_29 : w_20 (A 7) = some (.inl (G.2 1, 8200, .inr (.inl M))) := up_ne hw_21 hk_10 ((hA 7 3 (by decide) (by decide) (by decide)))
              have hk_30 : w_20 (A 8) = some (.inl (G.2 0, 8200, .inl (F 8))) := up_ne hw_21 hk_11 ((hA 8 3 (by decide) (by decide) (by decide)))
              have hk_31 : w_20 (A 11) = some (.inl (G.2 0, 16, .inl Z)) := up_ne hw_21 hk_12 ((hA 11 3 (by decide) (by decide) (by decide)))
              have hF := hF.put hw_21 (Or.inl (by simp))
              have hc_32 : w_20 (A 3) = some (.inl (G.2 0, 8200, .inl (upd (F 3) (nI (stN sz k)).toNatClampNeg x))) := up_self hw_21
              refine lv_iconst (v := 1) hx hb d_R_size_77 (by decide) ?_
              exact z_zret cx.1 cx.2.1 cx.rt cx.lk (by first | rfl | (simp [narrow]; done) | simp_all [narrow]) hS hZ ⟨(Nat.le_of_ble_eq_true rfl), (Nat.le_of_ble_eq_true rfl)⟩ d_R_size_78 (SizeR.yes (by have h := (zi_n0 _).mp c26; simp [sizeB, h, (wh_2 c14 c19 c39 c55)]) (by rw [show whN which = 3 by simp [whN, (wh_2 c14 c19 c39 c55)]]; exact ⟨hk_23, hk_24, hk_25, (by have := hc_32; rw [nI_clamp (by omega)] at this; exact this), hk_26, hk_27, hk_28, hk_29, hk_30⟩) hk_22 hF)
            · refine lv_aload_n hx hb d_R_size_58 rfl (lv_at hl 1 rfl) ?_
              refine gf_R_16 cx hZ hc_13 rfl d_R_size_59 ?_
              refine lv_iload hx hb d_R_size_62 (lv_at hl 0 rfl) ?_
              refine lv_iload_n hx hb d_R_size_64 rfl (lv_at hl 4 rfl) ?_
              refine st_i cx hZ hS hk_5 (vp_in_nI hsN (by omega)) d_R_size_65 (fun w_33 H locs hw_34 hZ hS => ?_)
              have hk_35 : w_33 o = some (.inr (6, [.int 0, .ref (A 0), .ref (A 1), .ref (A 2), .ref (A 3), .ref (A 4), .ref (A 5), .ref (A 6), .ref (A 7), .ref (A 8), .int (S 1), .ref (A 9), .ref (A 10), .int (S 2), .ref (A 11), .long (L 0), .long (L 1), .long (L 2), .long (L 3), .ref (A 12), .long (L 4)])) := up_ne hw_34 hc_13 (z_ne hc_13 hk_5 (by simp))
              have hk_36 : w_33 (A 0) = some (.inl (G.2 0, 8200, .inl (F 0))) := up_ne hw_34 hk_3 ((hA 0 2 (by decide) (by decide) (by decide)))
              have hk_37 : w_33 (A 1) = some (.inl (G.2 0, 8200, .inl (F 1))) := up_ne hw_34 hk_4 ((hA 1 2 (by decide) (by decide) (by decide)))
              have hk_38 : w_33 (A 3) = some (.inl (G.2 0, 8200, .inl (F 3))) := up_ne hw_34 hk_6 ((hA 3 2 (by decide) (by decide) (by decide)))
              have hk_39 : w_33 (A 4) = some (.inl (G.2 0, 8200, .inl (F 4))) := up_ne hw_34 hk_7 ((hA 4 2 (by decide) (by decide) (by decide)))
              have hk_40 : w_33 (A 5) = some (.inl (G.2 0, 8200, .inl (F 5))) := up_ne hw_34 hk_8 ((hA 5 2 (by decide) (by decide) (by decide)))
              have hk_41 : w_33 (A 6) = some (.inl (G.2 0, 8200, .inl (F 6))) := up_ne hw_34 hk_9 ((hA 6 2 (by decide) (by decide) (by decide)))
              have hk_42 : w_33 (A 7) = some (.inl (G.2 1, 8200, .inr (.inl M))) := up_ne hw_34 hk_10 ((hA 7 2 (by decide) (by decide) (by decide)))
              have hk_43 : w_33 (A 8) = some (.inl (G.2 0, 8200, .inl (F 8))) := up_ne hw_34 hk_11 ((hA 8 2 (by decide) (by decide) (by decide)))
              have hk_44 : w_33 (A 11) = some (.inl (G.2 0, 16, .inl Z)) := up_ne hw_34 hk_12 ((hA 11 2 (by decide) (by decide) (by decide)))
              have hF := hF.put hw_34 (Or.inl (by simp))
              have hc_45 : w_33 (A 2) = some (.inl (G.2 0, 8200, .inl (upd (F 2) (nI (stN sz k)).toNatClampNeg x))) := up_self hw_34
              refine lv_goto (tgt := 77) hx hb d_R_size_66 (by decide) ?_
              refine lv_iconst (v := 1) hx hb d_R_size_77 (by decide) ?_
              exact z_zret cx.1 cx.2.1 cx.rt cx.lk (by first | rfl | (simp [narrow]; done) | simp_all [narrow]) hS hZ ⟨(Nat.le_of_ble_eq_true rfl), (Nat.le_of_ble_eq_true rfl)⟩ d_R_size_78 (SizeR.yes (by have h := (zi_n0 _).mp c26; simp [sizeB, h, c55]) (by rw [show whN which = 2 by simp [whN, c55]]; exact ⟨hk_36, hk_37, (by have := hc_45; rw [nI_clamp (by omega)] at this; exact this), hk_38, hk_39, hk_40, hk_41, hk_42, hk_43⟩) hk_35 hF)
          · refine lv_aload_n hx hb d_R_size_42 rfl (lv_at hl 1 rfl) ?_
            refine gf_R_13 cx hZ hc_13 rfl d_R_size_43 ?_
            refine lv_iload hx hb d_R_size_46 (lv_at hl 0 rfl) ?_
            refine lv_iload_n hx hb d_R_size_48 rfl (lv_at hl 4 rfl) ?_
            refine st_i cx hZ hS hk_4 (vp_in_nI hsN (by omega)) d_R_size_49 (fun w_46 H locs hw_47 hZ hS => ?_)
            have hk_48 : w_46 o = some (.inr (6, [.int 0, .ref (A 0), .ref (A 1), .ref (A 2), .ref (A 3), .ref (A 4), .ref (A 5), .ref (A 6), .ref (A 7), .ref (A 8), .int (S 1), .ref (A 9), .ref (A 10), .int (S 2), .ref (A 11), .long (L 0), .long (L 1), .long (L 2), .long (L 3), .ref (A 12), .long (L 4)])) := up_ne hw_47 hc_13 (z_ne hc_13 hk_4 (by simp))
            have hk_49 : w_46 (A 0) = some (.inl (G.2 0, 8200, .inl (F 0))) := up_ne hw_47 hk_3 ((hA 0 1 (by decide) (by decide) (by decide)))
            have hk_50 : w_46 (A 2) = some (.inl (G.2 0, 8200, .inl (F 2))) := up_ne hw_47 hk_5 ((hA 2 1 (by decide) (by decide) (by decide)))
            have hk_51 : w_46 (A 3) = some (.inl (G.2 0, 8200, .inl (F 3))) := up_ne hw_47 hk_6 ((hA 3 1 (by decide) (by decide) (by decide)))
            have hk_52 : w_46 (A 4) = some (.inl (G.2 0, 8200, .inl (F 4))) := up_ne hw_47 hk_7 ((hA 4 1 (by decide) (by decide) (by decide)))
            have hk_53 : w_46 (A 5) = some (.inl (G.2 0, 8200, .inl (F 5))) := up_ne hw_47 hk_8 ((hA 5 1 (by decide) (by decide) (by decide)))
            have hk_54 : w_46 (A 6) = some (.inl (G.2 0, 8200, .inl (F 6))) := up_ne hw_47 hk_9 ((hA 6 1 (by decide) (by decide) (by decide)))
            have hk_55 : w_46 (A 7) = some (.inl (G.2 1, 8200, .inr (.inl M))) := up_ne hw_47 hk_10 ((hA 7 1 (by decide) (by decide) (by decide)))
            have hk_56 : w_46 (A 8) = some (.inl (G.2 0, 8200, .inl (F 8))) := up_ne hw_47 hk_11 ((hA 8 1 (by decide) (by decide) (by decide)))
            have hk_57 : w_46 (A 11) = some (.inl (G.2 0, 16, .inl Z)) := up_ne hw_47 hk_12 ((hA 11 1 (by decide) (by decide) (by decide)))
            have hF := hF.put hw_47 (Or.inl (by simp))
            have hc_58 : w_46 (A 1) = some (.inl (G.2 0, 8200, .inl (upd (F 1) (nI (stN sz k)).toNatClampNeg x))) := up_self hw_47
            refine lv_goto (tgt := 77) hx hb d_R_size_50 (by decide) ?_
            refine lv_iconst (v := 1) hx hb d_R_size_77 (by decide) ?_
            exact z_zret cx.1 cx.2.1 cx.rt cx.lk (by first | rfl | (simp [narrow]; done) | simp_all [narrow]) hS hZ ⟨(Nat.le_of_ble_eq_true rfl), (Nat.le_of_ble_eq_true rfl)⟩ d_R_size_78 (SizeR.yes (by have h := (zi_n0 _).mp c26; simp [sizeB, h, c39]) (by rw [show whN which = 1 by simp [whN, c39]]; exact ⟨hk_49, (by have := hc_58; rw [nI_clamp (by omega)] at this; exact this), hk_50, hk_51, hk_52, hk_53, hk_54, hk_55, hk_56⟩) hk_48 hF)
        · refine lv_iconst (v := 0) hx hb d_R_size_29 (by decide) ?_
          exact z_zret cx.1 cx.2.1 cx.rt cx.lk (by first | rfl | (simp [narrow]; done) | simp_all [narrow]) hS hZ ⟨(Nat.le_of_ble_eq_true rfl), (Nat.le_of_ble_eq_true rfl)⟩ d_R_size_30 (SizeR.no (by have h := (zi_0 _).mp c26; simp [sizeB, h]) ⟨hk_3, hk_4, hk_5, hk_6, hk_7, hk_8, hk_9, hk_10, hk_11⟩ hc_13 hF)
