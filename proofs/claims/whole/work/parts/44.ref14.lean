def mzW (F : Nat → Nat → Int32) (ps : Nat → Nat) (T : Nat → Int64) (n : Nat) : Nat → Int64 := mzL (mw F ps n).1 (mw F ps n).2.1 (mw F ps n).2.2 0 (gl F ps (z4 T) n).2
def mzH (F : Nat → Nat → Int32) (ps : Nat → Nat) (T : Nat → Int64) (n : Nat) (lim : Int32) : Nat → Int64 := mzL (if (dpL F ps n) ≤ lim.toInt64 then (mh F ps n).1 - (dpL F ps n) else (mh F ps n).1 - (dpL F ps n) + ((dpL F ps n) - lim.toInt64)) 0 (if (dpL F ps n) ≤ lim.toInt64 then (dpL F ps n) else lim.toInt64) (mh F ps n).2 (gl F ps (z4 T) n).2
def glT (F : Nat → Nat → Int32) (ps : Nat → Nat) (T : Nat → Int64) (n : Nat) : Nat → Int64 := (gl F ps (z4 T) n).1
def closeIs (spec amount : Int32) (na : Int64) : Int64 := if spec = 0 then na else if spec = 1 then na + amount.toInt64 else amount.toInt64
def closeB (spec amount lim kk : Int32) : Bool := !decide (spec < 0) && !decide (2 < spec) && szI amount && szI lim && regB kk
def closeG (l5 : Nat → Int64) (t4 : Nat → Int64) (is : Int64) (mx tot : Nat) : Bool := (szL (l5 0) && szL is && szL (l5 4) && szL (l5 3) && szL (l5 1) && szL (l5 2) && decide (mx < 100) && decide (tot + 1 ≤ 4000)) && szL (t4 0) && szL (t4 1) && szL (t4 2) && szL (t4 3)
theorem szL_ne {x : Int64} (h : szL x = true) (h0 : 0 < x) : ¬ 2 * x = 0 := by
  unfold szL at h
  simp only [Bool.and_eq_true, decide_eq_true_eq] at h
  intro q
  rw [Int64.lt_iff_toInt_lt] at h0
  have h2 := Int64.le_iff_toInt_le.mp h.2
  rw [show (0 : Int64).toInt = 0 from by decide] at h0
  rw [show (1073741823 : Int64).toInt = 1073741823 from by decide] at h2
  rw [← Int64.toInt_inj, Int64.toInt_mul, show (2 : Int64).toInt = 2 from by decide, show (0 : Int64).toInt = 0 from by decide, Int.bmod_eq_of_le (by omega) (by omega)] at q
  omega
theorem shA_ne {T : Nat → Int64} {sh ex : Int64} (h0 : szL (T 0) = true) (h1 : szL (T 1) = true) (h2 : szL (T 2) = true) (h3 : szL (T 3) = true) (h4 : szL sh = true) (h : 0 < shA T sh ex) : ¬ 2 * shA T sh ex = 0 := by
  refine szL_ne ?_ h
  unfold shA
  split
  · unfold hiO
    split
    · exact h3
    · split
      · exact h2
      · split
        · exact h1
        · exact h0
  · exact h4
def szU (sz : Nat → Nat) (k x : Nat) : Nat → Nat := fun j => if j = k then x else sz j
theorem sumN_U {sz : Nat → Nat} {k x j : Nat} (h : j ≤ k) : sumN (szU sz k x) j = sumN sz j := by
  induction j with
  | zero => rfl
  | succ j ih => rw [sumN, sumN, ih (by omega), szU, if_neg (by omega)]
theorem sumN_Us {sz : Nat → Nat} {k x j : Nat} (h : k < j) : sumN (szU sz k x) j + sz k = sumN sz j + x := by
  induction j with
  | zero => omega
  | succ j ih =>
    rw [sumN, sumN]
    by_cases hj : k = j
    · subst hj
      rw [sumN_U (Nat.le_refl _), szU, if_pos rfl]; omega
    · have := ih (by omega)
      rw [szU, if_neg (by omega)]; omega
theorem stN_U {sz : Nat → Nat} {k x j : Nat} (h : j ≤ k) : stN (szU sz k x) j = stN sz j := by unfold stN; rw [sumN_U h]
theorem hsz_U {Z : Nat → Int32} {sz : Nat → Nat} {k x : Nat} (h : ∀ j, j < 16 → Z j = nI (sz j)) : ∀ j, j < 16 → upd Z k (nI x) j = nI (szU sz k x j) := by
  intro j hj
  by_cases q : j = k
  · subst q; rw [pk_us, szU, if_pos rfl]
  · rw [pk_un q, szU, if_neg q]; exact h j hj
theorem hsz_UU {Z : Nat → Int32} {sz : Nat → Nat} {k x : Nat} (h : ∀ j, j < 16 → Z j = nI (sz j)) : ∀ j, j < 16 → upd (upd Z k 0) k (nI x) j = nI (szU sz k x j) := by
  intro j hj
  by_cases q : j = k
  · subst q; rw [pk_us, szU, if_pos rfl]
  · rw [pk_un q, pk_un q, szU, if_neg q]; exact h j hj
def mkF (F : Nat → Nat → Int32) (sz : Nat → Nat) (k n : Nat) : Nat → Nat → Int32 := cpF F (stN sz k) (stN sz k + n) (cpC sz k)
def mkM (M : Nat → Int64) (sz : Nat → Nat) (k n : Nat) : Nat → Int64 := cpM M (stN sz k) (stN sz k + n) (cpC sz k)
theorem r_make2 (l : Launch) (G : zG) (n0 e0 : Nat) (w : zw) (o : Nat) (A : Nat → Nat) (S : Nat → Int32) (L : Nat → Int64) (F : Nat → Nat → Int32) (M : Nat → Int64) (B V Z : Nat → Int32) (T : Nat → Int64) (k : Nat) (hr : RA G w o A S L F M B V (upd Z k 0) T) (hA : ∀ i j, i < 13 → j < 13 → i ≠ j → A i ≠ A j) (sz : Nat → Nat) (hsz : ∀ k, k < 16 → Z k = nI (sz k)) (hk : k < 16) (n : Nat) (hn : sumN sz 16 + n ≤ 4000 + sz k) (hs : sumN sz 16 ≤ 4000) : Ct l G n0 e0 y_R_make b_R_make 5 (Option.none : Option FieldType) ({ frames := 1, cells := 0, slots := 0, locals := 23 }) [.ref o, .int (nI k), .int (nI n)] w (fun v w1 => v = none ∧ RA G w1 o A S L (mkF F sz k n) (mkM M sz k n) B V (upd (upd Z k 0) k (nI n)) T ∧ Fr (allR o A) w w1) := by
  have e := sumN_Us (sz := sz) (x := 0) hk
  have h := r_make l G n0 e0 w o A S L F M B V (upd Z k 0) T hr hA (szU sz k 0) (hsz_U (x := 0) hsz) (by omega) k hk n (by omega)
  have e2 : sumN (szU sz k 0) 16 - sumN (szU sz k 0) k = cpC sz k := by
    rw [sumN_U (Nat.le_refl _)]; unfold cpC; have := sumN_lt (f := sz) hk; omega
  rw [e2, stN_U (Nat.le_refl _)] at h
  exact h
def hdF (F : Nat → Nat → Int32) (t : Nat) (kd wd hg dp sp : Int32) : Nat → Nat → Int32 := fun c => match c with
  | 0 => upd (F 0) t kd
  | 1 => upd (F 1) t wd
  | 2 => upd (F 2) t hg
  | 3 => upd (F 3) t dp
  | 4 => upd (F 4) t 0
  | 8 => upd (F 8) t sp
  | c => F c
theorem r_failsA (l : Launch) (G : zG) (n0 e0 : Nat) (w : zw) (o : Nat) (A : Nat → Nat) (S : Nat → Int32) (L : Nat → Int64) (F : Nat → Nat → Int32) (M : Nat → Int64) (B V Z : Nat → Int32) (T : Nat → Int64) (hr : RA G w o A S L F M B V Z T) (hA : ∀ i j, i < 13 → j < 13 → i ≠ j → A i ≠ A j) (y : Int32) : Ct l G n0 e0 y_R_fails b_R_fails 2 (Option.some FieldType.int) ({ frames := 0, cells := 0, slots := 0, locals := 0 }) [.ref o, .int y] w (fun v w1 => v = some (.int 0) ∧ RA G w1 o A (upd S 0 y) L F M B V Z T ∧ Fr (allR o A) w w1) := by
  obtain ⟨ho, hR, h9, h10, h11, h12⟩ := hr
  refine (r_fails l G n0 e0 w o A S L ho y).mono (Nat.le_refl _) (Nat.le_refl _) (Nat.le_refl _) (Nat.le_refl _) ?_
  rintro v w1 ⟨rfl, ho1, hF⟩
  refine ⟨rfl, ⟨ho1, hR.keepF hF ?_, hF.keepX h9 (by simp [ho]), hF.keepX h10 (by simp [ho]), hF.keepX h11 (by simp [ho]), hF.keepX h12 (by simp [ho])⟩, hF.sub (by simp)⟩
  intro i hi q
  simp only [List.mem_cons, List.not_mem_nil, or_false] at q
  refine hR.no ho ?_
  rw [← q]
  have : i = 0 ∨ i = 1 ∨ i = 2 ∨ i = 3 ∨ i = 4 ∨ i = 5 ∨ i = 6 ∨ i = 7 ∨ i = 8 := by omega
  rcases this with h | h | h | h | h | h | h | h | h <;> subst h <;> simp
theorem lt100_t {x : Nat} (h : (100 : Int32) ≤ nI x) : ¬ x < 100 := fun q => absurd h (by rw [show (100 : Int32) = nI 100 from by decide]; exact nI_ge q (by decide))
theorem lt100_f {x : Nat} (hx : x < 2 ^ 31) (h : ¬ (100 : Int32) ≤ nI x) : x < 100 := Nat.lt_of_not_le (fun q => h (by rw [show (100 : Int32) = nI 100 from by decide]; exact nI_le q hx))
theorem szI_of {P : Prop} {b : Bool} (h : b = true) : ¬ zi b = 0 := (zi_n0 _).mpr h
theorem nI_le15 {k : Nat} (h : k < 16) : nI k ≤ (15 : Int32) := by
  rw [show (15 : Int32) = nI 15 from by decide]; exact nI_le (by omega) (by decide)
set_option maxHeartbeats 4000000 in
set_option maxRecDepth 100000 in
theorem r_close_0 (l : Launch) (G : zG) (n0 e0 : Nat) (w : zw) (o : Nat) (A : Nat → Nat) (S : Nat → Int32) (L : Nat → Int64) (F : Nat → Nat → Int32) (M : Nat → Int64) (B V Z : Nat → Int32) (T : Nat → Int64) (hr : RA G w o A S L F M B V Z T) (hA : ∀ i j, i < 13 → j < 13 → i ≠ j → A i ≠ A j) (hl0 : S 1 = 0) (spec amount lim kk : Int32)  : Ct l G n0 e0 y_R_close b_R_close 13 (Option.some FieldType.int) ({ frames := 3, cells := 0, slots := 0, locals := 150 }) [.ref o, .int spec, .int amount, .int lim, .int kk] w (fun v w1 => v = some (.int 0) ∧ RA G w1 o A (upd S 0 1) L F M B V Z T ∧ Fr (allR o A) w w1) := by
  refine z_ct (by decide) (Nat.le_of_ble_eq_true rfl) ?_
  intro p e s m below meth c ls cx hnm hZ hS hl
  have hx := cx.1
  have hb := cx.2.1
  have hl : lv_has ls 13 [(0, .ref o), (1, .int spec), (2, .int amount), (3, .int lim), (4, .int kk)] := hl
  obtain ⟨ho, ⟨h0, h1, h2, h3, h4, h5, h6, h7, h8⟩, h9, h10, h11, h12⟩ := id hr
  have hF : Fr [o, (A 0), (A 1), (A 2), (A 3), (A 4), (A 5), (A 6), (A 7), (A 8), (A 9), (A 10), (A 11), (A 12)] w w := Fr.rf
  refine lv_aload_n hx hb d_R_close_0 rfl (lv_at hl 0 rfl) ?_
  refine gf_R_68 cx hZ ho rfl d_R_close_1 ?_
  refine lv_if_ne (tgt := 13) hx hb d_R_close_4 (by decide) (fun c4 => ?_) (fun c4 => ?_)
  · exact absurd hl0 c4
  · refine lv_aload_n hx hb d_R_close_7 rfl (lv_at hl 0 rfl) ?_
    refine lv_iconst (v := 1) hx hb d_R_close_8 (by decide) ?_
    refine iv_R_130 (As := [.int 1]) (rest := []) cx (r_failsA l G n0 e0 w o A S L F M B V Z T ⟨ho, ⟨h0, h1, h2, h3, h4, h5, h6, h7, h8⟩, h9, h10, h11, h12⟩ hA 1) ho ⟨(Nat.le_of_ble_eq_true rfl), (Nat.le_of_ble_eq_true rfl)⟩ ⟨(Nat.le_of_ble_eq_true rfl), (Nat.le_of_ble_eq_true rfl)⟩ rfl hl.1 rfl (Nat.le_of_ble_eq_true rfl) d_R_close_9 hZ hS (fun v w_1 H locs hp_2 hZ hS => ?_)
    obtain ⟨rfl, hr_3, hf_4⟩ := hp_2
    obtain ⟨ho_5, ⟨h0_5, h1_5, h2_5, h3_5, h4_5, h5_5, h6_5, h7_5, h8_5⟩, h9_5, h10_5, h11_5, h12_5⟩ := id hr_3
    have ho_5 : w_1 o = some (.inr (6, [.int 1, .ref (A 0), .ref (A 1), .ref (A 2), .ref (A 3), .ref (A 4), .ref (A 5), .ref (A 6), .ref (A 7), .ref (A 8), .int (S 1), .ref (A 9), .ref (A 10), .int (S 2), .ref (A 11), .long (L 0), .long (L 1), .long (L 2), .long (L 3), .ref (A 12), .long (L 4)])) := ho_5
    have hF := hF.call hf_4 (fun t ht => Or.inl ht)
    refine W.eq (g2 := F0 m 12 ls [.int 0]) rfl ?_
    exact z_iret cx.1 cx.2.1 cx.rt cx.lk hS hZ ⟨(Nat.le_of_ble_eq_true rfl), (Nat.le_of_ble_eq_true rfl)⟩ d_R_close_12 (⟨rfl, ⟨ho_5, ⟨h0_5, h1_5, h2_5, h3_5, h4_5, h5_5, h6_5, h7_5, h8_5⟩, h9_5, h10_5, h11_5, h12_5⟩, hF⟩)
set_option maxHeartbeats 4000000 in
set_option maxRecDepth 100000 in
theorem r_close_bad (l : Launch) (G : zG) (n0 e0 : Nat) (w : zw) (o : Nat) (A : Nat → Nat) (S : Nat → Int32) (L : Nat → Int64) (F : Nat → Nat → Int32) (M : Nat → Int64) (B V Z : Nat → Int32) (T : Nat → Int64) (hr : RA G w o A S L F M B V Z T) (hA : ∀ i j, i < 13 → j < 13 → i ≠ j → A i ≠ A j) (hl0 : ¬ S 1 = 0) (spec amount lim kk : Int32) (hbad : closeB spec amount lim kk = false)  : Ct l G n0 e0 y_R_close b_R_close 13 (Option.some FieldType.int) ({ frames := 3, cells := 0, slots := 0, locals := 150 }) [.ref o, .int spec, .int amount, .int lim, .int kk] w (fun v w1 => v = some (.int 0) ∧ RA G w1 o A (upd S 0 2) L F M B V Z T ∧ Fr (allR o A) w w1) := by
  refine z_ct (by decide) (Nat.le_of_ble_eq_true rfl) ?_
  intro p e s m below meth c ls cx hnm hZ hS hl
  have hx := cx.1
  have hb := cx.2.1
  have hl : lv_has ls 13 [(0, .ref o), (1, .int spec), (2, .int amount), (3, .int lim), (4, .int kk)] := hl
  obtain ⟨ho, ⟨h0, h1, h2, h3, h4, h5, h6, h7, h8⟩, h9, h10, h11, h12⟩ := id hr
  have hF : Fr [o, (A 0), (A 1), (A 2), (A 3), (A 4), (A 5), (A 6), (A 7), (A 8), (A 9), (A 10), (A 11), (A 12)] w w := Fr.rf
  refine lv_aload_n hx hb d_R_close_0 rfl (lv_at hl 0 rfl) ?_
  refine gf_R_68 cx hZ ho rfl d_R_close_1 ?_
  refine lv_if_ne (tgt := 13) hx hb d_R_close_4 (by decide) (fun c4 => ?_) (fun c4 => ?_)
  · refine lv_iload_n hx hb d_R_close_13 rfl (lv_at hl 1 rfl) ?_
    refine lv_if_lt (tgt := 48) hx hb d_R_close_14 (by decide) (fun c14 => ?_) (fun c14 => ?_)
    · refine lv_aload_n hx hb d_R_close_48 rfl (lv_at hl 0 rfl) ?_
      refine lv_iconst (v := 2) hx hb d_R_close_49 (by decide) ?_
      refine iv_R_130 (As := [.int 2]) (rest := []) cx (r_failsA l G n0 e0 w o A S L F M B V Z T ⟨ho, ⟨h0, h1, h2, h3, h4, h5, h6, h7, h8⟩, h9, h10, h11, h12⟩ hA 2) ho ⟨(Nat.le_of_ble_eq_true rfl), (Nat.le_of_ble_eq_true rfl)⟩ ⟨(Nat.le_of_ble_eq_true rfl), (Nat.le_of_ble_eq_true rfl)⟩ rfl hl.1 rfl (Nat.le_of_ble_eq_true rfl) d_R_close_50 hZ hS (fun v w_1 H locs hp_2 hZ hS => ?_)
      obtain ⟨rfl, hr_3, hf_4⟩ := hp_2
      obtain ⟨ho_5, ⟨h0_5, h1_5, h2_5, h3_5, h4_5, h5_5, h6_5, h7_5, h8_5⟩, h9_5, h10_5, h11_5, h12_5⟩ := id hr_3
      have ho_5 : w_1 o = some (.inr (6, [.int 2, .ref (A 0), .ref (A 1), .ref (A 2), .ref (A 3), .ref (A 4), .ref (A 5), .ref (A 6), .ref (A 7), .ref (A 8), .int (S 1), .ref (A 9), .ref (A 10), .int (S 2), .ref (A 11), .long (L 0), .long (L 1), .long (L 2), .long (L 3), .ref (A 12), .long (L 4)])) := ho_5
      have hF := hF.call hf_4 (fun t ht => Or.inl ht)
      refine W.eq (g2 := F0 m 53 ls [.int 0]) rfl ?_
      exact z_iret cx.1 cx.2.1 cx.rt cx.lk hS hZ ⟨(Nat.le_of_ble_eq_true rfl), (Nat.le_of_ble_eq_true rfl)⟩ d_R_close_53 (⟨rfl, ⟨ho_5, ⟨h0_5, h1_5, h2_5, h3_5, h4_5, h5_5, h6_5, h7_5, h8_5⟩, h9_5, h10_5, h11_5, h12_5⟩, hF⟩)
    · refine lv_iload_n hx hb d_R_close_17 rfl (lv_at hl 1 rfl) ?_
      refine lv_iconst (v := 2) hx hb d_R_close_18 (by decide) ?_
      refine lv_icmp_gt (tgt := 48) hx hb d_R_close_19 (by decide) (fun c19 => ?_) (fun c19 => ?_)
      · refine lv_aload_n hx hb d_R_close_48 rfl (lv_at hl 0 rfl) ?_
        refine lv_iconst (v := 2) hx hb d_R_close_49 (by decide) ?_
        refine iv_R_130 (As := [.int 2]) (rest := []) cx (r_failsA l G n0 e0 w o A S L F M B V Z T ⟨ho, ⟨h0, h1, h2, h3, h4, h5, h6, h7, h8⟩, h9, h10, h11, h12⟩ hA 2) ho ⟨(Nat.le_of_ble_eq_true rfl), (Nat.le_of_ble_eq_true rfl)⟩ ⟨(Nat.le_of_ble_eq_true rfl), (Nat.le_of_ble_eq_true rfl)⟩ rfl hl.1 rfl (Nat.le_of_ble_eq_true rfl) d_R_close_50 hZ hS (fun v w_6 H locs hp_7 hZ hS => ?_)
        obtain ⟨rfl, hr_8, hf_9⟩ := hp_7
        obtain ⟨ho_10, ⟨h0_10, h1_10, h2_10, h3_10, h4_10, h5_10, h6_10, h7_10, h8_10⟩, h9_10, h10_10, h11_10, h12_10⟩ := id hr_8
        have ho_10 : w_6 o = some (.inr (6, [.int 2, .ref (A 0), .ref (A 1), .ref (A 2), .ref (A 3), .ref (A 4), .ref (A 5), .ref (A 6), .ref (A 7), .ref (A 8), .int (S 1), .ref (A 9), .ref (A 10), .int (S 2), .ref (A 11), .long (L 0), .long (L 1), .long (L 2), .long (L 3), .ref (A 12), .long (L 4)])) := ho_10
        have hF := hF.call hf_9 (fun t ht => Or.inl ht)
        refine W.eq (g2 := F0 m 53 ls [.int 0]) rfl ?_
        exact z_iret cx.1 cx.2.1 cx.rt cx.lk hS hZ ⟨(Nat.le_of_ble_eq_true rfl), (Nat.le_of_ble_eq_true rfl)⟩ d_R_close_53 (⟨rfl, ⟨ho_10, ⟨h0_10, h1_10, h2_10, h3_10, h4_10, h5_10, h6_10, h7_10, h8_10⟩, h9_10, h10_10, h11_10, h12_10⟩, hF⟩)
      · refine lv_iload_n hx hb d_R_close_22 rfl (lv_at hl 2 rfl) ?_
        refine is_R_79 (As := [.int amount]) (rest := []) cx (r_isSize l G n0 e0 amount w) ⟨(Nat.le_of_ble_eq_true rfl), (Nat.le_of_ble_eq_true rfl)⟩ ⟨(Nat.le_of_ble_eq_true rfl), (Nat.le_of_ble_eq_true rfl)⟩ rfl hl.1 rfl (Nat.le_of_ble_eq_true rfl) d_R_close_23 hZ hS (fun v w_11 H locs hp_12 hZ hS => ?_)
        obtain ⟨rfl, hq⟩ := hp_12
        subst w_11
        refine W.eq (g2 := F0 m 26 ls [.int (zi (szI amount))]) rfl ?_
        refine lv_if_eq (tgt := 48) hx hb d_R_close_26 (by decide) (fun c26 => ?_) (fun c26 => ?_)
        · refine lv_aload_n hx hb d_R_close_48 rfl (lv_at hl 0 rfl) ?_
          refine lv_iconst (v := 2) hx hb d_R_close_49 (by decide) ?_
          refine iv_R_130 (As := [.int 2]) (rest := []) cx (r_failsA l G n0 e0 w o A S L F M B V Z T ⟨ho, ⟨h0, h1, h2, h3, h4, h5, h6, h7, h8⟩, h9, h10, h11, h12⟩ hA 2) ho ⟨(Nat.le_of_ble_eq_true rfl), (Nat.le_of_ble_eq_true rfl)⟩ ⟨(Nat.le_of_ble_eq_true rfl), (Nat.le_of_ble_eq_true rfl)⟩ rfl hl.1 rfl (Nat.le_of_ble_eq_true rfl) d_R_close_50 hZ hS (fun v w_13 H locs hp_14 hZ hS => ?_)
          obtain ⟨rfl, hr_15, hf_16⟩ := hp_14
          obtain ⟨ho_17, ⟨h0_17, h1_17, h2_17, h3_17, h4_17, h5_17, h6_17, h7_17, h8_17⟩, h9_17, h10_17, h11_17, h12_17⟩ := id hr_15
          have ho_17 : w_13 o = some (.inr (6, [.int 2, .ref (A 0), .ref (A 1), .ref (A 2), .ref (A 3), .ref (A 4), .ref (A 5), .ref (A 6), .ref (A 7), .ref (A 8), .int (S 1), .ref (A 9), .ref (A 10), .int (S 2), .ref (A 11), .long (L 0), .long (L 1), .long (L 2), .long (L 3), .ref (A 12), .long (L 4)])) := ho_17
          have hF := hF.call hf_16 (fun t ht => Or.inl ht)
          refine W.eq (g2 := F0 m 53 ls [.int 0]) rfl ?_
          exact z_iret cx.1 cx.2.1 cx.rt cx.lk hS hZ ⟨(Nat.le_of_ble_eq_true rfl), (Nat.le_of_ble_eq_true rfl)⟩ d_R_close_53 (⟨rfl, ⟨ho_17, ⟨h0_17, h1_17, h2_17, h3_17, h4_17, h5_17, h6_17, h7_17, h8_17⟩, h9_17, h10_17, h11_17, h12_17⟩, hF⟩)
        · refine lv_iload_n hx hb d_R_close_29 rfl (lv_at hl 3 rfl) ?_
          refine is_R_79 (As := [.int lim]) (rest := []) cx (r_isSize l G n0 e0 lim w) ⟨(Nat.le_of_ble_eq_true rfl), (Nat.le_of_ble_eq_true rfl)⟩ ⟨(Nat.le_of_ble_eq_true rfl), (Nat.le_of_ble_eq_true rfl)⟩ rfl hl.1 rfl (Nat.le_of_ble_eq_true rfl) d_R_close_30 hZ hS (fun v w_18 H locs hp_19 hZ hS => ?_)
          obtain ⟨rfl, hq⟩ := hp_19
          subst w_18
          refine W.eq (g2 := F0 m 33 ls [.int (zi (szI lim))]) rfl ?_
          refine lv_if_eq (tgt := 48) hx hb d_R_close_33 (by decide) (fun c33 => ?_) (fun c33 => ?_)
          · refine lv_aload_n hx hb d_R_close_48 rfl (lv_at hl 0 rfl) ?_
            refine lv_iconst (v := 2) hx hb d_R_close_49 (by decide) ?_
            refine iv_R_130 (As := [.int 2]) (rest := []) cx (r_failsA l G n0 e0 w o A S L F M B V Z T ⟨ho, ⟨h0, h1, h2, h3, h4, h5, h6, h7, h8⟩, h9, h10, h11, h12⟩ hA 2) ho ⟨(Nat.le_of_ble_eq_true rfl), (Nat.le_of_ble_eq_true rfl)⟩ ⟨(Nat.le_of_ble_eq_true rfl), (Nat.le_of_ble_eq_true rfl)⟩ rfl hl.1 rfl (Nat.le_of_ble_eq_true rfl) d_R_close_50 hZ hS (fun v w_20 H locs hp_21 hZ hS => ?_)
            obtain ⟨rfl, hr_22, hf_23⟩ := hp_21
            obtain ⟨ho_24, ⟨h0_24, h1_24, h2_24, h3_24, h4_24, h5_24, h6_24, h7_24, h8_24⟩, h9_24, h10_24, h11_24, h12_24⟩ := id hr_22
            have ho_24 : w_20 o = some (.inr (6, [.int 2, .ref (A 0), .ref (A 1), .ref (A 2), .ref (A 3), .ref (A 4), .ref (A 5), .ref (A 6), .ref (A 7), .ref (A 8), .int (S 1), .ref (A 9), .ref (A 10), .int (S 2), .ref (A 11), .long (L 0), .long (L 1), .long (L 2), .long (L 3), .ref (A 12), .long (L 4)])) := ho_24
            have hF := hF.call hf_23 (fun t ht => Or.inl ht)
            refine W.eq (g2 := F0 m 53 ls [.int 0]) rfl ?_
            exact z_iret cx.1 cx.2.1 cx.rt cx.lk hS hZ ⟨(Nat.le_of_ble_eq_true rfl), (Nat.le_of_ble_eq_true rfl)⟩ d_R_close_53 (⟨rfl, ⟨ho_24, ⟨h0_24, h1_24, h2_24, h3_24, h4_24, h5_24, h6_24, h7_24, h8_24⟩, h9_24, h10_24, h11_24, h12_24⟩, hF⟩)
          · refine lv_iload hx hb d_R_close_36 (lv_at hl 4 rfl) ?_
            refine lv_if_lt (tgt := 48) hx hb d_R_close_38 (by decide) (fun c38 => ?_) (fun c38 => ?_)
            · refine lv_aload_n hx hb d_R_close_48 rfl (lv_at hl 0 rfl) ?_
              refine lv_iconst (v := 2) hx hb d_R_close_49 (by decide) ?_
              refine iv_R_130 (As := [.int 2]) (rest := []) cx (r_failsA l G n0 e0 w o A S L F M B V Z T ⟨ho, ⟨h0, h1, h2, h3, h4, h5, h6, h7, h8⟩, h9, h10, h11, h12⟩ hA 2) ho ⟨(Nat.le_of_ble_eq_true rfl), (Nat.le_of_ble_eq_true rfl)⟩ ⟨(Nat.le_of_ble_eq_true rfl), (Nat.le_of_ble_eq_true rfl)⟩ rfl hl.1 rfl (Nat.le_of_ble_eq_true rfl) d_R_close_50 hZ hS (fun v w_25 H locs hp_26 hZ hS => ?_)
              obtain ⟨rfl, hr_27, hf_28⟩ := hp_26
              obtain ⟨ho_29, ⟨h0_29, h1_29, h2_29, h3_29, h4_29, h5_29, h6_29, h7_29, h8_29⟩, h9_29, h10_29, h11_29, h12_29⟩ := id hr_27
              have ho_29 : w_25 o = some (.inr (6, [.int 2, .ref (A 0), .ref (A 1), .ref (A 2), .ref (A 3), .ref (A 4), .ref (A 5), .ref (A 6), .ref (A 7), .ref (A 8), .int (S 1), .ref (A 9), .ref (A 10), .int (S 2), .ref (A 11), .long (L 0), .long (L 1), .long (L 2), .long (L 3), .ref (A 12), .long (L 4)])) := ho_29
              have hF := hF.call hf_28 (fun t ht => Or.inl ht)
              refine W.eq (g2 := F0 m 53 ls [.int 0]) rfl ?_
              exact z_iret cx.1 cx.2.1 cx.rt cx.lk hS hZ ⟨(Nat.le_of_ble_eq_true rfl), (Nat.le_of_ble_eq_true rfl)⟩ d_R_close_53 (⟨rfl, ⟨ho_29, ⟨h0_29, h1_29, h2_29, h3_29, h4_29, h5_29, h6_29, h7_29, h8_29⟩, h9_29, h10_29, h11_29, h12_29⟩, hF⟩)
            · refine lv_iload hx hb d_R_close_41 (lv_at hl 4 rfl) ?_
              refine lv_bipush (v := 15) hx hb d_R_close_43 (by decide) ?_
              refine lv_icmp_le (tgt := 54) hx hb d_R_close_45 (by decide) (fun c45 => ?_) (fun c45 => ?_)
              · exact absurd hbad (by rw [closeB, decide_eq_false c14, decide_eq_false c19, (zi_n0 _).mp c26, (zi_n0 _).mp c33, regB_in15 c38 (Int32.not_lt.mpr c45)]; decide)
              · refine lv_aload_n hx hb d_R_close_48 rfl (lv_at hl 0 rfl) ?_
                refine lv_iconst (v := 2) hx hb d_R_close_49 (by decide) ?_
                refine iv_R_130 (As := [.int 2]) (rest := []) cx (r_failsA l G n0 e0 w o A S L F M B V Z T ⟨ho, ⟨h0, h1, h2, h3, h4, h5, h6, h7, h8⟩, h9, h10, h11, h12⟩ hA 2) ho ⟨(Nat.le_of_ble_eq_true rfl), (Nat.le_of_ble_eq_true rfl)⟩ ⟨(Nat.le_of_ble_eq_true rfl), (Nat.le_of_ble_eq_true rfl)⟩ rfl hl.1 rfl (Nat.le_of_ble_eq_true rfl) d_R_close_50 hZ hS (fun v w_30 H locs hp_31 hZ hS => ?_)
                obtain ⟨rfl, hr_32, hf_33⟩ := hp_31
                obtain ⟨ho_34, ⟨h0_34, h1_34, h2_34, h3_34, h4_34, h5_34, h6_34, h7_34, h8_34⟩, h9_34, h10_34, h11_34, h12_34⟩ := id hr_32
                have ho_34 : w_30 o = some (.inr (6, [.int 2, .ref (A 0), .ref (A 1), .ref (A 2), .ref (A 3), .ref (A 4), .ref (A 5), .ref (A 6), .ref (A 7), .ref (A 8), .int (S 1), .ref (A 9), .ref (A 10), .int (S 2), .ref (A 11), .long (L 0), .long (L 1), .long (L 2), .long (L 3), .ref (A 12), .long (L 4)])) := ho_34
                have hF := hF.call hf_33 (fun t ht => Or.inl ht)
                refine W.eq (g2 := F0 m 53 ls [.int 0]) rfl ?_
                exact z_iret cx.1 cx.2.1 cx.rt cx.lk hS hZ ⟨(Nat.le_of_ble_eq_true rfl), (Nat.le_of_ble_eq_true rfl)⟩ d_R_close_53 (⟨rfl, ⟨ho_34, ⟨h0_34, h1_34, h2_34, h3_34, h4_34, h5_34, h6_34, h7_34, h8_34⟩, h9_34, h10_34, h11_34, h12_34⟩, hF⟩)
  · exact absurd c4 hl0
set_option maxHeartbeats 4000000 in
set_option maxRecDepth 100000 in
theorem r_close_h (l : Launch) (G : zG) (n0 e0 : Nat) (w : zw) (o : Nat) (A : Nat → Nat) (S : Nat → Int32) (L : Nat → Int64) (F : Nat → Nat → Int32) (M : Nat → Int64) (B V Z : Nat → Int32) (T : Nat → Int64) (hr : RA G w o A S L F M B V Z T) (hA : ∀ i j, i < 13 → j < 13 → i ≠ j → A i ≠ A j) (sz : Nat → Nat) (hsz : ∀ k, k < 16 → Z k = nI (sz k)) (hsum : sumN sz 16 ≤ 4000) (k : Nat) (hk : k < 16) (ps : Nat → Nat) (n : Nat) (hps : SP (F 8) ps n) (hpe : ps n ≤ 4000) (hen : S 2 = nI (ps n)) (hor : ∀ j, j < n → F 0 (ps j) = 5 → vp_in (F 5 (ps j)) 4) (sp : Nat → Nat) (hsp : ∀ j, ps 0 ≤ j → j < ps n → F 8 j = nI (sp j) ∧ sp j ≤ 8200) (hroom : ps n + sumN sz 16 ≤ 4000) (lt : Nat) (hlt4 : lt < 100) (hls : S 1 = nI (lt + 1)) (hB : B lt = nI (ps 0)) (hV : V lt = zi false) (spec amount lim : Int32) (hok : closeB spec amount lim (nI k) = true)  : Ct l G n0 e0 y_R_close b_R_close 13 (Option.some FieldType.int) ({ frames := 3, cells := 0, slots := 0, locals := 150 }) [.ref o, .int spec, .int amount, .int lim, .int (nI k)] w (fun v w1 => ∃ r, v = some (.int r) ∧ (((closeG (mzW F ps T n) (glT F ps T n) (closeIs spec amount ((mzW F ps T n) 0)) (mxN (F 0) sp (ps 0) (ps n - ps 0)) (ps n + sumN sz 16)) = true ∧ r = (closeIs spec amount ((mzW F ps T n) 0)).toInt32 ∧ RA G w1 o A (upd (upd (upd S 0 0) 1 (nI lt)) 2 (nI (ps 0))) (mzW F ps T n) (cpF (hdF (mkF (emF F sz k) sz k ((ps n - ps 0) + 1)) (stN sz k) 2 ((closeIs spec amount ((mzW F ps T n) 0)).toInt32) (((mzW F ps T n) 1).toInt32) (((mzW F ps T n) 2).toInt32) (nI ((ps n - ps 0) + 1))) (ps 0) ((stN sz k) + 1) (ps n - ps 0)) (cpM (mkM (emM (shM F ps (shA (glT F ps T n) ((mzW F ps T n) 4) ((closeIs spec amount ((mzW F ps T n) 0)) - (mzW F ps T n) 0)) (shE ((mzW F ps T n) 4) ((closeIs spec amount ((mzW F ps T n) 0)) - (mzW F ps T n) 0)) (decide (0 < ((closeIs spec amount ((mzW F ps T n) 0)) - (mzW F ps T n) 0))) (hiO (glT F ps T n)) M n) sz k) sz k ((ps n - ps 0) + 1)) (ps 0) ((stN sz k) + 1) (ps n - ps 0)) B V (upd (upd Z k 0) k (nI ((ps n - ps 0) + 1))) (glT F ps T n)) ∨ ((closeG (mzW F ps T n) (glT F ps T n) (closeIs spec amount ((mzW F ps T n) 0)) (mxN (F 0) sp (ps 0) (ps n - ps 0)) (ps n + sumN sz 16)) = false ∧ RA G w1 o A (upd S 0 3) (mzW F ps T n) F M B V Z (glT F ps T n))) ∧ Fr (allR o A) w w1) := by
  refine z_ct (by decide) (Nat.le_of_ble_eq_true rfl) ?_
  intro p e s m below meth c ls cx hnm hZ hS hl
  have hx := cx.1
  have hb := cx.2.1
  have hl : lv_has ls 13 [(0, .ref o), (1, .int spec), (2, .int amount), (3, .int lim), (4, .int (nI k))] := hl
  obtain ⟨ho, ⟨h0, h1, h2, h3, h4, h5, h6, h7, h8⟩, h9, h10, h11, h12⟩ := id hr
  have hle := hps.le (Nat.zero_le n) (Nat.le_refl _)
  have hpe : ps n ≤ 8000 := by omega
  have hlt := sumN_lt (f := sz) hk
  have eN : ps 0 + (ps n - ps 0) = ps n := by omega
  simp only [closeB, Bool.and_eq_true, Bool.not_eq_true', decide_eq_false_iff_not] at hok
  obtain ⟨⟨⟨⟨k1, k2⟩, k3⟩, k4⟩, k5⟩ := hok
  have hF : Fr [o, (A 0), (A 1), (A 2), (A 3), (A 4), (A 5), (A 6), (A 7), (A 8), (A 9), (A 10), (A 11), (A 12)] w w := Fr.rf
  refine lv_aload_n hx hb d_R_close_0 rfl (lv_at hl 0 rfl) ?_
  refine gf_R_68 cx hZ ho rfl d_R_close_1 ?_
  refine lv_if_ne (tgt := 13) hx hb d_R_close_4 (by decide) (fun c4 => ?_) (fun c4 => ?_)
  · refine lv_iload_n hx hb d_R_close_13 rfl (lv_at hl 1 rfl) ?_
    refine lv_if_lt (tgt := 48) hx hb d_R_close_14 (by decide) (fun c14 => ?_) (fun c14 => ?_)
    · exact absurd c14 k1
    · refine lv_iload_n hx hb d_R_close_17 rfl (lv_at hl 1 rfl) ?_
      refine lv_iconst (v := 2) hx hb d_R_close_18 (by decide) ?_
      refine lv_icmp_gt (tgt := 48) hx hb d_R_close_19 (by decide) (fun c19 => ?_) (fun c19 => ?_)
      · exact absurd c19 k2
      · refine lv_iload_n hx hb d_R_close_22 rfl (lv_at hl 2 rfl) ?_
        refine is_R_79 (As := [.int amount]) (rest := []) cx (r_isSize l G n0 e0 amount w) ⟨(Nat.le_of_ble_eq_true rfl), (Nat.le_of_ble_eq_true rfl)⟩ ⟨(Nat.le_of_ble_eq_true rfl), (Nat.le_of_ble_eq_true rfl)⟩ rfl hl.1 rfl (Nat.le_of_ble_eq_true rfl) d_R_close_23 hZ hS (fun v w_1 H locs hp_2 hZ hS => ?_)
        obtain ⟨rfl, hq⟩ := hp_2
        subst w_1
        refine W.eq (g2 := F0 m 26 ls [.int (zi (szI amount))]) rfl ?_
        refine lv_if_eq (tgt := 48) hx hb d_R_close_26 (by decide) (fun c26 => ?_) (fun c26 => ?_)
        · exact absurd c26 ((zi_n0 _).mpr k3)
        · refine lv_iload_n hx hb d_R_close_29 rfl (lv_at hl 3 rfl) ?_
          refine is_R_79 (As := [.int lim]) (rest := []) cx (r_isSize l G n0 e0 lim w) ⟨(Nat.le_of_ble_eq_true rfl), (Nat.le_of_ble_eq_true rfl)⟩ ⟨(Nat.le_of_ble_eq_true rfl), (Nat.le_of_ble_eq_true rfl)⟩ rfl hl.1 rfl (Nat.le_of_ble_eq_true rfl) d_R_close_30 hZ hS (fun v w_3 H locs hp_4 hZ hS => ?_)
          obtain ⟨rfl, hq⟩ := hp_4
          subst w_3
          refine W.eq (g2 := F0 m 33 ls [.int (zi (szI lim))]) rfl ?_
          refine lv_if_eq (tgt := 48) hx hb d_R_close_33 (by decide) (fun c33 => ?_) (fun c33 => ?_)
          · exact absurd c33 ((zi_n0 _).mpr k4)
          · refine lv_iload hx hb d_R_close_36 (lv_at hl 4 rfl) ?_
            refine lv_if_lt (tgt := 48) hx hb d_R_close_38 (by decide) (fun c38 => ?_) (fun c38 => ?_)
            · exact absurd c38 (nI_pos (by omega))
            · refine lv_iload hx hb d_R_close_41 (lv_at hl 4 rfl) ?_
              refine lv_bipush (v := 15) hx hb d_R_close_43 (by decide) ?_
              refine lv_icmp_le (tgt := 54) hx hb d_R_close_45 (by decide) (fun c45 => ?_) (fun c45 => ?_)
              · refine lv_aload_n hx hb d_R_close_54 rfl (lv_at hl 0 rfl) ?_
                refine gf_R_38 cx hZ ho rfl d_R_close_55 ?_
                refine lv_aload_n hx hb d_R_close_58 rfl (lv_at hl 0 rfl) ?_
                refine gf_R_68 cx hZ ho rfl d_R_close_59 ?_
                refine lv_iconst (v := 1) hx hb d_R_close_62 (by decide) ?_
                refine lv_isub hx hb d_R_close_63 ?_
                rw [show (((S 1) - 1) : Int32) = nI lt from by rw [hls]; exact nI_pred lt]
                refine ld_i cx hZ h9 (vp_in_nI (by omega) (by omega)) d_R_close_64 ?_
                rw [show (B (nI lt).toNatClampNeg : Int32) = B lt from by rw [nI_clamp (by first | omega | (unfold stN; omega))]]
                rw [show ((B lt) : Int32) = nI (ps 0) from hB]
                refine lv_istore (lv' := [(5, .int (nI (ps 0))), (0, .ref o), (1, .int spec), (2, .int amount), (3, .int lim), (4, .int (nI k))]) hx hb d_R_close_65 hl (by decide) rfl (fun ls hl => ?_)
                refine lv_aload_n hx hb d_R_close_67 rfl (lv_at hl 1 rfl) ?_
                refine iv_R_75 (As := []) (rest := []) cx (r_isVertical_1 l G n0 e0 w o A S L ho (fun _ => V) h10 lt (by omega) hls false hV) ho ⟨(Nat.le_of_ble_eq_true rfl), (Nat.le_of_ble_eq_true rfl)⟩ ⟨(Nat.le_of_ble_eq_true rfl), (Nat.le_of_ble_eq_true rfl)⟩ rfl hl.1 rfl (Nat.le_of_ble_eq_true rfl) d_R_close_68 hZ hS (fun v w_5 H locs hp_6 hZ hS => ?_)
                obtain ⟨rfl, hq⟩ := hp_6
                subst w_5
                refine W.eq (g2 := F0 m 71 ls [.int 0]) rfl ?_
                refine lv_istore (lv' := [(6, .int 0), (5, .int (nI (ps 0))), (0, .ref o), (1, .int spec), (2, .int amount), (3, .int lim), (4, .int (nI k))]) hx hb d_R_close_71 hl (by decide) rfl (fun ls hl => ?_)
                refine lv_iload hx hb d_R_close_73 (lv_at hl 0 rfl) ?_
                refine lv_if_eq (tgt := 88) hx hb d_R_close_75 (by decide) (fun c75 => ?_) (fun c75 => ?_)
                · refine lv_aload_n hx hb d_R_close_88 rfl (lv_at hl 2 rfl) ?_
                  refine lv_iload hx hb d_R_close_89 (lv_at hl 1 rfl) ?_
                  refine iv_R_136 (As := [.int (nI (ps 0))]) (rest := []) cx (r_measureWide l G n0 e0 w o A S L F M B V Z T ⟨ho, ⟨h0, h1, h2, h3, h4, h5, h6, h7, h8⟩, h9, h10, h11, h12⟩ hA ps n hps hpe hen hor) ho ⟨(Nat.le_of_ble_eq_true rfl), (Nat.le_of_ble_eq_true rfl)⟩ ⟨(Nat.le_of_ble_eq_true rfl), (Nat.le_of_ble_eq_true rfl)⟩ rfl hl.1 rfl (Nat.le_of_ble_eq_true rfl) d_R_close_91 hZ hS (fun v w_7 H locs hp_8 hZ hS => ?_)
                  obtain ⟨rfl, hr_9, hf_10⟩ := hp_8
                  obtain ⟨ho_11, ⟨h0_11, h1_11, h2_11, h3_11, h4_11, h5_11, h6_11, h7_11, h8_11⟩, h9_11, h10_11, h11_11, h12_11⟩ := id hr_9
                  have ho_11 : w_7 o = some (.inr (6, [.int (S 0), .ref (A 0), .ref (A 1), .ref (A 2), .ref (A 3), .ref (A 4), .ref (A 5), .ref (A 6), .ref (A 7), .ref (A 8), .int (S 1), .ref (A 9), .ref (A 10), .int (S 2), .ref (A 11), .long ((mzW F ps T n) 0), .long ((mzW F ps T n) 1), .long ((mzW F ps T n) 2), .long ((mzW F ps T n) 3), .ref (A 12), .long ((mzW F ps T n) 4)])) := ho_11
                  have hF := hF.call hf_10 (fun t ht => Or.inl ht)
                  refine W.eq (g2 := F0 m 94 ls []) rfl ?_
                  have J_122 : ∀ (H : Heap) (locs : List Loc) (x122 : Int64), Zw G.1 vwC (zA n0) w_7 H → va_S (zA n0) s.heap H locs → x122 = (closeIs spec amount ((mzW F ps T n) 0)) → W p l e ({ frames := 3, cells := 0, slots := 0, locals := 150 }) s m [.ref o, .int spec, .int amount, .int lim, .int (nI k)].toArray below meth c H locs 0 0 (MQ below (zQ G.1 vwC n0 (fun v w1 => ∃ r, v = some (.int r) ∧ (((closeG (mzW F ps T n) (glT F ps T n) (closeIs spec amount ((mzW F ps T n) 0)) (mxN (F 0) sp (ps 0) (ps n - ps 0)) (ps n + sumN sz 16)) = true ∧ r = (closeIs spec amount ((mzW F ps T n) 0)).toInt32 ∧ RA G w1 o A (upd (upd (upd S 0 0) 1 (nI lt)) 2 (nI (ps 0))) (mzW F ps T n) (cpF (hdF (mkF (emF F sz k) sz k ((ps n - ps 0) + 1)) (stN sz k) 2 ((closeIs spec amount ((mzW F ps T n) 0)).toInt32) (((mzW F ps T n) 1).toInt32) (((mzW F ps T n) 2).toInt32) (nI ((ps n - ps 0) + 1))) (ps 0) ((stN sz k) + 1) (ps n - ps 0)) (cpM (mkM (emM (shM F ps (shA (glT F ps T n) ((mzW F ps T n) 4) ((closeIs spec amount ((mzW F ps T n) 0)) - (mzW F ps T n) 0)) (shE ((mzW F ps T n) 4) ((closeIs spec amount ((mzW F ps T n) 0)) - (mzW F ps T n) 0)) (decide (0 < ((closeIs spec amount ((mzW F ps T n) 0)) - (mzW F ps T n) 0))) (hiO (glT F ps T n)) M n) sz k) sz k ((ps n - ps 0) + 1)) (ps 0) ((stN sz k) + 1) (ps n - ps 0)) B V (upd (upd Z k 0) k (nI ((ps n - ps 0) + 1))) (glT F ps T n)) ∨ ((closeG (mzW F ps T n) (glT F ps T n) (closeIs spec amount ((mzW F ps T n) 0)) (mxN (F 0) sp (ps 0) (ps n - ps 0)) (ps n + sumN sz 16)) = false ∧ RA G w1 o A (upd S 0 3) (mzW F ps T n) F M B V Z (glT F ps T n))) ∧ Fr (allR o A) w w1)) [.ref o, .int spec, .int amount, .int lim, .int (nI k)].toArray s ({ frames := 3, cells := 0, slots := 0, locals := 150 } : Room).cells ({ frames := 3, cells := 0, slots := 0, locals := 150 } : Room).slots (zA n0)) (F0 m 122 ls [.long x122]) := by
                    intro H locs x122 hZ hS hx122
                    subst hx122
                    refine lv_lstore (lv' := [(7, .long (closeIs spec amount ((mzW F ps T n) 0))), (6, .int 0), (5, .int (nI (ps 0))), (0, .ref o), (1, .int spec), (2, .int amount), (3, .int lim), (4, .int (nI k))]) hx hb d_R_close_122 hl (by decide) rfl (fun ls hl => ?_)
                    have J_210 : ∀ (H : Heap) (locs : List Loc) (x210 : Int32), Zw G.1 vwC (zA n0) w_7 H → va_S (zA n0) s.heap H locs → x210 = zi (szL ((mzW F ps T n) 0) && szL (closeIs spec amount ((mzW F ps T n) 0)) && szL ((mzW F ps T n) 4) && szL ((mzW F ps T n) 3) && szL ((mzW F ps T n) 1) && szL ((mzW F ps T n) 2) && decide ((mxN (F 0) sp (ps 0) (ps n - ps 0)) < 100) && decide (ps n + sumN sz 16 + 1 ≤ 4000)) → W p l e ({ frames := 3, cells := 0, slots := 0, locals := 150 }) s m [.ref o, .int spec, .int amount, .int lim, .int (nI k)].toArray below meth c H locs 0 0 (MQ below (zQ G.1 vwC n0 (fun v w1 => ∃ r, v = some (.int r) ∧ (((closeG (mzW F ps T n) (glT F ps T n) (closeIs spec amount ((mzW F ps T n) 0)) (mxN (F 0) sp (ps 0) (ps n - ps 0)) (ps n + sumN sz 16)) = true ∧ r = (closeIs spec amount ((mzW F ps T n) 0)).toInt32 ∧ RA G w1 o A (upd (upd (upd S 0 0) 1 (nI lt)) 2 (nI (ps 0))) (mzW F ps T n) (cpF (hdF (mkF (emF F sz k) sz k ((ps n - ps 0) + 1)) (stN sz k) 2 ((closeIs spec amount ((mzW F ps T n) 0)).toInt32) (((mzW F ps T n) 1).toInt32) (((mzW F ps T n) 2).toInt32) (nI ((ps n - ps 0) + 1))) (ps 0) ((stN sz k) + 1) (ps n - ps 0)) (cpM (mkM (emM (shM F ps (shA (glT F ps T n) ((mzW F ps T n) 4) ((closeIs spec amount ((mzW F ps T n) 0)) - (mzW F ps T n) 0)) (shE ((mzW F ps T n) 4) ((closeIs spec amount ((mzW F ps T n) 0)) - (mzW F ps T n) 0)) (decide (0 < ((closeIs spec amount ((mzW F ps T n) 0)) - (mzW F ps T n) 0))) (hiO (glT F ps T n)) M n) sz k) sz k ((ps n - ps 0) + 1)) (ps 0) ((stN sz k) + 1) (ps n - ps 0)) B V (upd (upd Z k 0) k (nI ((ps n - ps 0) + 1))) (glT F ps T n)) ∨ ((closeG (mzW F ps T n) (glT F ps T n) (closeIs spec amount ((mzW F ps T n) 0)) (mxN (F 0) sp (ps 0) (ps n - ps 0)) (ps n + sumN sz 16)) = false ∧ RA G w1 o A (upd S 0 3) (mzW F ps T n) F M B V Z (glT F ps T n))) ∧ Fr (allR o A) w w1)) [.ref o, .int spec, .int amount, .int lim, .int (nI k)].toArray s ({ frames := 3, cells := 0, slots := 0, locals := 150 } : Room).cells ({ frames := 3, cells := 0, slots := 0, locals := 150 } : Room).slots (zA n0)) (F0 m 210 ls [.int x210]) := by
                      intro H locs x210 hZ hS hx210
                      subst hx210
                      refine lv_istore (lv' := [(9, .int (zi (szL ((mzW F ps T n) 0) && szL (closeIs spec amount ((mzW F ps T n) 0)) && szL ((mzW F ps T n) 4) && szL ((mzW F ps T n) 3) && szL ((mzW F ps T n) 1) && szL ((mzW F ps T n) 2) && decide ((mxN (F 0) sp (ps 0) (ps n - ps 0)) < 100) && decide (ps n + sumN sz 16 + 1 ≤ 4000)))), (7, .long (closeIs spec amount ((mzW F ps T n) 0))), (6, .int 0), (5, .int (nI (ps 0))), (0, .ref o), (1, .int spec), (2, .int amount), (3, .int lim), (4, .int (nI k))]) hx hb d_R_close_210 hl (by decide) rfl (fun ls hl => ?_)
                      refine lv_iconst (v := 0) hx hb d_R_close_212 (by decide) ?_
                      refine lv_istore (lv' := [(10, .int 0), (9, .int (zi (szL ((mzW F ps T n) 0) && szL (closeIs spec amount ((mzW F ps T n) 0)) && szL ((mzW F ps T n) 4) && szL ((mzW F ps T n) 3) && szL ((mzW F ps T n) 1) && szL ((mzW F ps T n) 2) && decide ((mxN (F 0) sp (ps 0) (ps n - ps 0)) < 100) && decide (ps n + sumN sz 16 + 1 ≤ 4000)))), (7, .long (closeIs spec amount ((mzW F ps T n) 0))), (6, .int 0), (5, .int (nI (ps 0))), (0, .ref o), (1, .int spec), (2, .int amount), (3, .int lim), (4, .int (nI k))]) hx hb d_R_close_213 hl (by decide) rfl (fun ls hl => ?_)
                      refine lv_iload hx hb d_R_close_215 (lv_at hl 0 rfl) ?_
                      refine lv_iconst (v := 4) hx hb d_R_close_217 (by decide) ?_
                      refine lv_icmp_ge (tgt := 252) hx hb d_R_close_218 (by decide) (fun c218 => ?_) (fun c218 => ?_)
                      · exact absurd c218 (by decide)
                      · have J_244 : ∀ (H : Heap) (locs : List Loc) (x244 : Int32), Zw G.1 vwC (zA n0) w_7 H → va_S (zA n0) s.heap H locs → x244 = zi ((szL ((mzW F ps T n) 0) && szL (closeIs spec amount ((mzW F ps T n) 0)) && szL ((mzW F ps T n) 4) && szL ((mzW F ps T n) 3) && szL ((mzW F ps T n) 1) && szL ((mzW F ps T n) 2) && decide ((mxN (F 0) sp (ps 0) (ps n - ps 0)) < 100) && decide (ps n + sumN sz 16 + 1 ≤ 4000)) && szL ((glT F ps T n) (0 : Int32).toNatClampNeg)) → W p l e ({ frames := 3, cells := 0, slots := 0, locals := 150 }) s m [.ref o, .int spec, .int amount, .int lim, .int (nI k)].toArray below meth c H locs 0 0 (MQ below (zQ G.1 vwC n0 (fun v w1 => ∃ r, v = some (.int r) ∧ (((closeG (mzW F ps T n) (glT F ps T n) (closeIs spec amount ((mzW F ps T n) 0)) (mxN (F 0) sp (ps 0) (ps n - ps 0)) (ps n + sumN sz 16)) = true ∧ r = (closeIs spec amount ((mzW F ps T n) 0)).toInt32 ∧ RA G w1 o A (upd (upd (upd S 0 0) 1 (nI lt)) 2 (nI (ps 0))) (mzW F ps T n) (cpF (hdF (mkF (emF F sz k) sz k ((ps n - ps 0) + 1)) (stN sz k) 2 ((closeIs spec amount ((mzW F ps T n) 0)).toInt32) (((mzW F ps T n) 1).toInt32) (((mzW F ps T n) 2).toInt32) (nI ((ps n - ps 0) + 1))) (ps 0) ((stN sz k) + 1) (ps n - ps 0)) (cpM (mkM (emM (shM F ps (shA (glT F ps T n) ((mzW F ps T n) 4) ((closeIs spec amount ((mzW F ps T n) 0)) - (mzW F ps T n) 0)) (shE ((mzW F ps T n) 4) ((closeIs spec amount ((mzW F ps T n) 0)) - (mzW F ps T n) 0)) (decide (0 < ((closeIs spec amount ((mzW F ps T n) 0)) - (mzW F ps T n) 0))) (hiO (glT F ps T n)) M n) sz k) sz k ((ps n - ps 0) + 1)) (ps 0) ((stN sz k) + 1) (ps n - ps 0)) B V (upd (upd Z k 0) k (nI ((ps n - ps 0) + 1))) (glT F ps T n)) ∨ ((closeG (mzW F ps T n) (glT F ps T n) (closeIs spec amount ((mzW F ps T n) 0)) (mxN (F 0) sp (ps 0) (ps n - ps 0)) (ps n + sumN sz 16)) = false ∧ RA G w1 o A (upd S 0 3) (mzW F ps T n) F M B V Z (glT F ps T n))) ∧ Fr (allR o A) w w1)) [.ref o, .int spec, .int amount, .int lim, .int (nI k)].toArray s ({ frames := 3, cells := 0, slots := 0, locals := 150 } : Room).cells ({ frames := 3, cells := 0, slots := 0, locals := 150 } : Room).slots (zA n0)) (F0 m 244 ls [.int x244]) := by
                          intro H locs x244 hZ hS hx244
                          subst hx244
                          refine lv_istore (lv' := [(9, .int (zi ((szL ((mzW F ps T n) 0) && szL (closeIs spec amount ((mzW F ps T n) 0)) && szL ((mzW F ps T n) 4) && szL ((mzW F ps T n) 3) && szL ((mzW F ps T n) 1) && szL ((mzW F ps T n) 2) && decide ((mxN (F 0) sp (ps 0) (ps n - ps 0)) < 100) && decide (ps n + sumN sz 16 + 1 ≤ 4000)) && szL ((glT F ps T n) (0 : Int32).toNatClampNeg)))), (10, .int 0), (7, .long (closeIs spec amount ((mzW F ps T n) 0))), (6, .int 0), (5, .int (nI (ps 0))), (0, .ref o), (1, .int spec), (2, .int amount), (3, .int lim), (4, .int (nI k))]) hx hb d_R_close_244 hl (by decide) rfl (fun ls hl => ?_)
                          refine lv_iinc (v := 1) (lv' := [(10, .int 1), (9, .int (zi ((szL ((mzW F ps T n) 0) && szL (closeIs spec amount ((mzW F ps T n) 0)) && szL ((mzW F ps T n) 4) && szL ((mzW F ps T n) 3) && szL ((mzW F ps T n) 1) && szL ((mzW F ps T n) 2) && decide ((mxN (F 0) sp (ps 0) (ps n - ps 0)) < 100) && decide (ps n + sumN sz 16 + 1 ≤ 4000)) && szL ((glT F ps T n) (0 : Int32).toNatClampNeg)))), (7, .long (closeIs spec amount ((mzW F ps T n) 0))), (6, .int 0), (5, .int (nI (ps 0))), (0, .ref o), (1, .int spec), (2, .int amount), (3, .int lim), (4, .int (nI k))]) hx hb d_R_close_246 hl (k := 1) rfl (by decide) (by decide) rfl (fun ls hl => ?_)
                          refine lv_goto (tgt := 215) hx hb d_R_close_249 (by decide) ?_
                          refine lv_iload hx hb d_R_close_215 (lv_at hl 0 rfl) ?_
                          refine lv_iconst (v := 4) hx hb d_R_close_217 (by decide) ?_
                          refine lv_icmp_ge (tgt := 252) hx hb d_R_close_218 (by decide) (fun c218_1 => ?_) (fun c218_1 => ?_)
                          · exact absurd c218_1 (by decide)
                          · have J_244 : ∀ (H : Heap) (locs : List Loc) (x244 : Int32), Zw G.1 vwC (zA n0) w_7 H → va_S (zA n0) s.heap H locs → x244 = zi (((szL ((mzW F ps T n) 0) && szL (closeIs spec amount ((mzW F ps T n) 0)) && szL ((mzW F ps T n) 4) && szL ((mzW F ps T n) 3) && szL ((mzW F ps T n) 1) && szL ((mzW F ps T n) 2) && decide ((mxN (F 0) sp (ps 0) (ps n - ps 0)) < 100) && decide (ps n + sumN sz 16 + 1 ≤ 4000)) && szL ((glT F ps T n) (0 : Int32).toNatClampNeg)) && szL ((glT F ps T n) (1 : Int32).toNatClampNeg)) → W p l e ({ frames := 3, cells := 0, slots := 0, locals := 150 }) s m [.ref o, .int spec, .int amount, .int lim, .int (nI k)].toArray below meth c H locs 0 0 (MQ below (zQ G.1 vwC n0 (fun v w1 => ∃ r, v = some (.int r) ∧ (((closeG (mzW F ps T n) (glT F ps T n) (closeIs spec amount ((mzW F ps T n) 0)) (mxN (F 0) sp (ps 0) (ps n - ps 0)) (ps n + sumN sz 16)) = true ∧ r = (closeIs spec amount ((mzW F ps T n) 0)).toInt32 ∧ RA G w1 o A (upd (upd (upd S 0 0) 1 (nI lt)) 2 (nI (ps 0))) (mzW F ps T n) (cpF (hdF (mkF (emF F sz k) sz k ((ps n - ps 0) + 1)) (stN sz k) 2 ((closeIs spec amount ((mzW F ps T n) 0)).toInt32) (((mzW F ps T n) 1).toInt32) (((mzW F ps T n) 2).toInt32) (nI ((ps n - ps 0) + 1))) (ps 0) ((stN sz k) + 1) (ps n - ps 0)) (cpM (mkM (emM (shM F ps (shA (glT F ps T n) ((mzW F ps T n) 4) ((closeIs spec amount ((mzW F ps T n) 0)) - (mzW F ps T n) 0)) (shE ((mzW F ps T n) 4) ((closeIs spec amount ((mzW F ps T n) 0)) - (mzW F ps T n) 0)) (decide (0 < ((closeIs spec amount ((mzW F ps T n) 0)) - (mzW F ps T n) 0))) (hiO (glT F ps T n)) M n) sz k) sz k ((ps n - ps 0) + 1)) (ps 0) ((stN sz k) + 1) (ps n - ps 0)) B V (upd (upd Z k 0) k (nI ((ps n - ps 0) + 1))) (glT F ps T n)) ∨ ((closeG (mzW F ps T n) (glT F ps T n) (closeIs spec amount ((mzW F ps T n) 0)) (mxN (F 0) sp (ps 0) (ps n - ps 0)) (ps n + sumN sz 16)) = false ∧ RA G w1 o A (upd S 0 3) (mzW F ps T n) F M B V Z (glT F ps T n))) ∧ Fr (allR o A) w w1)) [.ref o, .int spec, .int amount, .int lim, .int (nI k)].toArray s ({ frames := 3, cells := 0, slots := 0, locals := 150 } : Room).cells ({ frames := 3, cells := 0, slots := 0, locals := 150 } : Room).slots (zA n0)) (F0 m 244 ls [.int x244]) := by
                              intro H locs x244 hZ hS hx244
                              subst hx244
                              refine lv_istore (lv' := [(9, .int (zi (((szL ((mzW F ps T n) 0) && szL (closeIs spec amount ((mzW F ps T n) 0)) && szL ((mzW F ps T n) 4) && szL ((mzW F ps T n) 3) && szL ((mzW F ps T n) 1) && szL ((mzW F ps T n) 2) && decide ((mxN (F 0) sp (ps 0) (ps n - ps 0)) < 100) && decide (ps n + sumN sz 16 + 1 ≤ 4000)) && szL ((glT F ps T n) (0 : Int32).toNatClampNeg)) && szL ((glT F ps T n) (1 : Int32).toNatClampNeg)))), (10, .int 1), (7, .long (closeIs spec amount ((mzW F ps T n) 0))), (6, .int 0), (5, .int (nI (ps 0))), (0, .ref o), (1, .int spec), (2, .int amount), (3, .int lim), (4, .int (nI k))]) hx hb d_R_close_244 hl (by decide) rfl (fun ls hl => ?_)
                              refine lv_iinc (v := 2) (lv' := [(10, .int 2), (9, .int (zi (((szL ((mzW F ps T n) 0) && szL (closeIs spec amount ((mzW F ps T n) 0)) && szL ((mzW F ps T n) 4) && szL ((mzW F ps T n) 3) && szL ((mzW F ps T n) 1) && szL ((mzW F ps T n) 2) && decide ((mxN (F 0) sp (ps 0) (ps n - ps 0)) < 100) && decide (ps n + sumN sz 16 + 1 ≤ 4000)) && szL ((glT F ps T n) (0 : Int32).toNatClampNeg)) && szL ((glT F ps T n) (1 : Int32).toNatClampNeg)))), (7, .long (closeIs spec amount ((mzW F ps T n) 0))), (6, .int 0), (5, .int (nI (ps 0))), (0, .ref o), (1, .int spec), (2, .int amount), (3, .int lim), (4, .int (nI k))]) hx hb d_R_close_246 hl (k := 1) rfl (by decide) (by decide) rfl (fun ls hl => ?_)
                              refine lv_goto (tgt := 215) hx hb d_R_close_249 (by decide) ?_
                              refine lv_iload hx hb d_R_close_215 (lv_at hl 0 rfl) ?_
                              refine lv_iconst (v := 4) hx hb d_R_close_217 (by decide) ?_
                              refine lv_icmp_ge (tgt := 252) hx hb d_R_close_218 (by decide) (fun c218_2 => ?_) (fun c218_2 => ?_)
                              · exact absurd c218_2 (by decide)
                              · have J_244 : ∀ (H : Heap) (locs : List Loc) (x244 : Int32), Zw G.1 vwC (zA n0) w_7 H → va_S (zA n0) s.heap H locs → x244 = zi ((((szL ((mzW F ps T n) 0) && szL (closeIs spec amount ((mzW F ps T n) 0)) && szL ((mzW F ps T n) 4) && szL ((mzW F ps T n) 3) && szL ((mzW F ps T n) 1) && szL ((mzW F ps T n) 2) && decide ((mxN (F 0) sp (ps 0) (ps n - ps 0)) < 100) && decide (ps n + sumN sz 16 + 1 ≤ 4000)) && szL ((glT F ps T n) (0 : Int32).toNatClampNeg)) && szL ((glT F ps T n) (1 : Int32).toNatClampNeg)) && szL ((glT F ps T n) (2 : Int32).toNatClampNeg)) → W p l e ({ frames := 3, cells := 0, slots := 0, locals := 150 }) s m [.ref o, .int spec, .int amount, .int lim, .int (nI k)].toArray below meth c H locs 0 0 (MQ below (zQ G.1 vwC n0 (fun v w1 => ∃ r, v = some (.int r) ∧ (((closeG (mzW F ps T n) (glT F ps T n) (closeIs spec amount ((mzW F ps T n) 0)) (mxN (F 0) sp (ps 0) (ps n - ps 0)) (ps n + sumN sz 16)) = true ∧ r = (closeIs spec amount ((mzW F ps T n) 0)).toInt32 ∧ RA G w1 o A (upd (upd (upd S 0 0) 1 (nI lt)) 2 (nI (ps 0))) (mzW F ps T n) (cpF (hdF (mkF (emF F sz k) sz k ((ps n - ps 0) + 1)) (stN sz k) 2 ((closeIs spec amount ((mzW F ps T n) 0)).toInt32) (((mzW F ps T n) 1).toInt32) (((mzW F ps T n) 2).toInt32) (nI ((ps n - ps 0) + 1))) (ps 0) ((stN sz k) + 1) (ps n - ps 0)) (cpM (mkM (emM (shM F ps (shA (glT F ps T n) ((mzW F ps T n) 4) ((closeIs spec amount ((mzW F ps T n) 0)) - (mzW F ps T n) 0)) (shE ((mzW F ps T n) 4) ((closeIs spec amount ((mzW F ps T n) 0)) - (mzW F ps T n) 0)) (decide (0 < ((closeIs spec amount ((mzW F ps T n) 0)) - (mzW F ps T n) 0))) (hiO (glT F ps T n)) M n) sz k) sz k ((ps n - ps 0) + 1)) (ps 0) ((stN sz k) + 1) (ps n - ps 0)) B V (upd (upd Z k 0) k (nI ((ps n - ps 0) + 1))) (glT F ps T n)) ∨ ((closeG (mzW F ps T n) (glT F ps T n) (closeIs spec amount ((mzW F ps T n) 0)) (mxN (F 0) sp (ps 0) (ps n - ps 0)) (ps n + sumN sz 16)) = false ∧ RA G w1 o A (upd S 0 3) (mzW F ps T n) F M B V Z (glT F ps T n))) ∧ Fr (allR o A) w w1)) [.ref o, .int spec, .int amount, .int lim, .int (nI k)].toArray s ({ frames := 3, cells := 0, slots := 0, locals := 150 } : Room).cells ({ frames := 3, cells := 0, slots := 0, locals := 150 } : Room).slots (zA n0)) (F0 m 244 ls [.int x244]) := by
                                  intro H locs x244 hZ hS hx244
                                  subst hx244
                                  refine lv_istore (lv' := [(9, .int (zi ((((szL ((mzW F ps T n) 0) && szL (closeIs spec amount ((mzW F ps T n) 0)) && szL ((mzW F ps T n) 4) && szL ((mzW F ps T n) 3) && szL ((mzW F ps T n) 1) && szL ((mzW F ps T n) 2) && decide ((mxN (F 0) sp (ps 0) (ps n - ps 0)) < 100) && decide (ps n + sumN sz 16 + 1 ≤ 4000)) && szL ((glT F ps T n) (0 : Int32).toNatClampNeg)) && szL ((glT F ps T n) (1 : Int32).toNatClampNeg)) && szL ((glT F ps T n) (2 : Int32).toNatClampNeg)))), (10, .int 2), (7, .long (closeIs spec amount ((mzW F ps T n) 0))), (6, .int 0), (5, .int (nI (ps 0))), (0, .ref o), (1, .int spec), (2, .int amount), (3, .int lim), (4, .int (nI k))]) hx hb d_R_close_244 hl (by decide) rfl (fun ls hl => ?_)
                                  refine lv_iinc (v := 3) (lv' := [(10, .int 3), (9, .int (zi ((((szL ((mzW F ps T n) 0) && szL (closeIs spec amount ((mzW F ps T n) 0)) && szL ((mzW F ps T n) 4) && szL ((mzW F ps T n) 3) && szL ((mzW F ps T n) 1) && szL ((mzW F ps T n) 2) && decide ((mxN (F 0) sp (ps 0) (ps n - ps 0)) < 100) && decide (ps n + sumN sz 16 + 1 ≤ 4000)) && szL ((glT F ps T n) (0 : Int32).toNatClampNeg)) && szL ((glT F ps T n) (1 : Int32).toNatClampNeg)) && szL ((glT F ps T n) (2 : Int32).toNatClampNeg)))), (7, .long (closeIs spec amount ((mzW F ps T n) 0))), (6, .int 0), (5, .int (nI (ps 0))), (0, .ref o), (1, .int spec), (2, .int amount), (3, .int lim), (4, .int (nI k))]) hx hb d_R_close_246 hl (k := 1) rfl (by decide) (by decide) rfl (fun ls hl => ?_)
                                  refine lv_goto (tgt := 215) hx hb d_R_close_249 (by decide) ?_
                                  refine lv_iload hx hb d_R_close_215 (lv_at hl 0 rfl) ?_
                                  refine lv_iconst (v := 4) hx hb d_R_close_217 (by decide) ?_
                                  refine lv_icmp_ge (tgt := 252) hx hb d_R_close_218 (by decide) (fun c218_3 => ?_) (fun c218_3 => ?_)
                                  · exact absurd c218_3 (by decide)
                                  · have J_244 : ∀ (H : Heap) (locs : List Loc) (x244 : Int32), Zw G.1 vwC (zA n0) w_7 H → va_S (zA n0) s.heap H locs → x244 = zi (((((szL ((mzW F ps T n) 0) && szL (closeIs spec amount ((mzW F ps T n) 0)) && szL ((mzW F ps T n) 4) && szL ((mzW F ps T n) 3) && szL ((mzW F ps T n) 1) && szL ((mzW F ps T n) 2) && decide ((mxN (F 0) sp (ps 0) (ps n - ps 0)) < 100) && decide (ps n + sumN sz 16 + 1 ≤ 4000)) && szL ((glT F ps T n) (0 : Int32).toNatClampNeg)) && szL ((glT F ps T n) (1 : Int32).toNatClampNeg)) && szL ((glT F ps T n) (2 : Int32).toNatClampNeg)) && szL ((glT F ps T n) (3 : Int32).toNatClampNeg)) → W p l e ({ frames := 3, cells := 0, slots := 0, locals := 150 }) s m [.ref o, .int spec, .int amount, .int lim, .int (nI k)].toArray below meth c H locs 0 0 (MQ below (zQ G.1 vwC n0 (fun v w1 => ∃ r, v = some (.int r) ∧ (((closeG (mzW F ps T n) (glT F ps T n) (closeIs spec amount ((mzW F ps T n) 0)) (mxN (F 0) sp (ps 0) (ps n - ps 0)) (ps n + sumN sz 16)) = true ∧ r = (closeIs spec amount ((mzW F ps T n) 0)).toInt32 ∧ RA G w1 o A (upd (upd (upd S 0 0) 1 (nI lt)) 2 (nI (ps 0))) (mzW F ps T n) (cpF (hdF (mkF (emF F sz k) sz k ((ps n - ps 0) + 1)) (stN sz k) 2 ((closeIs spec amount ((mzW F ps T n) 0)).toInt32) (((mzW F ps T n) 1).toInt32) (((mzW F ps T n) 2).toInt32) (nI ((ps n - ps 0) + 1))) (ps 0) ((stN sz k) + 1) (ps n - ps 0)) (cpM (mkM (emM (shM F ps (shA (glT F ps T n) ((mzW F ps T n) 4) ((closeIs spec amount ((mzW F ps T n) 0)) - (mzW F ps T n) 0)) (shE ((mzW F ps T n) 4) ((closeIs spec amount ((mzW F ps T n) 0)) - (mzW F ps T n) 0)) (decide (0 < ((closeIs spec amount ((mzW F ps T n) 0)) - (mzW F ps T n) 0))) (hiO (glT F ps T n)) M n) sz k) sz k ((ps n - ps 0) + 1)) (ps 0) ((stN sz k) + 1) (ps n - ps 0)) B V (upd (upd Z k 0) k (nI ((ps n - ps 0) + 1))) (glT F ps T n)) ∨ ((closeG (mzW F ps T n) (glT F ps T n) (closeIs spec amount ((mzW F ps T n) 0)) (mxN (F 0) sp (ps 0) (ps n - ps 0)) (ps n + sumN sz 16)) = false ∧ RA G w1 o A (upd S 0 3) (mzW F ps T n) F M B V Z (glT F ps T n))) ∧ Fr (allR o A) w w1)) [.ref o, .int spec, .int amount, .int lim, .int (nI k)].toArray s ({ frames := 3, cells := 0, slots := 0, locals := 150 } : Room).cells ({ frames := 3, cells := 0, slots := 0, locals := 150 } : Room).slots (zA n0)) (F0 m 244 ls [.int x244]) := by
                                      intro H locs x244 hZ hS hx244
                                      subst hx244
                                      refine lv_istore (lv' := [(9, .int (zi (((((szL ((mzW F ps T n) 0) && szL (closeIs spec amount ((mzW F ps T n) 0)) && szL ((mzW F ps T n) 4) && szL ((mzW F ps T n) 3) && szL ((mzW F ps T n) 1) && szL ((mzW F ps T n) 2) && decide ((mxN (F 0) sp (ps 0) (ps n - ps 0)) < 100) && decide (ps n + sumN sz 16 + 1 ≤ 4000)) && szL ((glT F ps T n) (0 : Int32).toNatClampNeg)) && szL ((glT F ps T n) (1 : Int32).toNatClampNeg)) && szL ((glT F ps T n) (2 : Int32).toNatClampNeg)) && szL ((glT F ps T n) (3 : Int32).toNatClampNeg)))), (10, .int 3), (7, .long (closeIs spec amount ((mzW F ps T n) 0))), (6, .int 0), (5, .int (nI (ps 0))), (0, .ref o), (1, .int spec), (2, .int amount), (3, .int lim), (4, .int (nI k))]) hx hb d_R_close_244 hl (by decide) rfl (fun ls hl => ?_)
                                      refine lv_iinc (v := 4) (lv' := [(10, .int 4), (9, .int (zi (((((szL ((mzW F ps T n) 0) && szL (closeIs spec amount ((mzW F ps T n) 0)) && szL ((mzW F ps T n) 4) && szL ((mzW F ps T n) 3) && szL ((mzW F ps T n) 1) && szL ((mzW F ps T n) 2) && decide ((mxN (F 0) sp (ps 0) (ps n - ps 0)) < 100) && decide (ps n + sumN sz 16 + 1 ≤ 4000)) && szL ((glT F ps T n) (0 : Int32).toNatClampNeg)) && szL ((glT F ps T n) (1 : Int32).toNatClampNeg)) && szL ((glT F ps T n) (2 : Int32).toNatClampNeg)) && szL ((glT F ps T n) (3 : Int32).toNatClampNeg)))), (7, .long (closeIs spec amount ((mzW F ps T n) 0))), (6, .int 0), (5, .int (nI (ps 0))), (0, .ref o), (1, .int spec), (2, .int amount), (3, .int lim), (4, .int (nI k))]) hx hb d_R_close_246 hl (k := 1) rfl (by decide) (by decide) rfl (fun ls hl => ?_)
                                      refine lv_goto (tgt := 215) hx hb d_R_close_249 (by decide) ?_
                                      refine lv_iload hx hb d_R_close_215 (lv_at hl 0 rfl) ?_
                                      refine lv_iconst (v := 4) hx hb d_R_close_217 (by decide) ?_
                                      refine lv_icmp_ge (tgt := 252) hx hb d_R_close_218 (by decide) (fun c218_4 => ?_) (fun c218_4 => ?_)
                                      · refine lv_iload hx hb d_R_close_252 (lv_at hl 1 rfl) ?_
                                        refine lv_if_ne (tgt := 263) hx hb d_R_close_254 (by decide) (fun c254 => ?_) (fun c254 => ?_)
                                        · have hg : (closeG (mzW F ps T n) (glT F ps T n) (closeIs spec amount ((mzW F ps T n) 0)) (mxN (F 0) sp (ps 0) (ps n - ps 0)) (ps n + sumN sz 16)) = true := (zi_n0 _).mp c254
                                          have hg2 := hg
                                          simp only [closeG, Bool.and_eq_true, decide_eq_true_eq] at hg2
                                          obtain ⟨⟨⟨⟨⟨⟨⟨⟨⟨⟨⟨g1, g2⟩, g3⟩, g4⟩, g5⟩, g6⟩, g7⟩, g8⟩, g9⟩, g10⟩, g11⟩, g12⟩ := hg2
                                          refine lv_aload_n hx hb d_R_close_263 rfl (lv_at hl 5 rfl) ?_
                                          refine lv_iconst (v := 0) hx hb d_R_close_264 (by decide) ?_
                                          refine pf_R_51 cx hZ hS ho_11 (Nat.le_of_ble_eq_true rfl) d_R_close_265 (fun w_12 H locs hw_13 hZ hS => ?_)
                                          have hk_14 : w_12 (A 0) = some (.inl (G.2 0, 8200, .inl (F 0))) := up_ne hw_13 h0_11 (z_ne h0_11 ho_11 (by simp))
                                          have hk_15 : w_12 (A 1) = some (.inl (G.2 0, 8200, .inl (F 1))) := up_ne hw_13 h1_11 (z_ne h1_11 ho_11 (by simp))
                                          have hk_16 : w_12 (A 2) = some (.inl (G.2 0, 8200, .inl (F 2))) := up_ne hw_13 h2_11 (z_ne h2_11 ho_11 (by simp))
                                          have hk_17 : w_12 (A 3) = some (.inl (G.2 0, 8200, .inl (F 3))) := up_ne hw_13 h3_11 (z_ne h3_11 ho_11 (by simp))
                                          have hk_18 : w_12 (A 4) = some (.inl (G.2 0, 8200, .inl (F 4))) := up_ne hw_13 h4_11 (z_ne h4_11 ho_11 (by simp))
                                          have hk_19 : w_12 (A 5) = some (.inl (G.2 0, 8200, .inl (F 5))) := up_ne hw_13 h5_11 (z_ne h5_11 ho_11 (by simp))
                                          have hk_20 : w_12 (A 6) = some (.inl (G.2 0, 8200, .inl (F 6))) := up_ne hw_13 h6_11 (z_ne h6_11 ho_11 (by simp))
                                          have hk_21 : w_12 (A 7) = some (.inl (G.2 1, 8200, .inr (.inl M))) := up_ne hw_13 h7_11 (z_ne h7_11 ho_11 (by simp))
                                          have hk_22 : w_12 (A 8) = some (.inl (G.2 0, 8200, .inl (F 8))) := up_ne hw_13 h8_11 (z_ne h8_11 ho_11 (by simp))
                                          have hk_23 : w_12 (A 9) = some (.inl (G.2 0, 101, .inl B)) := up_ne hw_13 h9_11 (z_ne h9_11 ho_11 (by simp))
                                          have hk_24 : w_12 (A 10) = some (.inl (G.2 2, 101, .inl V)) := up_ne hw_13 h10_11 (z_ne h10_11 ho_11 (by simp))
                                          have hk_25 : w_12 (A 11) = some (.inl (G.2 0, 16, .inl Z)) := up_ne hw_13 h11_11 (z_ne h11_11 ho_11 (by simp))
                                          have hk_26 : w_12 (A 12) = some (.inl (G.2 1, 4, .inr (.inl (glT F ps T n)))) := up_ne hw_13 h12_11 (z_ne h12_11 ho_11 (by simp))
                                          have hF := hF.put hw_13 (Or.inl (by simp))
                                          have hc_27 : w_12 o = some (.inr (6, [.int 0, .ref (A 0), .ref (A 1), .ref (A 2), .ref (A 3), .ref (A 4), .ref (A 5), .ref (A 6), .ref (A 7), .ref (A 8), .int (S 1), .ref (A 9), .ref (A 10), .int (S 2), .ref (A 11), .long ((mzW F ps T n) 0), .long ((mzW F ps T n) 1), .long ((mzW F ps T n) 2), .long ((mzW F ps T n) 3), .ref (A 12), .long ((mzW F ps T n) 4)])) := up_self hw_13
                                          refine lv_aload_n hx hb d_R_close_268 rfl (lv_at hl 5 rfl) ?_
                                          refine lv_iload hx hb d_R_close_269 (lv_at hl 4 rfl) ?_
                                          refine lv_lload hx hb d_R_close_271 (lv_at hl 2 rfl) ?_
                                          refine lv_aload_n hx hb d_R_close_273 rfl (lv_at hl 5 rfl) ?_
                                          refine gf_R_90 cx hZ hc_27 rfl d_R_close_274 ?_
                                          refine lv_lsub hx hb d_R_close_277 ?_
                                          refine iv_R_147 (As := [.int (nI (ps 0)), .long ((closeIs spec amount ((mzW F ps T n) 0)) - ((mzW F ps T n) 0))]) (rest := []) cx (r_share l G n0 e0 w_12 o A (upd S 0 0) (mzW F ps T n) F M B V Z (glT F ps T n) ⟨hc_27, ⟨hk_14, hk_15, hk_16, hk_17, hk_18, hk_19, hk_20, hk_21, hk_22⟩, hk_23, hk_24, hk_25, hk_26⟩ hA ps n hps hpe hen ((closeIs spec amount ((mzW F ps T n) 0)) - (mzW F ps T n) 0) (shA_ne g9 g10 g11 g12 g3)) hc_27 ⟨(Nat.le_of_ble_eq_true rfl), (Nat.le_of_ble_eq_true rfl)⟩ ⟨(Nat.le_of_ble_eq_true rfl), (Nat.le_of_ble_eq_true rfl)⟩ rfl hl.1 rfl (Nat.le_of_ble_eq_true rfl) d_R_close_278 hZ hS (fun v w_28 H locs hp_29 hZ hS => ?_)
                                          obtain ⟨rfl, hr_30, hf_31⟩ := hp_29
                                          obtain ⟨ho_32, ⟨h0_32, h1_32, h2_32, h3_32, h4_32, h5_32, h6_32, h7_32, h8_32⟩, h9_32, h10_32, h11_32, h12_32⟩ := id hr_30
                                          have ho_32 : w_28 o = some (.inr (6, [.int 0, .ref (A 0), .ref (A 1), .ref (A 2), .ref (A 3), .ref (A 4), .ref (A 5), .ref (A 6), .ref (A 7), .ref (A 8), .int (S 1), .ref (A 9), .ref (A 10), .int (S 2), .ref (A 11), .long ((mzW F ps T n) 0), .long ((mzW F ps T n) 1), .long ((mzW F ps T n) 2), .long ((mzW F ps T n) 3), .ref (A 12), .long ((mzW F ps T n) 4)])) := ho_32
                                          have hF := hF.call hf_31 (fun t ht => Or.inl ht)
                                          refine W.eq (g2 := F0 m 281 ls []) rfl ?_
                                          refine lv_aload_n hx hb d_R_close_281 rfl (lv_at hl 5 rfl) ?_
                                          refine lv_iload hx hb d_R_close_282 (lv_at hl 9 rfl) ?_
                                          refine iv_R_151 (As := [.int (nI k)]) (rest := []) cx (r_empty l G n0 e0 w_28 o A (upd S 0 0) (mzW F ps T n) F (shM F ps (shA (glT F ps T n) ((mzW F ps T n) 4) ((closeIs spec amount ((mzW F ps T n) 0)) - (mzW F ps T n) 0)) (shE ((mzW F ps T n) 4) ((closeIs spec amount ((mzW F ps T n) 0)) - (mzW F ps T n) 0)) (decide (0 < ((closeIs spec amount ((mzW F ps T n) 0)) - (mzW F ps T n) 0))) (hiO (glT F ps T n)) M n) B V Z (glT F ps T n) ⟨ho_32, ⟨h0_32, h1_32, h2_32, h3_32, h4_32, h5_32, h6_32, h7_32, h8_32⟩, h9_32, h10_32, h11_32, h12_32⟩ hA sz hsz hsum k hk) ho_32 ⟨(Nat.le_of_ble_eq_true rfl), (Nat.le_of_ble_eq_true rfl)⟩ ⟨(Nat.le_of_ble_eq_true rfl), (Nat.le_of_ble_eq_true rfl)⟩ rfl hl.1 rfl (Nat.le_of_ble_eq_true rfl) d_R_close_284 hZ hS (fun v w_33 H locs hp_34 hZ hS => ?_)
                                          obtain ⟨rfl, hr_35, hf_36⟩ := hp_34
                                          obtain ⟨ho_37, ⟨h0_37, h1_37, h2_37, h3_37, h4_37, h5_37, h6_37, h7_37, h8_37⟩, h9_37, h10_37, h11_37, h12_37⟩ := id hr_35
                                          have ho_37 : w_33 o = some (.inr (6, [.int 0, .ref (A 0), .ref (A 1), .ref (A 2), .ref (A 3), .ref (A 4), .ref (A 5), .ref (A 6), .ref (A 7), .ref (A 8), .int (S 1), .ref (A 9), .ref (A 10), .int (S 2), .ref (A 11), .long ((mzW F ps T n) 0), .long ((mzW F ps T n) 1), .long ((mzW F ps T n) 2), .long ((mzW F ps T n) 3), .ref (A 12), .long ((mzW F ps T n) 4)])) := ho_37
                                          have hF := hF.call hf_36 (fun t ht => Or.inl ht)
                                          refine W.eq (g2 := F0 m 287 ls []) rfl ?_
                                          refine lv_aload_n hx hb d_R_close_287 rfl (lv_at hl 5 rfl) ?_
                                          refine gf_R_61 cx hZ ho_37 rfl d_R_close_288 ?_
                                          refine lv_iload hx hb d_R_close_291 (lv_at hl 4 rfl) ?_
                                          refine lv_isub hx hb d_R_close_293 ?_
                                          rw [show (((S 2) - (nI (ps 0))) : Int32) = nI (ps n - ps 0) from by rw [hen]; exact nI_subN hle]
                                          refine lv_istore (lv' := [(10, .int (nI (ps n - ps 0))), (9, .int (zi (((((szL ((mzW F ps T n) 0) && szL (closeIs spec amount ((mzW F ps T n) 0)) && szL ((mzW F ps T n) 4) && szL ((mzW F ps T n) 3) && szL ((mzW F ps T n) 1) && szL ((mzW F ps T n) 2) && decide ((mxN (F 0) sp (ps 0) (ps n - ps 0)) < 100) && decide (ps n + sumN sz 16 + 1 ≤ 4000)) && szL ((glT F ps T n) (0 : Int32).toNatClampNeg)) && szL ((glT F ps T n) (1 : Int32).toNatClampNeg)) && szL ((glT F ps T n) (2 : Int32).toNatClampNeg)) && szL ((glT F ps T n) (3 : Int32).toNatClampNeg)))), (7, .long (closeIs spec amount ((mzW F ps T n) 0))), (6, .int 0), (5, .int (nI (ps 0))), (0, .ref o), (1, .int spec), (2, .int amount), (3, .int lim), (4, .int (nI k))]) hx hb d_R_close_294 hl (by decide) rfl (fun ls hl => ?_)
                                          refine lv_aload_n hx hb d_R_close_296 rfl (lv_at hl 5 rfl) ?_
                                          refine lv_iload hx hb d_R_close_297 (lv_at hl 9 rfl) ?_
                                          refine lv_iload hx hb d_R_close_299 (lv_at hl 0 rfl) ?_
                                          refine lv_iconst (v := 1) hx hb d_R_close_301 (by decide) ?_
                                          refine lv_iadd hx hb d_R_close_302 ?_
                                          rw [show (((nI (ps n - ps 0)) + 1) : Int32) = nI ((ps n - ps 0) + 1) from nI_1 _]
                                          refine iv_R_154 (As := [.int (nI k), .int (nI ((ps n - ps 0) + 1))]) (rest := []) cx (r_make2 l G n0 e0 w_33 o A (upd S 0 0) (mzW F ps T n) (emF F sz k) (emM (shM F ps (shA (glT F ps T n) ((mzW F ps T n) 4) ((closeIs spec amount ((mzW F ps T n) 0)) - (mzW F ps T n) 0)) (shE ((mzW F ps T n) 4) ((closeIs spec amount ((mzW F ps T n) 0)) - (mzW F ps T n) 0)) (decide (0 < ((closeIs spec amount ((mzW F ps T n) 0)) - (mzW F ps T n) 0))) (hiO (glT F ps T n)) M n) sz k) B V Z (glT F ps T n) k ⟨ho_37, ⟨h0_37, h1_37, h2_37, h3_37, h4_37, h5_37, h6_37, h7_37, h8_37⟩, h9_37, h10_37, h11_37, h12_37⟩ hA sz hsz hk ((ps n - ps 0) + 1) (by omega) hsum) ho_37 ⟨(Nat.le_of_ble_eq_true rfl), (Nat.le_of_ble_eq_true rfl)⟩ ⟨(Nat.le_of_ble_eq_true rfl), (Nat.le_of_ble_eq_true rfl)⟩ rfl hl.1 rfl (Nat.le_of_ble_eq_true rfl) d_R_close_303 hZ hS (fun v w_38 H locs hp_39 hZ hS => ?_)
                                          obtain ⟨rfl, hr_40, hf_41⟩ := hp_39
                                          obtain ⟨ho_42, ⟨h0_42, h1_42, h2_42, h3_42, h4_42, h5_42, h6_42, h7_42, h8_42⟩, h9_42, h10_42, h11_42, h12_42⟩ := id hr_40
                                          have ho_42 : w_38 o = some (.inr (6, [.int 0, .ref (A 0), .ref (A 1), .ref (A 2), .ref (A 3), .ref (A 4), .ref (A 5), .ref (A 6), .ref (A 7), .ref (A 8), .int (S 1), .ref (A 9), .ref (A 10), .int (S 2), .ref (A 11), .long ((mzW F ps T n) 0), .long ((mzW F ps T n) 1), .long ((mzW F ps T n) 2), .long ((mzW F ps T n) 3), .ref (A 12), .long ((mzW F ps T n) 4)])) := ho_42
                                          have hF := hF.call hf_41 (fun t ht => Or.inl ht)
                                          refine W.eq (g2 := F0 m 306 ls []) rfl ?_
                                          refine lv_aload_n hx hb d_R_close_306 rfl (lv_at hl 5 rfl) ?_
                                          refine lv_iload hx hb d_R_close_307 (lv_at hl 9 rfl) ?_
                                          refine iv_R_122 (As := [.int (nI k)]) (rest := []) cx (r_startN l G n0 e0 w_38 o A (upd S 0 0) (mzW F ps T n) ho_42 (upd (upd Z k 0) k (nI ((ps n - ps 0) + 1))) h11_42 (szU sz k ((ps n - ps 0) + 1)) (hsz_UU hsz) k (by omega)) ho_42 ⟨(Nat.le_of_ble_eq_true rfl), (Nat.le_of_ble_eq_true rfl)⟩ ⟨(Nat.le_of_ble_eq_true rfl), (Nat.le_of_ble_eq_true rfl)⟩ rfl hl.1 rfl (Nat.le_of_ble_eq_true rfl) d_R_close_309 hZ hS (fun v w_43 H locs hp_44 hZ hS => ?_)
                                          obtain ⟨rfl, hq⟩ := hp_44
                                          subst w_43
                                          refine W.eq (g2 := F0 m 312 ls [.int (nI (stN (szU sz k ((ps n - ps 0) + 1)) k))]) rfl ?_
                                          rw [show ((nI (stN (szU sz k ((ps n - ps 0) + 1)) k)) : Int32) = nI (stN sz k) from by rw [stN_U (Nat.le_refl _)]]
                                          refine lv_istore (lv' := [(11, .int (nI (stN sz k))), (10, .int (nI (ps n - ps 0))), (9, .int (zi (((((szL ((mzW F ps T n) 0) && szL (closeIs spec amount ((mzW F ps T n) 0)) && szL ((mzW F ps T n) 4) && szL ((mzW F ps T n) 3) && szL ((mzW F ps T n) 1) && szL ((mzW F ps T n) 2) && decide ((mxN (F 0) sp (ps 0) (ps n - ps 0)) < 100) && decide (ps n + sumN sz 16 + 1 ≤ 4000)) && szL ((glT F ps T n) (0 : Int32).toNatClampNeg)) && szL ((glT F ps T n) (1 : Int32).toNatClampNeg)) && szL ((glT F ps T n) (2 : Int32).toNatClampNeg)) && szL ((glT F ps T n) (3 : Int32).toNatClampNeg)))), (7, .long (closeIs spec amount ((mzW F ps T n) 0))), (6, .int 0), (5, .int (nI (ps 0))), (0, .ref o), (1, .int spec), (2, .int amount), (3, .int lim), (4, .int (nI k))]) hx hb d_R_close_312 hl (by decide) rfl (fun ls hl => ?_)
                                          refine lv_aload_n hx hb d_R_close_314 rfl (lv_at hl 6 rfl) ?_
                                          refine gf_R_7 cx hZ ho_42 rfl d_R_close_315 ?_
                                          refine lv_iload hx hb d_R_close_318 (lv_at hl 0 rfl) ?_
                                          refine lv_iload hx hb d_R_close_320 (lv_at hl 4 rfl) ?_
                                          refine lv_if_eq (tgt := 329) hx hb d_R_close_322 (by decide) (fun c322 => ?_) (fun c322 => ?_)
                                          · refine lv_iconst (v := 2) hx hb d_R_close_329 (by decide) ?_
                                            refine st_i cx hZ hS h0_42 (vp_in_nI (by unfold stN; omega) (by omega)) d_R_close_330 (fun w_45 H locs hw_46 hZ hS => ?_)
                                            have hk_47 : w_45 o = some (.inr (6, [.int 0, .ref (A 0), .ref (A 1), .ref (A 2), .ref (A 3), .ref (A 4), .ref (A 5), .ref (A 6), .ref (A 7), .ref (A 8), .int (S 1), .ref (A 9), .ref (A 10), .int (S 2), .ref (A 11), .long ((mzW F ps T n) 0), .long ((mzW F ps T n) 1), .long ((mzW F ps T n) 2), .long ((mzW F ps T n) 3), .ref (A 12), .long ((mzW F ps T n) 4)])) := up_ne hw_46 ho_42 (z_ne ho_42 h0_42 (by simp))
                                            have hk_48 : w_45 (A 1) = some (.inl (G.2 0, 8200, .inl ((mkF (emF F sz k) sz k ((ps n - ps 0) + 1)) 1))) := up_ne hw_46 h1_42 ((hA 1 0 (by decide) (by decide) (by decide)))
                                            have hk_49 : w_45 (A 2) = some (.inl (G.2 0, 8200, .inl ((mkF (emF F sz k) sz k ((ps n - ps 0) + 1)) 2))) := up_ne hw_46 h2_42 ((hA 2 0 (by decide) (by decide) (by decide)))
                                            have hk_50 : w_45 (A 3) = some (.inl (G.2 0, 8200, .inl ((mkF (emF F sz k) sz k ((ps n - ps 0) + 1)) 3))) := up_ne hw_46 h3_42 ((hA 3 0 (by decide) (by decide) (by decide)))
                                            have hk_51 : w_45 (A 4) = some (.inl (G.2 0, 8200, .inl ((mkF (emF F sz k) sz k ((ps n - ps 0) + 1)) 4))) := up_ne hw_46 h4_42 ((hA 4 0 (by decide) (by decide) (by decide)))
                                            have hk_52 : w_45 (A 5) = some (.inl (G.2 0, 8200, .inl ((mkF (emF F sz k) sz k ((ps n - ps 0) + 1)) 5))) := up_ne hw_46 h5_42 ((hA 5 0 (by decide) (by decide) (by decide)))
                                            have hk_53 : w_45 (A 6) = some (.inl (G.2 0, 8200, .inl ((mkF (emF F sz k) sz k ((ps n - ps 0) + 1)) 6))) := up_ne hw_46 h6_42 ((hA 6 0 (by decide) (by decide) (by decide)))
                                            have hk_54 : w_45 (A 7) = some (.inl (G.2 1, 8200, .inr (.inl (mkM (emM (shM F ps (shA (glT F ps T n) ((mzW F ps T n) 4) ((closeIs spec amount ((mzW F ps T n) 0)) - (mzW F ps T n) 0)) (shE ((mzW F ps T n) 4) ((closeIs spec amount ((mzW F ps T n) 0)) - (mzW F ps T n) 0)) (decide (0 < ((closeIs spec amount ((mzW F ps T n) 0)) - (mzW F ps T n) 0))) (hiO (glT F ps T n)) M n) sz k) sz k ((ps n - ps 0) + 1))))) := up_ne hw_46 h7_42 ((hA 7 0 (by decide) (by decide) (by decide)))
                                            have hk_55 : w_45 (A 8) = some (.inl (G.2 0, 8200, .inl ((mkF (emF F sz k) sz k ((ps n - ps 0) + 1)) 8))) := up_ne hw_46 h8_42 ((hA 8 0 (by decide) (by decide) (by decide)))
                                            have hk_56 : w_45 (A 9) = some (.inl (G.2 0, 101, .inl B)) := up_ne hw_46 h9_42 ((hA 9 0 (by decide) (by decide) (by decide)))
                                            have hk_57 : w_45 (A 10) = some (.inl (G.2 2, 101, .inl V)) := up_ne hw_46 h10_42 ((hA 10 0 (by decide) (by decide) (by decide)))
                                            have hk_58 : w_45 (A 11) = some (.inl (G.2 0, 16, .inl (upd (upd Z k 0) k (nI ((ps n - ps 0) + 1))))) := up_ne hw_46 h11_42 ((hA 11 0 (by decide) (by decide) (by decide)))
                                            have hk_59 : w_45 (A 12) = some (.inl (G.2 1, 4, .inr (.inl (glT F ps T n)))) := up_ne hw_46 h12_42 ((hA 12 0 (by decide) (by decide) (by decide)))
                                            have hF := hF.put hw_46 (Or.inl (by simp))
                                            have hc_60 : w_45 (A 0) = some (.inl (G.2 0, 8200, .inl (upd ((mkF (emF F sz k) sz k ((ps n - ps 0) + 1)) 0) (stN sz k) 2))) := by have q := up_self hw_46; rw [nI_clamp (by first | omega | (unfold stN; omega))] at q; exact q
                                            refine lv_aload_n hx hb d_R_close_331 rfl (lv_at hl 6 rfl) ?_
                                            refine gf_R_13 cx hZ hk_47 rfl d_R_close_332 ?_
                                            refine lv_iload hx hb d_R_close_335 (lv_at hl 0 rfl) ?_
                                            refine lv_iload hx hb d_R_close_337 (lv_at hl 4 rfl) ?_
                                            refine lv_if_eq (tgt := 349) hx hb d_R_close_339 (by decide) (fun c339 => ?_) (fun c339 => ?_)
                                            · refine lv_lload hx hb d_R_close_349 (lv_at hl 3 rfl) ?_
                                              refine lv_l2i hx hb d_R_close_351 rfl ?_
                                              refine st_i cx hZ hS hk_48 (vp_in_nI (by unfold stN; omega) (by omega)) d_R_close_352 (fun w_61 H locs hw_62 hZ hS => ?_)
                                              have hk_63 : w_61 o = some (.inr (6, [.int 0, .ref (A 0), .ref (A 1), .ref (A 2), .ref (A 3), .ref (A 4), .ref (A 5), .ref (A 6), .ref (A 7), .ref (A 8), .int (S 1), .ref (A 9), .ref (A 10), .int (S 2), .ref (A 11), .long ((mzW F ps T n) 0), .long ((mzW F ps T n) 1), .long ((mzW F ps T n) 2), .long ((mzW F ps T n) 3), .ref (A 12), .long ((mzW F ps T n) 4)])) := up_ne hw_62 hk_47 (z_ne hk_47 hk_48 (by simp))
                                              have hk_64 : w_61 (A 0) = some (.inl (G.2 0, 8200, .inl (upd ((mkF (emF F sz k) sz k ((ps n - ps 0) + 1)) 0) (stN sz k) 2))) := up_ne hw_62 hc_60 ((hA 0 1 (by decide) (by decide) (by decide)))
                                              have hk_65 : w_61 (A 2) = some (.inl (G.2 0, 8200, .inl ((mkF (emF F sz k) sz k ((ps n - ps 0) + 1)) 2))) := up_ne hw_62 hk_49 ((hA 2 1 (by decide) (by decide) (by decide)))
                                              have hk_66 : w_61 (A 3) = some (.inl (G.2 0, 8200, .inl ((mkF (emF F sz k) sz k ((ps n - ps 0) + 1)) 3))) := up_ne hw_62 hk_50 ((hA 3 1 (by decide) (by decide) (by decide)))
                                              have hk_67 : w_61 (A 4) = some (.inl (G.2 0, 8200, .inl ((mkF (emF F sz k) sz k ((ps n - ps 0) + 1)) 4))) := up_ne hw_62 hk_51 ((hA 4 1 (by decide) (by decide) (by decide)))
                                              have hk_68 : w_61 (A 5) = some (.inl (G.2 0, 8200, .inl ((mkF (emF F sz k) sz k ((ps n - ps 0) + 1)) 5))) := up_ne hw_62 hk_52 ((hA 5 1 (by decide) (by decide) (by decide)))
                                              have hk_69 : w_61 (A 6) = some (.inl (G.2 0, 8200, .inl ((mkF (emF F sz k) sz k ((ps n - ps 0) + 1)) 6))) := up_ne hw_62 hk_53 ((hA 6 1 (by decide) (by decide) (by decide)))
                                              have hk_70 : w_61 (A 7) = some (.inl (G.2 1, 8200, .inr (.inl (mkM (emM (shM F ps (shA (glT F ps T n) ((mzW F ps T n) 4) ((closeIs spec amount ((mzW F ps T n) 0)) - (mzW F ps T n) 0)) (shE ((mzW F ps T n) 4) ((closeIs spec amount ((mzW F ps T n) 0)) - (mzW F ps T n) 0)) (decide (0 < ((closeIs spec amount ((mzW F ps T n) 0)) - (mzW F ps T n) 0))) (hiO (glT F ps T n)) M n) sz k) sz k ((ps n - ps 0) + 1))))) := up_ne hw_62 hk_54 ((hA 7 1 (by decide) (by decide) (by decide)))
                                              have hk_71 : w_61 (A 8) = some (.inl (G.2 0, 8200, .inl ((mkF (emF F sz k) sz k ((ps n - ps 0) + 1)) 8))) := up_ne hw_62 hk_55 ((hA 8 1 (by decide) (by decide) (by decide)))
                                              have hk_72 : w_61 (A 9) = some (.inl (G.2 0, 101, .inl B)) := up_ne hw_62 hk_56 ((hA 9 1 (by decide) (by decide) (by decide)))
                                              have hk_73 : w_61 (A 10) = some (.inl (G.2 2, 101, .inl V)) := up_ne hw_62 hk_57 ((hA 10 1 (by decide) (by decide) (by decide)))
                                              have hk_74 : w_61 (A 11) = some (.inl (G.2 0, 16, .inl (upd (upd Z k 0) k (nI ((ps n - ps 0) + 1))))) := up_ne hw_62 hk_58 ((hA 11 1 (by decide) (by decide) (by decide)))
                                              have hk_75 : w_61 (A 12) = some (.inl (G.2 1, 4, .inr (.inl (glT F ps T n)))) := up_ne hw_62 hk_59 ((hA 12 1 (by decide) (by decide) (by decide)))
                                              have hF := hF.put hw_62 (Or.inl (by simp))
                                              have hc_76 : w_61 (A 1) = some (.inl (G.2 0, 8200, .inl (upd ((mkF (emF F sz k) sz k ((ps n - ps 0) + 1)) 1) (stN sz k) ((closeIs spec amount ((mzW F ps T n) 0)).toInt32)))) := by have q := up_self hw_62; rw [nI_clamp (by first | omega | (unfold stN; omega))] at q; exact q
                                              refine lv_aload_n hx hb d_R_close_353 rfl (lv_at hl 6 rfl) ?_
                                              refine gf_R_16 cx hZ hk_63 rfl d_R_close_354 ?_
                                              refine lv_iload hx hb d_R_close_357 (lv_at hl 0 rfl) ?_
                                              refine lv_iload hx hb d_R_close_359 (lv_at hl 4 rfl) ?_
                                              refine lv_if_eq (tgt := 369) hx hb d_R_close_361 (by decide) (fun c361 => ?_) (fun c361 => ?_)
                                              · refine lv_aload_n hx hb d_R_close_369 rfl (lv_at hl 6 rfl) ?_
                                                refine gf_R_94 cx hZ hk_63 rfl d_R_close_370 ?_
                                                refine lv_l2i hx hb d_R_close_373 rfl ?_
                                                refine st_i cx hZ hS hk_65 (vp_in_nI (by unfold stN; omega) (by omega)) d_R_close_374 (fun w_77 H locs hw_78 hZ hS => ?_)
                                                have hk_79 : w_77 o = some (.inr (6, [.int 0, .ref (A 0), .ref (A 1), .ref (A 2), .ref (A 3), .ref (A 4), .ref (A 5), .ref (A 6), .ref (A 7), .ref (A 8), .int (S 1), .ref (A 9), .ref (A 10), .int (S 2), .ref (A 11), .long ((mzW F ps T n) 0), .long ((mzW F ps T n) 1), .long ((mzW F ps T n) 2), .long ((mzW F ps T n) 3), .ref (A 12), .long ((mzW F ps T n) 4)])) := up_ne hw_78 hk_63 (z_ne hk_63 hk_65 (by simp))
                                                have hk_80 : w_77 (A 0) = some (.inl (G.2 0, 8200, .inl (upd ((mkF (emF F sz k) sz k ((ps n - ps 0) + 1)) 0) (stN sz k) 2))) := up_ne hw_78 hk_64 ((hA 0 2 (by decide) (by decide) (by decide)))
                                                have hk_81 : w_77 (A 1) = some (.inl (G.2 0, 8200, .inl (upd ((mkF (emF F sz k) sz k ((ps n - ps 0) + 1)) 1) (stN sz k) ((closeIs spec amount ((mzW F ps T n) 0)).toInt32)))) := up_ne hw_78 hc_76 ((hA 1 2 (by decide) (by decide) (by decide)))
                                                have hk_82 : w_77 (A 3) = some (.inl (G.2 0, 8200, .inl ((mkF (emF F sz k) sz k ((ps n - ps 0) + 1)) 3))) := up_ne hw_78 hk_66 ((hA 3 2 (by decide) (by decide) (by decide)))
                                                have hk_83 : w_77 (A 4) = some (.inl (G.2 0, 8200, .inl ((mkF (emF F sz k) sz k ((ps n - ps 0) + 1)) 4))) := up_ne hw_78 hk_67 ((hA 4 2 (by decide) (by decide) (by decide)))
                                                have hk_84 : w_77 (A 5) = some (.inl (G.2 0, 8200, .inl ((mkF (emF F sz k) sz k ((ps n - ps 0) + 1)) 5))) := up_ne hw_78 hk_68 ((hA 5 2 (by decide) (by decide) (by decide)))
                                                have hk_85 : w_77 (A 6) = some (.inl (G.2 0, 8200, .inl ((mkF (emF F sz k) sz k ((ps n - ps 0) + 1)) 6))) := up_ne hw_78 hk_69 ((hA 6 2 (by decide) (by decide) (by decide)))
                                                have hk_86 : w_77 (A 7) = some (.inl (G.2 1, 8200, .inr (.inl (mkM (emM (shM F ps (shA (glT F ps T n) ((mzW F ps T n) 4) ((closeIs spec amount ((mzW F ps T n) 0)) - (mzW F ps T n) 0)) (shE ((mzW F ps T n) 4) ((closeIs spec amount ((mzW F ps T n) 0)) - (mzW F ps T n) 0)) (decide (0 < ((closeIs spec amount ((mzW F ps T n) 0)) - (mzW F ps T n) 0))) (hiO (glT F ps T n)) M n) sz k) sz k ((ps n - ps 0) + 1))))) := up_ne hw_78 hk_70 ((hA 7 2 (by decide) (by decide) (by decide)))
                                                have hk_87 : w_77 (A 8) = some (.inl (G.2 0, 8200, .inl ((mkF (emF F sz k) sz k ((ps n - ps 0) + 1)) 8))) := up_ne hw_78 hk_71 ((hA 8 2 (by decide) (by decide) (by decide)))
                                                have hk_88 : w_77 (A 9) = some (.inl (G.2 0, 101, .inl B)) := up_ne hw_78 hk_72 ((hA 9 2 (by decide) (by decide) (by decide)))
                                                have hk_89 : w_77 (A 10) = some (.inl (G.2 2, 101, .inl V)) := up_ne hw_78 hk_73 ((hA 10 2 (by decide) (by decide) (by decide)))
                                                have hk_90 : w_77 (A 11) = some (.inl (G.2 0, 16, .inl (upd (upd Z k 0) k (nI ((ps n - ps 0) + 1))))) := up_ne hw_78 hk_74 ((hA 11 2 (by decide) (by decide) (by decide)))
                                                have hk_91 : w_77 (A 12) = some (.inl (G.2 1, 4, .inr (.inl (glT F ps T n)))) := up_ne hw_78 hk_75 ((hA 12 2 (by decide) (by decide) (by decide)))
                                                have hF := hF.put hw_78 (Or.inl (by simp))
                                                have hc_92 : w_77 (A 2) = some (.inl (G.2 0, 8200, .inl (upd ((mkF (emF F sz k) sz k ((ps n - ps 0) + 1)) 2) (stN sz k) (((mzW F ps T n) 1).toInt32)))) := by have q := up_self hw_78; rw [nI_clamp (by first | omega | (unfold stN; omega))] at q; exact q
                                                refine lv_aload_n hx hb d_R_close_375 rfl (lv_at hl 6 rfl) ?_
                                                refine gf_R_19 cx hZ hk_79 rfl d_R_close_376 ?_
                                                refine lv_iload hx hb d_R_close_379 (lv_at hl 0 rfl) ?_
                                                refine lv_aload_n hx hb d_R_close_381 rfl (lv_at hl 6 rfl) ?_
                                                refine gf_R_97 cx hZ hk_79 rfl d_R_close_382 ?_
                                                refine lv_l2i hx hb d_R_close_385 rfl ?_
                                                refine st_i cx hZ hS hk_82 (vp_in_nI (by unfold stN; omega) (by omega)) d_R_close_386 (fun w_93 H locs hw_94 hZ hS => ?_)
                                                have hk_95 : w_93 o = some (.inr (6, [.int 0, .ref (A 0), .ref (A 1), .ref (A 2), .ref (A 3), .ref (A 4), .ref (A 5), .ref (A 6), .ref (A 7), .ref (A 8), .int (S 1), .ref (A 9), .ref (A 10), .int (S 2), .ref (A 11), .long ((mzW F ps T n) 0), .long ((mzW F ps T n) 1), .long ((mzW F ps T n) 2), .long ((mzW F ps T n) 3), .ref (A 12), .long ((mzW F ps T n) 4)])) := up_ne hw_94 hk_79 (z_ne hk_79 hk_82 (by simp))
                                                have hk_96 : w_93 (A 0) = some (.inl (G.2 0, 8200, .inl (upd ((mkF (emF F sz k) sz k ((ps n - ps 0) + 1)) 0) (stN sz k) 2))) := up_ne hw_94 hk_80 ((hA 0 3 (by decide) (by decide) (by decide)))
                                                have hk_97 : w_93 (A 1) = some (.inl (G.2 0, 8200, .inl (upd ((mkF (emF F sz k) sz k ((ps n - ps 0) + 1)) 1) (stN sz k) ((closeIs spec amount ((mzW F ps T n) 0)).toInt32)))) := up_ne hw_94 hk_81 ((hA 1 3 (by decide) (by decide) (by decide)))
                                                have hk_98 : w_93 (A 2) = some (.inl (G.2 0, 8200, .inl (upd ((mkF (emF F sz k) sz k ((ps n - ps 0) + 1)) 2) (stN sz k) (((mzW F ps T n) 1).toInt32)))) := up_ne hw_94 hc_92 ((hA 2 3 (by decide) (by decide) (by decide)))
                                                have hk_99 : w_93 (A 4) = some (.inl (G.2 0, 8200, .inl ((mkF (emF F sz k) sz k ((ps n - ps 0) + 1)) 4))) := up_ne hw_94 hk_83 ((hA 4 3 (by decide) (by decide) (by decide)))
                                                have hk_100 : w_93 (A 5) = some (.inl (G.2 0, 8200, .inl ((mkF (emF F sz k) sz k ((ps n - ps 0) + 1)) 5))) := up_ne hw_94 hk_84 ((hA 5 3 (by decide) (by decide) (by decide)))
                                                have hk_101 : w_93 (A 6) = some (.inl (G.2 0, 8200, .inl ((mkF (emF F sz k) sz k ((ps n - ps 0) + 1)) 6))) := up_ne hw_94 hk_85 ((hA 6 3 (by decide) (by decide) (by decide)))
                                                have hk_102 : w_93 (A 7) = some (.inl (G.2 1, 8200, .inr (.inl (mkM (emM (shM F ps (shA (glT F ps T n) ((mzW F ps T n) 4) ((closeIs spec amount ((mzW F ps T n) 0)) - (mzW F ps T n) 0)) (shE ((mzW F ps T n) 4) ((closeIs spec amount ((mzW F ps T n) 0)) - (mzW F ps T n) 0)) (decide (0 < ((closeIs spec amount ((mzW F ps T n) 0)) - (mzW F ps T n) 0))) (hiO (glT F ps T n)) M n) sz k) sz k ((ps n - ps 0) + 1))))) := up_ne hw_94 hk_86 ((hA 7 3 (by decide) (by decide) (by decide)))
                                                have hk_103 : w_93 (A 8) = some (.inl (G.2 0, 8200, .inl ((mkF (emF F sz k) sz k ((ps n - ps 0) + 1)) 8))) := up_ne hw_94 hk_87 ((hA 8 3 (by decide) (by decide) (by decide)))
                                                have hk_104 : w_93 (A 9) = some (.inl (G.2 0, 101, .inl B)) := up_ne hw_94 hk_88 ((hA 9 3 (by decide) (by decide) (by decide)))
                                                have hk_105 : w_93 (A 10) = some (.inl (G.2 2, 101, .inl V)) := up_ne hw_94 hk_89 ((hA 10 3 (by decide) (by decide) (by decide)))
                                                have hk_106 : w_93 (A 11) = some (.inl (G.2 0, 16, .inl (upd (upd Z k 0) k (nI ((ps n - ps 0) + 1))))) := up_ne hw_94 hk_90 ((hA 11 3 (by decide) (by decide) (by decide)))
                                                have hk_107 : w_93 (A 12) = some (.inl (G.2 1, 4, .inr (.inl (glT F ps T n)))) := up_ne hw_94 hk_91 ((hA 12 3 (by decide) (by decide) (by decide)))
                                                have hF := hF.put hw_94 (Or.inl (by simp))
                                                have hc_108 : w_93 (A 3) = some (.inl (G.2 0, 8200, .inl (upd ((mkF (emF F sz k) sz k ((ps n - ps 0) + 1)) 3) (stN sz k) (((mzW F ps T n) 2).toInt32)))) := by have q := up_self hw_94; rw [nI_clamp (by first | omega | (unfold stN; omega))] at q; exact q
                                                refine lv_aload_n hx hb d_R_close_387 rfl (lv_at hl 6 rfl) ?_
                                                refine gf_R_22 cx hZ hk_95 rfl d_R_close_388 ?_
                                                refine lv_iload hx hb d_R_close_391 (lv_at hl 0 rfl) ?_
                                                refine lv_iconst (v := 0) hx hb d_R_close_393 (by decide) ?_
                                                refine st_i cx hZ hS hk_99 (vp_in_nI (by unfold stN; omega) (by omega)) d_R_close_394 (fun w_109 H locs hw_110 hZ hS => ?_)
                                                have hk_111 : w_109 o = some (.inr (6, [.int 0, .ref (A 0), .ref (A 1), .ref (A 2), .ref (A 3), .ref (A 4), .ref (A 5), .ref (A 6), .ref (A 7), .ref (A 8), .int (S 1), .ref (A 9), .ref (A 10), .int (S 2), .ref (A 11), .long ((mzW F ps T n) 0), .long ((mzW F ps T n) 1), .long ((mzW F ps T n) 2), .long ((mzW F ps T n) 3), .ref (A 12), .long ((mzW F ps T n) 4)])) := up_ne hw_110 hk_95 (z_ne hk_95 hk_99 (by simp))
                                                have hk_112 : w_109 (A 0) = some (.inl (G.2 0, 8200, .inl (upd ((mkF (emF F sz k) sz k ((ps n - ps 0) + 1)) 0) (stN sz k) 2))) := up_ne hw_110 hk_96 ((hA 0 4 (by decide) (by decide) (by decide)))
                                                have hk_113 : w_109 (A 1) = some (.inl (G.2 0, 8200, .inl (upd ((mkF (emF F sz k) sz k ((ps n - ps 0) + 1)) 1) (stN sz k) ((closeIs spec amount ((mzW F ps T n) 0)).toInt32)))) := up_ne hw_110 hk_97 ((hA 1 4 (by decide) (by decide) (by decide)))
                                                have hk_114 : w_109 (A 2) = some (.inl (G.2 0, 8200, .inl (upd ((mkF (emF F sz k) sz k ((ps n - ps 0) + 1)) 2) (stN sz k) (((mzW F ps T n) 1).toInt32)))) := up_ne hw_110 hk_98 ((hA 2 4 (by decide) (by decide) (by decide)))
                                                have hk_115 : w_109 (A 3) = some (.inl (G.2 0, 8200, .inl (upd ((mkF (emF F sz k) sz k ((ps n - ps 0) + 1)) 3) (stN sz k) (((mzW F ps T n) 2).toInt32)))) := up_ne hw_110 hc_108 ((hA 3 4 (by decide) (by decide) (by decide)))
                                                have hk_116 : w_109 (A 5) = some (.inl (G.2 0, 8200, .inl ((mkF (emF F sz k) sz k ((ps n - ps 0) + 1)) 5))) := up_ne hw_110 hk_100 ((hA 5 4 (by decide) (by decide) (by decide)))
                                                have hk_117 : w_109 (A 6) = some (.inl (G.2 0, 8200, .inl ((mkF (emF F sz k) sz k ((ps n - ps 0) + 1)) 6))) := up_ne hw_110 hk_101 ((hA 6 4 (by decide) (by decide) (by decide)))
                                                have hk_118 : w_109 (A 7) = some (.inl (G.2 1, 8200, .inr (.inl (mkM (emM (shM F ps (shA (glT F ps T n) ((mzW F ps T n) 4) ((closeIs spec amount ((mzW F ps T n) 0)) - (mzW F ps T n) 0)) (shE ((mzW F ps T n) 4) ((closeIs spec amount ((mzW F ps T n) 0)) - (mzW F ps T n) 0)) (decide (0 < ((closeIs spec amount ((mzW F ps T n) 0)) - (mzW F ps T n) 0))) (hiO (glT F ps T n)) M n) sz k) sz k ((ps n - ps 0) + 1))))) := up_ne hw_110 hk_102 ((hA 7 4 (by decide) (by decide) (by decide)))
                                                have hk_119 : w_109 (A 8) = some (.inl (G.2 0, 8200, .inl ((mkF (emF F sz k) sz k ((ps n - ps 0) + 1)) 8))) := up_ne hw_110 hk_103 ((hA 8 4 (by decide) (by decide) (by decide)))
                                                have hk_120 : w_109 (A 9) = some (.inl (G.2 0, 101, .inl B)) := up_ne hw_110 hk_104 ((hA 9 4 (by decide) (by decide) (by decide)))
                                                have hk_121 : w_109 (A 10) = some (.inl (G.2 2, 101, .inl V)) := up_ne hw_110 hk_105 ((hA 10 4 (by decide) (by decide) (by decide)))
                                                have hk_122 : w_109 (A 11) = some (.inl (G.2 0, 16, .inl (upd (upd Z k 0) k (nI ((ps n - ps 0) + 1))))) := up_ne hw_110 hk_106 ((hA 11 4 (by decide) (by decide) (by decide)))
                                                have hk_123 : w_109 (A 12) = some (.inl (G.2 1, 4, .inr (.inl (glT F ps T n)))) := up_ne hw_110 hk_107 ((hA 12 4 (by decide) (by decide) (by decide)))
                                                have hF := hF.put hw_110 (Or.inl (by simp))
                                                have hc_124 : w_109 (A 4) = some (.inl (G.2 0, 8200, .inl (upd ((mkF (emF F sz k) sz k ((ps n - ps 0) + 1)) 4) (stN sz k) 0))) := by have q := up_self hw_110; rw [nI_clamp (by first | omega | (unfold stN; omega))] at q; exact q
                                                refine lv_aload_n hx hb d_R_close_395 rfl (lv_at hl 6 rfl) ?_
                                                refine gf_R_35 cx hZ hk_111 rfl d_R_close_396 ?_
                                                refine lv_iload hx hb d_R_close_399 (lv_at hl 0 rfl) ?_
                                                refine lv_iload hx hb d_R_close_401 (lv_at hl 1 rfl) ?_
                                                refine lv_iconst (v := 1) hx hb d_R_close_403 (by decide) ?_
                                                refine lv_iadd hx hb d_R_close_404 ?_
                                                rw [show (((nI (ps n - ps 0)) + 1) : Int32) = nI ((ps n - ps 0) + 1) from nI_1 _]
                                                refine st_i cx hZ hS hk_119 (vp_in_nI (by unfold stN; omega) (by omega)) d_R_close_405 (fun w_125 H locs hw_126 hZ hS => ?_)
                                                have hk_127 : w_125 o = some (.inr (6, [.int 0, .ref (A 0), .ref (A 1), .ref (A 2), .ref (A 3), .ref (A 4), .ref (A 5), .ref (A 6), .ref (A 7), .ref (A 8), .int (S 1), .ref (A 9), .ref (A 10), .int (S 2), .ref (A 11), .long ((mzW F ps T n) 0), .long ((mzW F ps T n) 1), .long ((mzW F ps T n) 2), .long ((mzW F ps T n) 3), .ref (A 12), .long ((mzW F ps T n) 4)])) := up_ne hw_126 hk_111 (z_ne hk_111 hk_119 (by simp))
                                                have hk_128 : w_125 (A 0) = some (.inl (G.2 0, 8200, .inl (upd ((mkF (emF F sz k) sz k ((ps n - ps 0) + 1)) 0) (stN sz k) 2))) := up_ne hw_126 hk_112 ((hA 0 8 (by decide) (by decide) (by decide)))
                                                have hk_129 : w_125 (A 1) = some (.inl (G.2 0, 8200, .inl (upd ((mkF (emF F sz k) sz k ((ps n - ps 0) + 1)) 1) (stN sz k) ((closeIs spec amount ((mzW F ps T n) 0)).toInt32)))) := up_ne hw_126 hk_113 ((hA 1 8 (by decide) (by decide) (by decide)))
                                                have hk_130 : w_125 (A 2) = some (.inl (G.2 0, 8200, .inl (upd ((mkF (emF F sz k) sz k ((ps n - ps 0) + 1)) 2) (stN sz k) (((mzW F ps T n) 1).toInt32)))) := up_ne hw_126 hk_114 ((hA 2 8 (by decide) (by decide) (by decide)))
                                                have hk_131 : w_125 (A 3) = some (.inl (G.2 0, 8200, .inl (upd ((mkF (emF F sz k) sz k ((ps n - ps 0) + 1)) 3) (stN sz k) (((mzW F ps T n) 2).toInt32)))) := up_ne hw_126 hk_115 ((hA 3 8 (by decide) (by decide) (by decide)))
                                                have hk_132 : w_125 (A 4) = some (.inl (G.2 0, 8200, .inl (upd ((mkF (emF F sz k) sz k ((ps n - ps 0) + 1)) 4) (stN sz k) 0))) := up_ne hw_126 hc_124 ((hA 4 8 (by decide) (by decide) (by decide)))
                                                have hk_133 : w_125 (A 5) = some (.inl (G.2 0, 8200, .inl ((mkF (emF F sz k) sz k ((ps n - ps 0) + 1)) 5))) := up_ne hw_126 hk_116 ((hA 5 8 (by decide) (by decide) (by decide)))
                                                have hk_134 : w_125 (A 6) = some (.inl (G.2 0, 8200, .inl ((mkF (emF F sz k) sz k ((ps n - ps 0) + 1)) 6))) := up_ne hw_126 hk_117 ((hA 6 8 (by decide) (by decide) (by decide)))
                                                have hk_135 : w_125 (A 7) = some (.inl (G.2 1, 8200, .inr (.inl (mkM (emM (shM F ps (shA (glT F ps T n) ((mzW F ps T n) 4) ((closeIs spec amount ((mzW F ps T n) 0)) - (mzW F ps T n) 0)) (shE ((mzW F ps T n) 4) ((closeIs spec amount ((mzW F ps T n) 0)) - (mzW F ps T n) 0)) (decide (0 < ((closeIs spec amount ((mzW F ps T n) 0)) - (mzW F ps T n) 0))) (hiO (glT F ps T n)) M n) sz k) sz k ((ps n - ps 0) + 1))))) := up_ne hw_126 hk_118 ((hA 7 8 (by decide) (by decide) (by decide)))
                                                have hk_136 : w_125 (A 9) = some (.inl (G.2 0, 101, .inl B)) := up_ne hw_126 hk_120 ((hA 9 8 (by decide) (by decide) (by decide)))
                                                have hk_137 : w_125 (A 10) = some (.inl (G.2 2, 101, .inl V)) := up_ne hw_126 hk_121 ((hA 10 8 (by decide) (by decide) (by decide)))
                                                have hk_138 : w_125 (A 11) = some (.inl (G.2 0, 16, .inl (upd (upd Z k 0) k (nI ((ps n - ps 0) + 1))))) := up_ne hw_126 hk_122 ((hA 11 8 (by decide) (by decide) (by decide)))
                                                have hk_139 : w_125 (A 12) = some (.inl (G.2 1, 4, .inr (.inl (glT F ps T n)))) := up_ne hw_126 hk_123 ((hA 12 8 (by decide) (by decide) (by decide)))
                                                have hF := hF.put hw_126 (Or.inl (by simp))
                                                have hc_140 : w_125 (A 8) = some (.inl (G.2 0, 8200, .inl (upd ((mkF (emF F sz k) sz k ((ps n - ps 0) + 1)) 8) (stN sz k) (nI ((ps n - ps 0) + 1))))) := by have q := up_self hw_126; rw [nI_clamp (by first | omega | (unfold stN; omega))] at q; exact q
                                                refine lv_iconst (v := 0) hx hb d_R_close_406 (by decide) ?_
                                                refine lv_istore (lv' := [(12, .int 0), (11, .int (nI (stN sz k))), (10, .int (nI (ps n - ps 0))), (9, .int (zi (((((szL ((mzW F ps T n) 0) && szL (closeIs spec amount ((mzW F ps T n) 0)) && szL ((mzW F ps T n) 4) && szL ((mzW F ps T n) 3) && szL ((mzW F ps T n) 1) && szL ((mzW F ps T n) 2) && decide ((mxN (F 0) sp (ps 0) (ps n - ps 0)) < 100) && decide (ps n + sumN sz 16 + 1 ≤ 4000)) && szL ((glT F ps T n) (0 : Int32).toNatClampNeg)) && szL ((glT F ps T n) (1 : Int32).toNatClampNeg)) && szL ((glT F ps T n) (2 : Int32).toNatClampNeg)) && szL ((glT F ps T n) (3 : Int32).toNatClampNeg)))), (7, .long (closeIs spec amount ((mzW F ps T n) 0))), (6, .int 0), (5, .int (nI (ps 0))), (0, .ref o), (1, .int spec), (2, .int amount), (3, .int lim), (4, .int (nI k))]) hx hb d_R_close_407 hl (by decide) rfl (fun ls hl => ?_)
                                                have loop_409 : ∀ (j i : Nat) (w2 : zw) (H : Heap) (locs : List Loc) (ls : Array Slot), i + j = (ps n - ps 0) → Zw G.1 vwC (zA n0) w2 H → va_S (zA n0) s.heap H locs → Fr [o, (A 0), (A 1), (A 2), (A 3), (A 4), (A 5), (A 6), (A 7), (A 8), (A 9), (A 10), (A 11), (A 12)] w w2 → RA G w2 o A (upd S 0 0) (mzW F ps T n) (cpF (hdF (mkF (emF F sz k) sz k ((ps n - ps 0) + 1)) (stN sz k) 2 ((closeIs spec amount ((mzW F ps T n) 0)).toInt32) (((mzW F ps T n) 1).toInt32) (((mzW F ps T n) 2).toInt32) (nI ((ps n - ps 0) + 1))) (ps 0) ((stN sz k) + 1) i) (cpM (mkM (emM (shM F ps (shA (glT F ps T n) ((mzW F ps T n) 4) ((closeIs spec amount ((mzW F ps T n) 0)) - (mzW F ps T n) 0)) (shE ((mzW F ps T n) 4) ((closeIs spec amount ((mzW F ps T n) 0)) - (mzW F ps T n) 0)) (decide (0 < ((closeIs spec amount ((mzW F ps T n) 0)) - (mzW F ps T n) 0))) (hiO (glT F ps T n)) M n) sz k) sz k ((ps n - ps 0) + 1)) (ps 0) ((stN sz k) + 1) i) B V (upd (upd Z k 0) k (nI ((ps n - ps 0) + 1))) (glT F ps T n) → lv_has ls 13 [(12, .int (nI i)), (11, .int (nI (stN sz k))), (10, .int (nI (ps n - ps 0))), (7, .long (closeIs spec amount ((mzW F ps T n) 0))), (5, .int (nI (ps 0))), (0, .ref o)] → W p l e ({ frames := 3, cells := 0, slots := 0, locals := 150 }) s m [.ref o, .int spec, .int amount, .int lim, .int (nI k)].toArray below meth c H locs 0 0 (MQ below (zQ G.1 vwC n0 (fun v w1 => ∃ r, v = some (.int r) ∧ (((closeG (mzW F ps T n) (glT F ps T n) (closeIs spec amount ((mzW F ps T n) 0)) (mxN (F 0) sp (ps 0) (ps n - ps 0)) (ps n + sumN sz 16)) = true ∧ r = (closeIs spec amount ((mzW F ps T n) 0)).toInt32 ∧ RA G w1 o A (upd (upd (upd S 0 0) 1 (nI lt)) 2 (nI (ps 0))) (mzW F ps T n) (cpF (hdF (mkF (emF F sz k) sz k ((ps n - ps 0) + 1)) (stN sz k) 2 ((closeIs spec amount ((mzW F ps T n) 0)).toInt32) (((mzW F ps T n) 1).toInt32) (((mzW F ps T n) 2).toInt32) (nI ((ps n - ps 0) + 1))) (ps 0) ((stN sz k) + 1) (ps n - ps 0)) (cpM (mkM (emM (shM F ps (shA (glT F ps T n) ((mzW F ps T n) 4) ((closeIs spec amount ((mzW F ps T n) 0)) - (mzW F ps T n) 0)) (shE ((mzW F ps T n) 4) ((closeIs spec amount ((mzW F ps T n) 0)) - (mzW F ps T n) 0)) (decide (0 < ((closeIs spec amount ((mzW F ps T n) 0)) - (mzW F ps T n) 0))) (hiO (glT F ps T n)) M n) sz k) sz k ((ps n - ps 0) + 1)) (ps 0) ((stN sz k) + 1) (ps n - ps 0)) B V (upd (upd Z k 0) k (nI ((ps n - ps 0) + 1))) (glT F ps T n)) ∨ ((closeG (mzW F ps T n) (glT F ps T n) (closeIs spec amount ((mzW F ps T n) 0)) (mxN (F 0) sp (ps 0) (ps n - ps 0)) (ps n + sumN sz 16)) = false ∧ RA G w1 o A (upd S 0 3) (mzW F ps T n) F M B V Z (glT F ps T n))) ∧ Fr (allR o A) w w1)) [.ref o, .int spec, .int amount, .int lim, .int (nI k)].toArray s ({ frames := 3, cells := 0, slots := 0, locals := 150 } : Room).cells ({ frames := 3, cells := 0, slots := 0, locals := 150 } : Room).slots (zA n0)) (F0 m 409 ls []) := by
                                                  intro j
                                                  induction j with
                                                  | zero =>
                                                    intro i w2 H locs ls hik hZ hS hF hr2 hl
                                                    have hin : i = (ps n - ps 0) := by omega
                                                    subst hin
                                                    obtain ⟨ho_141, ⟨h0_141, h1_141, h2_141, h3_141, h4_141, h5_141, h6_141, h7_141, h8_141⟩, h9_141, h10_141, h11_141, h12_141⟩ := id hr2
                                                    have ho_141 : w2 o = some (.inr (6, [.int 0, .ref (A 0), .ref (A 1), .ref (A 2), .ref (A 3), .ref (A 4), .ref (A 5), .ref (A 6), .ref (A 7), .ref (A 8), .int (S 1), .ref (A 9), .ref (A 10), .int (S 2), .ref (A 11), .long ((mzW F ps T n) 0), .long ((mzW F ps T n) 1), .long ((mzW F ps T n) 2), .long ((mzW F ps T n) 3), .ref (A 12), .long ((mzW F ps T n) 4)])) := ho_141
                                                    refine lv_iload hx hb d_R_close_409 (lv_at hl 0 rfl) ?_
                                                    refine lv_iload hx hb d_R_close_411 (lv_at hl 2 rfl) ?_
                                                    refine lv_icmp_ge (tgt := 438) hx hb d_R_close_413 (by decide) (fun c413 => ?_) (fun c413 => ?_)
                                                    · refine lv_aload_n hx hb d_R_close_438 rfl (lv_at hl 5 rfl) ?_
                                                      refine lv_iload hx hb d_R_close_439 (lv_at hl 4 rfl) ?_
                                                      refine pf_R_61 cx hZ hS ho_141 (Nat.le_of_ble_eq_true rfl) d_R_close_441 (fun w_142 H locs hw_143 hZ hS => ?_)
                                                      have hk_144 : w_142 (A 0) = some (.inl (G.2 0, 8200, .inl ((cpF (hdF (mkF (emF F sz k) sz k ((ps n - ps 0) + 1)) (stN sz k) 2 ((closeIs spec amount ((mzW F ps T n) 0)).toInt32) (((mzW F ps T n) 1).toInt32) (((mzW F ps T n) 2).toInt32) (nI ((ps n - ps 0) + 1))) (ps 0) ((stN sz k) + 1) (ps n - ps 0)) 0))) := up_ne hw_143 h0_141 (z_ne h0_141 ho_141 (by simp))
                                                      have hk_145 : w_142 (A 1) = some (.inl (G.2 0, 8200, .inl ((cpF (hdF (mkF (emF F sz k) sz k ((ps n - ps 0) + 1)) (stN sz k) 2 ((closeIs spec amount ((mzW F ps T n) 0)).toInt32) (((mzW F ps T n) 1).toInt32) (((mzW F ps T n) 2).toInt32) (nI ((ps n - ps 0) + 1))) (ps 0) ((stN sz k) + 1) (ps n - ps 0)) 1))) := up_ne hw_143 h1_141 (z_ne h1_141 ho_141 (by simp))
                                                      have hk_146 : w_142 (A 2) = some (.inl (G.2 0, 8200, .inl ((cpF (hdF (mkF (emF F sz k) sz k ((ps n - ps 0) + 1)) (stN sz k) 2 ((closeIs spec amount ((mzW F ps T n) 0)).toInt32) (((mzW F ps T n) 1).toInt32) (((mzW F ps T n) 2).toInt32) (nI ((ps n - ps 0) + 1))) (ps 0) ((stN sz k) + 1) (ps n - ps 0)) 2))) := up_ne hw_143 h2_141 (z_ne h2_141 ho_141 (by simp))
                                                      have hk_147 : w_142 (A 3) = some (.inl (G.2 0, 8200, .inl ((cpF (hdF (mkF (emF F sz k) sz k ((ps n - ps 0) + 1)) (stN sz k) 2 ((closeIs spec amount ((mzW F ps T n) 0)).toInt32) (((mzW F ps T n) 1).toInt32) (((mzW F ps T n) 2).toInt32) (nI ((ps n - ps 0) + 1))) (ps 0) ((stN sz k) + 1) (ps n - ps 0)) 3))) := up_ne hw_143 h3_141 (z_ne h3_141 ho_141 (by simp))
                                                      have hk_148 : w_142 (A 4) = some (.inl (G.2 0, 8200, .inl ((cpF (hdF (mkF (emF F sz k) sz k ((ps n - ps 0) + 1)) (stN sz k) 2 ((closeIs spec amount ((mzW F ps T n) 0)).toInt32) (((mzW F ps T n) 1).toInt32) (((mzW F ps T n) 2).toInt32) (nI ((ps n - ps 0) + 1))) (ps 0) ((stN sz k) + 1) (ps n - ps 0)) 4))) := up_ne hw_143 h4_141 (z_ne h4_141 ho_141 (by simp))
                                                      have hk_149 : w_142 (A 5) = some (.inl (G.2 0, 8200, .inl ((cpF (hdF (mkF (emF F sz k) sz k ((ps n - ps 0) + 1)) (stN sz k) 2 ((closeIs spec amount ((mzW F ps T n) 0)).toInt32) (((mzW F ps T n) 1).toInt32) (((mzW F ps T n) 2).toInt32) (nI ((ps n - ps 0) + 1))) (ps 0) ((stN sz k) + 1) (ps n - ps 0)) 5))) := up_ne hw_143 h5_141 (z_ne h5_141 ho_141 (by simp))
                                                      have hk_150 : w_142 (A 6) = some (.inl (G.2 0, 8200, .inl ((cpF (hdF (mkF (emF F sz k) sz k ((ps n - ps 0) + 1)) (stN sz k) 2 ((closeIs spec amount ((mzW F ps T n) 0)).toInt32) (((mzW F ps T n) 1).toInt32) (((mzW F ps T n) 2).toInt32) (nI ((ps n - ps 0) + 1))) (ps 0) ((stN sz k) + 1) (ps n - ps 0)) 6))) := up_ne hw_143 h6_141 (z_ne h6_141 ho_141 (by simp))
                                                      have hk_151 : w_142 (A 7) = some (.inl (G.2 1, 8200, .inr (.inl (cpM (mkM (emM (shM F ps (shA (glT F ps T n) ((mzW F ps T n) 4) ((closeIs spec amount ((mzW F ps T n) 0)) - (mzW F ps T n) 0)) (shE ((mzW F ps T n) 4) ((closeIs spec amount ((mzW F ps T n) 0)) - (mzW F ps T n) 0)) (decide (0 < ((closeIs spec amount ((mzW F ps T n) 0)) - (mzW F ps T n) 0))) (hiO (glT F ps T n)) M n) sz k) sz k ((ps n - ps 0) + 1)) (ps 0) ((stN sz k) + 1) (ps n - ps 0))))) := up_ne hw_143 h7_141 (z_ne h7_141 ho_141 (by simp))
                                                      have hk_152 : w_142 (A 8) = some (.inl (G.2 0, 8200, .inl ((cpF (hdF (mkF (emF F sz k) sz k ((ps n - ps 0) + 1)) (stN sz k) 2 ((closeIs spec amount ((mzW F ps T n) 0)).toInt32) (((mzW F ps T n) 1).toInt32) (((mzW F ps T n) 2).toInt32) (nI ((ps n - ps 0) + 1))) (ps 0) ((stN sz k) + 1) (ps n - ps 0)) 8))) := up_ne hw_143 h8_141 (z_ne h8_141 ho_141 (by simp))
                                                      have hk_153 : w_142 (A 9) = some (.inl (G.2 0, 101, .inl B)) := up_ne hw_143 h9_141 (z_ne h9_141 ho_141 (by simp))
                                                      have hk_154 : w_142 (A 10) = some (.inl (G.2 2, 101, .inl V)) := up_ne hw_143 h10_141 (z_ne h10_141 ho_141 (by simp))
                                                      have hk_155 : w_142 (A 11) = some (.inl (G.2 0, 16, .inl (upd (upd Z k 0) k (nI ((ps n - ps 0) + 1))))) := up_ne hw_143 h11_141 (z_ne h11_141 ho_141 (by simp))
                                                      have hk_156 : w_142 (A 12) = some (.inl (G.2 1, 4, .inr (.inl (glT F ps T n)))) := up_ne hw_143 h12_141 (z_ne h12_141 ho_141 (by simp))
                                                      have hF := hF.put hw_143 (Or.inl (by simp))
                                                      have hc_157 : w_142 o = some (.inr (6, [.int 0, .ref (A 0), .ref (A 1), .ref (A 2), .ref (A 3), .ref (A 4), .ref (A 5), .ref (A 6), .ref (A 7), .ref (A 8), .int (S 1), .ref (A 9), .ref (A 10), .int (nI (ps 0)), .ref (A 11), .long ((mzW F ps T n) 0), .long ((mzW F ps T n) 1), .long ((mzW F ps T n) 2), .long ((mzW F ps T n) 3), .ref (A 12), .long ((mzW F ps T n) 4)])) := up_self hw_143
                                                      refine lv_aload_n hx hb d_R_close_444 rfl (lv_at hl 5 rfl) ?_
                                                      refine lv_dup hx hb d_R_close_445 rfl ?_
                                                      refine gf_R_68 cx hZ hc_157 rfl d_R_close_446 ?_
                                                      refine lv_iconst (v := 1) hx hb d_R_close_449 (by decide) ?_
                                                      refine lv_isub hx hb d_R_close_450 ?_
                                                      rw [show (((S 1) - 1) : Int32) = nI lt from by rw [hls]; exact nI_pred lt]
                                                      refine pf_R_68 cx hZ hS hc_157 (Nat.le_of_ble_eq_true rfl) d_R_close_451 (fun w_158 H locs hw_159 hZ hS => ?_)
                                                      have hk_160 : w_158 (A 0) = some (.inl (G.2 0, 8200, .inl ((cpF (hdF (mkF (emF F sz k) sz k ((ps n - ps 0) + 1)) (stN sz k) 2 ((closeIs spec amount ((mzW F ps T n) 0)).toInt32) (((mzW F ps T n) 1).toInt32) (((mzW F ps T n) 2).toInt32) (nI ((ps n - ps 0) + 1))) (ps 0) ((stN sz k) + 1) (ps n - ps 0)) 0))) := up_ne hw_159 hk_144 (z_ne hk_144 hc_157 (by simp))
                                                      have hk_161 : w_158 (A 1) = some (.inl (G.2 0, 8200, .inl ((cpF (hdF (mkF (emF F sz k) sz k ((ps n - ps 0) + 1)) (stN sz k) 2 ((closeIs spec amount ((mzW F ps T n) 0)).toInt32) (((mzW F ps T n) 1).toInt32) (((mzW F ps T n) 2).toInt32) (nI ((ps n - ps 0) + 1))) (ps 0) ((stN sz k) + 1) (ps n - ps 0)) 1))) := up_ne hw_159 hk_145 (z_ne hk_145 hc_157 (by simp))
                                                      have hk_162 : w_158 (A 2) = some (.inl (G.2 0, 8200, .inl ((cpF (hdF (mkF (emF F sz k) sz k ((ps n - ps 0) + 1)) (stN sz k) 2 ((closeIs spec amount ((mzW F ps T n) 0)).toInt32) (((mzW F ps T n) 1).toInt32) (((mzW F ps T n) 2).toInt32) (nI ((ps n - ps 0) + 1))) (ps 0) ((stN sz k) + 1) (ps n - ps 0)) 2))) := up_ne hw_159 hk_146 (z_ne hk_146 hc_157 (by simp))
                                                      have hk_163 : w_158 (A 3) = some (.inl (G.2 0, 8200, .inl ((cpF (hdF (mkF (emF F sz k) sz k ((ps n - ps 0) + 1)) (stN sz k) 2 ((closeIs spec amount ((mzW F ps T n) 0)).toInt32) (((mzW F ps T n) 1).toInt32) (((mzW F ps T n) 2).toInt32) (nI ((ps n - ps 0) + 1))) (ps 0) ((stN sz k) + 1) (ps n - ps 0)) 3))) := up_ne hw_159 hk_147 (z_ne hk_147 hc_157 (by simp))
                                                      have hk_164 : w_158 (A 4) = some (.inl (G.2 0, 8200, .inl ((cpF (hdF (mkF (emF F sz k) sz k ((ps n - ps 0) + 1)) (stN sz k) 2 ((closeIs spec amount ((mzW F ps T n) 0)).toInt32) (((mzW F ps T n) 1).toInt32) (((mzW F ps T n) 2).toInt32) (nI ((ps n - ps 0) + 1))) (ps 0) ((stN sz k) + 1) (ps n - ps 0)) 4))) := up_ne hw_159 hk_148 (z_ne hk_148 hc_157 (by simp))
                                                      have hk_165 : w_158 (A 5) = some (.inl (G.2 0, 8200, .inl ((cpF (hdF (mkF (emF F sz k) sz k ((ps n - ps 0) + 1)) (stN sz k) 2 ((closeIs spec amount ((mzW F ps T n) 0)).toInt32) (((mzW F ps T n) 1).toInt32) (((mzW F ps T n) 2).toInt32) (nI ((ps n - ps 0) + 1))) (ps 0) ((stN sz k) + 1) (ps n - ps 0)) 5))) := up_ne hw_159 hk_149 (z_ne hk_149 hc_157 (by simp))
                                                      have hk_166 : w_158 (A 6) = some (.inl (G.2 0, 8200, .inl ((cpF (hdF (mkF (emF F sz k) sz k ((ps n - ps 0) + 1)) (stN sz k) 2 ((closeIs spec amount ((mzW F ps T n) 0)).toInt32) (((mzW F ps T n) 1).toInt32) (((mzW F ps T n) 2).toInt32) (nI ((ps n - ps 0) + 1))) (ps 0) ((stN sz k) + 1) (ps n - ps 0)) 6))) := up_ne hw_159 hk_150 (z_ne hk_150 hc_157 (by simp))
                                                      have hk_167 : w_158 (A 7) = some (.inl (G.2 1, 8200, .inr (.inl (cpM (mkM (emM (shM F ps (shA (glT F ps T n) ((mzW F ps T n) 4) ((closeIs spec amount ((mzW F ps T n) 0)) - (mzW F ps T n) 0)) (shE ((mzW F ps T n) 4) ((closeIs spec amount ((mzW F ps T n) 0)) - (mzW F ps T n) 0)) (decide (0 < ((closeIs spec amount ((mzW F ps T n) 0)) - (mzW F ps T n) 0))) (hiO (glT F ps T n)) M n) sz k) sz k ((ps n - ps 0) + 1)) (ps 0) ((stN sz k) + 1) (ps n - ps 0))))) := up_ne hw_159 hk_151 (z_ne hk_151 hc_157 (by simp))
                                                      have hk_168 : w_158 (A 8) = some (.inl (G.2 0, 8200, .inl ((cpF (hdF (mkF (emF F sz k) sz k ((ps n - ps 0) + 1)) (stN sz k) 2 ((closeIs spec amount ((mzW F ps T n) 0)).toInt32) (((mzW F ps T n) 1).toInt32) (((mzW F ps T n) 2).toInt32) (nI ((ps n - ps 0) + 1))) (ps 0) ((stN sz k) + 1) (ps n - ps 0)) 8))) := up_ne hw_159 hk_152 (z_ne hk_152 hc_157 (by simp))
                                                      have hk_169 : w_158 (A 9) = some (.inl (G.2 0, 101, .inl B)) := up_ne hw_159 hk_153 (z_ne hk_153 hc_157 (by simp))
                                                      have hk_170 : w_158 (A 10) = some (.inl (G.2 2, 101, .inl V)) := up_ne hw_159 hk_154 (z_ne hk_154 hc_157 (by simp))
                                                      have hk_171 : w_158 (A 11) = some (.inl (G.2 0, 16, .inl (upd (upd Z k 0) k (nI ((ps n - ps 0) + 1))))) := up_ne hw_159 hk_155 (z_ne hk_155 hc_157 (by simp))
                                                      have hk_172 : w_158 (A 12) = some (.inl (G.2 1, 4, .inr (.inl (glT F ps T n)))) := up_ne hw_159 hk_156 (z_ne hk_156 hc_157 (by simp))
                                                      have hF := hF.put hw_159 (Or.inl (by simp))
                                                      have hc_173 : w_158 o = some (.inr (6, [.int 0, .ref (A 0), .ref (A 1), .ref (A 2), .ref (A 3), .ref (A 4), .ref (A 5), .ref (A 6), .ref (A 7), .ref (A 8), .int (nI lt), .ref (A 9), .ref (A 10), .int (nI (ps 0)), .ref (A 11), .long ((mzW F ps T n) 0), .long ((mzW F ps T n) 1), .long ((mzW F ps T n) 2), .long ((mzW F ps T n) 3), .ref (A 12), .long ((mzW F ps T n) 4)])) := up_self hw_159
                                                      refine lv_lload hx hb d_R_close_454 (lv_at hl 3 rfl) ?_
                                                      refine lv_l2i hx hb d_R_close_456 rfl ?_
                                                      exact z_iret cx.1 cx.2.1 cx.rt cx.lk hS hZ ⟨(Nat.le_of_ble_eq_true rfl), (Nat.le_of_ble_eq_true rfl)⟩ d_R_close_457 (⟨_, rfl, Or.inl ⟨hg, rfl, ⟨hc_173, ⟨hk_160, hk_161, hk_162, hk_163, hk_164, hk_165, hk_166, hk_167, hk_168⟩, hk_169, hk_170, hk_171, hk_172⟩⟩, hF⟩)
                                                    · exact absurd (nI_le (by omega) (by omega)) c413
                                                  | succ j ih =>
                                                    intro i w2 H locs ls hik hZ hS hF hr2 hl
                                                    obtain ⟨ho_174, ⟨h0_174, h1_174, h2_174, h3_174, h4_174, h5_174, h6_174, h7_174, h8_174⟩, h9_174, h10_174, h11_174, h12_174⟩ := id hr2
                                                    have ho_174 : w2 o = some (.inr (6, [.int 0, .ref (A 0), .ref (A 1), .ref (A 2), .ref (A 3), .ref (A 4), .ref (A 5), .ref (A 6), .ref (A 7), .ref (A 8), .int (S 1), .ref (A 9), .ref (A 10), .int (S 2), .ref (A 11), .long ((mzW F ps T n) 0), .long ((mzW F ps T n) 1), .long ((mzW F ps T n) 2), .long ((mzW F ps T n) 3), .ref (A 12), .long ((mzW F ps T n) 4)])) := ho_174
                                                    refine lv_iload hx hb d_R_close_409 (lv_at hl 0 rfl) ?_
                                                    refine lv_iload hx hb d_R_close_411 (lv_at hl 2 rfl) ?_
                                                    refine lv_icmp_ge (tgt := 438) hx hb d_R_close_413 (by decide) (fun c413 => ?_) (fun c413 => ?_)
                                                    · exact absurd c413 (nI_ge (by omega) (by omega))
                                                    · refine lv_aload_n hx hb d_R_close_416 rfl (lv_at hl 5 rfl) ?_
                                                      refine lv_iload hx hb d_R_close_417 (lv_at hl 4 rfl) ?_
                                                      refine lv_iload hx hb d_R_close_419 (lv_at hl 0 rfl) ?_
                                                      refine lv_iadd hx hb d_R_close_421 ?_
                                                      rw [show (((nI (ps 0)) + (nI i)) : Int32) = nI (ps 0 + i) from nI_add _ _]
                                                      refine lv_iload hx hb d_R_close_422 (lv_at hl 1 rfl) ?_
                                                      refine lv_iconst (v := 1) hx hb d_R_close_424 (by decide) ?_
                                                      refine lv_iadd hx hb d_R_close_425 ?_
                                                      rw [show (((nI (stN sz k)) + 1) : Int32) = nI (stN sz k + 1) from nI_1 _]
                                                      refine lv_iload hx hb d_R_close_426 (lv_at hl 0 rfl) ?_
                                                      refine lv_iadd hx hb d_R_close_428 ?_
                                                      rw [show (((nI (stN sz k + 1)) + (nI i)) : Int32) = nI (stN sz k + 1 + i) from nI_add _ _]
                                                      refine iv_R_126 (As := [.int (nI (ps 0 + i)), .int (nI (stN sz k + 1 + i))]) (rest := []) cx (r_moveA l G n0 e0 w2 o A (upd S 0 0) (mzW F ps T n) (cpF (hdF (mkF (emF F sz k) sz k ((ps n - ps 0) + 1)) (stN sz k) 2 ((closeIs spec amount ((mzW F ps T n) 0)).toInt32) (((mzW F ps T n) 1).toInt32) (((mzW F ps T n) 2).toInt32) (nI ((ps n - ps 0) + 1))) (ps 0) ((stN sz k) + 1) i) (cpM (mkM (emM (shM F ps (shA (glT F ps T n) ((mzW F ps T n) 4) ((closeIs spec amount ((mzW F ps T n) 0)) - (mzW F ps T n) 0)) (shE ((mzW F ps T n) 4) ((closeIs spec amount ((mzW F ps T n) 0)) - (mzW F ps T n) 0)) (decide (0 < ((closeIs spec amount ((mzW F ps T n) 0)) - (mzW F ps T n) 0))) (hiO (glT F ps T n)) M n) sz k) sz k ((ps n - ps 0) + 1)) (ps 0) ((stN sz k) + 1) i) B V (upd (upd Z k 0) k (nI ((ps n - ps 0) + 1))) (glT F ps T n) ⟨ho_174, ⟨h0_174, h1_174, h2_174, h3_174, h4_174, h5_174, h6_174, h7_174, h8_174⟩, h9_174, h10_174, h11_174, h12_174⟩ hA (ps 0 + i) (stN sz k + 1 + i) (by first | omega | (unfold stN; omega)) (by first | omega | (unfold stN; omega))) ho_174 ⟨(Nat.le_of_ble_eq_true rfl), (Nat.le_of_ble_eq_true rfl)⟩ ⟨(Nat.le_of_ble_eq_true rfl), (Nat.le_of_ble_eq_true rfl)⟩ rfl hl.1 rfl (Nat.le_of_ble_eq_true rfl) d_R_close_429 hZ hS (fun v w_175 H locs hp_176 hZ hS => ?_)
                                                      obtain ⟨rfl, hr_177, hf_178⟩ := hp_176
                                                      obtain ⟨ho_179, ⟨h0_179, h1_179, h2_179, h3_179, h4_179, h5_179, h6_179, h7_179, h8_179⟩, h9_179, h10_179, h11_179, h12_179⟩ := id hr_177
                                                      have ho_179 : w_175 o = some (.inr (6, [.int 0, .ref (A 0), .ref (A 1), .ref (A 2), .ref (A 3), .ref (A 4), .ref (A 5), .ref (A 6), .ref (A 7), .ref (A 8), .int (S 1), .ref (A 9), .ref (A 10), .int (S 2), .ref (A 11), .long ((mzW F ps T n) 0), .long ((mzW F ps T n) 1), .long ((mzW F ps T n) 2), .long ((mzW F ps T n) 3), .ref (A 12), .long ((mzW F ps T n) 4)])) := ho_179
                                                      have hF := hF.call hf_178 (fun t ht => Or.inl ht)
                                                      refine W.eq (g2 := F0 m 432 ls []) rfl ?_
                                                      refine lv_iinc (v := ((nI i) + 1)) (lv' := [(12, .int ((nI i) + 1)), (11, .int (nI (stN sz k))), (10, .int (nI (ps n - ps 0))), (7, .long (closeIs spec amount ((mzW F ps T n) 0))), (5, .int (nI (ps 0))), (0, .ref o)]) hx hb d_R_close_432 hl (k := 0) rfl rfl (by decide) rfl (fun ls hl => ?_)
                                                      refine lv_goto (tgt := 409) hx hb d_R_close_435 (by decide) ?_
                                                      exact ih (i + 1) _ _ _ _ (by omega) hZ hS hF (by rw [← cpF_s (Or.inr (by first | omega | (unfold stN; omega))), ← cpM_s (Or.inr (by first | omega | (unfold stN; omega)))]; exact ⟨ho_179, ⟨h0_179, h1_179, h2_179, h3_179, h4_179, h5_179, h6_179, h7_179, h8_179⟩, h9_179, h10_179, h11_179, h12_179⟩) (lv_sub hl [0, 1, 2, 3, 4, 5] (by rw [← nI_1 i]; rfl))
                                                exact loop_409 ((ps n - ps 0)) 0 _ _ _ _ (by omega) hZ hS hF (by rw [cpF_0, cpM_0]; exact ⟨hk_127, ⟨hk_128, hk_129, hk_130, hk_131, hk_132, hk_133, hk_134, hk_135, hc_140⟩, hk_136, hk_137, hk_138, hk_139⟩) (lv_sub hl [0, 1, 2, 4, 6, 7] rfl)
                                              · exact absurd c361 (by decide)
                                            · exact absurd c339 (by decide)
                                          · exact absurd c322 (by decide)
                                        · refine lv_aload_n hx hb d_R_close_257 rfl (lv_at hl 5 rfl) ?_
                                          refine lv_iconst (v := 3) hx hb d_R_close_258 (by decide) ?_
                                          refine iv_R_130 (As := [.int 3]) (rest := []) cx (r_failsA l G n0 e0 w_7 o A S (mzW F ps T n) F M B V Z (glT F ps T n) ⟨ho_11, ⟨h0_11, h1_11, h2_11, h3_11, h4_11, h5_11, h6_11, h7_11, h8_11⟩, h9_11, h10_11, h11_11, h12_11⟩ hA 3) ho_11 ⟨(Nat.le_of_ble_eq_true rfl), (Nat.le_of_ble_eq_true rfl)⟩ ⟨(Nat.le_of_ble_eq_true rfl), (Nat.le_of_ble_eq_true rfl)⟩ rfl hl.1 rfl (Nat.le_of_ble_eq_true rfl) d_R_close_259 hZ hS (fun v w_180 H locs hp_181 hZ hS => ?_)
                                          obtain ⟨rfl, hr_182, hf_183⟩ := hp_181
                                          obtain ⟨ho_184, ⟨h0_184, h1_184, h2_184, h3_184, h4_184, h5_184, h6_184, h7_184, h8_184⟩, h9_184, h10_184, h11_184, h12_184⟩ := id hr_182
                                          have ho_184 : w_180 o = some (.inr (6, [.int 3, .ref (A 0), .ref (A 1), .ref (A 2), .ref (A 3), .ref (A 4), .ref (A 5), .ref (A 6), .ref (A 7), .ref (A 8), .int (S 1), .ref (A 9), .ref (A 10), .int (S 2), .ref (A 11), .long ((mzW F ps T n) 0), .long ((mzW F ps T n) 1), .long ((mzW F ps T n) 2), .long ((mzW F ps T n) 3), .ref (A 12), .long ((mzW F ps T n) 4)])) := ho_184
                                          have hF := hF.call hf_183 (fun t ht => Or.inl ht)
                                          refine W.eq (g2 := F0 m 262 ls [.int 0]) rfl ?_
                                          exact z_iret cx.1 cx.2.1 cx.rt cx.lk hS hZ ⟨(Nat.le_of_ble_eq_true rfl), (Nat.le_of_ble_eq_true rfl)⟩ d_R_close_262 (⟨0, rfl, Or.inr ⟨(zi_0 _).mp c254, ⟨ho_184, ⟨h0_184, h1_184, h2_184, h3_184, h4_184, h5_184, h6_184, h7_184, h8_184⟩, h9_184, h10_184, h11_184, h12_184⟩⟩, hF⟩)
                                      · exact absurd c218_4 (by decide)
                                    refine lv_iload hx hb d_R_close_221 (lv_at hl 1 rfl) ?_
                                    refine lv_if_eq (tgt := 243) hx hb d_R_close_223 (by decide) (fun c223 => ?_) (fun c223 => ?_)
                                    · refine lv_iconst (v := 0) hx hb d_R_close_243 (by decide) ?_
                                      exact J_244 _ _ _ hZ hS (by have h := (zi_0 _).mp c223; simp only [h, Bool.false_and]; rfl)
                                    · refine lv_aload_n hx hb d_R_close_226 rfl (lv_at hl 5 rfl) ?_
                                      refine gf_R_48 cx hZ ho_11 rfl d_R_close_227 ?_
                                      refine lv_iload hx hb d_R_close_230 (lv_at hl 0 rfl) ?_
                                      refine ld_l cx hZ h12_11 (by unfold vp_in; decide) d_R_close_232 ?_
                                      refine is_R_139 (As := [.long ((glT F ps T n) (3 : Int32).toNatClampNeg)]) (rest := []) cx (r_isSizeLong l G n0 e0 ((glT F ps T n) (3 : Int32).toNatClampNeg) w_7) ⟨(Nat.le_of_ble_eq_true rfl), (Nat.le_of_ble_eq_true rfl)⟩ ⟨(Nat.le_of_ble_eq_true rfl), (Nat.le_of_ble_eq_true rfl)⟩ rfl hl.1 rfl (Nat.le_of_ble_eq_true rfl) d_R_close_233 hZ hS (fun v w_185 H locs hp_186 hZ hS => ?_)
                                      obtain ⟨rfl, hq⟩ := hp_186
                                      subst w_185
                                      refine W.eq (g2 := F0 m 236 ls [.int (zi (szL ((glT F ps T n) (3 : Int32).toNatClampNeg)))]) rfl ?_
                                      refine lv_if_eq (tgt := 243) hx hb d_R_close_236 (by decide) (fun c236 => ?_) (fun c236 => ?_)
                                      · refine lv_iconst (v := 0) hx hb d_R_close_243 (by decide) ?_
                                        exact J_244 _ _ _ hZ hS (by have h := (zi_n0 _).mp c223; have h2 := (zi_0 _).mp c236; simp only [h, h2, Bool.true_and]; rfl)
                                      · refine lv_iconst (v := 1) hx hb d_R_close_239 (by decide) ?_
                                        refine lv_goto (tgt := 244) hx hb d_R_close_240 (by decide) ?_
                                        exact J_244 _ _ _ hZ hS (by have h := (zi_n0 _).mp c223; have h2 := (zi_n0 _).mp c236; simp only [h, h2, Bool.true_and]; rfl)
                                refine lv_iload hx hb d_R_close_221 (lv_at hl 1 rfl) ?_
                                refine lv_if_eq (tgt := 243) hx hb d_R_close_223 (by decide) (fun c223 => ?_) (fun c223 => ?_)
                                · refine lv_iconst (v := 0) hx hb d_R_close_243 (by decide) ?_
                                  exact J_244 _ _ _ hZ hS (by have h := (zi_0 _).mp c223; simp only [h, Bool.false_and]; rfl)
                                · refine lv_aload_n hx hb d_R_close_226 rfl (lv_at hl 5 rfl) ?_
                                  refine gf_R_48 cx hZ ho_11 rfl d_R_close_227 ?_
                                  refine lv_iload hx hb d_R_close_230 (lv_at hl 0 rfl) ?_
                                  refine ld_l cx hZ h12_11 (by unfold vp_in; decide) d_R_close_232 ?_
                                  refine is_R_139 (As := [.long ((glT F ps T n) (2 : Int32).toNatClampNeg)]) (rest := []) cx (r_isSizeLong l G n0 e0 ((glT F ps T n) (2 : Int32).toNatClampNeg) w_7) ⟨(Nat.le_of_ble_eq_true rfl), (Nat.le_of_ble_eq_true rfl)⟩ ⟨(Nat.le_of_ble_eq_true rfl), (Nat.le_of_ble_eq_true rfl)⟩ rfl hl.1 rfl (Nat.le_of_ble_eq_true rfl) d_R_close_233 hZ hS (fun v w_187 H locs hp_188 hZ hS => ?_)
                                  obtain ⟨rfl, hq⟩ := hp_188
                                  subst w_187
                                  refine W.eq (g2 := F0 m 236 ls [.int (zi (szL ((glT F ps T n) (2 : Int32).toNatClampNeg)))]) rfl ?_
                                  refine lv_if_eq (tgt := 243) hx hb d_R_close_236 (by decide) (fun c236 => ?_) (fun c236 => ?_)
                                  · refine lv_iconst (v := 0) hx hb d_R_close_243 (by decide) ?_
                                    exact J_244 _ _ _ hZ hS (by have h := (zi_n0 _).mp c223; have h2 := (zi_0 _).mp c236; simp only [h, h2, Bool.true_and]; rfl)
                                  · refine lv_iconst (v := 1) hx hb d_R_close_239 (by decide) ?_
                                    refine lv_goto (tgt := 244) hx hb d_R_close_240 (by decide) ?_
                                    exact J_244 _ _ _ hZ hS (by have h := (zi_n0 _).mp c223; have h2 := (zi_n0 _).mp c236; simp only [h, h2, Bool.true_and]; rfl)
                            refine lv_iload hx hb d_R_close_221 (lv_at hl 1 rfl) ?_
                            refine lv_if_eq (tgt := 243) hx hb d_R_close_223 (by decide) (fun c223 => ?_) (fun c223 => ?_)
                            · refine lv_iconst (v := 0) hx hb d_R_close_243 (by decide) ?_
                              exact J_244 _ _ _ hZ hS (by have h := (zi_0 _).mp c223; simp only [h, Bool.false_and]; rfl)
                            · refine lv_aload_n hx hb d_R_close_226 rfl (lv_at hl 5 rfl) ?_
                              refine gf_R_48 cx hZ ho_11 rfl d_R_close_227 ?_
                              refine lv_iload hx hb d_R_close_230 (lv_at hl 0 rfl) ?_
                              refine ld_l cx hZ h12_11 (by unfold vp_in; decide) d_R_close_232 ?_
                              refine is_R_139 (As := [.long ((glT F ps T n) (1 : Int32).toNatClampNeg)]) (rest := []) cx (r_isSizeLong l G n0 e0 ((glT F ps T n) (1 : Int32).toNatClampNeg) w_7) ⟨(Nat.le_of_ble_eq_true rfl), (Nat.le_of_ble_eq_true rfl)⟩ ⟨(Nat.le_of_ble_eq_true rfl), (Nat.le_of_ble_eq_true rfl)⟩ rfl hl.1 rfl (Nat.le_of_ble_eq_true rfl) d_R_close_233 hZ hS (fun v w_189 H locs hp_190 hZ hS => ?_)
                              obtain ⟨rfl, hq⟩ := hp_190
                              subst w_189
                              refine W.eq (g2 := F0 m 236 ls [.int (zi (szL ((glT F ps T n) (1 : Int32).toNatClampNeg)))]) rfl ?_
                              refine lv_if_eq (tgt := 243) hx hb d_R_close_236 (by decide) (fun c236 => ?_) (fun c236 => ?_)
                              · refine lv_iconst (v := 0) hx hb d_R_close_243 (by decide) ?_
                                exact J_244 _ _ _ hZ hS (by have h := (zi_n0 _).mp c223; have h2 := (zi_0 _).mp c236; simp only [h, h2, Bool.true_and]; rfl)
                              · refine lv_iconst (v := 1) hx hb d_R_close_239 (by decide) ?_
                                refine lv_goto (tgt := 244) hx hb d_R_close_240 (by decide) ?_
                                exact J_244 _ _ _ hZ hS (by have h := (zi_n0 _).mp c223; have h2 := (zi_n0 _).mp c236; simp only [h, h2, Bool.true_and]; rfl)
                        refine lv_iload hx hb d_R_close_221 (lv_at hl 1 rfl) ?_
                        refine lv_if_eq (tgt := 243) hx hb d_R_close_223 (by decide) (fun c223 => ?_) (fun c223 => ?_)
                        · refine lv_iconst (v := 0) hx hb d_R_close_243 (by decide) ?_
                          exact J_244 _ _ _ hZ hS (by have h := (zi_0 _).mp c223; simp only [h, Bool.false_and]; rfl)
                        · refine lv_aload_n hx hb d_R_close_226 rfl (lv_at hl 5 rfl) ?_
                          refine gf_R_48 cx hZ ho_11 rfl d_R_close_227 ?_
                          refine lv_iload hx hb d_R_close_230 (lv_at hl 0 rfl) ?_
                          refine ld_l cx hZ h12_11 (by unfold vp_in; decide) d_R_close_232 ?_
                          refine is_R_139 (As := [.long ((glT F ps T n) (0 : Int32).toNatClampNeg)]) (rest := []) cx (r_isSizeLong l G n0 e0 ((glT F ps T n) (0 : Int32).toNatClampNeg) w_7) ⟨(Nat.le_of_ble_eq_true rfl), (Nat.le_of_ble_eq_true rfl)⟩ ⟨(Nat.le_of_ble_eq_true rfl), (Nat.le_of_ble_eq_true rfl)⟩ rfl hl.1 rfl (Nat.le_of_ble_eq_true rfl) d_R_close_233 hZ hS (fun v w_191 H locs hp_192 hZ hS => ?_)
                          obtain ⟨rfl, hq⟩ := hp_192
                          subst w_191
                          refine W.eq (g2 := F0 m 236 ls [.int (zi (szL ((glT F ps T n) (0 : Int32).toNatClampNeg)))]) rfl ?_
                          refine lv_if_eq (tgt := 243) hx hb d_R_close_236 (by decide) (fun c236 => ?_) (fun c236 => ?_)
                          · refine lv_iconst (v := 0) hx hb d_R_close_243 (by decide) ?_
                            exact J_244 _ _ _ hZ hS (by have h := (zi_n0 _).mp c223; have h2 := (zi_0 _).mp c236; simp only [h, h2, Bool.true_and]; rfl)
                          · refine lv_iconst (v := 1) hx hb d_R_close_239 (by decide) ?_
                            refine lv_goto (tgt := 244) hx hb d_R_close_240 (by decide) ?_
                            exact J_244 _ _ _ hZ hS (by have h := (zi_n0 _).mp c223; have h2 := (zi_n0 _).mp c236; simp only [h, h2, Bool.true_and]; rfl)
                    refine lv_aload_n hx hb d_R_close_124 rfl (lv_at hl 3 rfl) ?_
                    refine gf_R_90 cx hZ ho_11 rfl d_R_close_125 ?_
                    refine is_R_139 (As := [.long ((mzW F ps T n) 0)]) (rest := []) cx (r_isSizeLong l G n0 e0 ((mzW F ps T n) 0) w_7) ⟨(Nat.le_of_ble_eq_true rfl), (Nat.le_of_ble_eq_true rfl)⟩ ⟨(Nat.le_of_ble_eq_true rfl), (Nat.le_of_ble_eq_true rfl)⟩ rfl hl.1 rfl (Nat.le_of_ble_eq_true rfl) d_R_close_128 hZ hS (fun v w_193 H locs hp_194 hZ hS => ?_)
                    obtain ⟨rfl, hq⟩ := hp_194
                    subst w_193
                    refine W.eq (g2 := F0 m 131 ls [.int (zi (szL ((mzW F ps T n) 0)))]) rfl ?_
                    refine lv_if_eq (tgt := 209) hx hb d_R_close_131 (by decide) (fun c131 => ?_) (fun c131 => ?_)
                    · refine lv_iconst (v := 0) hx hb d_R_close_209 (by decide) ?_
                      exact J_210 _ _ _ hZ hS (by have e131 := (zi_0 _).mp c131; simp [e131, zi])
                    · refine lv_lload hx hb d_R_close_134 (lv_at hl 0 rfl) ?_
                      refine is_R_139 (As := [.long (closeIs spec amount ((mzW F ps T n) 0))]) (rest := []) cx (r_isSizeLong l G n0 e0 (closeIs spec amount ((mzW F ps T n) 0)) w_7) ⟨(Nat.le_of_ble_eq_true rfl), (Nat.le_of_ble_eq_true rfl)⟩ ⟨(Nat.le_of_ble_eq_true rfl), (Nat.le_of_ble_eq_true rfl)⟩ rfl hl.1 rfl (Nat.le_of_ble_eq_true rfl) d_R_close_136 hZ hS (fun v w_195 H locs hp_196 hZ hS => ?_)
                      obtain ⟨rfl, hq⟩ := hp_196
                      subst w_195
                      refine W.eq (g2 := F0 m 139 ls [.int (zi (szL (closeIs spec amount ((mzW F ps T n) 0))))]) rfl ?_
                      refine lv_if_eq (tgt := 209) hx hb d_R_close_139 (by decide) (fun c139 => ?_) (fun c139 => ?_)
                      · refine lv_iconst (v := 0) hx hb d_R_close_209 (by decide) ?_
                        exact J_210 _ _ _ hZ hS (by have e131 := (zi_n0 _).mp c131; have e139 := (zi_0 _).mp c139; simp [e131, e139, zi])
                      · refine lv_aload_n hx hb d_R_close_142 rfl (lv_at hl 3 rfl) ?_
                        refine gf_R_103 cx hZ ho_11 rfl d_R_close_143 ?_
                        refine is_R_139 (As := [.long ((mzW F ps T n) 4)]) (rest := []) cx (r_isSizeLong l G n0 e0 ((mzW F ps T n) 4) w_7) ⟨(Nat.le_of_ble_eq_true rfl), (Nat.le_of_ble_eq_true rfl)⟩ ⟨(Nat.le_of_ble_eq_true rfl), (Nat.le_of_ble_eq_true rfl)⟩ rfl hl.1 rfl (Nat.le_of_ble_eq_true rfl) d_R_close_146 hZ hS (fun v w_197 H locs hp_198 hZ hS => ?_)
                        obtain ⟨rfl, hq⟩ := hp_198
                        subst w_197
                        refine W.eq (g2 := F0 m 149 ls [.int (zi (szL ((mzW F ps T n) 4)))]) rfl ?_
                        refine lv_if_eq (tgt := 209) hx hb d_R_close_149 (by decide) (fun c149 => ?_) (fun c149 => ?_)
                        · refine lv_iconst (v := 0) hx hb d_R_close_209 (by decide) ?_
                          exact J_210 _ _ _ hZ hS (by have e131 := (zi_n0 _).mp c131; have e139 := (zi_n0 _).mp c139; have e149 := (zi_0 _).mp c149; simp [e131, e139, e149, zi])
                        · refine lv_aload_n hx hb d_R_close_152 rfl (lv_at hl 3 rfl) ?_
                          refine gf_R_100 cx hZ ho_11 rfl d_R_close_153 ?_
                          refine is_R_139 (As := [.long ((mzW F ps T n) 3)]) (rest := []) cx (r_isSizeLong l G n0 e0 ((mzW F ps T n) 3) w_7) ⟨(Nat.le_of_ble_eq_true rfl), (Nat.le_of_ble_eq_true rfl)⟩ ⟨(Nat.le_of_ble_eq_true rfl), (Nat.le_of_ble_eq_true rfl)⟩ rfl hl.1 rfl (Nat.le_of_ble_eq_true rfl) d_R_close_156 hZ hS (fun v w_199 H locs hp_200 hZ hS => ?_)
                          obtain ⟨rfl, hq⟩ := hp_200
                          subst w_199
                          refine W.eq (g2 := F0 m 159 ls [.int (zi (szL ((mzW F ps T n) 3)))]) rfl ?_
                          refine lv_if_eq (tgt := 209) hx hb d_R_close_159 (by decide) (fun c159 => ?_) (fun c159 => ?_)
                          · refine lv_iconst (v := 0) hx hb d_R_close_209 (by decide) ?_
                            exact J_210 _ _ _ hZ hS (by have e131 := (zi_n0 _).mp c131; have e139 := (zi_n0 _).mp c139; have e149 := (zi_n0 _).mp c149; have e159 := (zi_0 _).mp c159; simp [e131, e139, e149, e159, zi])
                          · refine lv_aload_n hx hb d_R_close_162 rfl (lv_at hl 3 rfl) ?_
                            refine gf_R_94 cx hZ ho_11 rfl d_R_close_163 ?_
                            refine is_R_139 (As := [.long ((mzW F ps T n) 1)]) (rest := []) cx (r_isSizeLong l G n0 e0 ((mzW F ps T n) 1) w_7) ⟨(Nat.le_of_ble_eq_true rfl), (Nat.le_of_ble_eq_true rfl)⟩ ⟨(Nat.le_of_ble_eq_true rfl), (Nat.le_of_ble_eq_true rfl)⟩ rfl hl.1 rfl (Nat.le_of_ble_eq_true rfl) d_R_close_166 hZ hS (fun v w_201 H locs hp_202 hZ hS => ?_)
                            obtain ⟨rfl, hq⟩ := hp_202
                            subst w_201
                            refine W.eq (g2 := F0 m 169 ls [.int (zi (szL ((mzW F ps T n) 1)))]) rfl ?_
                            refine lv_if_eq (tgt := 209) hx hb d_R_close_169 (by decide) (fun c169 => ?_) (fun c169 => ?_)
                            · refine lv_iconst (v := 0) hx hb d_R_close_209 (by decide) ?_
                              exact J_210 _ _ _ hZ hS (by have e131 := (zi_n0 _).mp c131; have e139 := (zi_n0 _).mp c139; have e149 := (zi_n0 _).mp c149; have e159 := (zi_n0 _).mp c159; have e169 := (zi_0 _).mp c169; simp [e131, e139, e149, e159, e169, zi])
                            · refine lv_aload_n hx hb d_R_close_172 rfl (lv_at hl 3 rfl) ?_
                              refine gf_R_97 cx hZ ho_11 rfl d_R_close_173 ?_
                              refine is_R_139 (As := [.long ((mzW F ps T n) 2)]) (rest := []) cx (r_isSizeLong l G n0 e0 ((mzW F ps T n) 2) w_7) ⟨(Nat.le_of_ble_eq_true rfl), (Nat.le_of_ble_eq_true rfl)⟩ ⟨(Nat.le_of_ble_eq_true rfl), (Nat.le_of_ble_eq_true rfl)⟩ rfl hl.1 rfl (Nat.le_of_ble_eq_true rfl) d_R_close_176 hZ hS (fun v w_203 H locs hp_204 hZ hS => ?_)
                              obtain ⟨rfl, hq⟩ := hp_204
                              subst w_203
                              refine W.eq (g2 := F0 m 179 ls [.int (zi (szL ((mzW F ps T n) 2)))]) rfl ?_
                              refine lv_if_eq (tgt := 209) hx hb d_R_close_179 (by decide) (fun c179 => ?_) (fun c179 => ?_)
                              · refine lv_iconst (v := 0) hx hb d_R_close_209 (by decide) ?_
                                exact J_210 _ _ _ hZ hS (by have e131 := (zi_n0 _).mp c131; have e139 := (zi_n0 _).mp c139; have e149 := (zi_n0 _).mp c149; have e159 := (zi_n0 _).mp c159; have e169 := (zi_n0 _).mp c169; have e179 := (zi_0 _).mp c179; simp [e131, e139, e149, e159, e169, e179, zi])
                              · refine lv_aload_n hx hb d_R_close_182 rfl (lv_at hl 3 rfl) ?_
                                refine lv_iload hx hb d_R_close_183 (lv_at hl 2 rfl) ?_
                                refine lv_aload_n hx hb d_R_close_185 rfl (lv_at hl 3 rfl) ?_
                                refine gf_R_61 cx hZ ho_11 rfl d_R_close_186 ?_
                                rw [show ((S 2) : Int32) = nI (ps 0 + (ps n - ps 0)) from by rw [eN]; exact hen]
                                refine iv_R_143 (As := [.int (nI (ps 0)), .int (nI (ps 0 + (ps n - ps 0)))]) (rest := []) cx (r_nested l G n0 e0 w_7 o A S (mzW F ps T n) F M B V Z (glT F ps T n) ⟨ho_11, ⟨h0_11, h1_11, h2_11, h3_11, h4_11, h5_11, h6_11, h7_11, h8_11⟩, h9_11, h10_11, h11_11, h12_11⟩ hA (ps 0) (ps n - ps 0) (by omega) sp (fun j h1 h2 => hsp j h1 (by omega))) ho_11 ⟨(Nat.le_of_ble_eq_true rfl), (Nat.le_of_ble_eq_true rfl)⟩ ⟨(Nat.le_of_ble_eq_true rfl), (Nat.le_of_ble_eq_true rfl)⟩ rfl hl.1 rfl (Nat.le_of_ble_eq_true rfl) d_R_close_189 hZ hS (fun v w_205 H locs hp_206 hZ hS => ?_)
                                obtain ⟨rfl, hq⟩ := hp_206
                                subst w_205
                                refine W.eq (g2 := F0 m 192 ls [.int (nI (mxN (F 0) sp (ps 0) (ps n - ps 0)))]) rfl ?_
                                refine lv_bipush (v := 100) hx hb d_R_close_192 (by decide) ?_
                                refine lv_icmp_ge (tgt := 209) hx hb d_R_close_194 (by decide) (fun c194 => ?_) (fun c194 => ?_)
                                · refine lv_iconst (v := 0) hx hb d_R_close_209 (by decide) ?_
                                  exact J_210 _ _ _ hZ hS (by have e131 := (zi_n0 _).mp c131; have e139 := (zi_n0 _).mp c139; have e149 := (zi_n0 _).mp c149; have e159 := (zi_n0 _).mp c159; have e169 := (zi_n0 _).mp c169; have e179 := (zi_n0 _).mp c179; have e194 := lt100_t c194; simp [e131, e139, e149, e159, e169, e179, e194, zi])
                                · refine lv_aload_n hx hb d_R_close_197 rfl (lv_at hl 3 rfl) ?_
                                  refine lv_iconst (v := 1) hx hb d_R_close_198 (by decide) ?_
                                  refine iv_R_71 (As := [.int 1]) (rest := []) cx (r_hasRoomN l G n0 e0 w_7 o A S (mzW F ps T n) ho_11 Z h11_11 sz hsz (ps n) 1 hen (by omega)) ho_11 ⟨(Nat.le_of_ble_eq_true rfl), (Nat.le_of_ble_eq_true rfl)⟩ ⟨(Nat.le_of_ble_eq_true rfl), (Nat.le_of_ble_eq_true rfl)⟩ rfl hl.1 rfl (Nat.le_of_ble_eq_true rfl) d_R_close_199 hZ hS (fun v w_207 H locs hp_208 hZ hS => ?_)
                                  obtain ⟨rfl, hq⟩ := hp_208
                                  subst w_207
                                  refine W.eq (g2 := F0 m 202 ls [.int (zi (decide (ps n + sumN sz 16 + 1 ≤ 4000)))]) rfl ?_
                                  refine lv_if_eq (tgt := 209) hx hb d_R_close_202 (by decide) (fun c202 => ?_) (fun c202 => ?_)
                                  · refine lv_iconst (v := 0) hx hb d_R_close_209 (by decide) ?_
                                    exact J_210 _ _ _ hZ hS (by have e131 := (zi_n0 _).mp c131; have e139 := (zi_n0 _).mp c139; have e149 := (zi_n0 _).mp c149; have e159 := (zi_n0 _).mp c159; have e169 := (zi_n0 _).mp c169; have e179 := (zi_n0 _).mp c179; have e194 := lt100_f (by have := mxN_le (F 0) sp (ps 0) (ps n - ps 0); omega) c194; have e202 := dz_f c202; simp [e131, e139, e149, e159, e169, e179, e194, e202, zi])
                                  · refine lv_iconst (v := 1) hx hb d_R_close_205 (by decide) ?_
                                    refine lv_goto (tgt := 210) hx hb d_R_close_206 (by decide) ?_
                                    exact J_210 _ _ _ hZ hS (by have e131 := (zi_n0 _).mp c131; have e139 := (zi_n0 _).mp c139; have e149 := (zi_n0 _).mp c149; have e159 := (zi_n0 _).mp c159; have e169 := (zi_n0 _).mp c169; have e179 := (zi_n0 _).mp c179; have e194 := lt100_f (by have := mxN_le (F 0) sp (ps 0) (ps n - ps 0); omega) c194; have e202 := dz_t c202; simp [e131, e139, e149, e159, e169, e179, e194, e202, zi])
                  refine lv_iload_n hx hb d_R_close_94 rfl (lv_at hl 3 rfl) ?_
                  refine lv_if_ne (tgt := 105) hx hb d_R_close_95 (by decide) (fun c95 => ?_) (fun c95 => ?_)
                  · refine lv_iload_n hx hb d_R_close_105 rfl (lv_at hl 3 rfl) ?_
                    refine lv_iconst (v := 1) hx hb d_R_close_106 (by decide) ?_
                    refine lv_icmp_ne (tgt := 120) hx hb d_R_close_107 (by decide) (fun c107 => ?_) (fun c107 => ?_)
                    · refine lv_iload_n hx hb d_R_close_120 rfl (lv_at hl 4 rfl) ?_
                      refine lv_i2l hx hb d_R_close_121 rfl ?_
                      exact J_122 _ _ _ hZ hS (by rw [closeIs, if_neg c95, if_neg c107])
                    · refine lv_aload_n hx hb d_R_close_110 rfl (lv_at hl 2 rfl) ?_
                      refine gf_R_90 cx hZ ho_11 rfl d_R_close_111 ?_
                      refine lv_iload_n hx hb d_R_close_114 rfl (lv_at hl 4 rfl) ?_
                      refine lv_i2l hx hb d_R_close_115 rfl ?_
                      refine lv_ladd hx hb d_R_close_116 ?_
                      refine lv_goto (tgt := 122) hx hb d_R_close_117 (by decide) ?_
                      exact J_122 _ _ _ hZ hS (by rw [closeIs, if_neg c95, if_pos c107])
                  · refine lv_aload_n hx hb d_R_close_98 rfl (lv_at hl 2 rfl) ?_
                    refine gf_R_90 cx hZ ho_11 rfl d_R_close_99 ?_
                    refine lv_goto (tgt := 122) hx hb d_R_close_102 (by decide) ?_
                    exact J_122 _ _ _ hZ hS (by rw [closeIs, if_pos c95])
                · exact absurd c75 (by decide)
              · exact absurd (nI_le15 hk) c45
  · exact absurd c4 (by rw [hls]; exact nI_ne0 (by omega) (by omega))
set_option maxHeartbeats 4000000 in
set_option maxRecDepth 100000 in
theorem r_close_v (l : Launch) (G : zG) (n0 e0 : Nat) (w : zw) (o : Nat) (A : Nat → Nat) (S : Nat → Int32) (L : Nat → Int64) (F : Nat → Nat → Int32) (M : Nat → Int64) (B V Z : Nat → Int32) (T : Nat → Int64) (hr : RA G w o A S L F M B V Z T) (hA : ∀ i j, i < 13 → j < 13 → i ≠ j → A i ≠ A j) (sz : Nat → Nat) (hsz : ∀ k, k < 16 → Z k = nI (sz k)) (hsum : sumN sz 16 ≤ 4000) (k : Nat) (hk : k < 16) (ps : Nat → Nat) (n : Nat) (hps : SP (F 8) ps n) (hpe : ps n ≤ 4000) (hen : S 2 = nI (ps n)) (hor : ∀ j, j < n → F 0 (ps j) = 5 → vp_in (F 5 (ps j)) 4) (sp : Nat → Nat) (hsp : ∀ j, ps 0 ≤ j → j < ps n → F 8 j = nI (sp j) ∧ sp j ≤ 8200) (hroom : ps n + sumN sz 16 ≤ 4000) (lt : Nat) (hlt4 : lt < 100) (hls : S 1 = nI (lt + 1)) (hB : B lt = nI (ps 0)) (hV : V lt = zi true) (spec amount lim : Int32) (hok : closeB spec amount lim (nI k) = true)  : Ct l G n0 e0 y_R_close b_R_close 13 (Option.some FieldType.int) ({ frames := 3, cells := 0, slots := 0, locals := 150 }) [.ref o, .int spec, .int amount, .int lim, .int (nI k)] w (fun v w1 => ∃ r, v = some (.int r) ∧ (((closeG (mzH F ps T n lim) (glT F ps T n) (closeIs spec amount ((mzH F ps T n lim) 0)) (mxN (F 0) sp (ps 0) (ps n - ps 0)) (ps n + sumN sz 16)) = true ∧ r = (closeIs spec amount ((mzH F ps T n lim) 0)).toInt32 ∧ RA G w1 o A (upd (upd (upd S 0 0) 1 (nI lt)) 2 (nI (ps 0))) (mzH F ps T n lim) (cpF (hdF (mkF (emF F sz k) sz k ((ps n - ps 0) + 1)) (stN sz k) 3 (((mzH F ps T n lim) 3).toInt32) ((closeIs spec amount ((mzH F ps T n lim) 0)).toInt32) (((mzH F ps T n lim) 2).toInt32) (nI ((ps n - ps 0) + 1))) (ps 0) ((stN sz k) + 1) (ps n - ps 0)) (cpM (mkM (emM (shM F ps (shA (glT F ps T n) ((mzH F ps T n lim) 4) ((closeIs spec amount ((mzH F ps T n lim) 0)) - (mzH F ps T n lim) 0)) (shE ((mzH F ps T n lim) 4) ((closeIs spec amount ((mzH F ps T n lim) 0)) - (mzH F ps T n lim) 0)) (decide (0 < ((closeIs spec amount ((mzH F ps T n lim) 0)) - (mzH F ps T n lim) 0))) (hiO (glT F ps T n)) M n) sz k) sz k ((ps n - ps 0) + 1)) (ps 0) ((stN sz k) + 1) (ps n - ps 0)) B V (upd (upd Z k 0) k (nI ((ps n - ps 0) + 1))) (glT F ps T n)) ∨ ((closeG (mzH F ps T n lim) (glT F ps T n) (closeIs spec amount ((mzH F ps T n lim) 0)) (mxN (F 0) sp (ps 0) (ps n - ps 0)) (ps n + sumN sz 16)) = false ∧ RA G w1 o A (upd S 0 3) (mzH F ps T n lim) F M B V Z (glT F ps T n))) ∧ Fr (allR o A) w w1) := by
  refine z_ct (by decide) (Nat.le_of_ble_eq_true rfl) ?_
  intro p e s m below meth c ls cx hnm hZ hS hl
  have hx := cx.1
  have hb := cx.2.1
  have hl : lv_has ls 13 [(0, .ref o), (1, .int spec), (2, .int amount), (3, .int lim), (4, .int (nI k))] := hl
  obtain ⟨ho, ⟨h0, h1, h2, h3, h4, h5, h6, h7, h8⟩, h9, h10, h11, h12⟩ := id hr
  have hle := hps.le (Nat.zero_le n) (Nat.le_refl _)
  have hpe : ps n ≤ 8000 := by omega
  have hlt := sumN_lt (f := sz) hk
  have eN : ps 0 + (ps n - ps 0) = ps n := by omega
  simp only [closeB, Bool.and_eq_true, Bool.not_eq_true', decide_eq_false_iff_not] at hok
  obtain ⟨⟨⟨⟨k1, k2⟩, k3⟩, k4⟩, k5⟩ := hok
  have hF : Fr [o, (A 0), (A 1), (A 2), (A 3), (A 4), (A 5), (A 6), (A 7), (A 8), (A 9), (A 10), (A 11), (A 12)] w w := Fr.rf
  refine lv_aload_n hx hb d_R_close_0 rfl (lv_at hl 0 rfl) ?_
  refine gf_R_68 cx hZ ho rfl d_R_close_1 ?_
  refine lv_if_ne (tgt := 13) hx hb d_R_close_4 (by decide) (fun c4 => ?_) (fun c4 => ?_)
  · refine lv_iload_n hx hb d_R_close_13 rfl (lv_at hl 1 rfl) ?_
    refine lv_if_lt (tgt := 48) hx hb d_R_close_14 (by decide) (fun c14 => ?_) (fun c14 => ?_)
    · exact absurd c14 k1
    · refine lv_iload_n hx hb d_R_close_17 rfl (lv_at hl 1 rfl) ?_
      refine lv_iconst (v := 2) hx hb d_R_close_18 (by decide) ?_
      refine lv_icmp_gt (tgt := 48) hx hb d_R_close_19 (by decide) (fun c19 => ?_) (fun c19 => ?_)
      · exact absurd c19 k2
      · refine lv_iload_n hx hb d_R_close_22 rfl (lv_at hl 2 rfl) ?_
        refine is_R_79 (As := [.int amount]) (rest := []) cx (r_isSize l G n0 e0 amount w) ⟨(Nat.le_of_ble_eq_true rfl), (Nat.le_of_ble_eq_true rfl)⟩ ⟨(Nat.le_of_ble_eq_true rfl), (Nat.le_of_ble_eq_true rfl)⟩ rfl hl.1 rfl (Nat.le_of_ble_eq_true rfl) d_R_close_23 hZ hS (fun v w_1 H locs hp_2 hZ hS => ?_)
        obtain ⟨rfl, hq⟩ := hp_2
        subst w_1
        refine W.eq (g2 := F0 m 26 ls [.int (zi (szI amount))]) rfl ?_
        refine lv_if_eq (tgt := 48) hx hb d_R_close_26 (by decide) (fun c26 => ?_) (fun c26 => ?_)
        · exact absurd c26 ((zi_n0 _).mpr k3)
        · refine lv_iload_n hx hb d_R_close_29 rfl (lv_at hl 3 rfl) ?_
          refine is_R_79 (As := [.int lim]) (rest := []) cx (r_isSize l G n0 e0 lim w) ⟨(Nat.le_of_ble_eq_true rfl), (Nat.le_of_ble_eq_true rfl)⟩ ⟨(Nat.le_of_ble_eq_true rfl), (Nat.le_of_ble_eq_true rfl)⟩ rfl hl.1 rfl (Nat.le_of_ble_eq_true rfl) d_R_close_30 hZ hS (fun v w_3 H locs hp_4 hZ hS => ?_)
          obtain ⟨rfl, hq⟩ := hp_4
          subst w_3
          refine W.eq (g2 := F0 m 33 ls [.int (zi (szI lim))]) rfl ?_
          refine lv_if_eq (tgt := 48) hx hb d_R_close_33 (by decide) (fun c33 => ?_) (fun c33 => ?_)
          · exact absurd c33 ((zi_n0 _).mpr k4)
          · refine lv_iload hx hb d_R_close_36 (lv_at hl 4 rfl) ?_
            refine lv_if_lt (tgt := 48) hx hb d_R_close_38 (by decide) (fun c38 => ?_) (fun c38 => ?_)
            · exact absurd c38 (nI_pos (by omega))
            · refine lv_iload hx hb d_R_close_41 (lv_at hl 4 rfl) ?_
              refine lv_bipush (v := 15) hx hb d_R_close_43 (by decide) ?_
              refine lv_icmp_le (tgt := 54) hx hb d_R_close_45 (by decide) (fun c45 => ?_) (fun c45 => ?_)
              · refine lv_aload_n hx hb d_R_close_54 rfl (lv_at hl 0 rfl) ?_
                refine gf_R_38 cx hZ ho rfl d_R_close_55 ?_
                refine lv_aload_n hx hb d_R_close_58 rfl (lv_at hl 0 rfl) ?_
                refine gf_R_68 cx hZ ho rfl d_R_close_59 ?_
                refine lv_iconst (v := 1) hx hb d_R_close_62 (by decide) ?_
                refine lv_isub hx hb d_R_close_63 ?_
                rw [show (((S 1) - 1) : Int32) = nI lt from by rw [hls]; exact nI_pred lt]
                refine ld_i cx hZ h9 (vp_in_nI (by omega) (by omega)) d_R_close_64 ?_
                rw [show (B (nI lt).toNatClampNeg : Int32) = B lt from by rw [nI_clamp (by first | omega | (unfold stN; omega))]]
                rw [show ((B lt) : Int32) = nI (ps 0) from hB]
                refine lv_istore (lv' := [(5, .int (nI (ps 0))), (0, .ref o), (1, .int spec), (2, .int amount), (3, .int lim), (4, .int (nI k))]) hx hb d_R_close_65 hl (by decide) rfl (fun ls hl => ?_)
                refine lv_aload_n hx hb d_R_close_67 rfl (lv_at hl 1 rfl) ?_
                refine iv_R_75 (As := []) (rest := []) cx (r_isVertical_1 l G n0 e0 w o A S L ho (fun _ => V) h10 lt (by omega) hls true hV) ho ⟨(Nat.le_of_ble_eq_true rfl), (Nat.le_of_ble_eq_true rfl)⟩ ⟨(Nat.le_of_ble_eq_true rfl), (Nat.le_of_ble_eq_true rfl)⟩ rfl hl.1 rfl (Nat.le_of_ble_eq_true rfl) d_R_close_68 hZ hS (fun v w_5 H locs hp_6 hZ hS => ?_)
                obtain ⟨rfl, hq⟩ := hp_6
                subst w_5
                refine W.eq (g2 := F0 m 71 ls [.int 1]) rfl ?_
                refine lv_istore (lv' := [(6, .int 1), (5, .int (nI (ps 0))), (0, .ref o), (1, .int spec), (2, .int amount), (3, .int lim), (4, .int (nI k))]) hx hb d_R_close_71 hl (by decide) rfl (fun ls hl => ?_)
                refine lv_iload hx hb d_R_close_73 (lv_at hl 0 rfl) ?_
                refine lv_if_eq (tgt := 88) hx hb d_R_close_75 (by decide) (fun c75 => ?_) (fun c75 => ?_)
                · exact absurd c75 (by decide)
                · refine lv_aload_n hx hb d_R_close_78 rfl (lv_at hl 2 rfl) ?_
                  refine lv_iload hx hb d_R_close_79 (lv_at hl 1 rfl) ?_
                  refine lv_iload_n hx hb d_R_close_81 rfl (lv_at hl 5 rfl) ?_
                  refine iv_R_133 (As := [.int (nI (ps 0)), .int lim]) (rest := []) cx (r_measureHigh l G n0 e0 w o A S L F M B V Z T ⟨ho, ⟨h0, h1, h2, h3, h4, h5, h6, h7, h8⟩, h9, h10, h11, h12⟩ hA ps n hps hpe hen hor lim) ho ⟨(Nat.le_of_ble_eq_true rfl), (Nat.le_of_ble_eq_true rfl)⟩ ⟨(Nat.le_of_ble_eq_true rfl), (Nat.le_of_ble_eq_true rfl)⟩ rfl hl.1 rfl (Nat.le_of_ble_eq_true rfl) d_R_close_82 hZ hS (fun v w_7 H locs hp_8 hZ hS => ?_)
                  obtain ⟨rfl, hr_9, hf_10⟩ := hp_8
                  obtain ⟨ho_11, ⟨h0_11, h1_11, h2_11, h3_11, h4_11, h5_11, h6_11, h7_11, h8_11⟩, h9_11, h10_11, h11_11, h12_11⟩ := id hr_9
                  have ho_11 : w_7 o = some (.inr (6, [.int (S 0), .ref (A 0), .ref (A 1), .ref (A 2), .ref (A 3), .ref (A 4), .ref (A 5), .ref (A 6), .ref (A 7), .ref (A 8), .int (S 1), .ref (A 9), .ref (A 10), .int (S 2), .ref (A 11), .long ((mzH F ps T n lim) 0), .long ((mzH F ps T n lim) 1), .long ((mzH F ps T n lim) 2), .long ((mzH F ps T n lim) 3), .ref (A 12), .long ((mzH F ps T n lim) 4)])) := ho_11
                  have hF := hF.call hf_10 (fun t ht => Or.inl ht)
                  refine W.eq (g2 := F0 m 85 ls []) rfl ?_
                  refine lv_goto (tgt := 94) hx hb d_R_close_85 (by decide) ?_
                  have J_122 : ∀ (H : Heap) (locs : List Loc) (x122 : Int64), Zw G.1 vwC (zA n0) w_7 H → va_S (zA n0) s.heap H locs → x122 = (closeIs spec amount ((mzH F ps T n lim) 0)) → W p l e ({ frames := 3, cells := 0, slots := 0, locals := 150 }) s m [.ref o, .int spec, .int amount, .int lim, .int (nI k)].toArray below meth c H locs 0 0 (MQ below (zQ G.1 vwC n0 (fun v w1 => ∃ r, v = some (.int r) ∧ (((closeG (mzH F ps T n lim) (glT F ps T n) (closeIs spec amount ((mzH F ps T n lim) 0)) (mxN (F 0) sp (ps 0) (ps n - ps 0)) (ps n + sumN sz 16)) = true ∧ r = (closeIs spec amount ((mzH F ps T n lim) 0)).toInt32 ∧ RA G w1 o A (upd (upd (upd S 0 0) 1 (nI lt)) 2 (nI (ps 0))) (mzH F ps T n lim) (cpF (hdF (mkF (emF F sz k) sz k ((ps n - ps 0) + 1)) (stN sz k) 3 (((mzH F ps T n lim) 3).toInt32) ((closeIs spec amount ((mzH F ps T n lim) 0)).toInt32) (((mzH F ps T n lim) 2).toInt32) (nI ((ps n - ps 0) + 1))) (ps 0) ((stN sz k) + 1) (ps n - ps 0)) (cpM (mkM (emM (shM F ps (shA (glT F ps T n) ((mzH F ps T n lim) 4) ((closeIs spec amount ((mzH F ps T n lim) 0)) - (mzH F ps T n lim) 0)) (shE ((mzH F ps T n lim) 4) ((closeIs spec amount ((mzH F ps T n lim) 0)) - (mzH F ps T n lim) 0)) (decide (0 < ((closeIs spec amount ((mzH F ps T n lim) 0)) - (mzH F ps T n lim) 0))) (hiO (glT F ps T n)) M n) sz k) sz k ((ps n - ps 0) + 1)) (ps 0) ((stN sz k) + 1) (ps n - ps 0)) B V (upd (upd Z k 0) k (nI ((ps n - ps 0) + 1))) (glT F ps T n)) ∨ ((closeG (mzH F ps T n lim) (glT F ps T n) (closeIs spec amount ((mzH F ps T n lim) 0)) (mxN (F 0) sp (ps 0) (ps n - ps 0)) (ps n + sumN sz 16)) = false ∧ RA G w1 o A (upd S 0 3) (mzH F ps T n lim) F M B V Z (glT F ps T n))) ∧ Fr (allR o A) w w1)) [.ref o, .int spec, .int amount, .int lim, .int (nI k)].toArray s ({ frames := 3, cells := 0, slots := 0, locals := 150 } : Room).cells ({ frames := 3, cells := 0, slots := 0, locals := 150 } : Room).slots (zA n0)) (F0 m 122 ls [.long x122]) := by
                    intro H locs x122 hZ hS hx122
                    subst hx122
                    refine lv_lstore (lv' := [(7, .long (closeIs spec amount ((mzH F ps T n lim) 0))), (6, .int 1), (5, .int (nI (ps 0))), (0, .ref o), (1, .int spec), (2, .int amount), (3, .int lim), (4, .int (nI k))]) hx hb d_R_close_122 hl (by decide) rfl (fun ls hl => ?_)
                    have J_210 : ∀ (H : Heap) (locs : List Loc) (x210 : Int32), Zw G.1 vwC (zA n0) w_7 H → va_S (zA n0) s.heap H locs → x210 = zi (szL ((mzH F ps T n lim) 0) && szL (closeIs spec amount ((mzH F ps T n lim) 0)) && szL ((mzH F ps T n lim) 4) && szL ((mzH F ps T n lim) 3) && szL ((mzH F ps T n lim) 1) && szL ((mzH F ps T n lim) 2) && decide ((mxN (F 0) sp (ps 0) (ps n - ps 0)) < 100) && decide (ps n + sumN sz 16 + 1 ≤ 4000)) → W p l e ({ frames := 3, cells := 0, slots := 0, locals := 150 }) s m [.ref o, .int spec, .int amount, .int lim, .int (nI k)].toArray below meth c H locs 0 0 (MQ below (zQ G.1 vwC n0 (fun v w1 => ∃ r, v = some (.int r) ∧ (((closeG (mzH F ps T n lim) (glT F ps T n) (closeIs spec amount ((mzH F ps T n lim) 0)) (mxN (F 0) sp (ps 0) (ps n - ps 0)) (ps n + sumN sz 16)) = true ∧ r = (closeIs spec amount ((mzH F ps T n lim) 0)).toInt32 ∧ RA G w1 o A (upd (upd (upd S 0 0) 1 (nI lt)) 2 (nI (ps 0))) (mzH F ps T n lim) (cpF (hdF (mkF (emF F sz k) sz k ((ps n - ps 0) + 1)) (stN sz k) 3 (((mzH F ps T n lim) 3).toInt32) ((closeIs spec amount ((mzH F ps T n lim) 0)).toInt32) (((mzH F ps T n lim) 2).toInt32) (nI ((ps n - ps 0) + 1))) (ps 0) ((stN sz k) + 1) (ps n - ps 0)) (cpM (mkM (emM (shM F ps (shA (glT F ps T n) ((mzH F ps T n lim) 4) ((closeIs spec amount ((mzH F ps T n lim) 0)) - (mzH F ps T n lim) 0)) (shE ((mzH F ps T n lim) 4) ((closeIs spec amount ((mzH F ps T n lim) 0)) - (mzH F ps T n lim) 0)) (decide (0 < ((closeIs spec amount ((mzH F ps T n lim) 0)) - (mzH F ps T n lim) 0))) (hiO (glT F ps T n)) M n) sz k) sz k ((ps n - ps 0) + 1)) (ps 0) ((stN sz k) + 1) (ps n - ps 0)) B V (upd (upd Z k 0) k (nI ((ps n - ps 0) + 1))) (glT F ps T n)) ∨ ((closeG (mzH F ps T n lim) (glT F ps T n) (closeIs spec amount ((mzH F ps T n lim) 0)) (mxN (F 0) sp (ps 0) (ps n - ps 0)) (ps n + sumN sz 16)) = false ∧ RA G w1 o A (upd S 0 3) (mzH F ps T n lim) F M B V Z (glT F ps T n))) ∧ Fr (allR o A) w w1)) [.ref o, .int spec, .int amount, .int lim, .int (nI k)].toArray s ({ frames := 3, cells := 0, slots := 0, locals := 150 } : Room).cells ({ frames := 3, cells := 0, slots := 0, locals := 150 } : Room).slots (zA n0)) (F0 m 210 ls [.int x210]) := by
                      intro H locs x210 hZ hS hx210
                      subst hx210
                      refine lv_istore (lv' := [(9, .int (zi (szL ((mzH F ps T n lim) 0) && szL (closeIs spec amount ((mzH F ps T n lim) 0)) && szL ((mzH F ps T n lim) 4) && szL ((mzH F ps T n lim) 3) && szL ((mzH F ps T n lim) 1) && szL ((mzH F ps T n lim) 2) && decide ((mxN (F 0) sp (ps 0) (ps n - ps 0)) < 100) && decide (ps n + sumN sz 16 + 1 ≤ 4000)))), (7, .long (closeIs spec amount ((mzH F ps T n lim) 0))), (6, .int 1), (5, .int (nI (ps 0))), (0, .ref o), (1, .int spec), (2, .int amount), (3, .int lim), (4, .int (nI k))]) hx hb d_R_close_210 hl (by decide) rfl (fun ls hl => ?_)
                      refine lv_iconst (v := 0) hx hb d_R_close_212 (by decide) ?_
                      refine lv_istore (lv' := [(10, .int 0), (9, .int (zi (szL ((mzH F ps T n lim) 0) && szL (closeIs spec amount ((mzH F ps T n lim) 0)) && szL ((mzH F ps T n lim) 4) && szL ((mzH F ps T n lim) 3) && szL ((mzH F ps T n lim) 1) && szL ((mzH F ps T n lim) 2) && decide ((mxN (F 0) sp (ps 0) (ps n - ps 0)) < 100) && decide (ps n + sumN sz 16 + 1 ≤ 4000)))), (7, .long (closeIs spec amount ((mzH F ps T n lim) 0))), (6, .int 1), (5, .int (nI (ps 0))), (0, .ref o), (1, .int spec), (2, .int amount), (3, .int lim), (4, .int (nI k))]) hx hb d_R_close_213 hl (by decide) rfl (fun ls hl => ?_)
                      refine lv_iload hx hb d_R_close_215 (lv_at hl 0 rfl) ?_
                      refine lv_iconst (v := 4) hx hb d_R_close_217 (by decide) ?_
                      refine lv_icmp_ge (tgt := 252) hx hb d_R_close_218 (by decide) (fun c218 => ?_) (fun c218 => ?_)
                      · exact absurd c218 (by decide)
                      · have J_244 : ∀ (H : Heap) (locs : List Loc) (x244 : Int32), Zw G.1 vwC (zA n0) w_7 H → va_S (zA n0) s.heap H locs → x244 = zi ((szL ((mzH F ps T n lim) 0) && szL (closeIs spec amount ((mzH F ps T n lim) 0)) && szL ((mzH F ps T n lim) 4) && szL ((mzH F ps T n lim) 3) && szL ((mzH F ps T n lim) 1) && szL ((mzH F ps T n lim) 2) && decide ((mxN (F 0) sp (ps 0) (ps n - ps 0)) < 100) && decide (ps n + sumN sz 16 + 1 ≤ 4000)) && szL ((glT F ps T n) (0 : Int32).toNatClampNeg)) → W p l e ({ frames := 3, cells := 0, slots := 0, locals := 150 }) s m [.ref o, .int spec, .int amount, .int lim, .int (nI k)].toArray below meth c H locs 0 0 (MQ below (zQ G.1 vwC n0 (fun v w1 => ∃ r, v = some (.int r) ∧ (((closeG (mzH F ps T n lim) (glT F ps T n) (closeIs spec amount ((mzH F ps T n lim) 0)) (mxN (F 0) sp (ps 0) (ps n - ps 0)) (ps n + sumN sz 16)) = true ∧ r = (closeIs spec amount ((mzH F ps T n lim) 0)).toInt32 ∧ RA G w1 o A (upd (upd (upd S 0 0) 1 (nI lt)) 2 (nI (ps 0))) (mzH F ps T n lim) (cpF (hdF (mkF (emF F sz k) sz k ((ps n - ps 0) + 1)) (stN sz k) 3 (((mzH F ps T n lim) 3).toInt32) ((closeIs spec amount ((mzH F ps T n lim) 0)).toInt32) (((mzH F ps T n lim) 2).toInt32) (nI ((ps n - ps 0) + 1))) (ps 0) ((stN sz k) + 1) (ps n - ps 0)) (cpM (mkM (emM (shM F ps (shA (glT F ps T n) ((mzH F ps T n lim) 4) ((closeIs spec amount ((mzH F ps T n lim) 0)) - (mzH F ps T n lim) 0)) (shE ((mzH F ps T n lim) 4) ((closeIs spec amount ((mzH F ps T n lim) 0)) - (mzH F ps T n lim) 0)) (decide (0 < ((closeIs spec amount ((mzH F ps T n lim) 0)) - (mzH F ps T n lim) 0))) (hiO (glT F ps T n)) M n) sz k) sz k ((ps n - ps 0) + 1)) (ps 0) ((stN sz k) + 1) (ps n - ps 0)) B V (upd (upd Z k 0) k (nI ((ps n - ps 0) + 1))) (glT F ps T n)) ∨ ((closeG (mzH F ps T n lim) (glT F ps T n) (closeIs spec amount ((mzH F ps T n lim) 0)) (mxN (F 0) sp (ps 0) (ps n - ps 0)) (ps n + sumN sz 16)) = false ∧ RA G w1 o A (upd S 0 3) (mzH F ps T n lim) F M B V Z (glT F ps T n))) ∧ Fr (allR o A) w w1)) [.ref o, .int spec, .int amount, .int lim, .int (nI k)].toArray s ({ frames := 3, cells := 0, slots := 0, locals := 150 } : Room).cells ({ frames := 3, cells := 0, slots := 0, locals := 150 } : Room).slots (zA n0)) (F0 m 244 ls [.int x244]) := by
                          intro H locs x244 hZ hS hx244
                          subst hx244
                          refine lv_istore (lv' := [(9, .int (zi ((szL ((mzH F ps T n lim) 0) && szL (closeIs spec amount ((mzH F ps T n lim) 0)) && szL ((mzH F ps T n lim) 4) && szL ((mzH F ps T n lim) 3) && szL ((mzH F ps T n lim) 1) && szL ((mzH F ps T n lim) 2) && decide ((mxN (F 0) sp (ps 0) (ps n - ps 0)) < 100) && decide (ps n + sumN sz 16 + 1 ≤ 4000)) && szL ((glT F ps T n) (0 : Int32).toNatClampNeg)))), (10, .int 0), (7, .long (closeIs spec amount ((mzH F ps T n lim) 0))), (6, .int 1), (5, .int (nI (ps 0))), (0, .ref o), (1, .int spec), (2, .int amount), (3, .int lim), (4, .int (nI k))]) hx hb d_R_close_244 hl (by decide) rfl (fun ls hl => ?_)
                          refine lv_iinc (v := 1) (lv' := [(10, .int 1), (9, .int (zi ((szL ((mzH F ps T n lim) 0) && szL (closeIs spec amount ((mzH F ps T n lim) 0)) && szL ((mzH F ps T n lim) 4) && szL ((mzH F ps T n lim) 3) && szL ((mzH F ps T n lim) 1) && szL ((mzH F ps T n lim) 2) && decide ((mxN (F 0) sp (ps 0) (ps n - ps 0)) < 100) && decide (ps n + sumN sz 16 + 1 ≤ 4000)) && szL ((glT F ps T n) (0 : Int32).toNatClampNeg)))), (7, .long (closeIs spec amount ((mzH F ps T n lim) 0))), (6, .int 1), (5, .int (nI (ps 0))), (0, .ref o), (1, .int spec), (2, .int amount), (3, .int lim), (4, .int (nI k))]) hx hb d_R_close_246 hl (k := 1) rfl (by decide) (by decide) rfl (fun ls hl => ?_)
                          refine lv_goto (tgt := 215) hx hb d_R_close_249 (by decide) ?_
                          refine lv_iload hx hb d_R_close_215 (lv_at hl 0 rfl) ?_
                          refine lv_iconst (v := 4) hx hb d_R_close_217 (by decide) ?_
                          refine lv_icmp_ge (tgt := 252) hx hb d_R_close_218 (by decide) (fun c218_1 => ?_) (fun c218_1 => ?_)
                          · exact absurd c218_1 (by decide)
                          · have J_244 : ∀ (H : Heap) (locs : List Loc) (x244 : Int32), Zw G.1 vwC (zA n0) w_7 H → va_S (zA n0) s.heap H locs → x244 = zi (((szL ((mzH F ps T n lim) 0) && szL (closeIs spec amount ((mzH F ps T n lim) 0)) && szL ((mzH F ps T n lim) 4) && szL ((mzH F ps T n lim) 3) && szL ((mzH F ps T n lim) 1) && szL ((mzH F ps T n lim) 2) && decide ((mxN (F 0) sp (ps 0) (ps n - ps 0)) < 100) && decide (ps n + sumN sz 16 + 1 ≤ 4000)) && szL ((glT F ps T n) (0 : Int32).toNatClampNeg)) && szL ((glT F ps T n) (1 : Int32).toNatClampNeg)) → W p l e ({ frames := 3, cells := 0, slots := 0, locals := 150 }) s m [.ref o, .int spec, .int amount, .int lim, .int (nI k)].toArray below meth c H locs 0 0 (MQ below (zQ G.1 vwC n0 (fun v w1 => ∃ r, v = some (.int r) ∧ (((closeG (mzH F ps T n lim) (glT F ps T n) (closeIs spec amount ((mzH F ps T n lim) 0)) (mxN (F 0) sp (ps 0) (ps n - ps 0)) (ps n + sumN sz 16)) = true ∧ r = (closeIs spec amount ((mzH F ps T n lim) 0)).toInt32 ∧ RA G w1 o A (upd (upd (upd S 0 0) 1 (nI lt)) 2 (nI (ps 0))) (mzH F ps T n lim) (cpF (hdF (mkF (emF F sz k) sz k ((ps n - ps 0) + 1)) (stN sz k) 3 (((mzH F ps T n lim) 3).toInt32) ((closeIs spec amount ((mzH F ps T n lim) 0)).toInt32) (((mzH F ps T n lim) 2).toInt32) (nI ((ps n - ps 0) + 1))) (ps 0) ((stN sz k) + 1) (ps n - ps 0)) (cpM (mkM (emM (shM F ps (shA (glT F ps T n) ((mzH F ps T n lim) 4) ((closeIs spec amount ((mzH F ps T n lim) 0)) - (mzH F ps T n lim) 0)) (shE ((mzH F ps T n lim) 4) ((closeIs spec amount ((mzH F ps T n lim) 0)) - (mzH F ps T n lim) 0)) (decide (0 < ((closeIs spec amount ((mzH F ps T n lim) 0)) - (mzH F ps T n lim) 0))) (hiO (glT F ps T n)) M n) sz k) sz k ((ps n - ps 0) + 1)) (ps 0) ((stN sz k) + 1) (ps n - ps 0)) B V (upd (upd Z k 0) k (nI ((ps n - ps 0) + 1))) (glT F ps T n)) ∨ ((closeG (mzH F ps T n lim) (glT F ps T n) (closeIs spec amount ((mzH F ps T n lim) 0)) (mxN (F 0) sp (ps 0) (ps n - ps 0)) (ps n + sumN sz 16)) = false ∧ RA G w1 o A (upd S 0 3) (mzH F ps T n lim) F M B V Z (glT F ps T n))) ∧ Fr (allR o A) w w1)) [.ref o, .int spec, .int amount, .int lim, .int (nI k)].toArray s ({ frames := 3, cells := 0, slots := 0, locals := 150 } : Room).cells ({ frames := 3, cells := 0, slots := 0, locals := 150 } : Room).slots (zA n0)) (F0 m 244 ls [.int x244]) := by
                              intro H locs x244 hZ hS hx244
                              subst hx244
                              refine lv_istore (lv' := [(9, .int (zi (((szL ((mzH F ps T n lim) 0) && szL (closeIs spec amount ((mzH F ps T n lim) 0)) && szL ((mzH F ps T n lim) 4) && szL ((mzH F ps T n lim) 3) && szL ((mzH F ps T n lim) 1) && szL ((mzH F ps T n lim) 2) && decide ((mxN (F 0) sp (ps 0) (ps n - ps 0)) < 100) && decide (ps n + sumN sz 16 + 1 ≤ 4000)) && szL ((glT F ps T n) (0 : Int32).toNatClampNeg)) && szL ((glT F ps T n) (1 : Int32).toNatClampNeg)))), (10, .int 1), (7, .long (closeIs spec amount ((mzH F ps T n lim) 0))), (6, .int 1), (5, .int (nI (ps 0))), (0, .ref o), (1, .int spec), (2, .int amount), (3, .int lim), (4, .int (nI k))]) hx hb d_R_close_244 hl (by decide) rfl (fun ls hl => ?_)
                              refine lv_iinc (v := 2) (lv' := [(10, .int 2), (9, .int (zi (((szL ((mzH F ps T n lim) 0) && szL (closeIs spec amount ((mzH F ps T n lim) 0)) && szL ((mzH F ps T n lim) 4) && szL ((mzH F ps T n lim) 3) && szL ((mzH F ps T n lim) 1) && szL ((mzH F ps T n lim) 2) && decide ((mxN (F 0) sp (ps 0) (ps n - ps 0)) < 100) && decide (ps n + sumN sz 16 + 1 ≤ 4000)) && szL ((glT F ps T n) (0 : Int32).toNatClampNeg)) && szL ((glT F ps T n) (1 : Int32).toNatClampNeg)))), (7, .long (closeIs spec amount ((mzH F ps T n lim) 0))), (6, .int 1), (5, .int (nI (ps 0))), (0, .ref o), (1, .int spec), (2, .int amount), (3, .int lim), (4, .int (nI k))]) hx hb d_R_close_246 hl (k := 1) rfl (by decide) (by decide) rfl (fun ls hl => ?_)
                              refine lv_goto (tgt := 215) hx hb d_R_close_249 (by decide) ?_
                              refine lv_iload hx hb d_R_close_215 (lv_at hl 0 rfl) ?_
                              refine lv_iconst (v := 4) hx hb d_R_close_217 (by decide) ?_
                              refine lv_icmp_ge (tgt := 252) hx hb d_R_close_218 (by decide) (fun c218_2 => ?_) (fun c218_2 => ?_)
                              · exact absurd c218_2 (by decide)
                              · have J_244 : ∀ (H : Heap) (locs : List Loc) (x244 : Int32), Zw G.1 vwC (zA n0) w_7 H → va_S (zA n0) s.heap H locs → x244 = zi ((((szL ((mzH F ps T n lim) 0) && szL (closeIs spec amount ((mzH F ps T n lim) 0)) && szL ((mzH F ps T n lim) 4) && szL ((mzH F ps T n lim) 3) && szL ((mzH F ps T n lim) 1) && szL ((mzH F ps T n lim) 2) && decide ((mxN (F 0) sp (ps 0) (ps n - ps 0)) < 100) && decide (ps n + sumN sz 16 + 1 ≤ 4000)) && szL ((glT F ps T n) (0 : Int32).toNatClampNeg)) && szL ((glT F ps T n) (1 : Int32).toNatClampNeg)) && szL ((glT F ps T n) (2 : Int32).toNatClampNeg)) → W p l e ({ frames := 3, cells := 0, slots := 0, locals := 150 }) s m [.ref o, .int spec, .int amount, .int lim, .int (nI k)].toArray below meth c H locs 0 0 (MQ below (zQ G.1 vwC n0 (fun v w1 => ∃ r, v = some (.int r) ∧ (((closeG (mzH F ps T n lim) (glT F ps T n) (closeIs spec amount ((mzH F ps T n lim) 0)) (mxN (F 0) sp (ps 0) (ps n - ps 0)) (ps n + sumN sz 16)) = true ∧ r = (closeIs spec amount ((mzH F ps T n lim) 0)).toInt32 ∧ RA G w1 o A (upd (upd (upd S 0 0) 1 (nI lt)) 2 (nI (ps 0))) (mzH F ps T n lim) (cpF (hdF (mkF (emF F sz k) sz k ((ps n - ps 0) + 1)) (stN sz k) 3 (((mzH F ps T n lim) 3).toInt32) ((closeIs spec amount ((mzH F ps T n lim) 0)).toInt32) (((mzH F ps T n lim) 2).toInt32) (nI ((ps n - ps 0) + 1))) (ps 0) ((stN sz k) + 1) (ps n - ps 0)) (cpM (mkM (emM (shM F ps (shA (glT F ps T n) ((mzH F ps T n lim) 4) ((closeIs spec amount ((mzH F ps T n lim) 0)) - (mzH F ps T n lim) 0)) (shE ((mzH F ps T n lim) 4) ((closeIs spec amount ((mzH F ps T n lim) 0)) - (mzH F ps T n lim) 0)) (decide (0 < ((closeIs spec amount ((mzH F ps T n lim) 0)) - (mzH F ps T n lim) 0))) (hiO (glT F ps T n)) M n) sz k) sz k ((ps n - ps 0) + 1)) (ps 0) ((stN sz k) + 1) (ps n - ps 0)) B V (upd (upd Z k 0) k (nI ((ps n - ps 0) + 1))) (glT F ps T n)) ∨ ((closeG (mzH F ps T n lim) (glT F ps T n) (closeIs spec amount ((mzH F ps T n lim) 0)) (mxN (F 0) sp (ps 0) (ps n - ps 0)) (ps n + sumN sz 16)) = false ∧ RA G w1 o A (upd S 0 3) (mzH F ps T n lim) F M B V Z (glT F ps T n))) ∧ Fr (allR o A) w w1)) [.ref o, .int spec, .int amount, .int lim, .int (nI k)].toArray s ({ frames := 3, cells := 0, slots := 0, locals := 150 } : Room).cells ({ frames := 3, cells := 0, slots := 0, locals := 150 } : Room).slots (zA n0)) (F0 m 244 ls [.int x244]) := by
                                  intro H locs x244 hZ hS hx244
                                  subst hx244
                                  refine lv_istore (lv' := [(9, .int (zi ((((szL ((mzH F ps T n lim) 0) && szL (closeIs spec amount ((mzH F ps T n lim) 0)) && szL ((mzH F ps T n lim) 4) && szL ((mzH F ps T n lim) 3) && szL ((mzH F ps T n lim) 1) && szL ((mzH F ps T n lim) 2) && decide ((mxN (F 0) sp (ps 0) (ps n - ps 0)) < 100) && decide (ps n + sumN sz 16 + 1 ≤ 4000)) && szL ((glT F ps T n) (0 : Int32).toNatClampNeg)) && szL ((glT F ps T n) (1 : Int32).toNatClampNeg)) && szL ((glT F ps T n) (2 : Int32).toNatClampNeg)))), (10, .int 2), (7, .long (closeIs spec amount ((mzH F ps T n lim) 0))), (6, .int 1), (5, .int (nI (ps 0))), (0, .ref o), (1, .int spec), (2, .int amount), (3, .int lim), (4, .int (nI k))]) hx hb d_R_close_244 hl (by decide) rfl (fun ls hl => ?_)
                                  refine lv_iinc (v := 3) (lv' := [(10, .int 3), (9, .int (zi ((((szL ((mzH F ps T n lim) 0) && szL (closeIs spec amount ((mzH F ps T n lim) 0)) && szL ((mzH F ps T n lim) 4) && szL ((mzH F ps T n lim) 3) && szL ((mzH F ps T n lim) 1) && szL ((mzH F ps T n lim) 2) && decide ((mxN (F 0) sp (ps 0) (ps n - ps 0)) < 100) && decide (ps n + sumN sz 16 + 1 ≤ 4000)) && szL ((glT F ps T n) (0 : Int32).toNatClampNeg)) && szL ((glT F ps T n) (1 : Int32).toNatClampNeg)) && szL ((glT F ps T n) (2 : Int32).toNatClampNeg)))), (7, .long (closeIs spec amount ((mzH F ps T n lim) 0))), (6, .int 1), (5, .int (nI (ps 0))), (0, .ref o), (1, .int spec), (2, .int amount), (3, .int lim), (4, .int (nI k))]) hx hb d_R_close_246 hl (k := 1) rfl (by decide) (by decide) rfl (fun ls hl => ?_)
                                  refine lv_goto (tgt := 215) hx hb d_R_close_249 (by decide) ?_
                                  refine lv_iload hx hb d_R_close_215 (lv_at hl 0 rfl) ?_
                                  refine lv_iconst (v := 4) hx hb d_R_close_217 (by decide) ?_
                                  refine lv_icmp_ge (tgt := 252) hx hb d_R_close_218 (by decide) (fun c218_3 => ?_) (fun c218_3 => ?_)
                                  · exact absurd c218_3 (by decide)
                                  · have J_244 : ∀ (H : Heap) (locs : List Loc) (x244 : Int32), Zw G.1 vwC (zA n0) w_7 H → va_S (zA n0) s.heap H locs → x244 = zi (((((szL ((mzH F ps T n lim) 0) && szL (closeIs spec amount ((mzH F ps T n lim) 0)) && szL ((mzH F ps T n lim) 4) && szL ((mzH F ps T n lim) 3) && szL ((mzH F ps T n lim) 1) && szL ((mzH F ps T n lim) 2) && decide ((mxN (F 0) sp (ps 0) (ps n - ps 0)) < 100) && decide (ps n + sumN sz 16 + 1 ≤ 4000)) && szL ((glT F ps T n) (0 : Int32).toNatClampNeg)) && szL ((glT F ps T n) (1 : Int32).toNatClampNeg)) && szL ((glT F ps T n) (2 : Int32).toNatClampNeg)) && szL ((glT F ps T n) (3 : Int32).toNatClampNeg)) → W p l e ({ frames := 3, cells := 0, slots := 0, locals := 150 }) s m [.ref o, .int spec, .int amount, .int lim, .int (nI k)].toArray below meth c H locs 0 0 (MQ below (zQ G.1 vwC n0 (fun v w1 => ∃ r, v = some (.int r) ∧ (((closeG (mzH F ps T n lim) (glT F ps T n) (closeIs spec amount ((mzH F ps T n lim) 0)) (mxN (F 0) sp (ps 0) (ps n - ps 0)) (ps n + sumN sz 16)) = true ∧ r = (closeIs spec amount ((mzH F ps T n lim) 0)).toInt32 ∧ RA G w1 o A (upd (upd (upd S 0 0) 1 (nI lt)) 2 (nI (ps 0))) (mzH F ps T n lim) (cpF (hdF (mkF (emF F sz k) sz k ((ps n - ps 0) + 1)) (stN sz k) 3 (((mzH F ps T n lim) 3).toInt32) ((closeIs spec amount ((mzH F ps T n lim) 0)).toInt32) (((mzH F ps T n lim) 2).toInt32) (nI ((ps n - ps 0) + 1))) (ps 0) ((stN sz k) + 1) (ps n - ps 0)) (cpM (mkM (emM (shM F ps (shA (glT F ps T n) ((mzH F ps T n lim) 4) ((closeIs spec amount ((mzH F ps T n lim) 0)) - (mzH F ps T n lim) 0)) (shE ((mzH F ps T n lim) 4) ((closeIs spec amount ((mzH F ps T n lim) 0)) - (mzH F ps T n lim) 0)) (decide (0 < ((closeIs spec amount ((mzH F ps T n lim) 0)) - (mzH F ps T n lim) 0))) (hiO (glT F ps T n)) M n) sz k) sz k ((ps n - ps 0) + 1)) (ps 0) ((stN sz k) + 1) (ps n - ps 0)) B V (upd (upd Z k 0) k (nI ((ps n - ps 0) + 1))) (glT F ps T n)) ∨ ((closeG (mzH F ps T n lim) (glT F ps T n) (closeIs spec amount ((mzH F ps T n lim) 0)) (mxN (F 0) sp (ps 0) (ps n - ps 0)) (ps n + sumN sz 16)) = false ∧ RA G w1 o A (upd S 0 3) (mzH F ps T n lim) F M B V Z (glT F ps T n))) ∧ Fr (allR o A) w w1)) [.ref o, .int spec, .int amount, .int lim, .int (nI k)].toArray s ({ frames := 3, cells := 0, slots := 0, locals := 150 } : Room).cells ({ frames := 3, cells := 0, slots := 0, locals := 150 } : Room).slots (zA n0)) (F0 m 244 ls [.int x244]) := by
                                      intro H locs x244 hZ hS hx244
                                      subst hx244
                                      refine lv_istore (lv' := [(9, .int (zi (((((szL ((mzH F ps T n lim) 0) && szL (closeIs spec amount ((mzH F ps T n lim) 0)) && szL ((mzH F ps T n lim) 4) && szL ((mzH F ps T n lim) 3) && szL ((mzH F ps T n lim) 1) && szL ((mzH F ps T n lim) 2) && decide ((mxN (F 0) sp (ps 0) (ps n - ps 0)) < 100) && decide (ps n + sumN sz 16 + 1 ≤ 4000)) && szL ((glT F ps T n) (0 : Int32).toNatClampNeg)) && szL ((glT F ps T n) (1 : Int32).toNatClampNeg)) && szL ((glT F ps T n) (2 : Int32).toNatClampNeg)) && szL ((glT F ps T n) (3 : Int32).toNatClampNeg)))), (10, .int 3), (7, .long (closeIs spec amount ((mzH F ps T n lim) 0))), (6, .int 1), (5, .int (nI (ps 0))), (0, .ref o), (1, .int spec), (2, .int amount), (3, .int lim), (4, .int (nI k))]) hx hb d_R_close_244 hl (by decide) rfl (fun ls hl => ?_)
                                      refine lv_iinc (v := 4) (lv' := [(10, .int 4), (9, .int (zi (((((szL ((mzH F ps T n lim) 0) && szL (closeIs spec amount ((mzH F ps T n lim) 0)) && szL ((mzH F ps T n lim) 4) && szL ((mzH F ps T n lim) 3) && szL ((mzH F ps T n lim) 1) && szL ((mzH F ps T n lim) 2) && decide ((mxN (F 0) sp (ps 0) (ps n - ps 0)) < 100) && decide (ps n + sumN sz 16 + 1 ≤ 4000)) && szL ((glT F ps T n) (0 : Int32).toNatClampNeg)) && szL ((glT F ps T n) (1 : Int32).toNatClampNeg)) && szL ((glT F ps T n) (2 : Int32).toNatClampNeg)) && szL ((glT F ps T n) (3 : Int32).toNatClampNeg)))), (7, .long (closeIs spec amount ((mzH F ps T n lim) 0))), (6, .int 1), (5, .int (nI (ps 0))), (0, .ref o), (1, .int spec), (2, .int amount), (3, .int lim), (4, .int (nI k))]) hx hb d_R_close_246 hl (k := 1) rfl (by decide) (by decide) rfl (fun ls hl => ?_)
                                      refine lv_goto (tgt := 215) hx hb d_R_close_249 (by decide) ?_
                                      refine lv_iload hx hb d_R_close_215 (lv_at hl 0 rfl) ?_
                                      refine lv_iconst (v := 4) hx hb d_R_close_217 (by decide) ?_
                                      refine lv_icmp_ge (tgt := 252) hx hb d_R_close_218 (by decide) (fun c218_4 => ?_) (fun c218_4 => ?_)
                                      · refine lv_iload hx hb d_R_close_252 (lv_at hl 1 rfl) ?_
                                        refine lv_if_ne (tgt := 263) hx hb d_R_close_254 (by decide) (fun c254 => ?_) (fun c254 => ?_)
                                        · have hg : (closeG (mzH F ps T n lim) (glT F ps T n) (closeIs spec amount ((mzH F ps T n lim) 0)) (mxN (F 0) sp (ps 0) (ps n - ps 0)) (ps n + sumN sz 16)) = true := (zi_n0 _).mp c254
                                          have hg2 := hg
                                          simp only [closeG, Bool.and_eq_true, decide_eq_true_eq] at hg2
                                          obtain ⟨⟨⟨⟨⟨⟨⟨⟨⟨⟨⟨g1, g2⟩, g3⟩, g4⟩, g5⟩, g6⟩, g7⟩, g8⟩, g9⟩, g10⟩, g11⟩, g12⟩ := hg2
                                          refine lv_aload_n hx hb d_R_close_263 rfl (lv_at hl 5 rfl) ?_
                                          refine lv_iconst (v := 0) hx hb d_R_close_264 (by decide) ?_
                                          refine pf_R_51 cx hZ hS ho_11 (Nat.le_of_ble_eq_true rfl) d_R_close_265 (fun w_12 H locs hw_13 hZ hS => ?_)
                                          have hk_14 : w_12 (A 0) = some (.inl (G.2 0, 8200, .inl (F 0))) := up_ne hw_13 h0_11 (z_ne h0_11 ho_11 (by simp))
                                          have hk_15 : w_12 (A 1) = some (.inl (G.2 0, 8200, .inl (F 1))) := up_ne hw_13 h1_11 (z_ne h1_11 ho_11 (by simp))
                                          have hk_16 : w_12 (A 2) = some (.inl (G.2 0, 8200, .inl (F 2))) := up_ne hw_13 h2_11 (z_ne h2_11 ho_11 (by simp))
                                          have hk_17 : w_12 (A 3) = some (.inl (G.2 0, 8200, .inl (F 3))) := up_ne hw_13 h3_11 (z_ne h3_11 ho_11 (by simp))
                                          have hk_18 : w_12 (A 4) = some (.inl (G.2 0, 8200, .inl (F 4))) := up_ne hw_13 h4_11 (z_ne h4_11 ho_11 (by simp))
                                          have hk_19 : w_12 (A 5) = some (.inl (G.2 0, 8200, .inl (F 5))) := up_ne hw_13 h5_11 (z_ne h5_11 ho_11 (by simp))
                                          have hk_20 : w_12 (A 6) = some (.inl (G.2 0, 8200, .inl (F 6))) := up_ne hw_13 h6_11 (z_ne h6_11 ho_11 (by simp))
                                          have hk_21 : w_12 (A 7) = some (.inl (G.2 1, 8200, .inr (.inl M))) := up_ne hw_13 h7_11 (z_ne h7_11 ho_11 (by simp))
                                          have hk_22 : w_12 (A 8) = some (.inl (G.2 0, 8200, .inl (F 8))) := up_ne hw_13 h8_11 (z_ne h8_11 ho_11 (by simp))
                                          have hk_23 : w_12 (A 9) = some (.inl (G.2 0, 101, .inl B)) := up_ne hw_13 h9_11 (z_ne h9_11 ho_11 (by simp))
                                          have hk_24 : w_12 (A 10) = some (.inl (G.2 2, 101, .inl V)) := up_ne hw_13 h10_11 (z_ne h10_11 ho_11 (by simp))
                                          have hk_25 : w_12 (A 11) = some (.inl (G.2 0, 16, .inl Z)) := up_ne hw_13 h11_11 (z_ne h11_11 ho_11 (by simp))
                                          have hk_26 : w_12 (A 12) = some (.inl (G.2 1, 4, .inr (.inl (glT F ps T n)))) := up_ne hw_13 h12_11 (z_ne h12_11 ho_11 (by simp))
                                          have hF := hF.put hw_13 (Or.inl (by simp))
                                          have hc_27 : w_12 o = some (.inr (6, [.int 0, .ref (A 0), .ref (A 1), .ref (A 2), .ref (A 3), .ref (A 4), .ref (A 5), .ref (A 6), .ref (A 7), .ref (A 8), .int (S 1), .ref (A 9), .ref (A 10), .int (S 2), .ref (A 11), .long ((mzH F ps T n lim) 0), .long ((mzH F ps T n lim) 1), .long ((mzH F ps T n lim) 2), .long ((mzH F ps T n lim) 3), .ref (A 12), .long ((mzH F ps T n lim) 4)])) := up_self hw_13
                                          refine lv_aload_n hx hb d_R_close_268 rfl (lv_at hl 5 rfl) ?_
                                          refine lv_iload hx hb d_R_close_269 (lv_at hl 4 rfl) ?_
                                          refine lv_lload hx hb d_R_close_271 (lv_at hl 2 rfl) ?_
                                          refine lv_aload_n hx hb d_R_close_273 rfl (lv_at hl 5 rfl) ?_
                                          refine gf_R_90 cx hZ hc_27 rfl d_R_close_274 ?_
                                          refine lv_lsub hx hb d_R_close_277 ?_
                                          refine iv_R_147 (As := [.int (nI (ps 0)), .long ((closeIs spec amount ((mzH F ps T n lim) 0)) - ((mzH F ps T n lim) 0))]) (rest := []) cx (r_share l G n0 e0 w_12 o A (upd S 0 0) (mzH F ps T n lim) F M B V Z (glT F ps T n) ⟨hc_27, ⟨hk_14, hk_15, hk_16, hk_17, hk_18, hk_19, hk_20, hk_21, hk_22⟩, hk_23, hk_24, hk_25, hk_26⟩ hA ps n hps hpe hen ((closeIs spec amount ((mzH F ps T n lim) 0)) - (mzH F ps T n lim) 0) (shA_ne g9 g10 g11 g12 g3)) hc_27 ⟨(Nat.le_of_ble_eq_true rfl), (Nat.le_of_ble_eq_true rfl)⟩ ⟨(Nat.le_of_ble_eq_true rfl), (Nat.le_of_ble_eq_true rfl)⟩ rfl hl.1 rfl (Nat.le_of_ble_eq_true rfl) d_R_close_278 hZ hS (fun v w_28 H locs hp_29 hZ hS => ?_)
                                          obtain ⟨rfl, hr_30, hf_31⟩ := hp_29
                                          obtain ⟨ho_32, ⟨h0_32, h1_32, h2_32, h3_32, h4_32, h5_32, h6_32, h7_32, h8_32⟩, h9_32, h10_32, h11_32, h12_32⟩ := id hr_30
                                          have ho_32 : w_28 o = some (.inr (6, [.int 0, .ref (A 0), .ref (A 1), .ref (A 2), .ref (A 3), .ref (A 4), .ref (A 5), .ref (A 6), .ref (A 7), .ref (A 8), .int (S 1), .ref (A 9), .ref (A 10), .int (S 2), .ref (A 11), .long ((mzH F ps T n lim) 0), .long ((mzH F ps T n lim) 1), .long ((mzH F ps T n lim) 2), .long ((mzH F ps T n lim) 3), .ref (A 12), .long ((mzH F ps T n lim) 4)])) := ho_32
                                          have hF := hF.call hf_31 (fun t ht => Or.inl ht)
                                          refine W.eq (g2 := F0 m 281 ls []) rfl ?_
                                          refine lv_aload_n hx hb d_R_close_281 rfl (lv_at hl 5 rfl) ?_
                                          refine lv_iload hx hb d_R_close_282 (lv_at hl 9 rfl) ?_
                                          refine iv_R_151 (As := [.int (nI k)]) (rest := []) cx (r_empty l G n0 e0 w_28 o A (upd S 0 0) (mzH F ps T n lim) F (shM F ps (shA (glT F ps T n) ((mzH F ps T n lim) 4) ((closeIs spec amount ((mzH F ps T n lim) 0)) - (mzH F ps T n lim) 0)) (shE ((mzH F ps T n lim) 4) ((closeIs spec amount ((mzH F ps T n lim) 0)) - (mzH F ps T n lim) 0)) (decide (0 < ((closeIs spec amount ((mzH F ps T n lim) 0)) - (mzH F ps T n lim) 0))) (hiO (glT F ps T n)) M n) B V Z (glT F ps T n) ⟨ho_32, ⟨h0_32, h1_32, h2_32, h3_32, h4_32, h5_32, h6_32, h7_32, h8_32⟩, h9_32, h10_32, h11_32, h12_32⟩ hA sz hsz hsum k hk) ho_32 ⟨(Nat.le_of_ble_eq_true rfl), (Nat.le_of_ble_eq_true rfl)⟩ ⟨(Nat.le_of_ble_eq_true rfl), (Nat.le_of_ble_eq_true rfl)⟩ rfl hl.1 rfl (Nat.le_of_ble_eq_true rfl) d_R_close_284 hZ hS (fun v w_33 H locs hp_34 hZ hS => ?_)
                                          obtain ⟨rfl, hr_35, hf_36⟩ := hp_34
                                          obtain ⟨ho_37, ⟨h0_37, h1_37, h2_37, h3_37, h4_37, h5_37, h6_37, h7_37, h8_37⟩, h9_37, h10_37, h11_37, h12_37⟩ := id hr_35
                                          have ho_37 : w_33 o = some (.inr (6, [.int 0, .ref (A 0), .ref (A 1), .ref (A 2), .ref (A 3), .ref (A 4), .ref (A 5), .ref (A 6), .ref (A 7), .ref (A 8), .int (S 1), .ref (A 9), .ref (A 10), .int (S 2), .ref (A 11), .long ((mzH F ps T n lim) 0), .long ((mzH F ps T n lim) 1), .long ((mzH F ps T n lim) 2), .long ((mzH F ps T n lim) 3), .ref (A 12), .long ((mzH F ps T n lim) 4)])) := ho_37
                                          have hF := hF.call hf_36 (fun t ht => Or.inl ht)
                                          refine W.eq (g2 := F0 m 287 ls []) rfl ?_
                                          refine lv_aload_n hx hb d_R_close_287 rfl (lv_at hl 5 rfl) ?_
                                          refine gf_R_61 cx hZ ho_37 rfl d_R_close_288 ?_
                                          refine lv_iload hx hb d_R_close_291 (lv_at hl 4 rfl) ?_
                                          refine lv_isub hx hb d_R_close_293 ?_
                                          rw [show (((S 2) - (nI (ps 0))) : Int32) = nI (ps n - ps 0) from by rw [hen]; exact nI_subN hle]
                                          refine lv_istore (lv' := [(10, .int (nI (ps n - ps 0))), (9, .int (zi (((((szL ((mzH F ps T n lim) 0) && szL (closeIs spec amount ((mzH F ps T n lim) 0)) && szL ((mzH F ps T n lim) 4) && szL ((mzH F ps T n lim) 3) && szL ((mzH F ps T n lim) 1) && szL ((mzH F ps T n lim) 2) && decide ((mxN (F 0) sp (ps 0) (ps n - ps 0)) < 100) && decide (ps n + sumN sz 16 + 1 ≤ 4000)) && szL ((glT F ps T n) (0 : Int32).toNatClampNeg)) && szL ((glT F ps T n) (1 : Int32).toNatClampNeg)) && szL ((glT F ps T n) (2 : Int32).toNatClampNeg)) && szL ((glT F ps T n) (3 : Int32).toNatClampNeg)))), (7, .long (closeIs spec amount ((mzH F ps T n lim) 0))), (6, .int 1), (5, .int (nI (ps 0))), (0, .ref o), (1, .int spec), (2, .int amount), (3, .int lim), (4, .int (nI k))]) hx hb d_R_close_294 hl (by decide) rfl (fun ls hl => ?_)
                                          refine lv_aload_n hx hb d_R_close_296 rfl (lv_at hl 5 rfl) ?_
                                          refine lv_iload hx hb d_R_close_297 (lv_at hl 9 rfl) ?_
                                          refine lv_iload hx hb d_R_close_299 (lv_at hl 0 rfl) ?_
                                          refine lv_iconst (v := 1) hx hb d_R_close_301 (by decide) ?_
                                          refine lv_iadd hx hb d_R_close_302 ?_
                                          rw [show (((nI (ps n - ps 0)) + 1) : Int32) = nI ((ps n - ps 0) + 1) from nI_1 _]
                                          refine iv_R_154 (As := [.int (nI k), .int (nI ((ps n - ps 0) + 1))]) (rest := []) cx (r_make2 l G n0 e0 w_33 o A (upd S 0 0) (mzH F ps T n lim) (emF F sz k) (emM (shM F ps (shA (glT F ps T n) ((mzH F ps T n lim) 4) ((closeIs spec amount ((mzH F ps T n lim) 0)) - (mzH F ps T n lim) 0)) (shE ((mzH F ps T n lim) 4) ((closeIs spec amount ((mzH F ps T n lim) 0)) - (mzH F ps T n lim) 0)) (decide (0 < ((closeIs spec amount ((mzH F ps T n lim) 0)) - (mzH F ps T n lim) 0))) (hiO (glT F ps T n)) M n) sz k) B V Z (glT F ps T n) k ⟨ho_37, ⟨h0_37, h1_37, h2_37, h3_37, h4_37, h5_37, h6_37, h7_37, h8_37⟩, h9_37, h10_37, h11_37, h12_37⟩ hA sz hsz hk ((ps n - ps 0) + 1) (by omega) hsum) ho_37 ⟨(Nat.le_of_ble_eq_true rfl), (Nat.le_of_ble_eq_true rfl)⟩ ⟨(Nat.le_of_ble_eq_true rfl), (Nat.le_of_ble_eq_true rfl)⟩ rfl hl.1 rfl (Nat.le_of_ble_eq_true rfl) d_R_close_303 hZ hS (fun v w_38 H locs hp_39 hZ hS => ?_)
                                          obtain ⟨rfl, hr_40, hf_41⟩ := hp_39
                                          obtain ⟨ho_42, ⟨h0_42, h1_42, h2_42, h3_42, h4_42, h5_42, h6_42, h7_42, h8_42⟩, h9_42, h10_42, h11_42, h12_42⟩ := id hr_40
                                          have ho_42 : w_38 o = some (.inr (6, [.int 0, .ref (A 0), .ref (A 1), .ref (A 2), .ref (A 3), .ref (A 4), .ref (A 5), .ref (A 6), .ref (A 7), .ref (A 8), .int (S 1), .ref (A 9), .ref (A 10), .int (S 2), .ref (A 11), .long ((mzH F ps T n lim) 0), .long ((mzH F ps T n lim) 1), .long ((mzH F ps T n lim) 2), .long ((mzH F ps T n lim) 3), .ref (A 12), .long ((mzH F ps T n lim) 4)])) := ho_42
                                          have hF := hF.call hf_41 (fun t ht => Or.inl ht)
                                          refine W.eq (g2 := F0 m 306 ls []) rfl ?_
                                          refine lv_aload_n hx hb d_R_close_306 rfl (lv_at hl 5 rfl) ?_
                                          refine lv_iload hx hb d_R_close_307 (lv_at hl 9 rfl) ?_
                                          refine iv_R_122 (As := [.int (nI k)]) (rest := []) cx (r_startN l G n0 e0 w_38 o A (upd S 0 0) (mzH F ps T n lim) ho_42 (upd (upd Z k 0) k (nI ((ps n - ps 0) + 1))) h11_42 (szU sz k ((ps n - ps 0) + 1)) (hsz_UU hsz) k (by omega)) ho_42 ⟨(Nat.le_of_ble_eq_true rfl), (Nat.le_of_ble_eq_true rfl)⟩ ⟨(Nat.le_of_ble_eq_true rfl), (Nat.le_of_ble_eq_true rfl)⟩ rfl hl.1 rfl (Nat.le_of_ble_eq_true rfl) d_R_close_309 hZ hS (fun v w_43 H locs hp_44 hZ hS => ?_)
                                          obtain ⟨rfl, hq⟩ := hp_44
                                          subst w_43
                                          refine W.eq (g2 := F0 m 312 ls [.int (nI (stN (szU sz k ((ps n - ps 0) + 1)) k))]) rfl ?_
                                          rw [show ((nI (stN (szU sz k ((ps n - ps 0) + 1)) k)) : Int32) = nI (stN sz k) from by rw [stN_U (Nat.le_refl _)]]
                                          refine lv_istore (lv' := [(11, .int (nI (stN sz k))), (10, .int (nI (ps n - ps 0))), (9, .int (zi (((((szL ((mzH F ps T n lim) 0) && szL (closeIs spec amount ((mzH F ps T n lim) 0)) && szL ((mzH F ps T n lim) 4) && szL ((mzH F ps T n lim) 3) && szL ((mzH F ps T n lim) 1) && szL ((mzH F ps T n lim) 2) && decide ((mxN (F 0) sp (ps 0) (ps n - ps 0)) < 100) && decide (ps n + sumN sz 16 + 1 ≤ 4000)) && szL ((glT F ps T n) (0 : Int32).toNatClampNeg)) && szL ((glT F ps T n) (1 : Int32).toNatClampNeg)) && szL ((glT F ps T n) (2 : Int32).toNatClampNeg)) && szL ((glT F ps T n) (3 : Int32).toNatClampNeg)))), (7, .long (closeIs spec amount ((mzH F ps T n lim) 0))), (6, .int 1), (5, .int (nI (ps 0))), (0, .ref o), (1, .int spec), (2, .int amount), (3, .int lim), (4, .int (nI k))]) hx hb d_R_close_312 hl (by decide) rfl (fun ls hl => ?_)
                                          refine lv_aload_n hx hb d_R_close_314 rfl (lv_at hl 6 rfl) ?_
                                          refine gf_R_7 cx hZ ho_42 rfl d_R_close_315 ?_
                                          refine lv_iload hx hb d_R_close_318 (lv_at hl 0 rfl) ?_
                                          refine lv_iload hx hb d_R_close_320 (lv_at hl 4 rfl) ?_
                                          refine lv_if_eq (tgt := 329) hx hb d_R_close_322 (by decide) (fun c322 => ?_) (fun c322 => ?_)
                                          · exact absurd c322 (by decide)
                                          · refine lv_iconst (v := 3) hx hb d_R_close_325 (by decide) ?_
                                            refine lv_goto (tgt := 330) hx hb d_R_close_326 (by decide) ?_
                                            refine st_i cx hZ hS h0_42 (vp_in_nI (by unfold stN; omega) (by omega)) d_R_close_330 (fun w_45 H locs hw_46 hZ hS => ?_)
                                            have hk_47 : w_45 o = some (.inr (6, [.int 0, .ref (A 0), .ref (A 1), .ref (A 2), .ref (A 3), .ref (A 4), .ref (A 5), .ref (A 6), .ref (A 7), .ref (A 8), .int (S 1), .ref (A 9), .ref (A 10), .int (S 2), .ref (A 11), .long ((mzH F ps T n lim) 0), .long ((mzH F ps T n lim) 1), .long ((mzH F ps T n lim) 2), .long ((mzH F ps T n lim) 3), .ref (A 12), .long ((mzH F ps T n lim) 4)])) := up_ne hw_46 ho_42 (z_ne ho_42 h0_42 (by simp))
                                            have hk_48 : w_45 (A 1) = some (.inl (G.2 0, 8200, .inl ((mkF (emF F sz k) sz k ((ps n - ps 0) + 1)) 1))) := up_ne hw_46 h1_42 ((hA 1 0 (by decide) (by decide) (by decide)))
                                            have hk_49 : w_45 (A 2) = some (.inl (G.2 0, 8200, .inl ((mkF (emF F sz k) sz k ((ps n - ps 0) + 1)) 2))) := up_ne hw_46 h2_42 ((hA 2 0 (by decide) (by decide) (by decide)))
                                            have hk_50 : w_45 (A 3) = some (.inl (G.2 0, 8200, .inl ((mkF (emF F sz k) sz k ((ps n - ps 0) + 1)) 3))) := up_ne hw_46 h3_42 ((hA 3 0 (by decide) (by decide) (by decide)))
                                            have hk_51 : w_45 (A 4) = some (.inl (G.2 0, 8200, .inl ((mkF (emF F sz k) sz k ((ps n - ps 0) + 1)) 4))) := up_ne hw_46 h4_42 ((hA 4 0 (by decide) (by decide) (by decide)))
                                            have hk_52 : w_45 (A 5) = some (.inl (G.2 0, 8200, .inl ((mkF (emF F sz k) sz k ((ps n - ps 0) + 1)) 5))) := up_ne hw_46 h5_42 ((hA 5 0 (by decide) (by decide) (by decide)))
                                            have hk_53 : w_45 (A 6) = some (.inl (G.2 0, 8200, .inl ((mkF (emF F sz k) sz k ((ps n - ps 0) + 1)) 6))) := up_ne hw_46 h6_42 ((hA 6 0 (by decide) (by decide) (by decide)))
                                            have hk_54 : w_45 (A 7) = some (.inl (G.2 1, 8200, .inr (.inl (mkM (emM (shM F ps (shA (glT F ps T n) ((mzH F ps T n lim) 4) ((closeIs spec amount ((mzH F ps T n lim) 0)) - (mzH F ps T n lim) 0)) (shE ((mzH F ps T n lim) 4) ((closeIs spec amount ((mzH F ps T n lim) 0)) - (mzH F ps T n lim) 0)) (decide (0 < ((closeIs spec amount ((mzH F ps T n lim) 0)) - (mzH F ps T n lim) 0))) (hiO (glT F ps T n)) M n) sz k) sz k ((ps n - ps 0) + 1))))) := up_ne hw_46 h7_42 ((hA 7 0 (by decide) (by decide) (by decide)))
                                            have hk_55 : w_45 (A 8) = some (.inl (G.2 0, 8200, .inl ((mkF (emF F sz k) sz k ((ps n - ps 0) + 1)) 8))) := up_ne hw_46 h8_42 ((hA 8 0 (by decide) (by decide) (by decide)))
                                            have hk_56 : w_45 (A 9) = some (.inl (G.2 0, 101, .inl B)) := up_ne hw_46 h9_42 ((hA 9 0 (by decide) (by decide) (by decide)))
                                            have hk_57 : w_45 (A 10) = some (.inl (G.2 2, 101, .inl V)) := up_ne hw_46 h10_42 ((hA 10 0 (by decide) (by decide) (by decide)))
                                            have hk_58 : w_45 (A 11) = some (.inl (G.2 0, 16, .inl (upd (upd Z k 0) k (nI ((ps n - ps 0) + 1))))) := up_ne hw_46 h11_42 ((hA 11 0 (by decide) (by decide) (by decide)))
                                            have hk_59 : w_45 (A 12) = some (.inl (G.2 1, 4, .inr (.inl (glT F ps T n)))) := up_ne hw_46 h12_42 ((hA 12 0 (by decide) (by decide) (by decide)))
                                            have hF := hF.put hw_46 (Or.inl (by simp))
                                            have hc_60 : w_45 (A 0) = some (.inl (G.2 0, 8200, .inl (upd ((mkF (emF F sz k) sz k ((ps n - ps 0) + 1)) 0) (stN sz k) 3))) := by have q := up_self hw_46; rw [nI_clamp (by first | omega | (unfold stN; omega))] at q; exact q
                                            refine lv_aload_n hx hb d_R_close_331 rfl (lv_at hl 6 rfl) ?_
                                            refine gf_R_13 cx hZ hk_47 rfl d_R_close_332 ?_
                                            refine lv_iload hx hb d_R_close_335 (lv_at hl 0 rfl) ?_
                                            refine lv_iload hx hb d_R_close_337 (lv_at hl 4 rfl) ?_
                                            refine lv_if_eq (tgt := 349) hx hb d_R_close_339 (by decide) (fun c339 => ?_) (fun c339 => ?_)
                                            · exact absurd c339 (by decide)
                                            · refine lv_aload_n hx hb d_R_close_342 rfl (lv_at hl 6 rfl) ?_
                                              refine gf_R_100 cx hZ hk_47 rfl d_R_close_343 ?_
                                              refine lv_goto (tgt := 351) hx hb d_R_close_346 (by decide) ?_
                                              refine lv_l2i hx hb d_R_close_351 rfl ?_
                                              refine st_i cx hZ hS hk_48 (vp_in_nI (by unfold stN; omega) (by omega)) d_R_close_352 (fun w_61 H locs hw_62 hZ hS => ?_)
                                              have hk_63 : w_61 o = some (.inr (6, [.int 0, .ref (A 0), .ref (A 1), .ref (A 2), .ref (A 3), .ref (A 4), .ref (A 5), .ref (A 6), .ref (A 7), .ref (A 8), .int (S 1), .ref (A 9), .ref (A 10), .int (S 2), .ref (A 11), .long ((mzH F ps T n lim) 0), .long ((mzH F ps T n lim) 1), .long ((mzH F ps T n lim) 2), .long ((mzH F ps T n lim) 3), .ref (A 12), .long ((mzH F ps T n lim) 4)])) := up_ne hw_62 hk_47 (z_ne hk_47 hk_48 (by simp))
                                              have hk_64 : w_61 (A 0) = some (.inl (G.2 0, 8200, .inl (upd ((mkF (emF F sz k) sz k ((ps n - ps 0) + 1)) 0) (stN sz k) 3))) := up_ne hw_62 hc_60 ((hA 0 1 (by decide) (by decide) (by decide)))
                                              have hk_65 : w_61 (A 2) = some (.inl (G.2 0, 8200, .inl ((mkF (emF F sz k) sz k ((ps n - ps 0) + 1)) 2))) := up_ne hw_62 hk_49 ((hA 2 1 (by decide) (by decide) (by decide)))
                                              have hk_66 : w_61 (A 3) = some (.inl (G.2 0, 8200, .inl ((mkF (emF F sz k) sz k ((ps n - ps 0) + 1)) 3))) := up_ne hw_62 hk_50 ((hA 3 1 (by decide) (by decide) (by decide)))
                                              have hk_67 : w_61 (A 4) = some (.inl (G.2 0, 8200, .inl ((mkF (emF F sz k) sz k ((ps n - ps 0) + 1)) 4))) := up_ne hw_62 hk_51 ((hA 4 1 (by decide) (by decide) (by decide)))
                                              have hk_68 : w_61 (A 5) = some (.inl (G.2 0, 8200, .inl ((mkF (emF F sz k) sz k ((ps n - ps 0) + 1)) 5))) := up_ne hw_62 hk_52 ((hA 5 1 (by decide) (by decide) (by decide)))
                                              have hk_69 : w_61 (A 6) = some (.inl (G.2 0, 8200, .inl ((mkF (emF F sz k) sz k ((ps n - ps 0) + 1)) 6))) := up_ne hw_62 hk_53 ((hA 6 1 (by decide) (by decide) (by decide)))
                                              have hk_70 : w_61 (A 7) = some (.inl (G.2 1, 8200, .inr (.inl (mkM (emM (shM F ps (shA (glT F ps T n) ((mzH F ps T n lim) 4) ((closeIs spec amount ((mzH F ps T n lim) 0)) - (mzH F ps T n lim) 0)) (shE ((mzH F ps T n lim) 4) ((closeIs spec amount ((mzH F ps T n lim) 0)) - (mzH F ps T n lim) 0)) (decide (0 < ((closeIs spec amount ((mzH F ps T n lim) 0)) - (mzH F ps T n lim) 0))) (hiO (glT F ps T n)) M n) sz k) sz k ((ps n - ps 0) + 1))))) := up_ne hw_62 hk_54 ((hA 7 1 (by decide) (by decide) (by decide)))
                                              have hk_71 : w_61 (A 8) = some (.inl (G.2 0, 8200, .inl ((mkF (emF F sz k) sz k ((ps n - ps 0) + 1)) 8))) := up_ne hw_62 hk_55 ((hA 8 1 (by decide) (by decide) (by decide)))
                                              have hk_72 : w_61 (A 9) = some (.inl (G.2 0, 101, .inl B)) := up_ne hw_62 hk_56 ((hA 9 1 (by decide) (by decide) (by decide)))
                                              have hk_73 : w_61 (A 10) = some (.inl (G.2 2, 101, .inl V)) := up_ne hw_62 hk_57 ((hA 10 1 (by decide) (by decide) (by decide)))
                                              have hk_74 : w_61 (A 11) = some (.inl (G.2 0, 16, .inl (upd (upd Z k 0) k (nI ((ps n - ps 0) + 1))))) := up_ne hw_62 hk_58 ((hA 11 1 (by decide) (by decide) (by decide)))
                                              have hk_75 : w_61 (A 12) = some (.inl (G.2 1, 4, .inr (.inl (glT F ps T n)))) := up_ne hw_62 hk_59 ((hA 12 1 (by decide) (by decide) (by decide)))
                                              have hF := hF.put hw_62 (Or.inl (by simp))
                                              have hc_76 : w_61 (A 1) = some (.inl (G.2 0, 8200, .inl (upd ((mkF (emF F sz k) sz k ((ps n - ps 0) + 1)) 1) (stN sz k) (((mzH F ps T n lim) 3).toInt32)))) := by have q := up_self hw_62; rw [nI_clamp (by first | omega | (unfold stN; omega))] at q; exact q
                                              refine lv_aload_n hx hb d_R_close_353 rfl (lv_at hl 6 rfl) ?_
                                              refine gf_R_16 cx hZ hk_63 rfl d_R_close_354 ?_
                                              refine lv_iload hx hb d_R_close_357 (lv_at hl 0 rfl) ?_
                                              refine lv_iload hx hb d_R_close_359 (lv_at hl 4 rfl) ?_
                                              refine lv_if_eq (tgt := 369) hx hb d_R_close_361 (by decide) (fun c361 => ?_) (fun c361 => ?_)
                                              · exact absurd c361 (by decide)
                                              · refine lv_lload hx hb d_R_close_364 (lv_at hl 3 rfl) ?_
                                                refine lv_goto (tgt := 373) hx hb d_R_close_366 (by decide) ?_
                                                refine lv_l2i hx hb d_R_close_373 rfl ?_
                                                refine st_i cx hZ hS hk_65 (vp_in_nI (by unfold stN; omega) (by omega)) d_R_close_374 (fun w_77 H locs hw_78 hZ hS => ?_)
                                                have hk_79 : w_77 o = some (.inr (6, [.int 0, .ref (A 0), .ref (A 1), .ref (A 2), .ref (A 3), .ref (A 4), .ref (A 5), .ref (A 6), .ref (A 7), .ref (A 8), .int (S 1), .ref (A 9), .ref (A 10), .int (S 2), .ref (A 11), .long ((mzH F ps T n lim) 0), .long ((mzH F ps T n lim) 1), .long ((mzH F ps T n lim) 2), .long ((mzH F ps T n lim) 3), .ref (A 12), .long ((mzH F ps T n lim) 4)])) := up_ne hw_78 hk_63 (z_ne hk_63 hk_65 (by simp))
                                                have hk_80 : w_77 (A 0) = some (.inl (G.2 0, 8200, .inl (upd ((mkF (emF F sz k) sz k ((ps n - ps 0) + 1)) 0) (stN sz k) 3))) := up_ne hw_78 hk_64 ((hA 0 2 (by decide) (by decide) (by decide)))
                                                have hk_81 : w_77 (A 1) = some (.inl (G.2 0, 8200, .inl (upd ((mkF (emF F sz k) sz k ((ps n - ps 0) + 1)) 1) (stN sz k) (((mzH F ps T n lim) 3).toInt32)))) := up_ne hw_78 hc_76 ((hA 1 2 (by decide) (by decide) (by decide)))
                                                have hk_82 : w_77 (A 3) = some (.inl (G.2 0, 8200, .inl ((mkF (emF F sz k) sz k ((ps n - ps 0) + 1)) 3))) := up_ne hw_78 hk_66 ((hA 3 2 (by decide) (by decide) (by decide)))
                                                have hk_83 : w_77 (A 4) = some (.inl (G.2 0, 8200, .inl ((mkF (emF F sz k) sz k ((ps n - ps 0) + 1)) 4))) := up_ne hw_78 hk_67 ((hA 4 2 (by decide) (by decide) (by decide)))
                                                have hk_84 : w_77 (A 5) = some (.inl (G.2 0, 8200, .inl ((mkF (emF F sz k) sz k ((ps n - ps 0) + 1)) 5))) := up_ne hw_78 hk_68 ((hA 5 2 (by decide) (by decide) (by decide)))
                                                have hk_85 : w_77 (A 6) = some (.inl (G.2 0, 8200, .inl ((mkF (emF F sz k) sz k ((ps n - ps 0) + 1)) 6))) := up_ne hw_78 hk_69 ((hA 6 2 (by decide) (by decide) (by decide)))
                                                have hk_86 : w_77 (A 7) = some (.inl (G.2 1, 8200, .inr (.inl (mkM (emM (shM F ps (shA (glT F ps T n) ((mzH F ps T n lim) 4) ((closeIs spec amount ((mzH F ps T n lim) 0)) - (mzH F ps T n lim) 0)) (shE ((mzH F ps T n lim) 4) ((closeIs spec amount ((mzH F ps T n lim) 0)) - (mzH F ps T n lim) 0)) (decide (0 < ((closeIs spec amount ((mzH F ps T n lim) 0)) - (mzH F ps T n lim) 0))) (hiO (glT F ps T n)) M n) sz k) sz k ((ps n - ps 0) + 1))))) := up_ne hw_78 hk_70 ((hA 7 2 (by decide) (by decide) (by decide)))
                                                have hk_87 : w_77 (A 8) = some (.inl (G.2 0, 8200, .inl ((mkF (emF F sz k) sz k ((ps n - ps 0) + 1)) 8))) := up_ne hw_78 hk_71 ((hA 8 2 (by decide) (by decide) (by decide)))
                                                have hk_88 : w_77 (A 9) = some (.inl (G.2 0, 101, .inl B)) := up_ne hw_78 hk_72 ((hA 9 2 (by decide) (by decide) (by decide)))
                                                have hk_89 : w_77 (A 10) = some (.inl (G.2 2, 101, .inl V)) := up_ne hw_78 hk_73 ((hA 10 2 (by decide) (by decide) (by decide)))
                                                have hk_90 : w_77 (A 11) = some (.inl (G.2 0, 16, .inl (upd (upd Z k 0) k (nI ((ps n - ps 0) + 1))))) := up_ne hw_78 hk_74 ((hA 11 2 (by decide) (by decide) (by decide)))
                                                have hk_91 : w_77 (A 12) = some (.inl (G.2 1, 4, .inr (.inl (glT F ps T n)))) := up_ne hw_78 hk_75 ((hA 12 2 (by decide) (by decide) (by decide)))
                                                have hF := hF.put hw_78 (Or.inl (by simp))
                                                have hc_92 : w_77 (A 2) = some (.inl (G.2 0, 8200, .inl (upd ((mkF (emF F sz k) sz k ((ps n - ps 0) + 1)) 2) (stN sz k) ((closeIs spec amount ((mzH F ps T n lim) 0)).toInt32)))) := by have q := up_self hw_78; rw [nI_clamp (by first | omega | (unfold stN; omega))] at q; exact q
                                                refine lv_aload_n hx hb d_R_close_375 rfl (lv_at hl 6 rfl) ?_
                                                refine gf_R_19 cx hZ hk_79 rfl d_R_close_376 ?_
                                                refine lv_iload hx hb d_R_close_379 (lv_at hl 0 rfl) ?_
                                                refine lv_aload_n hx hb d_R_close_381 rfl (lv_at hl 6 rfl) ?_
                                                refine gf_R_97 cx hZ hk_79 rfl d_R_close_382 ?_
                                                refine lv_l2i hx hb d_R_close_385 rfl ?_
                                                refine st_i cx hZ hS hk_82 (vp_in_nI (by unfold stN; omega) (by omega)) d_R_close_386 (fun w_93 H locs hw_94 hZ hS => ?_)
                                                have hk_95 : w_93 o = some (.inr (6, [.int 0, .ref (A 0), .ref (A 1), .ref (A 2), .ref (A 3), .ref (A 4), .ref (A 5), .ref (A 6), .ref (A 7), .ref (A 8), .int (S 1), .ref (A 9), .ref (A 10), .int (S 2), .ref (A 11), .long ((mzH F ps T n lim) 0), .long ((mzH F ps T n lim) 1), .long ((mzH F ps T n lim) 2), .long ((mzH F ps T n lim) 3), .ref (A 12), .long ((mzH F ps T n lim) 4)])) := up_ne hw_94 hk_79 (z_ne hk_79 hk_82 (by simp))
                                                have hk_96 : w_93 (A 0) = some (.inl (G.2 0, 8200, .inl (upd ((mkF (emF F sz k) sz k ((ps n - ps 0) + 1)) 0) (stN sz k) 3))) := up_ne hw_94 hk_80 ((hA 0 3 (by decide) (by decide) (by decide)))
                                                have hk_97 : w_93 (A 1) = some (.inl (G.2 0, 8200, .inl (upd ((mkF (emF F sz k) sz k ((ps n - ps 0) + 1)) 1) (stN sz k) (((mzH F ps T n lim) 3).toInt32)))) := up_ne hw_94 hk_81 ((hA 1 3 (by decide) (by decide) (by decide)))
                                                have hk_98 : w_93 (A 2) = some (.inl (G.2 0, 8200, .inl (upd ((mkF (emF F sz k) sz k ((ps n - ps 0) + 1)) 2) (stN sz k) ((closeIs spec amount ((mzH F ps T n lim) 0)).toInt32)))) := up_ne hw_94 hc_92 ((hA 2 3 (by decide) (by decide) (by decide)))
                                                have hk_99 : w_93 (A 4) = some (.inl (G.2 0, 8200, .inl ((mkF (emF F sz k) sz k ((ps n - ps 0) + 1)) 4))) := up_ne hw_94 hk_83 ((hA 4 3 (by decide) (by decide) (by decide)))
                                                have hk_100 : w_93 (A 5) = some (.inl (G.2 0, 8200, .inl ((mkF (emF F sz k) sz k ((ps n - ps 0) + 1)) 5))) := up_ne hw_94 hk_84 ((hA 5 3 (by decide) (by decide) (by decide)))
                                                have hk_101 : w_93 (A 6) = some (.inl (G.2 0, 8200, .inl ((mkF (emF F sz k) sz k ((ps n - ps 0) + 1)) 6))) := up_ne hw_94 hk_85 ((hA 6 3 (by decide) (by decide) (by decide)))
                                                have hk_102 : w_93 (A 7) = some (.inl (G.2 1, 8200, .inr (.inl (mkM (emM (shM F ps (shA (glT F ps T n) ((mzH F ps T n lim) 4) ((closeIs spec amount ((mzH F ps T n lim) 0)) - (mzH F ps T n lim) 0)) (shE ((mzH F ps T n lim) 4) ((closeIs spec amount ((mzH F ps T n lim) 0)) - (mzH F ps T n lim) 0)) (decide (0 < ((closeIs spec amount ((mzH F ps T n lim) 0)) - (mzH F ps T n lim) 0))) (hiO (glT F ps T n)) M n) sz k) sz k ((ps n - ps 0) + 1))))) := up_ne hw_94 hk_86 ((hA 7 3 (by decide) (by decide) (by decide)))
                                                have hk_103 : w_93 (A 8) = some (.inl (G.2 0, 8200, .inl ((mkF (emF F sz k) sz k ((ps n - ps 0) + 1)) 8))) := up_ne hw_94 hk_87 ((hA 8 3 (by decide) (by decide) (by decide)))
                                                have hk_104 : w_93 (A 9) = some (.inl (G.2 0, 101, .inl B)) := up_ne hw_94 hk_88 ((hA 9 3 (by decide) (by decide) (by decide)))
                                                have hk_105 : w_93 (A 10) = some (.inl (G.2 2, 101, .inl V)) := up_ne hw_94 hk_89 ((hA 10 3 (by decide) (by decide) (by decide)))
                                                have hk_106 : w_93 (A 11) = some (.inl (G.2 0, 16, .inl (upd (upd Z k 0) k (nI ((ps n - ps 0) + 1))))) := up_ne hw_94 hk_90 ((hA 11 3 (by decide) (by decide) (by decide)))
                                                have hk_107 : w_93 (A 12) = some (.inl (G.2 1, 4, .inr (.inl (glT F ps T n)))) := up_ne hw_94 hk_91 ((hA 12 3 (by decide) (by decide) (by decide)))
                                                have hF := hF.put hw_94 (Or.inl (by simp))
                                                have hc_108 : w_93 (A 3) = some (.inl (G.2 0, 8200, .inl (upd ((mkF (emF F sz k) sz k ((ps n - ps 0) + 1)) 3) (stN sz k) (((mzH F ps T n lim) 2).toInt32)))) := by have q := up_self hw_94; rw [nI_clamp (by first | omega | (unfold stN; omega))] at q; exact q
                                                refine lv_aload_n hx hb d_R_close_387 rfl (lv_at hl 6 rfl) ?_
                                                refine gf_R_22 cx hZ hk_95 rfl d_R_close_388 ?_
                                                refine lv_iload hx hb d_R_close_391 (lv_at hl 0 rfl) ?_
                                                refine lv_iconst (v := 0) hx hb d_R_close_393 (by decide) ?_
                                                refine st_i cx hZ hS hk_99 (vp_in_nI (by unfold stN; omega) (by omega)) d_R_close_394 (fun w_109 H locs hw_110 hZ hS => ?_)
                                                have hk_111 : w_109 o = some (.inr (6, [.int 0, .ref (A 0), .ref (A 1), .ref (A 2), .ref (A 3), .ref (A 4), .ref (A 5), .ref (A 6), .ref (A 7), .ref (A 8), .int (S 1), .ref (A 9), .ref (A 10), .int (S 2), .ref (A 11), .long ((mzH F ps T n lim) 0), .long ((mzH F ps T n lim) 1), .long ((mzH F ps T n lim) 2), .long ((mzH F ps T n lim) 3), .ref (A 12), .long ((mzH F ps T n lim) 4)])) := up_ne hw_110 hk_95 (z_ne hk_95 hk_99 (by simp))
                                                have hk_112 : w_109 (A 0) = some (.inl (G.2 0, 8200, .inl (upd ((mkF (emF F sz k) sz k ((ps n - ps 0) + 1)) 0) (stN sz k) 3))) := up_ne hw_110 hk_96 ((hA 0 4 (by decide) (by decide) (by decide)))
                                                have hk_113 : w_109 (A 1) = some (.inl (G.2 0, 8200, .inl (upd ((mkF (emF F sz k) sz k ((ps n - ps 0) + 1)) 1) (stN sz k) (((mzH F ps T n lim) 3).toInt32)))) := up_ne hw_110 hk_97 ((hA 1 4 (by decide) (by decide) (by decide)))
                                                have hk_114 : w_109 (A 2) = some (.inl (G.2 0, 8200, .inl (upd ((mkF (emF F sz k) sz k ((ps n - ps 0) + 1)) 2) (stN sz k) ((closeIs spec amount ((mzH F ps T n lim) 0)).toInt32)))) := up_ne hw_110 hk_98 ((hA 2 4 (by decide) (by decide) (by decide)))
                                                have hk_115 : w_109 (A 3) = some (.inl (G.2 0, 8200, .inl (upd ((mkF (emF F sz k) sz k ((ps n - ps 0) + 1)) 3) (stN sz k) (((mzH F ps T n lim) 2).toInt32)))) := up_ne hw_110 hc_108 ((hA 3 4 (by decide) (by decide) (by decide)))
                                                have hk_116 : w_109 (A 5) = some (.inl (G.2 0, 8200, .inl ((mkF (emF F sz k) sz k ((ps n - ps 0) + 1)) 5))) := up_ne hw_110 hk_100 ((hA 5 4 (by decide) (by decide) (by decide)))
                                                have hk_117 : w_109 (A 6) = some (.inl (G.2 0, 8200, .inl ((mkF (emF F sz k) sz k ((ps n - ps 0) + 1)) 6))) := up_ne hw_110 hk_101 ((hA 6 4 (by decide) (by decide) (by decide)))
                                                have hk_118 : w_109 (A 7) = some (.inl (G.2 1, 8200, .inr (.inl (mkM (emM (shM F ps (shA (glT F ps T n) ((mzH F ps T n lim) 4) ((closeIs spec amount ((mzH F ps T n lim) 0)) - (mzH F ps T n lim) 0)) (shE ((mzH F ps T n lim) 4) ((closeIs spec amount ((mzH F ps T n lim) 0)) - (mzH F ps T n lim) 0)) (decide (0 < ((closeIs spec amount ((mzH F ps T n lim) 0)) - (mzH F ps T n lim) 0))) (hiO (glT F ps T n)) M n) sz k) sz k ((ps n - ps 0) + 1))))) := up_ne hw_110 hk_102 ((hA 7 4 (by decide) (by decide) (by decide)))
                                                have hk_119 : w_109 (A 8) = some (.inl (G.2 0, 8200, .inl ((mkF (emF F sz k) sz k ((ps n - ps 0) + 1)) 8))) := up_ne hw_110 hk_103 ((hA 8 4 (by decide) (by decide) (by decide)))
                                                have hk_120 : w_109 (A 9) = some (.inl (G.2 0, 101, .inl B)) := up_ne hw_110 hk_104 ((hA 9 4 (by decide) (by decide) (by decide)))
                                                have hk_121 : w_109 (A 10) = some (.inl (G.2 2, 101, .inl V)) := up_ne hw_110 hk_105 ((hA 10 4 (by decide) (by decide) (by decide)))
                                                have hk_122 : w_109 (A 11) = some (.inl (G.2 0, 16, .inl (upd (upd Z k 0) k (nI ((ps n - ps 0) + 1))))) := up_ne hw_110 hk_106 ((hA 11 4 (by decide) (by decide) (by decide)))
                                                have hk_123 : w_109 (A 12) = some (.inl (G.2 1, 4, .inr (.inl (glT F ps T n)))) := up_ne hw_110 hk_107 ((hA 12 4 (by decide) (by decide) (by decide)))
                                                have hF := hF.put hw_110 (Or.inl (by simp))
                                                have hc_124 : w_109 (A 4) = some (.inl (G.2 0, 8200, .inl (upd ((mkF (emF F sz k) sz k ((ps n - ps 0) + 1)) 4) (stN sz k) 0))) := by have q := up_self hw_110; rw [nI_clamp (by first | omega | (unfold stN; omega))] at q; exact q
                                                refine lv_aload_n hx hb d_R_close_395 rfl (lv_at hl 6 rfl) ?_
                                                refine gf_R_35 cx hZ hk_111 rfl d_R_close_396 ?_
                                                refine lv_iload hx hb d_R_close_399 (lv_at hl 0 rfl) ?_
                                                refine lv_iload hx hb d_R_close_401 (lv_at hl 1 rfl) ?_
                                                refine lv_iconst (v := 1) hx hb d_R_close_403 (by decide) ?_
                                                refine lv_iadd hx hb d_R_close_404 ?_
                                                rw [show (((nI (ps n - ps 0)) + 1) : Int32) = nI ((ps n - ps 0) + 1) from nI_1 _]
                                                refine st_i cx hZ hS hk_119 (vp_in_nI (by unfold stN; omega) (by omega)) d_R_close_405 (fun w_125 H locs hw_126 hZ hS => ?_)
                                                have hk_127 : w_125 o = some (.inr (6, [.int 0, .ref (A 0), .ref (A 1), .ref (A 2), .ref (A 3), .ref (A 4), .ref (A 5), .ref (A 6), .ref (A 7), .ref (A 8), .int (S 1), .ref (A 9), .ref (A 10), .int (S 2), .ref (A 11), .long ((mzH F ps T n lim) 0), .long ((mzH F ps T n lim) 1), .long ((mzH F ps T n lim) 2), .long ((mzH F ps T n lim) 3), .ref (A 12), .long ((mzH F ps T n lim) 4)])) := up_ne hw_126 hk_111 (z_ne hk_111 hk_119 (by simp))
                                                have hk_128 : w_125 (A 0) = some (.inl (G.2 0, 8200, .inl (upd ((mkF (emF F sz k) sz k ((ps n - ps 0) + 1)) 0) (stN sz k) 3))) := up_ne hw_126 hk_112 ((hA 0 8 (by decide) (by decide) (by decide)))
                                                have hk_129 : w_125 (A 1) = some (.inl (G.2 0, 8200, .inl (upd ((mkF (emF F sz k) sz k ((ps n - ps 0) + 1)) 1) (stN sz k) (((mzH F ps T n lim) 3).toInt32)))) := up_ne hw_126 hk_113 ((hA 1 8 (by decide) (by decide) (by decide)))
                                                have hk_130 : w_125 (A 2) = some (.inl (G.2 0, 8200, .inl (upd ((mkF (emF F sz k) sz k ((ps n - ps 0) + 1)) 2) (stN sz k) ((closeIs spec amount ((mzH F ps T n lim) 0)).toInt32)))) := up_ne hw_126 hk_114 ((hA 2 8 (by decide) (by decide) (by decide)))
                                                have hk_131 : w_125 (A 3) = some (.inl (G.2 0, 8200, .inl (upd ((mkF (emF F sz k) sz k ((ps n - ps 0) + 1)) 3) (stN sz k) (((mzH F ps T n lim) 2).toInt32)))) := up_ne hw_126 hk_115 ((hA 3 8 (by decide) (by decide) (by decide)))
                                                have hk_132 : w_125 (A 4) = some (.inl (G.2 0, 8200, .inl (upd ((mkF (emF F sz k) sz k ((ps n - ps 0) + 1)) 4) (stN sz k) 0))) := up_ne hw_126 hc_124 ((hA 4 8 (by decide) (by decide) (by decide)))
                                                have hk_133 : w_125 (A 5) = some (.inl (G.2 0, 8200, .inl ((mkF (emF F sz k) sz k ((ps n - ps 0) + 1)) 5))) := up_ne hw_126 hk_116 ((hA 5 8 (by decide) (by decide) (by decide)))
                                                have hk_134 : w_125 (A 6) = some (.inl (G.2 0, 8200, .inl ((mkF (emF F sz k) sz k ((ps n - ps 0) + 1)) 6))) := up_ne hw_126 hk_117 ((hA 6 8 (by decide) (by decide) (by decide)))
                                                have hk_135 : w_125 (A 7) = some (.inl (G.2 1, 8200, .inr (.inl (mkM (emM (shM F ps (shA (glT F ps T n) ((mzH F ps T n lim) 4) ((closeIs spec amount ((mzH F ps T n lim) 0)) - (mzH F ps T n lim) 0)) (shE ((mzH F ps T n lim) 4) ((closeIs spec amount ((mzH F ps T n lim) 0)) - (mzH F ps T n lim) 0)) (decide (0 < ((closeIs spec amount ((mzH F ps T n lim) 0)) - (mzH F ps T n lim) 0))) (hiO (glT F ps T n)) M n) sz k) sz k ((ps n - ps 0) + 1))))) := up_ne hw_126 hk_118 ((hA 7 8 (by decide) (by decide) (by decide)))
                                                have hk_136 : w_125 (A 9) = some (.inl (G.2 0, 101, .inl B)) := up_ne hw_126 hk_120 ((hA 9 8 (by decide) (by decide) (by decide)))
                                                have hk_137 : w_125 (A 10) = some (.inl (G.2 2, 101, .inl V)) := up_ne hw_126 hk_121 ((hA 10 8 (by decide) (by decide) (by decide)))
                                                have hk_138 : w_125 (A 11) = some (.inl (G.2 0, 16, .inl (upd (upd Z k 0) k (nI ((ps n - ps 0) + 1))))) := up_ne hw_126 hk_122 ((hA 11 8 (by decide) (by decide) (by decide)))
                                                have hk_139 : w_125 (A 12) = some (.inl (G.2 1, 4, .inr (.inl (glT F ps T n)))) := up_ne hw_126 hk_123 ((hA 12 8 (by decide) (by decide) (by decide)))
                                                have hF := hF.put hw_126 (Or.inl (by simp))
                                                have hc_140 : w_125 (A 8) = some (.inl (G.2 0, 8200, .inl (upd ((mkF (emF F sz k) sz k ((ps n - ps 0) + 1)) 8) (stN sz k) (nI ((ps n - ps 0) + 1))))) := by have q := up_self hw_126; rw [nI_clamp (by first | omega | (unfold stN; omega))] at q; exact q
                                                refine lv_iconst (v := 0) hx hb d_R_close_406 (by decide) ?_
                                                refine lv_istore (lv' := [(12, .int 0), (11, .int (nI (stN sz k))), (10, .int (nI (ps n - ps 0))), (9, .int (zi (((((szL ((mzH F ps T n lim) 0) && szL (closeIs spec amount ((mzH F ps T n lim) 0)) && szL ((mzH F ps T n lim) 4) && szL ((mzH F ps T n lim) 3) && szL ((mzH F ps T n lim) 1) && szL ((mzH F ps T n lim) 2) && decide ((mxN (F 0) sp (ps 0) (ps n - ps 0)) < 100) && decide (ps n + sumN sz 16 + 1 ≤ 4000)) && szL ((glT F ps T n) (0 : Int32).toNatClampNeg)) && szL ((glT F ps T n) (1 : Int32).toNatClampNeg)) && szL ((glT F ps T n) (2 : Int32).toNatClampNeg)) && szL ((glT F ps T n) (3 : Int32).toNatClampNeg)))), (7, .long (closeIs spec amount ((mzH F ps T n lim) 0))), (6, .int 1), (5, .int (nI (ps 0))), (0, .ref o), (1, .int spec), (2, .int amount), (3, .int lim), (4, .int (nI k))]) hx hb d_R_close_407 hl (by decide) rfl (fun ls hl => ?_)
                                                have loop_409 : ∀ (j i : Nat) (w2 : zw) (H : Heap) (locs : List Loc) (ls : Array Slot), i + j = (ps n - ps 0) → Zw G.1 vwC (zA n0) w2 H → va_S (zA n0) s.heap H locs → Fr [o, (A 0), (A 1), (A 2), (A 3), (A 4), (A 5), (A 6), (A 7), (A 8), (A 9), (A 10), (A 11), (A 12)] w w2 → RA G w2 o A (upd S 0 0) (mzH F ps T n lim) (cpF (hdF (mkF (emF F sz k) sz k ((ps n - ps 0) + 1)) (stN sz k) 3 (((mzH F ps T n lim) 3).toInt32) ((closeIs spec amount ((mzH F ps T n lim) 0)).toInt32) (((mzH F ps T n lim) 2).toInt32) (nI ((ps n - ps 0) + 1))) (ps 0) ((stN sz k) + 1) i) (cpM (mkM (emM (shM F ps (shA (glT F ps T n) ((mzH F ps T n lim) 4) ((closeIs spec amount ((mzH F ps T n lim) 0)) - (mzH F ps T n lim) 0)) (shE ((mzH F ps T n lim) 4) ((closeIs spec amount ((mzH F ps T n lim) 0)) - (mzH F ps T n lim) 0)) (decide (0 < ((closeIs spec amount ((mzH F ps T n lim) 0)) - (mzH F ps T n lim) 0))) (hiO (glT F ps T n)) M n) sz k) sz k ((ps n - ps 0) + 1)) (ps 0) ((stN sz k) + 1) i) B V (upd (upd Z k 0) k (nI ((ps n - ps 0) + 1))) (glT F ps T n) → lv_has ls 13 [(12, .int (nI i)), (11, .int (nI (stN sz k))), (10, .int (nI (ps n - ps 0))), (7, .long (closeIs spec amount ((mzH F ps T n lim) 0))), (5, .int (nI (ps 0))), (0, .ref o)] → W p l e ({ frames := 3, cells := 0, slots := 0, locals := 150 }) s m [.ref o, .int spec, .int amount, .int lim, .int (nI k)].toArray below meth c H locs 0 0 (MQ below (zQ G.1 vwC n0 (fun v w1 => ∃ r, v = some (.int r) ∧ (((closeG (mzH F ps T n lim) (glT F ps T n) (closeIs spec amount ((mzH F ps T n lim) 0)) (mxN (F 0) sp (ps 0) (ps n - ps 0)) (ps n + sumN sz 16)) = true ∧ r = (closeIs spec amount ((mzH F ps T n lim) 0)).toInt32 ∧ RA G w1 o A (upd (upd (upd S 0 0) 1 (nI lt)) 2 (nI (ps 0))) (mzH F ps T n lim) (cpF (hdF (mkF (emF F sz k) sz k ((ps n - ps 0) + 1)) (stN sz k) 3 (((mzH F ps T n lim) 3).toInt32) ((closeIs spec amount ((mzH F ps T n lim) 0)).toInt32) (((mzH F ps T n lim) 2).toInt32) (nI ((ps n - ps 0) + 1))) (ps 0) ((stN sz k) + 1) (ps n - ps 0)) (cpM (mkM (emM (shM F ps (shA (glT F ps T n) ((mzH F ps T n lim) 4) ((closeIs spec amount ((mzH F ps T n lim) 0)) - (mzH F ps T n lim) 0)) (shE ((mzH F ps T n lim) 4) ((closeIs spec amount ((mzH F ps T n lim) 0)) - (mzH F ps T n lim) 0)) (decide (0 < ((closeIs spec amount ((mzH F ps T n lim) 0)) - (mzH F ps T n lim) 0))) (hiO (glT F ps T n)) M n) sz k) sz k ((ps n - ps 0) + 1)) (ps 0) ((stN sz k) + 1) (ps n - ps 0)) B V (upd (upd Z k 0) k (nI ((ps n - ps 0) + 1))) (glT F ps T n)) ∨ ((closeG (mzH F ps T n lim) (glT F ps T n) (closeIs spec amount ((mzH F ps T n lim) 0)) (mxN (F 0) sp (ps 0) (ps n - ps 0)) (ps n + sumN sz 16)) = false ∧ RA G w1 o A (upd S 0 3) (mzH F ps T n lim) F M B V Z (glT F ps T n))) ∧ Fr (allR o A) w w1)) [.ref o, .int spec, .int amount, .int lim, .int (nI k)].toArray s ({ frames := 3, cells := 0, slots := 0, locals := 150 } : Room).cells ({ frames := 3, cells := 0, slots := 0, locals := 150 } : Room).slots (zA n0)) (F0 m 409 ls []) := by
                                                  intro j
                                                  induction j with
                                                  | zero =>
                                                    intro i w2 H locs ls hik hZ hS hF hr2 hl
                                                    have hin : i = (ps n - ps 0) := by omega
                                                    subst hin
                                                    obtain ⟨ho_141, ⟨h0_141, h1_141, h2_141, h3_141, h4_141, h5_141, h6_141, h7_141, h8_141⟩, h9_141, h10_141, h11_141, h12_141⟩ := id hr2
                                                    have ho_141 : w2 o = some (.inr (6, [.int 0, .ref (A 0), .ref (A 1), .ref (A 2), .ref (A 3), .ref (A 4), .ref (A 5), .ref (A 6), .ref (A 7), .ref (A 8), .int (S 1), .ref (A 9), .ref (A 10), .int (S 2), .ref (A 11), .long ((mzH F ps T n lim) 0), .long ((mzH F ps T n lim) 1), .long ((mzH F ps T n lim) 2), .long ((mzH F ps T n lim) 3), .ref (A 12), .long ((mzH F ps T n lim) 4)])) := ho_141
                                                    refine lv_iload hx hb d_R_close_409 (lv_at hl 0 rfl) ?_
                                                    refine lv_iload hx hb d_R_close_411 (lv_at hl 2 rfl) ?_
                                                    refine lv_icmp_ge (tgt := 438) hx hb d_R_close_413 (by decide) (fun c413 => ?_) (fun c413 => ?_)
                                                    · refine lv_aload_n hx hb d_R_close_438 rfl (lv_at hl 5 rfl) ?_
                                                      refine lv_iload hx hb d_R_close_439 (lv_at hl 4 rfl) ?_
                                                      refine pf_R_61 cx hZ hS ho_141 (Nat.le_of_ble_eq_true rfl) d_R_close_441 (fun w_142 H locs hw_143 hZ hS => ?_)
                                                      have hk_144 : w_142 (A 0) = some (.inl (G.2 0, 8200, .inl ((cpF (hdF (mkF (emF F sz k) sz k ((ps n - ps 0) + 1)) (stN sz k) 3 (((mzH F ps T n lim) 3).toInt32) ((closeIs spec amount ((mzH F ps T n lim) 0)).toInt32) (((mzH F ps T n lim) 2).toInt32) (nI ((ps n - ps 0) + 1))) (ps 0) ((stN sz k) + 1) (ps n - ps 0)) 0))) := up_ne hw_143 h0_141 (z_ne h0_141 ho_141 (by simp))
                                                      have hk_145 : w_142 (A 1) = some (.inl (G.2 0, 8200, .inl ((cpF (hdF (mkF (emF F sz k) sz k ((ps n - ps 0) + 1)) (stN sz k) 3 (((mzH F ps T n lim) 3).toInt32) ((closeIs spec amount ((mzH F ps T n lim) 0)).toInt32) (((mzH F ps T n lim) 2).toInt32) (nI ((ps n - ps 0) + 1))) (ps 0) ((stN sz k) + 1) (ps n - ps 0)) 1))) := up_ne hw_143 h1_141 (z_ne h1_141 ho_141 (by simp))
                                                      have hk_146 : w_142 (A 2) = some (.inl (G.2 0, 8200, .inl ((cpF (hdF (mkF (emF F sz k) sz k ((ps n - ps 0) + 1)) (stN sz k) 3 (((mzH F ps T n lim) 3).toInt32) ((closeIs spec amount ((mzH F ps T n lim) 0)).toInt32) (((mzH F ps T n lim) 2).toInt32) (nI ((ps n - ps 0) + 1))) (ps 0) ((stN sz k) + 1) (ps n - ps 0)) 2))) := up_ne hw_143 h2_141 (z_ne h2_141 ho_141 (by simp))
                                                      have hk_147 : w_142 (A 3) = some (.inl (G.2 0, 8200, .inl ((cpF (hdF (mkF (emF F sz k) sz k ((ps n - ps 0) + 1)) (stN sz k) 3 (((mzH F ps T n lim) 3).toInt32) ((closeIs spec amount ((mzH F ps T n lim) 0)).toInt32) (((mzH F ps T n lim) 2).toInt32) (nI ((ps n - ps 0) + 1))) (ps 0) ((stN sz k) + 1) (ps n - ps 0)) 3))) := up_ne hw_143 h3_141 (z_ne h3_141 ho_141 (by simp))
                                                      have hk_148 : w_142 (A 4) = some (.inl (G.2 0, 8200, .inl ((cpF (hdF (mkF (emF F sz k) sz k ((ps n - ps 0) + 1)) (stN sz k) 3 (((mzH F ps T n lim) 3).toInt32) ((closeIs spec amount ((mzH F ps T n lim) 0)).toInt32) (((mzH F ps T n lim) 2).toInt32) (nI ((ps n - ps 0) + 1))) (ps 0) ((stN sz k) + 1) (ps n - ps 0)) 4))) := up_ne hw_143 h4_141 (z_ne h4_141 ho_141 (by simp))
                                                      have hk_149 : w_142 (A 5) = some (.inl (G.2 0, 8200, .inl ((cpF (hdF (mkF (emF F sz k) sz k ((ps n - ps 0) + 1)) (stN sz k) 3 (((mzH F ps T n lim) 3).toInt32) ((closeIs spec amount ((mzH F ps T n lim) 0)).toInt32) (((mzH F ps T n lim) 2).toInt32) (nI ((ps n - ps 0) + 1))) (ps 0) ((stN sz k) + 1) (ps n - ps 0)) 5))) := up_ne hw_143 h5_141 (z_ne h5_141 ho_141 (by simp))
                                                      have hk_150 : w_142 (A 6) = some (.inl (G.2 0, 8200, .inl ((cpF (hdF (mkF (emF F sz k) sz k ((ps n - ps 0) + 1)) (stN sz k) 3 (((mzH F ps T n lim) 3).toInt32) ((closeIs spec amount ((mzH F ps T n lim) 0)).toInt32) (((mzH F ps T n lim) 2).toInt32) (nI ((ps n - ps 0) + 1))) (ps 0) ((stN sz k) + 1) (ps n - ps 0)) 6))) := up_ne hw_143 h6_141 (z_ne h6_141 ho_141 (by simp))
                                                      have hk_151 : w_142 (A 7) = some (.inl (G.2 1, 8200, .inr (.inl (cpM (mkM (emM (shM F ps (shA (glT F ps T n) ((mzH F ps T n lim) 4) ((closeIs spec amount ((mzH F ps T n lim) 0)) - (mzH F ps T n lim) 0)) (shE ((mzH F ps T n lim) 4) ((closeIs spec amount ((mzH F ps T n lim) 0)) - (mzH F ps T n lim) 0)) (decide (0 < ((closeIs spec amount ((mzH F ps T n lim) 0)) - (mzH F ps T n lim) 0))) (hiO (glT F ps T n)) M n) sz k) sz k ((ps n - ps 0) + 1)) (ps 0) ((stN sz k) + 1) (ps n - ps 0))))) := up_ne hw_143 h7_141 (z_ne h7_141 ho_141 (by simp))
                                                      have hk_152 : w_142 (A 8) = some (.inl (G.2 0, 8200, .inl ((cpF (hdF (mkF (emF F sz k) sz k ((ps n - ps 0) + 1)) (stN sz k) 3 (((mzH F ps T n lim) 3).toInt32) ((closeIs spec amount ((mzH F ps T n lim) 0)).toInt32) (((mzH F ps T n lim) 2).toInt32) (nI ((ps n - ps 0) + 1))) (ps 0) ((stN sz k) + 1) (ps n - ps 0)) 8))) := up_ne hw_143 h8_141 (z_ne h8_141 ho_141 (by simp))
                                                      have hk_153 : w_142 (A 9) = some (.inl (G.2 0, 101, .inl B)) := up_ne hw_143 h9_141 (z_ne h9_141 ho_141 (by simp))
                                                      have hk_154 : w_142 (A 10) = some (.inl (G.2 2, 101, .inl V)) := up_ne hw_143 h10_141 (z_ne h10_141 ho_141 (by simp))
                                                      have hk_155 : w_142 (A 11) = some (.inl (G.2 0, 16, .inl (upd (upd Z k 0) k (nI ((ps n - ps 0) + 1))))) := up_ne hw_143 h11_141 (z_ne h11_141 ho_141 (by simp))
                                                      have hk_156 : w_142 (A 12) = some (.inl (G.2 1, 4, .inr (.inl (glT F ps T n)))) := up_ne hw_143 h12_141 (z_ne h12_141 ho_141 (by simp))
                                                      have hF := hF.put hw_143 (Or.inl (by simp))
                                                      have hc_157 : w_142 o = some (.inr (6, [.int 0, .ref (A 0), .ref (A 1), .ref (A 2), .ref (A 3), .ref (A 4), .ref (A 5), .ref (A 6), .ref (A 7), .ref (A 8), .int (S 1), .ref (A 9), .ref (A 10), .int (nI (ps 0)), .ref (A 11), .long ((mzH F ps T n lim) 0), .long ((mzH F ps T n lim) 1), .long ((mzH F ps T n lim) 2), .long ((mzH F ps T n lim) 3), .ref (A 12), .long ((mzH F ps T n lim) 4)])) := up_self hw_143
                                                      refine lv_aload_n hx hb d_R_close_444 rfl (lv_at hl 5 rfl) ?_
                                                      refine lv_dup hx hb d_R_close_445 rfl ?_
                                                      refine gf_R_68 cx hZ hc_157 rfl d_R_close_446 ?_
                                                      refine lv_iconst (v := 1) hx hb d_R_close_449 (by decide) ?_
                                                      refine lv_isub hx hb d_R_close_450 ?_
                                                      rw [show (((S 1) - 1) : Int32) = nI lt from by rw [hls]; exact nI_pred lt]
                                                      refine pf_R_68 cx hZ hS hc_157 (Nat.le_of_ble_eq_true rfl) d_R_close_451 (fun w_158 H locs hw_159 hZ hS => ?_)
                                                      have hk_160 : w_158 (A 0) = some (.inl (G.2 0, 8200, .inl ((cpF (hdF (mkF (emF F sz k) sz k ((ps n - ps 0) + 1)) (stN sz k) 3 (((mzH F ps T n lim) 3).toInt32) ((closeIs spec amount ((mzH F ps T n lim) 0)).toInt32) (((mzH F ps T n lim) 2).toInt32) (nI ((ps n - ps 0) + 1))) (ps 0) ((stN sz k) + 1) (ps n - ps 0)) 0))) := up_ne hw_159 hk_144 (z_ne hk_144 hc_157 (by simp))
                                                      have hk_161 : w_158 (A 1) = some (.inl (G.2 0, 8200, .inl ((cpF (hdF (mkF (emF F sz k) sz k ((ps n - ps 0) + 1)) (stN sz k) 3 (((mzH F ps T n lim) 3).toInt32) ((closeIs spec amount ((mzH F ps T n lim) 0)).toInt32) (((mzH F ps T n lim) 2).toInt32) (nI ((ps n - ps 0) + 1))) (ps 0) ((stN sz k) + 1) (ps n - ps 0)) 1))) := up_ne hw_159 hk_145 (z_ne hk_145 hc_157 (by simp))
                                                      have hk_162 : w_158 (A 2) = some (.inl (G.2 0, 8200, .inl ((cpF (hdF (mkF (emF F sz k) sz k ((ps n - ps 0) + 1)) (stN sz k) 3 (((mzH F ps T n lim) 3).toInt32) ((closeIs spec amount ((mzH F ps T n lim) 0)).toInt32) (((mzH F ps T n lim) 2).toInt32) (nI ((ps n - ps 0) + 1))) (ps 0) ((stN sz k) + 1) (ps n - ps 0)) 2))) := up_ne hw_159 hk_146 (z_ne hk_146 hc_157 (by simp))
                                                      have hk_163 : w_158 (A 3) = some (.inl (G.2 0, 8200, .inl ((cpF (hdF (mkF (emF F sz k) sz k ((ps n - ps 0) + 1)) (stN sz k) 3 (((mzH F ps T n lim) 3).toInt32) ((closeIs spec amount ((mzH F ps T n lim) 0)).toInt32) (((mzH F ps T n lim) 2).toInt32) (nI ((ps n - ps 0) + 1))) (ps 0) ((stN sz k) + 1) (ps n - ps 0)) 3))) := up_ne hw_159 hk_147 (z_ne hk_147 hc_157 (by simp))
                                                      have hk_164 : w_158 (A 4) = some (.inl (G.2 0, 8200, .inl ((cpF (hdF (mkF (emF F sz k) sz k ((ps n - ps 0) + 1)) (stN sz k) 3 (((mzH F ps T n lim) 3).toInt32) ((closeIs spec amount ((mzH F ps T n lim) 0)).toInt32) (((mzH F ps T n lim) 2).toInt32) (nI ((ps n - ps 0) + 1))) (ps 0) ((stN sz k) + 1) (ps n - ps 0)) 4))) := up_ne hw_159 hk_148 (z_ne hk_148 hc_157 (by simp))
                                                      have hk_165 : w_158 (A 5) = some (.inl (G.2 0, 8200, .inl ((cpF (hdF (mkF (emF F sz k) sz k ((ps n - ps 0) + 1)) (stN sz k) 3 (((mzH F ps T n lim) 3).toInt32) ((closeIs spec amount ((mzH F ps T n lim) 0)).toInt32) (((mzH F ps T n lim) 2).toInt32) (nI ((ps n - ps 0) + 1))) (ps 0) ((stN sz k) + 1) (ps n - ps 0)) 5))) := up_ne hw_159 hk_149 (z_ne hk_149 hc_157 (by simp))
                                                      have hk_166 : w_158 (A 6) = some (.inl (G.2 0, 8200, .inl ((cpF (hdF (mkF (emF F sz k) sz k ((ps n - ps 0) + 1)) (stN sz k) 3 (((mzH F ps T n lim) 3).toInt32) ((closeIs spec amount ((mzH F ps T n lim) 0)).toInt32) (((mzH F ps T n lim) 2).toInt32) (nI ((ps n - ps 0) + 1))) (ps 0) ((stN sz k) + 1) (ps n - ps 0)) 6))) := up_ne hw_159 hk_150 (z_ne hk_150 hc_157 (by simp))
                                                      have hk_167 : w_158 (A 7) = some (.inl (G.2 1, 8200, .inr (.inl (cpM (mkM (emM (shM F ps (shA (glT F ps T n) ((mzH F ps T n lim) 4) ((closeIs spec amount ((mzH F ps T n lim) 0)) - (mzH F ps T n lim) 0)) (shE ((mzH F ps T n lim) 4) ((closeIs spec amount ((mzH F ps T n lim) 0)) - (mzH F ps T n lim) 0)) (decide (0 < ((closeIs spec amount ((mzH F ps T n lim) 0)) - (mzH F ps T n lim) 0))) (hiO (glT F ps T n)) M n) sz k) sz k ((ps n - ps 0) + 1)) (ps 0) ((stN sz k) + 1) (ps n - ps 0))))) := up_ne hw_159 hk_151 (z_ne hk_151 hc_157 (by simp))
                                                      have hk_168 : w_158 (A 8) = some (.inl (G.2 0, 8200, .inl ((cpF (hdF (mkF (emF F sz k) sz k ((ps n - ps 0) + 1)) (stN sz k) 3 (((mzH F ps T n lim) 3).toInt32) ((closeIs spec amount ((mzH F ps T n lim) 0)).toInt32) (((mzH F ps T n lim) 2).toInt32) (nI ((ps n - ps 0) + 1))) (ps 0) ((stN sz k) + 1) (ps n - ps 0)) 8))) := up_ne hw_159 hk_152 (z_ne hk_152 hc_157 (by simp))
                                                      have hk_169 : w_158 (A 9) = some (.inl (G.2 0, 101, .inl B)) := up_ne hw_159 hk_153 (z_ne hk_153 hc_157 (by simp))
                                                      have hk_170 : w_158 (A 10) = some (.inl (G.2 2, 101, .inl V)) := up_ne hw_159 hk_154 (z_ne hk_154 hc_157 (by simp))
                                                      have hk_171 : w_158 (A 11) = some (.inl (G.2 0, 16, .inl (upd (upd Z k 0) k (nI ((ps n - ps 0) + 1))))) := up_ne hw_159 hk_155 (z_ne hk_155 hc_157 (by simp))
                                                      have hk_172 : w_158 (A 12) = some (.inl (G.2 1, 4, .inr (.inl (glT F ps T n)))) := up_ne hw_159 hk_156 (z_ne hk_156 hc_157 (by simp))
                                                      have hF := hF.put hw_159 (Or.inl (by simp))
                                                      have hc_173 : w_158 o = some (.inr (6, [.int 0, .ref (A 0), .ref (A 1), .ref (A 2), .ref (A 3), .ref (A 4), .ref (A 5), .ref (A 6), .ref (A 7), .ref (A 8), .int (nI lt), .ref (A 9), .ref (A 10), .int (nI (ps 0)), .ref (A 11), .long ((mzH F ps T n lim) 0), .long ((mzH F ps T n lim) 1), .long ((mzH F ps T n lim) 2), .long ((mzH F ps T n lim) 3), .ref (A 12), .long ((mzH F ps T n lim) 4)])) := up_self hw_159
                                                      refine lv_lload hx hb d_R_close_454 (lv_at hl 3 rfl) ?_
                                                      refine lv_l2i hx hb d_R_close_456 rfl ?_
                                                      exact z_iret cx.1 cx.2.1 cx.rt cx.lk hS hZ ⟨(Nat.le_of_ble_eq_true rfl), (Nat.le_of_ble_eq_true rfl)⟩ d_R_close_457 (⟨_, rfl, Or.inl ⟨hg, rfl, ⟨hc_173, ⟨hk_160, hk_161, hk_162, hk_163, hk_164, hk_165, hk_166, hk_167, hk_168⟩, hk_169, hk_170, hk_171, hk_172⟩⟩, hF⟩)
                                                    · exact absurd (nI_le (by omega) (by omega)) c413
                                                  | succ j ih =>
                                                    intro i w2 H locs ls hik hZ hS hF hr2 hl
                                                    obtain ⟨ho_174, ⟨h0_174, h1_174, h2_174, h3_174, h4_174, h5_174, h6_174, h7_174, h8_174⟩, h9_174, h10_174, h11_174, h12_174⟩ := id hr2
                                                    have ho_174 : w2 o = some (.inr (6, [.int 0, .ref (A 0), .ref (A 1), .ref (A 2), .ref (A 3), .ref (A 4), .ref (A 5), .ref (A 6), .ref (A 7), .ref (A 8), .int (S 1), .ref (A 9), .ref (A 10), .int (S 2), .ref (A 11), .long ((mzH F ps T n lim) 0), .long ((mzH F ps T n lim) 1), .long ((mzH F ps T n lim) 2), .long ((mzH F ps T n lim) 3), .ref (A 12), .long ((mzH F ps T n lim) 4)])) := ho_174
                                                    refine lv_iload hx hb d_R_close_409 (lv_at hl 0 rfl) ?_
                                                    refine lv_iload hx hb d_R_close_411 (lv_at hl 2 rfl) ?_
                                                    refine lv_icmp_ge (tgt := 438) hx hb d_R_close_413 (by decide) (fun c413 => ?_) (fun c413 => ?_)
                                                    · exact absurd c413 (nI_ge (by omega) (by omega))
                                                    · refine lv_aload_n hx hb d_R_close_416 rfl (lv_at hl 5 rfl) ?_
                                                      refine lv_iload hx hb d_R_close_417 (lv_at hl 4 rfl) ?_
                                                      refine lv_iload hx hb d_R_close_419 (lv_at hl 0 rfl) ?_
                                                      refine lv_iadd hx hb d_R_close_421 ?_
                                                      rw [show (((nI (ps 0)) + (nI i)) : Int32) = nI (ps 0 + i) from nI_add _ _]
                                                      refine lv_iload hx hb d_R_close_422 (lv_at hl 1 rfl) ?_
                                                      refine lv_iconst (v := 1) hx hb d_R_close_424 (by decide) ?_
                                                      refine lv_iadd hx hb d_R_close_425 ?_
                                                      rw [show (((nI (stN sz k)) + 1) : Int32) = nI (stN sz k + 1) from nI_1 _]
                                                      refine lv_iload hx hb d_R_close_426 (lv_at hl 0 rfl) ?_
                                                      refine lv_iadd hx hb d_R_close_428 ?_
                                                      rw [show (((nI (stN sz k + 1)) + (nI i)) : Int32) = nI (stN sz k + 1 + i) from nI_add _ _]
                                                      refine iv_R_126 (As := [.int (nI (ps 0 + i)), .int (nI (stN sz k + 1 + i))]) (rest := []) cx (r_moveA l G n0 e0 w2 o A (upd S 0 0) (mzH F ps T n lim) (cpF (hdF (mkF (emF F sz k) sz k ((ps n - ps 0) + 1)) (stN sz k) 3 (((mzH F ps T n lim) 3).toInt32) ((closeIs spec amount ((mzH F ps T n lim) 0)).toInt32) (((mzH F ps T n lim) 2).toInt32) (nI ((ps n - ps 0) + 1))) (ps 0) ((stN sz k) + 1) i) (cpM (mkM (emM (shM F ps (shA (glT F ps T n) ((mzH F ps T n lim) 4) ((closeIs spec amount ((mzH F ps T n lim) 0)) - (mzH F ps T n lim) 0)) (shE ((mzH F ps T n lim) 4) ((closeIs spec amount ((mzH F ps T n lim) 0)) - (mzH F ps T n lim) 0)) (decide (0 < ((closeIs spec amount ((mzH F ps T n lim) 0)) - (mzH F ps T n lim) 0))) (hiO (glT F ps T n)) M n) sz k) sz k ((ps n - ps 0) + 1)) (ps 0) ((stN sz k) + 1) i) B V (upd (upd Z k 0) k (nI ((ps n - ps 0) + 1))) (glT F ps T n) ⟨ho_174, ⟨h0_174, h1_174, h2_174, h3_174, h4_174, h5_174, h6_174, h7_174, h8_174⟩, h9_174, h10_174, h11_174, h12_174⟩ hA (ps 0 + i) (stN sz k + 1 + i) (by first | omega | (unfold stN; omega)) (by first | omega | (unfold stN; omega))) ho_174 ⟨(Nat.le_of_ble_eq_true rfl), (Nat.le_of_ble_eq_true rfl)⟩ ⟨(Nat.le_of_ble_eq_true rfl), (Nat.le_of_ble_eq_true rfl)⟩ rfl hl.1 rfl (Nat.le_of_ble_eq_true rfl) d_R_close_429 hZ hS (fun v w_175 H locs hp_176 hZ hS => ?_)
                                                      obtain ⟨rfl, hr_177, hf_178⟩ := hp_176
                                                      obtain ⟨ho_179, ⟨h0_179, h1_179, h2_179, h3_179, h4_179, h5_179, h6_179, h7_179, h8_179⟩, h9_179, h10_179, h11_179, h12_179⟩ := id hr_177
                                                      have ho_179 : w_175 o = some (.inr (6, [.int 0, .ref (A 0), .ref (A 1), .ref (A 2), .ref (A 3), .ref (A 4), .ref (A 5), .ref (A 6), .ref (A 7), .ref (A 8), .int (S 1), .ref (A 9), .ref (A 10), .int (S 2), .ref (A 11), .long ((mzH F ps T n lim) 0), .long ((mzH F ps T n lim) 1), .long ((mzH F ps T n lim) 2), .long ((mzH F ps T n lim) 3), .ref (A 12), .long ((mzH F ps T n lim) 4)])) := ho_179
                                                      have hF := hF.call hf_178 (fun t ht => Or.inl ht)
                                                      refine W.eq (g2 := F0 m 432 ls []) rfl ?_
                                                      refine lv_iinc (v := ((nI i) + 1)) (lv' := [(12, .int ((nI i) + 1)), (11, .int (nI (stN sz k))), (10, .int (nI (ps n - ps 0))), (7, .long (closeIs spec amount ((mzH F ps T n lim) 0))), (5, .int (nI (ps 0))), (0, .ref o)]) hx hb d_R_close_432 hl (k := 0) rfl rfl (by decide) rfl (fun ls hl => ?_)
                                                      refine lv_goto (tgt := 409) hx hb d_R_close_435 (by decide) ?_
                                                      exact ih (i + 1) _ _ _ _ (by omega) hZ hS hF (by rw [← cpF_s (Or.inr (by first | omega | (unfold stN; omega))), ← cpM_s (Or.inr (by first | omega | (unfold stN; omega)))]; exact ⟨ho_179, ⟨h0_179, h1_179, h2_179, h3_179, h4_179, h5_179, h6_179, h7_179, h8_179⟩, h9_179, h10_179, h11_179, h12_179⟩) (lv_sub hl [0, 1, 2, 3, 4, 5] (by rw [← nI_1 i]; rfl))
                                                exact loop_409 ((ps n - ps 0)) 0 _ _ _ _ (by omega) hZ hS hF (by rw [cpF_0, cpM_0]; exact ⟨hk_127, ⟨hk_128, hk_129, hk_130, hk_131, hk_132, hk_133, hk_134, hk_135, hc_140⟩, hk_136, hk_137, hk_138, hk_139⟩) (lv_sub hl [0, 1, 2, 4, 6, 7] rfl)
                                        · refine lv_aload_n hx hb d_R_close_257 rfl (lv_at hl 5 rfl) ?_
                                          refine lv_iconst (v := 3) hx hb d_R_close_258 (by decide) ?_
                                          refine iv_R_130 (As := [.int 3]) (rest := []) cx (r_failsA l G n0 e0 w_7 o A S (mzH F ps T n lim) F M B V Z (glT F ps T n) ⟨ho_11, ⟨h0_11, h1_11, h2_11, h3_11, h4_11, h5_11, h6_11, h7_11, h8_11⟩, h9_11, h10_11, h11_11, h12_11⟩ hA 3) ho_11 ⟨(Nat.le_of_ble_eq_true rfl), (Nat.le_of_ble_eq_true rfl)⟩ ⟨(Nat.le_of_ble_eq_true rfl), (Nat.le_of_ble_eq_true rfl)⟩ rfl hl.1 rfl (Nat.le_of_ble_eq_true rfl) d_R_close_259 hZ hS (fun v w_180 H locs hp_181 hZ hS => ?_)
                                          obtain ⟨rfl, hr_182, hf_183⟩ := hp_181
                                          obtain ⟨ho_184, ⟨h0_184, h1_184, h2_184, h3_184, h4_184, h5_184, h6_184, h7_184, h8_184⟩, h9_184, h10_184, h11_184, h12_184⟩ := id hr_182
                                          have ho_184 : w_180 o = some (.inr (6, [.int 3, .ref (A 0), .ref (A 1), .ref (A 2), .ref (A 3), .ref (A 4), .ref (A 5), .ref (A 6), .ref (A 7), .ref (A 8), .int (S 1), .ref (A 9), .ref (A 10), .int (S 2), .ref (A 11), .long ((mzH F ps T n lim) 0), .long ((mzH F ps T n lim) 1), .long ((mzH F ps T n lim) 2), .long ((mzH F ps T n lim) 3), .ref (A 12), .long ((mzH F ps T n lim) 4)])) := ho_184
                                          have hF := hF.call hf_183 (fun t ht => Or.inl ht)
                                          refine W.eq (g2 := F0 m 262 ls [.int 0]) rfl ?_
                                          exact z_iret cx.1 cx.2.1 cx.rt cx.lk hS hZ ⟨(Nat.le_of_ble_eq_true rfl), (Nat.le_of_ble_eq_true rfl)⟩ d_R_close_262 (⟨0, rfl, Or.inr ⟨(zi_0 _).mp c254, ⟨ho_184, ⟨h0_184, h1_184, h2_184, h3_184, h4_184, h5_184, h6_184, h7_184, h8_184⟩, h9_184, h10_184, h11_184, h12_184⟩⟩, hF⟩)
                                      · exact absurd c218_4 (by decide)
                                    refine lv_iload hx hb d_R_close_221 (lv_at hl 1 rfl) ?_
                                    refine lv_if_eq (tgt := 243) hx hb d_R_close_223 (by decide) (fun c223 => ?_) (fun c223 => ?_)
                                    · refine lv_iconst (v := 0) hx hb d_R_close_243 (by decide) ?_
                                      exact J_244 _ _ _ hZ hS (by have h := (zi_0 _).mp c223; simp only [h, Bool.false_and]; rfl)
                                    · refine lv_aload_n hx hb d_R_close_226 rfl (lv_at hl 5 rfl) ?_
                                      refine gf_R_48 cx hZ ho_11 rfl d_R_close_227 ?_
                                      refine lv_iload hx hb d_R_close_230 (lv_at hl 0 rfl) ?_
                                      refine ld_l cx hZ h12_11 (by unfold vp_in; decide) d_R_close_232 ?_
                                      refine is_R_139 (As := [.long ((glT F ps T n) (3 : Int32).toNatClampNeg)]) (rest := []) cx (r_isSizeLong l G n0 e0 ((glT F ps T n) (3 : Int32).toNatClampNeg) w_7) ⟨(Nat.le_of_ble_eq_true rfl), (Nat.le_of_ble_eq_true rfl)⟩ ⟨(Nat.le_of_ble_eq_true rfl), (Nat.le_of_ble_eq_true rfl)⟩ rfl hl.1 rfl (Nat.le_of_ble_eq_true rfl) d_R_close_233 hZ hS (fun v w_185 H locs hp_186 hZ hS => ?_)
                                      obtain ⟨rfl, hq⟩ := hp_186
                                      subst w_185
                                      refine W.eq (g2 := F0 m 236 ls [.int (zi (szL ((glT F ps T n) (3 : Int32).toNatClampNeg)))]) rfl ?_
                                      refine lv_if_eq (tgt := 243) hx hb d_R_close_236 (by decide) (fun c236 => ?_) (fun c236 => ?_)
                                      · refine lv_iconst (v := 0) hx hb d_R_close_243 (by decide) ?_
                                        exact J_244 _ _ _ hZ hS (by have h := (zi_n0 _).mp c223; have h2 := (zi_0 _).mp c236; simp only [h, h2, Bool.true_and]; rfl)
                                      · refine lv_iconst (v := 1) hx hb d_R_close_239 (by decide) ?_
                                        refine lv_goto (tgt := 244) hx hb d_R_close_240 (by decide) ?_
                                        exact J_244 _ _ _ hZ hS (by have h := (zi_n0 _).mp c223; have h2 := (zi_n0 _).mp c236; simp only [h, h2, Bool.true_and]; rfl)
                                refine lv_iload hx hb d_R_close_221 (lv_at hl 1 rfl) ?_
                                refine lv_if_eq (tgt := 243) hx hb d_R_close_223 (by decide) (fun c223 => ?_) (fun c223 => ?_)
                                · refine lv_iconst (v := 0) hx hb d_R_close_243 (by decide) ?_
                                  exact J_244 _ _ _ hZ hS (by have h := (zi_0 _).mp c223; simp only [h, Bool.false_and]; rfl)
                                · refine lv_aload_n hx hb d_R_close_226 rfl (lv_at hl 5 rfl) ?_
                                  refine gf_R_48 cx hZ ho_11 rfl d_R_close_227 ?_
                                  refine lv_iload hx hb d_R_close_230 (lv_at hl 0 rfl) ?_
                                  refine ld_l cx hZ h12_11 (by unfold vp_in; decide) d_R_close_232 ?_
                                  refine is_R_139 (As := [.long ((glT F ps T n) (2 : Int32).toNatClampNeg)]) (rest := []) cx (r_isSizeLong l G n0 e0 ((glT F ps T n) (2 : Int32).toNatClampNeg) w_7) ⟨(Nat.le_of_ble_eq_true rfl), (Nat.le_of_ble_eq_true rfl)⟩ ⟨(Nat.le_of_ble_eq_true rfl), (Nat.le_of_ble_eq_true rfl)⟩ rfl hl.1 rfl (Nat.le_of_ble_eq_true rfl) d_R_close_233 hZ hS (fun v w_187 H locs hp_188 hZ hS => ?_)
                                  obtain ⟨rfl, hq⟩ := hp_188
                                  subst w_187
                                  refine W.eq (g2 := F0 m 236 ls [.int (zi (szL ((glT F ps T n) (2 : Int32).toNatClampNeg)))]) rfl ?_
                                  refine lv_if_eq (tgt := 243) hx hb d_R_close_236 (by decide) (fun c236 => ?_) (fun c236 => ?_)
                                  · refine lv_iconst (v := 0) hx hb d_R_close_243 (by decide) ?_
                                    exact J_244 _ _ _ hZ hS (by have h := (zi_n0 _).mp c223; have h2 := (zi_0 _).mp c236; simp only [h, h2, Bool.true_and]; rfl)
                                  · refine lv_iconst (v := 1) hx hb d_R_close_239 (by decide) ?_
                                    refine lv_goto (tgt := 244) hx hb d_R_close_240 (by decide) ?_
                                    exact J_244 _ _ _ hZ hS (by have h := (zi_n0 _).mp c223; have h2 := (zi_n0 _).mp c236; simp only [h, h2, Bool.true_and]; rfl)
                            refine lv_iload hx hb d_R_close_221 (lv_at hl 1 rfl) ?_
                            refine lv_if_eq (tgt := 243) hx hb d_R_close_223 (by decide) (fun c223 => ?_) (fun c223 => ?_)
                            · refine lv_iconst (v := 0) hx hb d_R_close_243 (by decide) ?_
                              exact J_244 _ _ _ hZ hS (by have h := (zi_0 _).mp c223; simp only [h, Bool.false_and]; rfl)
                            · refine lv_aload_n hx hb d_R_close_226 rfl (lv_at hl 5 rfl) ?_
                              refine gf_R_48 cx hZ ho_11 rfl d_R_close_227 ?_
                              refine lv_iload hx hb d_R_close_230 (lv_at hl 0 rfl) ?_
                              refine ld_l cx hZ h12_11 (by unfold vp_in; decide) d_R_close_232 ?_
                              refine is_R_139 (As := [.long ((glT F ps T n) (1 : Int32).toNatClampNeg)]) (rest := []) cx (r_isSizeLong l G n0 e0 ((glT F ps T n) (1 : Int32).toNatClampNeg) w_7) ⟨(Nat.le_of_ble_eq_true rfl), (Nat.le_of_ble_eq_true rfl)⟩ ⟨(Nat.le_of_ble_eq_true rfl), (Nat.le_of_ble_eq_true rfl)⟩ rfl hl.1 rfl (Nat.le_of_ble_eq_true rfl) d_R_close_233 hZ hS (fun v w_189 H locs hp_190 hZ hS => ?_)
                              obtain ⟨rfl, hq⟩ := hp_190
                              subst w_189
                              refine W.eq (g2 := F0 m 236 ls [.int (zi (szL ((glT F ps T n) (1 : Int32).toNatClampNeg)))]) rfl ?_
                              refine lv_if_eq (tgt := 243) hx hb d_R_close_236 (by decide) (fun c236 => ?_) (fun c236 => ?_)
                              · refine lv_iconst (v := 0) hx hb d_R_close_243 (by decide) ?_
                                exact J_244 _ _ _ hZ hS (by have h := (zi_n0 _).mp c223; have h2 := (zi_0 _).mp c236; simp only [h, h2, Bool.true_and]; rfl)
                              · refine lv_iconst (v := 1) hx hb d_R_close_239 (by decide) ?_
                                refine lv_goto (tgt := 244) hx hb d_R_close_240 (by decide) ?_
                                exact J_244 _ _ _ hZ hS (by have h := (zi_n0 _).mp c223; have h2 := (zi_n0 _).mp c236; simp only [h, h2, Bool.true_and]; rfl)
                        refine lv_iload hx hb d_R_close_221 (lv_at hl 1 rfl) ?_
                        refine lv_if_eq (tgt := 243) hx hb d_R_close_223 (by decide) (fun c223 => ?_) (fun c223 => ?_)
                        · refine lv_iconst (v := 0) hx hb d_R_close_243 (by decide) ?_
                          exact J_244 _ _ _ hZ hS (by have h := (zi_0 _).mp c223; simp only [h, Bool.false_and]; rfl)
                        · refine lv_aload_n hx hb d_R_close_226 rfl (lv_at hl 5 rfl) ?_
                          refine gf_R_48 cx hZ ho_11 rfl d_R_close_227 ?_
                          refine lv_iload hx hb d_R_close_230 (lv_at hl 0 rfl) ?_
                          refine ld_l cx hZ h12_11 (by unfold vp_in; decide) d_R_close_232 ?_
                          refine is_R_139 (As := [.long ((glT F ps T n) (0 : Int32).toNatClampNeg)]) (rest := []) cx (r_isSizeLong l G n0 e0 ((glT F ps T n) (0 : Int32).toNatClampNeg) w_7) ⟨(Nat.le_of_ble_eq_true rfl), (Nat.le_of_ble_eq_true rfl)⟩ ⟨(Nat.le_of_ble_eq_true rfl), (Nat.le_of_ble_eq_true rfl)⟩ rfl hl.1 rfl (Nat.le_of_ble_eq_true rfl) d_R_close_233 hZ hS (fun v w_191 H locs hp_192 hZ hS => ?_)
                          obtain ⟨rfl, hq⟩ := hp_192
                          subst w_191
                          refine W.eq (g2 := F0 m 236 ls [.int (zi (szL ((glT F ps T n) (0 : Int32).toNatClampNeg)))]) rfl ?_
                          refine lv_if_eq (tgt := 243) hx hb d_R_close_236 (by decide) (fun c236 => ?_) (fun c236 => ?_)
                          · refine lv_iconst (v := 0) hx hb d_R_close_243 (by decide) ?_
                            exact J_244 _ _ _ hZ hS (by have h := (zi_n0 _).mp c223; have h2 := (zi_0 _).mp c236; simp only [h, h2, Bool.true_and]; rfl)
                          · refine lv_iconst (v := 1) hx hb d_R_close_239 (by decide) ?_
                            refine lv_goto (tgt := 244) hx hb d_R_close_240 (by decide) ?_
                            exact J_244 _ _ _ hZ hS (by have h := (zi_n0 _).mp c223; have h2 := (zi_n0 _).mp c236; simp only [h, h2, Bool.true_and]; rfl)
                    refine lv_aload_n hx hb d_R_close_124 rfl (lv_at hl 3 rfl) ?_
                    refine gf_R_90 cx hZ ho_11 rfl d_R_close_125 ?_
                    refine is_R_139 (As := [.long ((mzH F ps T n lim) 0)]) (rest := []) cx (r_isSizeLong l G n0 e0 ((mzH F ps T n lim) 0) w_7) ⟨(Nat.le_of_ble_eq_true rfl), (Nat.le_of_ble_eq_true rfl)⟩ ⟨(Nat.le_of_ble_eq_true rfl), (Nat.le_of_ble_eq_true rfl)⟩ rfl hl.1 rfl (Nat.le_of_ble_eq_true rfl) d_R_close_128 hZ hS (fun v w_193 H locs hp_194 hZ hS => ?_)
                    obtain ⟨rfl, hq⟩ := hp_194
                    subst w_193
                    refine W.eq (g2 := F0 m 131 ls [.int (zi (szL ((mzH F ps T n lim) 0)))]) rfl ?_
                    refine lv_if_eq (tgt := 209) hx hb d_R_close_131 (by decide) (fun c131 => ?_) (fun c131 => ?_)
                    · refine lv_iconst (v := 0) hx hb d_R_close_209 (by decide) ?_
                      exact J_210 _ _ _ hZ hS (by have e131 := (zi_0 _).mp c131; simp [e131, zi])
                    · refine lv_lload hx hb d_R_close_134 (lv_at hl 0 rfl) ?_
                      refine is_R_139 (As := [.long (closeIs spec amount ((mzH F ps T n lim) 0))]) (rest := []) cx (r_isSizeLong l G n0 e0 (closeIs spec amount ((mzH F ps T n lim) 0)) w_7) ⟨(Nat.le_of_ble_eq_true rfl), (Nat.le_of_ble_eq_true rfl)⟩ ⟨(Nat.le_of_ble_eq_true rfl), (Nat.le_of_ble_eq_true rfl)⟩ rfl hl.1 rfl (Nat.le_of_ble_eq_true rfl) d_R_close_136 hZ hS (fun v w_195 H locs hp_196 hZ hS => ?_)
                      obtain ⟨rfl, hq⟩ := hp_196
                      subst w_195
                      refine W.eq (g2 := F0 m 139 ls [.int (zi (szL (closeIs spec amount ((mzH F ps T n lim) 0))))]) rfl ?_
                      refine lv_if_eq (tgt := 209) hx hb d_R_close_139 (by decide) (fun c139 => ?_) (fun c139 => ?_)
                      · refine lv_iconst (v := 0) hx hb d_R_close_209 (by decide) ?_
                        exact J_210 _ _ _ hZ hS (by have e131 := (zi_n0 _).mp c131; have e139 := (zi_0 _).mp c139; simp [e131, e139, zi])
                      · refine lv_aload_n hx hb d_R_close_142 rfl (lv_at hl 3 rfl) ?_
                        refine gf_R_103 cx hZ ho_11 rfl d_R_close_143 ?_
                        refine is_R_139 (As := [.long ((mzH F ps T n lim) 4)]) (rest := []) cx (r_isSizeLong l G n0 e0 ((mzH F ps T n lim) 4) w_7) ⟨(Nat.le_of_ble_eq_true rfl), (Nat.le_of_ble_eq_true rfl)⟩ ⟨(Nat.le_of_ble_eq_true rfl), (Nat.le_of_ble_eq_true rfl)⟩ rfl hl.1 rfl (Nat.le_of_ble_eq_true rfl) d_R_close_146 hZ hS (fun v w_197 H locs hp_198 hZ hS => ?_)
                        obtain ⟨rfl, hq⟩ := hp_198
                        subst w_197
                        refine W.eq (g2 := F0 m 149 ls [.int (zi (szL ((mzH F ps T n lim) 4)))]) rfl ?_
                        refine lv_if_eq (tgt := 209) hx hb d_R_close_149 (by decide) (fun c149 => ?_) (fun c149 => ?_)
                        · refine lv_iconst (v := 0) hx hb d_R_close_209 (by decide) ?_
                          exact J_210 _ _ _ hZ hS (by have e131 := (zi_n0 _).mp c131; have e139 := (zi_n0 _).mp c139; have e149 := (zi_0 _).mp c149; simp [e131, e139, e149, zi])
                        · refine lv_aload_n hx hb d_R_close_152 rfl (lv_at hl 3 rfl) ?_
                          refine gf_R_100 cx hZ ho_11 rfl d_R_close_153 ?_
                          refine is_R_139 (As := [.long ((mzH F ps T n lim) 3)]) (rest := []) cx (r_isSizeLong l G n0 e0 ((mzH F ps T n lim) 3) w_7) ⟨(Nat.le_of_ble_eq_true rfl), (Nat.le_of_ble_eq_true rfl)⟩ ⟨(Nat.le_of_ble_eq_true rfl), (Nat.le_of_ble_eq_true rfl)⟩ rfl hl.1 rfl (Nat.le_of_ble_eq_true rfl) d_R_close_156 hZ hS (fun v w_199 H locs hp_200 hZ hS => ?_)
                          obtain ⟨rfl, hq⟩ := hp_200
                          subst w_199
                          refine W.eq (g2 := F0 m 159 ls [.int (zi (szL ((mzH F ps T n lim) 3)))]) rfl ?_
                          refine lv_if_eq (tgt := 209) hx hb d_R_close_159 (by decide) (fun c159 => ?_) (fun c159 => ?_)
                          · refine lv_iconst (v := 0) hx hb d_R_close_209 (by decide) ?_
                            exact J_210 _ _ _ hZ hS (by have e131 := (zi_n0 _).mp c131; have e139 := (zi_n0 _).mp c139; have e149 := (zi_n0 _).mp c149; have e159 := (zi_0 _).mp c159; simp [e131, e139, e149, e159, zi])
                          · refine lv_aload_n hx hb d_R_close_162 rfl (lv_at hl 3 rfl) ?_
                            refine gf_R_94 cx hZ ho_11 rfl d_R_close_163 ?_
                            refine is_R_139 (As := [.long ((mzH F ps T n lim) 1)]) (rest := []) cx (r_isSizeLong l G n0 e0 ((mzH F ps T n lim) 1) w_7) ⟨(Nat.le_of_ble_eq_true rfl), (Nat.le_of_ble_eq_true rfl)⟩ ⟨(Nat.le_of_ble_eq_true rfl), (Nat.le_of_ble_eq_true rfl)⟩ rfl hl.1 rfl (Nat.le_of_ble_eq_true rfl) d_R_close_166 hZ hS (fun v w_201 H locs hp_202 hZ hS => ?_)
                            obtain ⟨rfl, hq⟩ := hp_202
                            subst w_201
                            refine W.eq (g2 := F0 m 169 ls [.int (zi (szL ((mzH F ps T n lim) 1)))]) rfl ?_
                            refine lv_if_eq (tgt := 209) hx hb d_R_close_169 (by decide) (fun c169 => ?_) (fun c169 => ?_)
                            · refine lv_iconst (v := 0) hx hb d_R_close_209 (by decide) ?_
                              exact J_210 _ _ _ hZ hS (by have e131 := (zi_n0 _).mp c131; have e139 := (zi_n0 _).mp c139; have e149 := (zi_n0 _).mp c149; have e159 := (zi_n0 _).mp c159; have e169 := (zi_0 _).mp c169; simp [e131, e139, e149, e159, e169, zi])
                            · refine lv_aload_n hx hb d_R_close_172 rfl (lv_at hl 3 rfl) ?_
                              refine gf_R_97 cx hZ ho_11 rfl d_R_close_173 ?_
                              refine is_R_139 (As := [.long ((mzH F ps T n lim) 2)]) (rest := []) cx (r_isSizeLong l G n0 e0 ((mzH F ps T n lim) 2) w_7) ⟨(Nat.le_of_ble_eq_true rfl), (Nat.le_of_ble_eq_true rfl)⟩ ⟨(Nat.le_of_ble_eq_true rfl), (Nat.le_of_ble_eq_true rfl)⟩ rfl hl.1 rfl (Nat.le_of_ble_eq_true rfl) d_R_close_176 hZ hS (fun v w_203 H locs hp_204 hZ hS => ?_)
                              obtain ⟨rfl, hq⟩ := hp_204
                              subst w_203
                              refine W.eq (g2 := F0 m 179 ls [.int (zi (szL ((mzH F ps T n lim) 2)))]) rfl ?_
                              refine lv_if_eq (tgt := 209) hx hb d_R_close_179 (by decide) (fun c179 => ?_) (fun c179 => ?_)
                              · refine lv_iconst (v := 0) hx hb d_R_close_209 (by decide) ?_
                                exact J_210 _ _ _ hZ hS (by have e131 := (zi_n0 _).mp c131; have e139 := (zi_n0 _).mp c139; have e149 := (zi_n0 _).mp c149; have e159 := (zi_n0 _).mp c159; have e169 := (zi_n0 _).mp c169; have e179 := (zi_0 _).mp c179; simp [e131, e139, e149, e159, e169, e179, zi])
                              · refine lv_aload_n hx hb d_R_close_182 rfl (lv_at hl 3 rfl) ?_
                                refine lv_iload hx hb d_R_close_183 (lv_at hl 2 rfl) ?_
                                refine lv_aload_n hx hb d_R_close_185 rfl (lv_at hl 3 rfl) ?_
                                refine gf_R_61 cx hZ ho_11 rfl d_R_close_186 ?_
                                rw [show ((S 2) : Int32) = nI (ps 0 + (ps n - ps 0)) from by rw [eN]; exact hen]
                                refine iv_R_143 (As := [.int (nI (ps 0)), .int (nI (ps 0 + (ps n - ps 0)))]) (rest := []) cx (r_nested l G n0 e0 w_7 o A S (mzH F ps T n lim) F M B V Z (glT F ps T n) ⟨ho_11, ⟨h0_11, h1_11, h2_11, h3_11, h4_11, h5_11, h6_11, h7_11, h8_11⟩, h9_11, h10_11, h11_11, h12_11⟩ hA (ps 0) (ps n - ps 0) (by omega) sp (fun j h1 h2 => hsp j h1 (by omega))) ho_11 ⟨(Nat.le_of_ble_eq_true rfl), (Nat.le_of_ble_eq_true rfl)⟩ ⟨(Nat.le_of_ble_eq_true rfl), (Nat.le_of_ble_eq_true rfl)⟩ rfl hl.1 rfl (Nat.le_of_ble_eq_true rfl) d_R_close_189 hZ hS (fun v w_205 H locs hp_206 hZ hS => ?_)
                                obtain ⟨rfl, hq⟩ := hp_206
                                subst w_205
                                refine W.eq (g2 := F0 m 192 ls [.int (nI (mxN (F 0) sp (ps 0) (ps n - ps 0)))]) rfl ?_
                                refine lv_bipush (v := 100) hx hb d_R_close_192 (by decide) ?_
                                refine lv_icmp_ge (tgt := 209) hx hb d_R_close_194 (by decide) (fun c194 => ?_) (fun c194 => ?_)
                                · refine lv_iconst (v := 0) hx hb d_R_close_209 (by decide) ?_
                                  exact J_210 _ _ _ hZ hS (by have e131 := (zi_n0 _).mp c131; have e139 := (zi_n0 _).mp c139; have e149 := (zi_n0 _).mp c149; have e159 := (zi_n0 _).mp c159; have e169 := (zi_n0 _).mp c169; have e179 := (zi_n0 _).mp c179; have e194 := lt100_t c194; simp [e131, e139, e149, e159, e169, e179, e194, zi])
                                · refine lv_aload_n hx hb d_R_close_197 rfl (lv_at hl 3 rfl) ?_
                                  refine lv_iconst (v := 1) hx hb d_R_close_198 (by decide) ?_
                                  refine iv_R_71 (As := [.int 1]) (rest := []) cx (r_hasRoomN l G n0 e0 w_7 o A S (mzH F ps T n lim) ho_11 Z h11_11 sz hsz (ps n) 1 hen (by omega)) ho_11 ⟨(Nat.le_of_ble_eq_true rfl), (Nat.le_of_ble_eq_true rfl)⟩ ⟨(Nat.le_of_ble_eq_true rfl), (Nat.le_of_ble_eq_true rfl)⟩ rfl hl.1 rfl (Nat.le_of_ble_eq_true rfl) d_R_close_199 hZ hS (fun v w_207 H locs hp_208 hZ hS => ?_)
                                  obtain ⟨rfl, hq⟩ := hp_208
                                  subst w_207
                                  refine W.eq (g2 := F0 m 202 ls [.int (zi (decide (ps n + sumN sz 16 + 1 ≤ 4000)))]) rfl ?_
                                  refine lv_if_eq (tgt := 209) hx hb d_R_close_202 (by decide) (fun c202 => ?_) (fun c202 => ?_)
                                  · refine lv_iconst (v := 0) hx hb d_R_close_209 (by decide) ?_
                                    exact J_210 _ _ _ hZ hS (by have e131 := (zi_n0 _).mp c131; have e139 := (zi_n0 _).mp c139; have e149 := (zi_n0 _).mp c149; have e159 := (zi_n0 _).mp c159; have e169 := (zi_n0 _).mp c169; have e179 := (zi_n0 _).mp c179; have e194 := lt100_f (by have := mxN_le (F 0) sp (ps 0) (ps n - ps 0); omega) c194; have e202 := dz_f c202; simp [e131, e139, e149, e159, e169, e179, e194, e202, zi])
                                  · refine lv_iconst (v := 1) hx hb d_R_close_205 (by decide) ?_
                                    refine lv_goto (tgt := 210) hx hb d_R_close_206 (by decide) ?_
                                    exact J_210 _ _ _ hZ hS (by have e131 := (zi_n0 _).mp c131; have e139 := (zi_n0 _).mp c139; have e149 := (zi_n0 _).mp c149; have e159 := (zi_n0 _).mp c159; have e169 := (zi_n0 _).mp c169; have e179 := (zi_n0 _).mp c179; have e194 := lt100_f (by have := mxN_le (F 0) sp (ps 0) (ps n - ps 0); omega) c194; have e202 := dz_t c202; simp [e131, e139, e149, e159, e169, e179, e194, e202, zi])
                  refine lv_iload_n hx hb d_R_close_94 rfl (lv_at hl 3 rfl) ?_
                  refine lv_if_ne (tgt := 105) hx hb d_R_close_95 (by decide) (fun c95 => ?_) (fun c95 => ?_)
                  · refine lv_iload_n hx hb d_R_close_105 rfl (lv_at hl 3 rfl) ?_
                    refine lv_iconst (v := 1) hx hb d_R_close_106 (by decide) ?_
                    refine lv_icmp_ne (tgt := 120) hx hb d_R_close_107 (by decide) (fun c107 => ?_) (fun c107 => ?_)
                    · refine lv_iload_n hx hb d_R_close_120 rfl (lv_at hl 4 rfl) ?_
                      refine lv_i2l hx hb d_R_close_121 rfl ?_
                      exact J_122 _ _ _ hZ hS (by rw [closeIs, if_neg c95, if_neg c107])
                    · refine lv_aload_n hx hb d_R_close_110 rfl (lv_at hl 2 rfl) ?_
                      refine gf_R_90 cx hZ ho_11 rfl d_R_close_111 ?_
                      refine lv_iload_n hx hb d_R_close_114 rfl (lv_at hl 4 rfl) ?_
                      refine lv_i2l hx hb d_R_close_115 rfl ?_
                      refine lv_ladd hx hb d_R_close_116 ?_
                      refine lv_goto (tgt := 122) hx hb d_R_close_117 (by decide) ?_
                      exact J_122 _ _ _ hZ hS (by rw [closeIs, if_neg c95, if_pos c107])
                  · refine lv_aload_n hx hb d_R_close_98 rfl (lv_at hl 2 rfl) ?_
                    refine gf_R_90 cx hZ ho_11 rfl d_R_close_99 ?_
                    refine lv_goto (tgt := 122) hx hb d_R_close_102 (by decide) ?_
                    exact J_122 _ _ _ hZ hS (by rw [closeIs, if_pos c95])
              · exact absurd (nI_le15 hk) c45
  · exact absurd c4 (by rw [hls]; exact nI_ne0 (by omega) (by omega))
