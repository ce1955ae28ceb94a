def shS (F : Nat → Nat → Int32) (p : Nat) : Int64 := if F 0 p = 2 ∨ F 0 p = 3 then (F 4 p).toInt64 else 0
def wTerm (F : Nat → Nat → Int32) (p : Nat) : Int64 := if F 0 p = 7 then 0 else (F 1 p).toInt64
def hTerm (F : Nat → Nat → Int32) (p : Nat) : Int64 := if 4 < F 0 p then wTerm F p else (F 2 p).toInt64 + (F 3 p).toInt64
def upM (K x : Int32) (y he : Int64) : Int64 := if ¬ 4 < K ∧ ¬ x = (-2147483648) ∧ ¬ y ≤ he then y else he
theorem sol_t {K : Int32} (h : zi (!decide (4 < K)) = 0) : 4 < K := by
  have := (zi_0 _).mp h; simpa using this
theorem sol_f {K : Int32} (h : ¬ zi (!decide (4 < K)) = 0) : ¬ 4 < K := by
  have := (zi_n0 _).mp h; simpa using this
theorem upM_a {K x : Int32} {y he : Int64} (h : zi (!decide (4 < K)) = 0) : upM K x y he = he := if_neg (fun q => q.1 (sol_t h))
theorem upM_b {K x : Int32} {y he : Int64} (h : x = (-2147483648)) : upM K x y he = he := if_neg (fun q => q.2.1 h)
theorem upM_c {K x : Int32} {y he : Int64} (h : y ≤ he) : upM K x y he = he := if_neg (fun q => q.2.2 h)
theorem upM_d {K x : Int32} {y he : Int64} (h : ¬ zi (!decide (4 < K)) = 0) (h2 : ¬ x = (-2147483648)) (h3 : ¬ y ≤ he) : upM K x y he = y := if_pos ⟨sol_f h, h2, h3⟩
def mw (F : Nat → Nat → Int32) (ps : Nat → Nat) : Nat → Int64 × Int64 × Int64
  | 0 => (0, 0, 0)
  | j + 1 => ((mw F ps j).1 + wTerm F (ps j), upM (F 0 (ps j)) (F 2 (ps j)) ((F 2 (ps j)).toInt64 - shS F (ps j)) (mw F ps j).2.1, upM (F 0 (ps j)) (F 3 (ps j)) ((F 3 (ps j)).toInt64 + shS F (ps j)) (mw F ps j).2.2)
theorem mw_s {F : Nat → Nat → Int32} {ps : Nat → Nat} {j : Nat} {X Y : Int64} (h1 : upM (F 0 (ps j)) (F 2 (ps j)) ((F 2 (ps j)).toInt64 - shS F (ps j)) (mw F ps j).2.1 = X) (h2 : upM (F 0 (ps j)) (F 3 (ps j)) ((F 3 (ps j)).toInt64 + shS F (ps j)) (mw F ps j).2.2 = Y) : mw F ps (j + 1) = ((mw F ps j).1 + wTerm F (ps j), X, Y) := by rw [mw, h1, h2]
def mh (F : Nat → Nat → Int32) (ps : Nat → Nat) : Nat → Int64 × Int64
  | 0 => (0, 0)
  | j + 1 => ((mh F ps j).1 + hTerm F (ps j), upM (F 0 (ps j)) (F 1 (ps j)) ((F 1 (ps j)).toInt64 + shS F (ps j)) (mh F ps j).2)
theorem mh_s {F : Nat → Nat → Int32} {ps : Nat → Nat} {j : Nat} {X : Int64} (h1 : upM (F 0 (ps j)) (F 1 (ps j)) ((F 1 (ps j)).toInt64 + shS F (ps j)) (mh F ps j).2 = X) : mh F ps (j + 1) = ((mh F ps j).1 + hTerm F (ps j), X) := by rw [mh, h1]
def lastI (ps : Nat → Nat) : Nat → Int32
  | 0 => -1
  | j + 1 => nI (ps j)
def dpL (F : Nat → Nat → Int32) (ps : Nat → Nat) : Nat → Int64
  | 0 => 0
  | j + 1 => if 4 < F 0 (ps j) then 0 else (F 3 (ps j)).toInt64
theorem lastI_neg {F : Nat → Nat → Int32} {ps : Nat → Nat} {n : Nat} (hb : ∀ j, j < n → ps j < 8000) (h : lastI ps n < 0) : dpL F ps n = 0 := by
  cases n with
  | zero => rfl
  | succ j => exact absurd h (nI_pos (by have := hb j (by omega); omega))
theorem lastI_of {ps : Nat → Nat} {n : Nat} (h : ¬ lastI ps n < 0) : ∃ k, n = k + 1 ∧ lastI ps n = nI (ps k) := by
  cases n with
  | zero => exact absurd (show lastI ps 0 < 0 by rw [lastI]; decide) h
  | succ j => exact ⟨j, rfl, rfl⟩
set_option maxHeartbeats 4000000 in
set_option maxRecDepth 100000 in
theorem r_measureWide (l : Launch) (G : zG) (n0 e0 : Nat) (w : zw) (o : Nat) (A : Nat → Nat) (S : Nat → Int32) (L : Nat → Int64) (F : Nat → Nat → Int32) (M : Nat → Int64) (B V Z : Nat → Int32) (T : Nat → Int64) (hr : RA G w o A S L F M B V Z T) (hA : ∀ i j, i < 13 → j < 13 → i ≠ j → A i ≠ A j) (ps : Nat → Nat) (n : Nat) (hps : SP (F 8) ps n) (hpe : ps n ≤ 8000) (hen : S 2 = nI (ps n)) (hor : ∀ j, j < n → F 0 (ps j) = 5 → vp_in (F 5 (ps j)) 4)  : Ct l G n0 e0 y_R_measureWide b_R_measureWide 5 (Option.none : Option FieldType) ({ frames := 1, cells := 0, slots := 0, locals := 25 }) [.ref o, .int (nI (ps 0))] w (fun v w1 => v = none ∧ RA G w1 o A S (mzL (mw F ps n).1 (mw F ps n).2.1 (mw F ps n).2.2 0 (gl F ps (z4 T) n).2) F M B V Z (gl F ps (z4 T) n).1 ∧ Fr (allR o A) w w1) := by
  refine z_ct (by decide) (Nat.le_of_ble_eq_true rfl) ?_
  intro p e s m below meth c ls cx hnm hZ hS hl
  have hx := cx.1
  have hb := cx.2.1
  have hl : lv_has ls 5 [(0, .ref o), (1, .int (nI (ps 0)))] := hl
  obtain ⟨ho, ⟨h0, h1, h2, h3, h4, h5, h6, h7, h8⟩, h9, h10, h11, h12⟩ := id hr
  have hF : Fr [o, (A 0), (A 1), (A 2), (A 3), (A 4), (A 5), (A 6), (A 7), (A 8), (A 9), (A 10), (A 11), (A 12)] w w := Fr.rf
  refine lv_aload_n hx hb d_R_measureWide_0 rfl (lv_at hl 0 rfl) ?_
  refine lv_iload_n hx hb d_R_measureWide_1 rfl (lv_at hl 1 rfl) ?_
  refine iv_R_106 (As := [.int (nI (ps 0))]) (rest := []) cx (r_measure l G n0 e0 w o A S L F M B V Z T ⟨ho, ⟨h0, h1, h2, h3, h4, h5, h6, h7, h8⟩, h9, h10, h11, h12⟩ hA ps n hps hpe hen hor) ho ⟨(Nat.le_of_ble_eq_true rfl), (Nat.le_of_ble_eq_true rfl)⟩ ⟨(Nat.le_of_ble_eq_true rfl), (Nat.le_of_ble_eq_true rfl)⟩ rfl hl.1 rfl (Nat.le_of_ble_eq_true rfl) d_R_measureWide_2 hZ hS (fun v w_1 H locs hp_2 hZ hS => ?_)
  obtain ⟨rfl, hr_3, hf_4⟩ := hp_2
  obtain ⟨ho_5, ⟨h0_5, h1_5, h2_5, h3_5, h4_5, h5_5, h6_5, h7_5, h8_5⟩, h9_5, h10_5, h11_5, h12_5⟩ := id hr_3
  have ho_5 : w_1 o = some (.inr (6, [.int (S 0), .ref (A 0), .ref (A 1), .ref (A 2), .ref (A 3), .ref (A 4), .ref (A 5), .ref (A 6), .ref (A 7), .ref (A 8), .int (S 1), .ref (A 9), .ref (A 10), .int (S 2), .ref (A 11), .long 0, .long 0, .long 0, .long 0, .ref (A 12), .long ((gl F ps (z4 T) n).2)])) := ho_5
  have hF := hF.call hf_4 (fun t ht => Or.inl ht)
  refine W.eq (g2 := F0 m 5 ls []) rfl ?_
  refine lv_iload_n hx hb d_R_measureWide_5 rfl (lv_at hl 1 rfl) ?_
  refine lv_istore_n (lv' := [(2, .int (nI (ps 0))), (0, .ref o), (1, .int (nI (ps 0)))]) hx hb d_R_measureWide_6 rfl hl (by decide) rfl (fun ls hl => ?_)
  have loop_7 : ∀ (j i : Nat) (w2 : zw) (H : Heap) (locs : List Loc) (ls : Array Slot), i + j = n → Zw G.1 vwC (zA n0) w2 H → va_S (zA n0) s.heap H locs → Fr [o, (A 0), (A 1), (A 2), (A 3), (A 4), (A 5), (A 6), (A 7), (A 8), (A 9), (A 10), (A 11), (A 12)] w w2 → RA G w2 o A S (mzL (mw F ps i).1 (mw F ps i).2.1 (mw F ps i).2.2 0 (gl F ps (z4 T) n).2) F M B V Z (gl F ps (z4 T) n).1 → lv_has ls 5 [(2, .int (nI (ps i))), (0, .ref o), (1, .int (nI (ps 0)))] → W p l e ({ frames := 1, cells := 0, slots := 0, locals := 25 }) s m [.ref o, .int (nI (ps 0))].toArray below meth c H locs 0 0 (MQ below (zQ G.1 vwC n0 (fun v w1 => v = none ∧ RA G w1 o A S (mzL (mw F ps n).1 (mw F ps n).2.1 (mw F ps n).2.2 0 (gl F ps (z4 T) n).2) F M B V Z (gl F ps (z4 T) n).1 ∧ Fr (allR o A) w w1)) [.ref o, .int (nI (ps 0))].toArray s ({ frames := 1, cells := 0, slots := 0, locals := 25 } : Room).cells ({ frames := 1, cells := 0, slots := 0, locals := 25 } : Room).slots (zA n0)) (F0 m 7 ls []) := by
    intro j
    induction j with
    | zero =>
      intro i w2 H locs ls hik hZ hS hF hr2 hl
      have hin : n = i := by omega
      subst hin
      obtain ⟨ho_6, ⟨h0_6, h1_6, h2_6, h3_6, h4_6, h5_6, h6_6, h7_6, h8_6⟩, h9_6, h10_6, h11_6, h12_6⟩ := id hr2
      have ho_6 : w2 o = some (.inr (6, [.int (S 0), .ref (A 0), .ref (A 1), .ref (A 2), .ref (A 3), .ref (A 4), .ref (A 5), .ref (A 6), .ref (A 7), .ref (A 8), .int (S 1), .ref (A 9), .ref (A 10), .int (S 2), .ref (A 11), .long ((mw F ps n).1), .long ((mw F ps n).2.1), .long ((mw F ps n).2.2), .long 0, .ref (A 12), .long ((gl F ps (z4 T) n).2)])) := ho_6
      refine lv_iload_n hx hb d_R_measureWide_7 rfl (lv_at hl 0 rfl) ?_
      refine lv_aload_n hx hb d_R_measureWide_8 rfl (lv_at hl 1 rfl) ?_
      refine gf_R_61 cx hZ ho_6 rfl d_R_measureWide_9 ?_
      rw [show ((S 2) : Int32) = nI (ps n) from hen]
      refine lv_icmp_ge (tgt := 176) hx hb d_R_measureWide_12 (by decide) (fun c12 => ?_) (fun c12 => ?_)
      · exact z_vret cx.1 cx.2.1 cx.rt cx.lk hS hZ ⟨(Nat.le_of_ble_eq_true rfl), (Nat.le_of_ble_eq_true rfl)⟩ d_R_measureWide_176 (⟨rfl, ⟨ho_6, ⟨h0_6, h1_6, h2_6, h3_6, h4_6, h5_6, h6_6, h7_6, h8_6⟩, h9_6, h10_6, h11_6, h12_6⟩, hF⟩)
      · exact absurd (nI_le (by omega) (by omega)) c12
    | succ j ih =>
      intro i w2 H locs ls hik hZ hS hF hr2 hl
      have hpi : ps i < 8000 := by have := hps.lt (show i < n by omega); omega
      obtain ⟨ho_7, ⟨h0_7, h1_7, h2_7, h3_7, h4_7, h5_7, h6_7, h7_7, h8_7⟩, h9_7, h10_7, h11_7, h12_7⟩ := id hr2
      have ho_7 : w2 o = some (.inr (6, [.int (S 0), .ref (A 0), .ref (A 1), .ref (A 2), .ref (A 3), .ref (A 4), .ref (A 5), .ref (A 6), .ref (A 7), .ref (A 8), .int (S 1), .ref (A 9), .ref (A 10), .int (S 2), .ref (A 11), .long ((mw F ps i).1), .long ((mw F ps i).2.1), .long ((mw F ps i).2.2), .long 0, .ref (A 12), .long ((gl F ps (z4 T) n).2)])) := ho_7
      refine lv_iload_n hx hb d_R_measureWide_7 rfl (lv_at hl 0 rfl) ?_
      refine lv_aload_n hx hb d_R_measureWide_8 rfl (lv_at hl 1 rfl) ?_
      refine gf_R_61 cx hZ ho_7 rfl d_R_measureWide_9 ?_
      rw [show ((S 2) : Int32) = nI (ps n) from hen]
      refine lv_icmp_ge (tgt := 176) hx hb d_R_measureWide_12 (by decide) (fun c12 => ?_) (fun c12 => ?_)
      · exact absurd c12 (nI_ge (hps.lt (by omega)) (by omega))
      · refine lv_aload_n hx hb d_R_measureWide_15 rfl (lv_at hl 1 rfl) ?_
        refine lv_dup hx hb d_R_measureWide_16 rfl ?_
        refine gf_R_90 cx hZ ho_7 rfl d_R_measureWide_17 ?_
        have J_42 : ∀ (H : Heap) (locs : List Loc) (x42 : Int64), Zw G.1 vwC (zA n0) w2 H → va_S (zA n0) s.heap H locs → x42 = wTerm F (ps i) → W p l e ({ frames := 1, cells := 0, slots := 0, locals := 25 }) s m [.ref o, .int (nI (ps 0))].toArray below meth c H locs 0 0 (MQ below (zQ G.1 vwC n0 (fun v w1 => v = none ∧ RA G w1 o A S (mzL (mw F ps n).1 (mw F ps n).2.1 (mw F ps n).2.2 0 (gl F ps (z4 T) n).2) F M B V Z (gl F ps (z4 T) n).1 ∧ Fr (allR o A) w w1)) [.ref o, .int (nI (ps 0))].toArray s ({ frames := 1, cells := 0, slots := 0, locals := 25 } : Room).cells ({ frames := 1, cells := 0, slots := 0, locals := 25 } : Room).slots (zA n0)) (F0 m 42 ls [.long x42, .long ((mw F ps i).1), .ref o]) := by
          intro H locs x42 hZ hS hx42
          subst hx42
          refine lv_ladd hx hb d_R_measureWide_42 ?_
          refine pf_R_90 cx hZ hS ho_7 (Nat.le_of_ble_eq_true rfl) d_R_measureWide_43 (fun w_8 H locs hw_9 hZ hS => ?_)
          have hk_10 : w_8 (A 0) = some (.inl (G.2 0, 8200, .inl (F 0))) := up_ne hw_9 h0_7 (z_ne h0_7 ho_7 (by simp))
          have hk_11 : w_8 (A 1) = some (.inl (G.2 0, 8200, .inl (F 1))) := up_ne hw_9 h1_7 (z_ne h1_7 ho_7 (by simp))
          have hk_12 : w_8 (A 2) = some (.inl (G.2 0, 8200, .inl (F 2))) := up_ne hw_9 h2_7 (z_ne h2_7 ho_7 (by simp))
          have hk_13 : w_8 (A 3) = some (.inl (G.2 0, 8200, .inl (F 3))) := up_ne hw_9 h3_7 (z_ne h3_7 ho_7 (by simp))
          have hk_14 : w_8 (A 4) = some (.inl (G.2 0, 8200, .inl (F 4))) := up_ne hw_9 h4_7 (z_ne h4_7 ho_7 (by simp))
          have hk_15 : w_8 (A 5) = some (.inl (G.2 0, 8200, .inl (F 5))) := up_ne hw_9 h5_7 (z_ne h5_7 ho_7 (by simp))
          have hk_16 : w_8 (A 6) = some (.inl (G.2 0, 8200, .inl (F 6))) := up_ne hw_9 h6_7 (z_ne h6_7 ho_7 (by simp))
          have hk_17 : w_8 (A 7) = some (.inl (G.2 1, 8200, .inr (.inl M))) := up_ne hw_9 h7_7 (z_ne h7_7 ho_7 (by simp))
          have hk_18 : w_8 (A 8) = some (.inl (G.2 0, 8200, .inl (F 8))) := up_ne hw_9 h8_7 (z_ne h8_7 ho_7 (by simp))
          have hk_19 : w_8 (A 9) = some (.inl (G.2 0, 101, .inl B)) := up_ne hw_9 h9_7 (z_ne h9_7 ho_7 (by simp))
          have hk_20 : w_8 (A 10) = some (.inl (G.2 2, 101, .inl V)) := up_ne hw_9 h10_7 (z_ne h10_7 ho_7 (by simp))
          have hk_21 : w_8 (A 11) = some (.inl (G.2 0, 16, .inl Z)) := up_ne hw_9 h11_7 (z_ne h11_7 ho_7 (by simp))
          have hk_22 : w_8 (A 12) = some (.inl (G.2 1, 4, .inr (.inl ((gl F ps (z4 T) n).1)))) := up_ne hw_9 h12_7 (z_ne h12_7 ho_7 (by simp))
          have hF := hF.put hw_9 (Or.inl (by simp))
          have hc_23 : w_8 o = some (.inr (6, [.int (S 0), .ref (A 0), .ref (A 1), .ref (A 2), .ref (A 3), .ref (A 4), .ref (A 5), .ref (A 6), .ref (A 7), .ref (A 8), .int (S 1), .ref (A 9), .ref (A 10), .int (S 2), .ref (A 11), .long (((mw F ps i).1) + (wTerm F (ps i))), .long ((mw F ps i).2.1), .long ((mw F ps i).2.2), .long 0, .ref (A 12), .long ((gl F ps (z4 T) n).2)])) := up_self hw_9
          have J_65 : ∀ (H : Heap) (locs : List Loc) (x65 : Int64), Zw G.1 vwC (zA n0) w_8 H → va_S (zA n0) s.heap H locs → x65 = shS F (ps i) → W p l e ({ frames := 1, cells := 0, slots := 0, locals := 25 }) s m [.ref o, .int (nI (ps 0))].toArray below meth c H locs 0 0 (MQ below (zQ G.1 vwC n0 (fun v w1 => v = none ∧ RA G w1 o A S (mzL (mw F ps n).1 (mw F ps n).2.1 (mw F ps n).2.2 0 (gl F ps (z4 T) n).2) F M B V Z (gl F ps (z4 T) n).1 ∧ Fr (allR o A) w w1)) [.ref o, .int (nI (ps 0))].toArray s ({ frames := 1, cells := 0, slots := 0, locals := 25 } : Room).cells ({ frames := 1, cells := 0, slots := 0, locals := 25 } : Room).slots (zA n0)) (F0 m 65 ls [.long x65]) := by
            intro H locs x65 hZ hS hx65
            subst hx65
            refine lv_lstore_n (lv' := [(3, .long (shS F (ps i))), (2, .int (nI (ps i))), (0, .ref o), (1, .int (nI (ps 0)))]) hx hb d_R_measureWide_65 rfl hl (by decide) rfl (fun ls hl => ?_)
            refine lv_aload_n hx hb d_R_measureWide_66 rfl (lv_at hl 2 rfl) ?_
            refine lv_iload_n hx hb d_R_measureWide_67 rfl (lv_at hl 1 rfl) ?_
            refine iv_R_110 (As := [.int (nI (ps i))]) (rest := []) cx (r_isSolid l G n0 e0 w_8 o A S (vp_updL (mzL (mw F ps i).1 (mw F ps i).2.1 (mw F ps i).2.2 0 (gl F ps (z4 T) n).2) 0 (((mw F ps i).1) + (wTerm F (ps i)))) hc_23 F hk_10 (ps i) (by omega)) hc_23 ⟨(Nat.le_of_ble_eq_true rfl), (Nat.le_of_ble_eq_true rfl)⟩ ⟨(Nat.le_of_ble_eq_true rfl), (Nat.le_of_ble_eq_true rfl)⟩ rfl hl.1 rfl (Nat.le_of_ble_eq_true rfl) d_R_measureWide_68 hZ hS (fun v w_24 H locs hp_25 hZ hS => ?_)
            obtain ⟨rfl, hq⟩ := hp_25
            subst w_24
            refine W.eq (g2 := F0 m 71 ls [.int (zi (!decide (4 < F 0 (ps i))))]) rfl ?_
            refine lv_if_eq (tgt := 115) hx hb d_R_measureWide_71 (by decide) (fun c71 => ?_) (fun c71 => ?_)
            · refine lv_aload_n hx hb d_R_measureWide_115 rfl (lv_at hl 2 rfl) ?_
              refine lv_iload_n hx hb d_R_measureWide_116 rfl (lv_at hl 1 rfl) ?_
              refine iv_R_110 (As := [.int (nI (ps i))]) (rest := []) cx (r_isSolid l G n0 e0 w_8 o A S (vp_updL (mzL (mw F ps i).1 (mw F ps i).2.1 (mw F ps i).2.2 0 (gl F ps (z4 T) n).2) 0 (((mw F ps i).1) + (wTerm F (ps i)))) hc_23 F hk_10 (ps i) (by omega)) hc_23 ⟨(Nat.le_of_ble_eq_true rfl), (Nat.le_of_ble_eq_true rfl)⟩ ⟨(Nat.le_of_ble_eq_true rfl), (Nat.le_of_ble_eq_true rfl)⟩ rfl hl.1 rfl (Nat.le_of_ble_eq_true rfl) d_R_measureWide_117 hZ hS (fun v w_26 H locs hp_27 hZ hS => ?_)
              obtain ⟨rfl, hq⟩ := hp_27
              subst w_26
              refine W.eq (g2 := F0 m 120 ls [.int (zi (!decide (4 < F 0 (ps i))))]) rfl ?_
              refine lv_if_eq (tgt := 164) hx hb d_R_measureWide_120 (by decide) (fun c120 => ?_) (fun c120 => ?_)
              · refine lv_iload_n hx hb d_R_measureWide_164 rfl (lv_at hl 1 rfl) ?_
                refine lv_aload_n hx hb d_R_measureWide_165 rfl (lv_at hl 2 rfl) ?_
                refine gf_R_35 cx hZ hc_23 rfl d_R_measureWide_166 ?_
                refine lv_iload_n hx hb d_R_measureWide_169 rfl (lv_at hl 1 rfl) ?_
                refine ld_i cx hZ hk_18 (vp_in_nI (by omega) (by omega)) d_R_measureWide_170 ?_
                rw [show ((F 8) (nI (ps i)).toNatClampNeg : Int32) = (F 8) (ps i) from by rw [nI_clamp (by first | omega | (unfold stN; omega))]]
                refine lv_iadd hx hb d_R_measureWide_171 ?_
                rw [show (((nI (ps i)) + ((F 8) (ps i))) : Int32) = nI (ps (i + 1)) from hps.step (by omega)]
                refine lv_istore_n (lv' := [(2, .int (nI (ps (i + 1)))), (3, .long (shS F (ps i))), (0, .ref o), (1, .int (nI (ps 0)))]) hx hb d_R_measureWide_172 rfl hl (by decide) rfl (fun ls hl => ?_)
                refine lv_goto (tgt := 7) hx hb d_R_measureWide_173 (by decide) ?_
                exact ih (i + 1) _ _ _ _ (by omega) hZ hS hF (by rw [mw_s (upM_a c71) (upM_a c120)]; exact ⟨hc_23, ⟨hk_10, hk_11, hk_12, hk_13, hk_14, hk_15, hk_16, hk_17, hk_18⟩, hk_19, hk_20, hk_21, hk_22⟩) (lv_sub hl [0, 2, 3] rfl)
              · exact absurd c71 c120
            · refine lv_aload_n hx hb d_R_measureWide_74 rfl (lv_at hl 2 rfl) ?_
              refine gf_R_16 cx hZ hc_23 rfl d_R_measureWide_75 ?_
              refine lv_iload_n hx hb d_R_measureWide_78 rfl (lv_at hl 1 rfl) ?_
              refine ld_i cx hZ hk_12 (vp_in_nI (by omega) (by omega)) d_R_measureWide_79 ?_
              rw [show ((F 2) (nI (ps i)).toNatClampNeg : Int32) = (F 2) (ps i) from by rw [nI_clamp (by first | omega | (unfold stN; omega))]]
              refine lc_R_86 cx d_R_measureWide_80 ?_
              refine lv_icmp_eq (tgt := 115) hx hb d_R_measureWide_82 (by decide) (fun c82 => ?_) (fun c82 => ?_)
              · refine lv_aload_n hx hb d_R_measureWide_115 rfl (lv_at hl 2 rfl) ?_
                refine lv_iload_n hx hb d_R_measureWide_116 rfl (lv_at hl 1 rfl) ?_
                refine iv_R_110 (As := [.int (nI (ps i))]) (rest := []) cx (r_isSolid l G n0 e0 w_8 o A S (vp_updL (mzL (mw F ps i).1 (mw F ps i).2.1 (mw F ps i).2.2 0 (gl F ps (z4 T) n).2) 0 (((mw F ps i).1) + (wTerm F (ps i)))) hc_23 F hk_10 (ps i) (by omega)) hc_23 ⟨(Nat.le_of_ble_eq_true rfl), (Nat.le_of_ble_eq_true rfl)⟩ ⟨(Nat.le_of_ble_eq_true rfl), (Nat.le_of_ble_eq_true rfl)⟩ rfl hl.1 rfl (Nat.le_of_ble_eq_true rfl) d_R_measureWide_117 hZ hS (fun v w_28 H locs hp_29 hZ hS => ?_)
                obtain ⟨rfl, hq⟩ := hp_29
                subst w_28
                refine W.eq (g2 := F0 m 120 ls [.int (zi (!decide (4 < F 0 (ps i))))]) rfl ?_
                refine lv_if_eq (tgt := 164) hx hb d_R_measureWide_120 (by decide) (fun c120 => ?_) (fun c120 => ?_)
                · exact absurd c120 c71
                · refine lv_aload_n hx hb d_R_measureWide_123 rfl (lv_at hl 2 rfl) ?_
                  refine gf_R_19 cx hZ hc_23 rfl d_R_measureWide_124 ?_
                  refine lv_iload_n hx hb d_R_measureWide_127 rfl (lv_at hl 1 rfl) ?_
                  refine ld_i cx hZ hk_13 (vp_in_nI (by omega) (by omega)) d_R_measureWide_128 ?_
                  rw [show ((F 3) (nI (ps i)).toNatClampNeg : Int32) = (F 3) (ps i) from by rw [nI_clamp (by first | omega | (unfold stN; omega))]]
                  refine lc_R_86 cx d_R_measureWide_129 ?_
                  refine lv_icmp_eq (tgt := 164) hx hb d_R_measureWide_131 (by decide) (fun c131 => ?_) (fun c131 => ?_)
                  · refine lv_iload_n hx hb d_R_measureWide_164 rfl (lv_at hl 1 rfl) ?_
                    refine lv_aload_n hx hb d_R_measureWide_165 rfl (lv_at hl 2 rfl) ?_
                    refine gf_R_35 cx hZ hc_23 rfl d_R_measureWide_166 ?_
                    refine lv_iload_n hx hb d_R_measureWide_169 rfl (lv_at hl 1 rfl) ?_
                    refine ld_i cx hZ hk_18 (vp_in_nI (by omega) (by omega)) d_R_measureWide_170 ?_
                    rw [show ((F 8) (nI (ps i)).toNatClampNeg : Int32) = (F 8) (ps i) from by rw [nI_clamp (by first | omega | (unfold stN; omega))]]
                    refine lv_iadd hx hb d_R_measureWide_171 ?_
                    rw [show (((nI (ps i)) + ((F 8) (ps i))) : Int32) = nI (ps (i + 1)) from hps.step (by omega)]
                    refine lv_istore_n (lv' := [(2, .int (nI (ps (i + 1)))), (3, .long (shS F (ps i))), (0, .ref o), (1, .int (nI (ps 0)))]) hx hb d_R_measureWide_172 rfl hl (by decide) rfl (fun ls hl => ?_)
                    refine lv_goto (tgt := 7) hx hb d_R_measureWide_173 (by decide) ?_
                    exact ih (i + 1) _ _ _ _ (by omega) hZ hS hF (by rw [mw_s (upM_b c82) (upM_b c131)]; exact ⟨hc_23, ⟨hk_10, hk_11, hk_12, hk_13, hk_14, hk_15, hk_16, hk_17, hk_18⟩, hk_19, hk_20, hk_21, hk_22⟩) (lv_sub hl [0, 2, 3] rfl)
                  · refine lv_aload_n hx hb d_R_measureWide_134 rfl (lv_at hl 2 rfl) ?_
                    refine gf_R_19 cx hZ hc_23 rfl d_R_measureWide_135 ?_
                    refine lv_iload_n hx hb d_R_measureWide_138 rfl (lv_at hl 1 rfl) ?_
                    refine ld_i cx hZ hk_13 (vp_in_nI (by omega) (by omega)) d_R_measureWide_139 ?_
                    rw [show ((F 3) (nI (ps i)).toNatClampNeg : Int32) = (F 3) (ps i) from by rw [nI_clamp (by first | omega | (unfold stN; omega))]]
                    refine lv_i2l hx hb d_R_measureWide_140 rfl ?_
                    refine lv_lload_n hx hb d_R_measureWide_141 rfl (lv_at hl 0 rfl) ?_
                    refine lv_ladd hx hb d_R_measureWide_142 ?_
                    refine lv_aload_n hx hb d_R_measureWide_143 rfl (lv_at hl 2 rfl) ?_
                    refine gf_R_97 cx hZ hc_23 rfl d_R_measureWide_144 ?_
                    refine W.lcmp hx hb d_R_measureWide_147 ?_
                    refine lv_if_le (tgt := 164) hx hb d_R_measureWide_148 (by decide) (fun c148 => ?_) (fun c148 => ?_)
                    · have c148 := (lg_cmp_le _ _).mp c148
                      refine lv_iload_n hx hb d_R_measureWide_164 rfl (lv_at hl 1 rfl) ?_
                      refine lv_aload_n hx hb d_R_measureWide_165 rfl (lv_at hl 2 rfl) ?_
                      refine gf_R_35 cx hZ hc_23 rfl d_R_measureWide_166 ?_
                      refine lv_iload_n hx hb d_R_measureWide_169 rfl (lv_at hl 1 rfl) ?_
                      refine ld_i cx hZ hk_18 (vp_in_nI (by omega) (by omega)) d_R_measureWide_170 ?_
                      rw [show ((F 8) (nI (ps i)).toNatClampNeg : Int32) = (F 8) (ps i) from by rw [nI_clamp (by first | omega | (unfold stN; omega))]]
                      refine lv_iadd hx hb d_R_measureWide_171 ?_
                      rw [show (((nI (ps i)) + ((F 8) (ps i))) : Int32) = nI (ps (i + 1)) from hps.step (by omega)]
                      refine lv_istore_n (lv' := [(2, .int (nI (ps (i + 1)))), (3, .long (shS F (ps i))), (0, .ref o), (1, .int (nI (ps 0)))]) hx hb d_R_measureWide_172 rfl hl (by decide) rfl (fun ls hl => ?_)
                      refine lv_goto (tgt := 7) hx hb d_R_measureWide_173 (by decide) ?_
                      exact ih (i + 1) _ _ _ _ (by omega) hZ hS hF (by rw [mw_s (upM_b c82) (upM_c c148)]; exact ⟨hc_23, ⟨hk_10, hk_11, hk_12, hk_13, hk_14, hk_15, hk_16, hk_17, hk_18⟩, hk_19, hk_20, hk_21, hk_22⟩) (lv_sub hl [0, 2, 3] rfl)
                    · have c148 := fun q => c148 ((lg_cmp_le _ _).mpr q)
                      refine lv_aload_n hx hb d_R_measureWide_151 rfl (lv_at hl 2 rfl) ?_
                      refine lv_aload_n hx hb d_R_measureWide_152 rfl (lv_at hl 2 rfl) ?_
                      refine gf_R_19 cx hZ hc_23 rfl d_R_measureWide_153 ?_
                      refine lv_iload_n hx hb d_R_measureWide_156 rfl (lv_at hl 1 rfl) ?_
                      refine ld_i cx hZ hk_13 (vp_in_nI (by omega) (by omega)) d_R_measureWide_157 ?_
                      rw [show ((F 3) (nI (ps i)).toNatClampNeg : Int32) = (F 3) (ps i) from by rw [nI_clamp (by first | omega | (unfold stN; omega))]]
                      refine lv_i2l hx hb d_R_measureWide_158 rfl ?_
                      refine lv_lload_n hx hb d_R_measureWide_159 rfl (lv_at hl 0 rfl) ?_
                      refine lv_ladd hx hb d_R_measureWide_160 ?_
                      refine pf_R_97 cx hZ hS hc_23 (Nat.le_of_ble_eq_true rfl) d_R_measureWide_161 (fun w_30 H locs hw_31 hZ hS => ?_)
                      have hk_32 : w_30 (A 0) = some (.inl (G.2 0, 8200, .inl (F 0))) := up_ne hw_31 hk_10 (z_ne hk_10 hc_23 (by simp))
                      have hk_33 : w_30 (A 1) = some (.inl (G.2 0, 8200, .inl (F 1))) := up_ne hw_31 hk_11 (z_ne hk_11 hc_23 (by simp))
                      have hk_34 : w_30 (A 2) = some (.inl (G.2 0, 8200, .inl (F 2))) := up_ne hw_31 hk_12 (z_ne hk_12 hc_23 (by simp))
                      have hk_35 : w_30 (A 3) = some (.inl (G.2 0, 8200, .inl (F 3))) := up_ne hw_31 hk_13 (z_ne hk_13 hc_23 (by simp))
                      have hk_36 : w_30 (A 4) = some (.inl (G.2 0, 8200, .inl (F 4))) := up_ne hw_31 hk_14 (z_ne hk_14 hc_23 (by simp))
                      have hk_37 : w_30 (A 5) = some (.inl (G.2 0, 8200, .inl (F 5))) := up_ne hw_31 hk_15 (z_ne hk_15 hc_23 (by simp))
                      have hk_38 : w_30 (A 6) = some (.inl (G.2 0, 8200, .inl (F 6))) := up_ne hw_31 hk_16 (z_ne hk_16 hc_23 (by simp))
                      have hk_39 : w_30 (A 7) = some (.inl (G.2 1, 8200, .inr (.inl M))) := up_ne hw_31 hk_17 (z_ne hk_17 hc_23 (by simp))
                      have hk_40 : w_30 (A 8) = some (.inl (G.2 0, 8200, .inl (F 8))) := up_ne hw_31 hk_18 (z_ne hk_18 hc_23 (by simp))
                      have hk_41 : w_30 (A 9) = some (.inl (G.2 0, 101, .inl B)) := up_ne hw_31 hk_19 (z_ne hk_19 hc_23 (by simp))
                      have hk_42 : w_30 (A 10) = some (.inl (G.2 2, 101, .inl V)) := up_ne hw_31 hk_20 (z_ne hk_20 hc_23 (by simp))
                      have hk_43 : w_30 (A 11) = some (.inl (G.2 0, 16, .inl Z)) := up_ne hw_31 hk_21 (z_ne hk_21 hc_23 (by simp))
                      have hk_44 : w_30 (A 12) = some (.inl (G.2 1, 4, .inr (.inl ((gl F ps (z4 T) n).1)))) := up_ne hw_31 hk_22 (z_ne hk_22 hc_23 (by simp))
                      have hF := hF.put hw_31 (Or.inl (by simp))
                      have hc_45 : w_30 o = some (.inr (6, [.int (S 0), .ref (A 0), .ref (A 1), .ref (A 2), .ref (A 3), .ref (A 4), .ref (A 5), .ref (A 6), .ref (A 7), .ref (A 8), .int (S 1), .ref (A 9), .ref (A 10), .int (S 2), .ref (A 11), .long (((mw F ps i).1) + (wTerm F (ps i))), .long ((mw F ps i).2.1), .long ((((F 3) (ps i)).toInt64) + (shS F (ps i))), .long 0, .ref (A 12), .long ((gl F ps (z4 T) n).2)])) := up_self hw_31
                      refine lv_iload_n hx hb d_R_measureWide_164 rfl (lv_at hl 1 rfl) ?_
                      refine lv_aload_n hx hb d_R_measureWide_165 rfl (lv_at hl 2 rfl) ?_
                      refine gf_R_35 cx hZ hc_45 rfl d_R_measureWide_166 ?_
                      refine lv_iload_n hx hb d_R_measureWide_169 rfl (lv_at hl 1 rfl) ?_
                      refine ld_i cx hZ hk_40 (vp_in_nI (by omega) (by omega)) d_R_measureWide_170 ?_
                      rw [show ((F 8) (nI (ps i)).toNatClampNeg : Int32) = (F 8) (ps i) from by rw [nI_clamp (by first | omega | (unfold stN; omega))]]
                      refine lv_iadd hx hb d_R_measureWide_171 ?_
                      rw [show (((nI (ps i)) + ((F 8) (ps i))) : Int32) = nI (ps (i + 1)) from hps.step (by omega)]
                      refine lv_istore_n (lv' := [(2, .int (nI (ps (i + 1)))), (3, .long (shS F (ps i))), (0, .ref o), (1, .int (nI (ps 0)))]) hx hb d_R_measureWide_172 rfl hl (by decide) rfl (fun ls hl => ?_)
                      refine lv_goto (tgt := 7) hx hb d_R_measureWide_173 (by decide) ?_
                      exact ih (i + 1) _ _ _ _ (by omega) hZ hS hF (by rw [mw_s (upM_b c82) (upM_d c120 c131 c148)]; exact ⟨hc_45, ⟨hk_32, hk_33, hk_34, hk_35, hk_36, hk_37, hk_38, hk_39, hk_40⟩, hk_41, hk_42, hk_43, hk_44⟩) (lv_sub hl [0, 2, 3] rfl)
              · refine lv_aload_n hx hb d_R_measureWide_85 rfl (lv_at hl 2 rfl) ?_
                refine gf_R_16 cx hZ hc_23 rfl d_R_measureWide_86 ?_
                refine lv_iload_n hx hb d_R_measureWide_89 rfl (lv_at hl 1 rfl) ?_
                refine ld_i cx hZ hk_12 (vp_in_nI (by omega) (by omega)) d_R_measureWide_90 ?_
                rw [show ((F 2) (nI (ps i)).toNatClampNeg : Int32) = (F 2) (ps i) from by rw [nI_clamp (by first | omega | (unfold stN; omega))]]
                refine lv_i2l hx hb d_R_measureWide_91 rfl ?_
                refine lv_lload_n hx hb d_R_measureWide_92 rfl (lv_at hl 0 rfl) ?_
                refine lv_lsub hx hb d_R_measureWide_93 ?_
                refine lv_aload_n hx hb d_R_measureWide_94 rfl (lv_at hl 2 rfl) ?_
                refine gf_R_94 cx hZ hc_23 rfl d_R_measureWide_95 ?_
                refine W.lcmp hx hb d_R_measureWide_98 ?_
                refine lv_if_le (tgt := 115) hx hb d_R_measureWide_99 (by decide) (fun c99 => ?_) (fun c99 => ?_)
                · have c99 := (lg_cmp_le _ _).mp c99
                  refine lv_aload_n hx hb d_R_measureWide_115 rfl (lv_at hl 2 rfl) ?_
                  refine lv_iload_n hx hb d_R_measureWide_116 rfl (lv_at hl 1 rfl) ?_
                  refine iv_R_110 (As := [.int (nI (ps i))]) (rest := []) cx (r_isSolid l G n0 e0 w_8 o A S (vp_updL (mzL (mw F ps i).1 (mw F ps i).2.1 (mw F ps i).2.2 0 (gl F ps (z4 T) n).2) 0 (((mw F ps i).1) + (wTerm F (ps i)))) hc_23 F hk_10 (ps i) (by omega)) hc_23 ⟨(Nat.le_of_ble_eq_true rfl), (Nat.le_of_ble_eq_true rfl)⟩ ⟨(Nat.le_of_ble_eq_true rfl), (Nat.le_of_ble_eq_true rfl)⟩ rfl hl.1 rfl (Nat.le_of_ble_eq_true rfl) d_R_measureWide_117 hZ hS (fun v w_46 H locs hp_47 hZ hS => ?_)
                  obtain ⟨rfl, hq⟩ := hp_47
                  subst w_46
                  refine W.eq (g2 := F0 m 120 ls [.int (zi (!decide (4 < F 0 (ps i))))]) rfl ?_
                  refine lv_if_eq (tgt := 164) hx hb d_R_measureWide_120 (by decide) (fun c120 => ?_) (fun c120 => ?_)
                  · exact absurd c120 c71
                  · refine lv_aload_n hx hb d_R_measureWide_123 rfl (lv_at hl 2 rfl) ?_
                    refine gf_R_19 cx hZ hc_23 rfl d_R_measureWide_124 ?_
                    refine lv_iload_n hx hb d_R_measureWide_127 rfl (lv_at hl 1 rfl) ?_
                    refine ld_i cx hZ hk_13 (vp_in_nI (by omega) (by omega)) d_R_measureWide_128 ?_
                    rw [show ((F 3) (nI (ps i)).toNatClampNeg : Int32) = (F 3) (ps i) from by rw [nI_clamp (by first | omega | (unfold stN; omega))]]
                    refine lc_R_86 cx d_R_measureWide_129 ?_
                    refine lv_icmp_eq (tgt := 164) hx hb d_R_measureWide_131 (by decide) (fun c131 => ?_) (fun c131 => ?_)
                    · refine lv_iload_n hx hb d_R_measureWide_164 rfl (lv_at hl 1 rfl) ?_
                      refine lv_aload_n hx hb d_R_measureWide_165 rfl (lv_at hl 2 rfl) ?_
                      refine gf_R_35 cx hZ hc_23 rfl d_R_measureWide_166 ?_
                      refine lv_iload_n hx hb d_R_measureWide_169 rfl (lv_at hl 1 rfl) ?_
                      refine ld_i cx hZ hk_18 (vp_in_nI (by omega) (by omega)) d_R_measureWide_170 ?_
                      rw [show ((F 8) (nI (ps i)).toNatClampNeg : Int32) = (F 8) (ps i) from by rw [nI_clamp (by first | omega | (unfold stN; omega))]]
                      refine lv_iadd hx hb d_R_measureWide_171 ?_
                      rw [show (((nI (ps i)) + ((F 8) (ps i))) : Int32) = nI (ps (i + 1)) from hps.step (by omega)]
                      refine lv_istore_n (lv' := [(2, .int (nI (ps (i + 1)))), (3, .long (shS F (ps i))), (0, .ref o), (1, .int (nI (ps 0)))]) hx hb d_R_measureWide_172 rfl hl (by decide) rfl (fun ls hl => ?_)
                      refine lv_goto (tgt := 7) hx hb d_R_measureWide_173 (by decide) ?_
                      exact ih (i + 1) _ _ _ _ (by omega) hZ hS hF (by rw [mw_s (upM_c c99) (upM_b c131)]; exact ⟨hc_23, ⟨hk_10, hk_11, hk_12, hk_13, hk_14, hk_15, hk_16, hk_17, hk_18⟩, hk_19, hk_20, hk_21, hk_22⟩) (lv_sub hl [0, 2, 3] rfl)
                    · refine lv_aload_n hx hb d_R_measureWide_134 rfl (lv_at hl 2 rfl) ?_
                      refine gf_R_19 cx hZ hc_23 rfl d_R_measureWide_135 ?_
                      refine lv_iload_n hx hb d_R_measureWide_138 rfl (lv_at hl 1 rfl) ?_
                      refine ld_i cx hZ hk_13 (vp_in_nI (by omega) (by omega)) d_R_measureWide_139 ?_
                      rw [show ((F 3) (nI (ps i)).toNatClampNeg : Int32) = (F 3) (ps i) from by rw [nI_clamp (by first | omega | (unfold stN; omega))]]
                      refine lv_i2l hx hb d_R_measureWide_140 rfl ?_
                      refine lv_lload_n hx hb d_R_measureWide_141 rfl (lv_at hl 0 rfl) ?_
                      refine lv_ladd hx hb d_R_measureWide_142 ?_
                      refine lv_aload_n hx hb d_R_measureWide_143 rfl (lv_at hl 2 rfl) ?_
                      refine gf_R_97 cx hZ hc_23 rfl d_R_measureWide_144 ?_
                      refine W.lcmp hx hb d_R_measureWide_147 ?_
                      refine lv_if_le (tgt := 164) hx hb d_R_measureWide_148 (by decide) (fun c148 => ?_) (fun c148 => ?_)
                      · have c148 := (lg_cmp_le _ _).mp c148
                        refine lv_iload_n hx hb d_R_measureWide_164 rfl (lv_at hl 1 rfl) ?_
                        refine lv_aload_n hx hb d_R_measureWide_165 rfl (lv_at hl 2 rfl) ?_
                        refine gf_R_35 cx hZ hc_23 rfl d_R_measureWide_166 ?_
                        refine lv_iload_n hx hb d_R_measureWide_169 rfl (lv_at hl 1 rfl) ?_
                        refine ld_i cx hZ hk_18 (vp_in_nI (by omega) (by omega)) d_R_measureWide_170 ?_
                        rw [show ((F 8) (nI (ps i)).toNatClampNeg : Int32) = (F 8) (ps i) from by rw [nI_clamp (by first | omega | (unfold stN; omega))]]
                        refine lv_iadd hx hb d_R_measureWide_171 ?_
                        rw [show (((nI (ps i)) + ((F 8) (ps i))) : Int32) = nI (ps (i + 1)) from hps.step (by omega)]
                        refine lv_istore_n (lv' := [(2, .int (nI (ps (i + 1)))), (3, .long (shS F (ps i))), (0, .ref o), (1, .int (nI (ps 0)))]) hx hb d_R_measureWide_172 rfl hl (by decide) rfl (fun ls hl => ?_)
                        refine lv_goto (tgt := 7) hx hb d_R_measureWide_173 (by decide) ?_
                        exact ih (i + 1) _ _ _ _ (by omega) hZ hS hF (by rw [mw_s (upM_c c99) (upM_c c148)]; exact ⟨hc_23, ⟨hk_10, hk_11, hk_12, hk_13, hk_14, hk_15, hk_16, hk_17, hk_18⟩, hk_19, hk_20, hk_21, hk_22⟩) (lv_sub hl [0, 2, 3] rfl)
                      · have c148 := fun q => c148 ((lg_cmp_le _ _).mpr q)
                        refine lv_aload_n hx hb d_R_measureWide_151 rfl (lv_at hl 2 rfl) ?_
                        refine lv_aload_n hx hb d_R_measureWide_152 rfl (lv_at hl 2 rfl) ?_
                        refine gf_R_19 cx hZ hc_23 rfl d_R_measureWide_153 ?_
                        refine lv_iload_n hx hb d_R_measureWide_156 rfl (lv_at hl 1 rfl) ?_
                        refine ld_i cx hZ hk_13 (vp_in_nI (by omega) (by omega)) d_R_measureWide_157 ?_
                        rw [show ((F 3) (nI (ps i)).toNatClampNeg : Int32) = (F 3) (ps i) from by rw [nI_clamp (by first | omega | (unfold stN; omega))]]
                        refine lv_i2l hx hb d_R_measureWide_158 rfl ?_
                        refine lv_lload_n hx hb d_R_measureWide_159 rfl (lv_at hl 0 rfl) ?_
                        refine lv_ladd hx hb d_R_measureWide_160 ?_
                        refine pf_R_97 cx hZ hS hc_23 (Nat.le_of_ble_eq_true rfl) d_R_measureWide_161 (fun w_48 H locs hw_49 hZ hS => ?_)
                        have hk_50 : w_48 (A 0) = some (.inl (G.2 0, 8200, .inl (F 0))) := up_ne hw_49 hk_10 (z_ne hk_10 hc_23 (by simp))
                        have hk_51 : w_48 (A 1) = some (.inl (G.2 0, 8200, .inl (F 1))) := up_ne hw_49 hk_11 (z_ne hk_11 hc_23 (by simp))
                        have hk_52 : w_48 (A 2) = some (.inl (G.2 0, 8200, .inl (F 2))) := up_ne hw_49 hk_12 (z_ne hk_12 hc_23 (by simp))
                        have hk_53 : w_48 (A 3) = some (.inl (G.2 0, 8200, .inl (F 3))) := up_ne hw_49 hk_13 (z_ne hk_13 hc_23 (by simp))
                        have hk_54 : w_48 (A 4) = some (.inl (G.2 0, 8200, .inl (F 4))) := up_ne hw_49 hk_14 (z_ne hk_14 hc_23 (by simp))
                        have hk_55 : w_48 (A 5) = some (.inl (G.2 0, 8200, .inl (F 5))) := up_ne hw_49 hk_15 (z_ne hk_15 hc_23 (by simp))
                        have hk_56 : w_48 (A 6) = some (.inl (G.2 0, 8200, .inl (F 6))) := up_ne hw_49 hk_16 (z_ne hk_16 hc_23 (by simp))
                        have hk_57 : w_48 (A 7) = some (.inl (G.2 1, 8200, .inr (.inl M))) := up_ne hw_49 hk_17 (z_ne hk_17 hc_23 (by simp))
                        have hk_58 : w_48 (A 8) = some (.inl (G.2 0, 8200, .inl (F 8))) := up_ne hw_49 hk_18 (z_ne hk_18 hc_23 (by simp))
                        have hk_59 : w_48 (A 9) = some (.inl (G.2 0, 101, .inl B)) := up_ne hw_49 hk_19 (z_ne hk_19 hc_23 (by simp))
                        have hk_60 : w_48 (A 10) = some (.inl (G.2 2, 101, .inl V)) := up_ne hw_49 hk_20 (z_ne hk_20 hc_23 (by simp))
                        have hk_61 : w_48 (A 11) = some (.inl (G.2 0, 16, .inl Z)) := up_ne hw_49 hk_21 (z_ne hk_21 hc_23 (by simp))
                        have hk_62 : w_48 (A 12) = some (.inl (G.2 1, 4, .inr (.inl ((gl F ps (z4 T) n).1)))) := up_ne hw_49 hk_22 (z_ne hk_22 hc_23 (by simp))
                        have hF := hF.put hw_49 (Or.inl (by simp))
                        have hc_63 : w_48 o = some (.inr (6, [.int (S 0), .ref (A 0), .ref (A 1), .ref (A 2), .ref (A 3), .ref (A 4), .ref (A 5), .ref (A 6), .ref (A 7), .ref (A 8), .int (S 1), .ref (A 9), .ref (A 10), .int (S 2), .ref (A 11), .long (((mw F ps i).1) + (wTerm F (ps i))), .long ((mw F ps i).2.1), .long ((((F 3) (ps i)).toInt64) + (shS F (ps i))), .long 0, .ref (A 12), .long ((gl F ps (z4 T) n).2)])) := up_self hw_49
                        refine lv_iload_n hx hb d_R_measureWide_164 rfl (lv_at hl 1 rfl) ?_
                        refine lv_aload_n hx hb d_R_measureWide_165 rfl (lv_at hl 2 rfl) ?_
                        refine gf_R_35 cx hZ hc_63 rfl d_R_measureWide_166 ?_
                        refine lv_iload_n hx hb d_R_measureWide_169 rfl (lv_at hl 1 rfl) ?_
                        refine ld_i cx hZ hk_58 (vp_in_nI (by omega) (by omega)) d_R_measureWide_170 ?_
                        rw [show ((F 8) (nI (ps i)).toNatClampNeg : Int32) = (F 8) (ps i) from by rw [nI_clamp (by first | omega | (unfold stN; omega))]]
                        refine lv_iadd hx hb d_R_measureWide_171 ?_
                        rw [show (((nI (ps i)) + ((F 8) (ps i))) : Int32) = nI (ps (i + 1)) from hps.step (by omega)]
                        refine lv_istore_n (lv' := [(2, .int (nI (ps (i + 1)))), (3, .long (shS F (ps i))), (0, .ref o), (1, .int (nI (ps 0)))]) hx hb d_R_measureWide_172 rfl hl (by decide) rfl (fun ls hl => ?_)
                        refine lv_goto (tgt := 7) hx hb d_R_measureWide_173 (by decide) ?_
                        exact ih (i + 1) _ _ _ _ (by omega) hZ hS hF (by rw [mw_s (upM_c c99) (upM_d c120 c131 c148)]; exact ⟨hc_63, ⟨hk_50, hk_51, hk_52, hk_53, hk_54, hk_55, hk_56, hk_57, hk_58⟩, hk_59, hk_60, hk_61, hk_62⟩) (lv_sub hl [0, 2, 3] rfl)
                · have c99 := fun q => c99 ((lg_cmp_le _ _).mpr q)
                  refine lv_aload_n hx hb d_R_measureWide_102 rfl (lv_at hl 2 rfl) ?_
                  refine lv_aload_n hx hb d_R_measureWide_103 rfl (lv_at hl 2 rfl) ?_
                  refine gf_R_16 cx hZ hc_23 rfl d_R_measureWide_104 ?_
                  refine lv_iload_n hx hb d_R_measureWide_107 rfl (lv_at hl 1 rfl) ?_
                  refine ld_i cx hZ hk_12 (vp_in_nI (by omega) (by omega)) d_R_measureWide_108 ?_
                  rw [show ((F 2) (nI (ps i)).toNatClampNeg : Int32) = (F 2) (ps i) from by rw [nI_clamp (by first | omega | (unfold stN; omega))]]
                  refine lv_i2l hx hb d_R_measureWide_109 rfl ?_
                  refine lv_lload_n hx hb d_R_measureWide_110 rfl (lv_at hl 0 rfl) ?_
                  refine lv_lsub hx hb d_R_measureWide_111 ?_
                  refine pf_R_94 cx hZ hS hc_23 (Nat.le_of_ble_eq_true rfl) d_R_measureWide_112 (fun w_64 H locs hw_65 hZ hS => ?_)
                  have hk_66 : w_64 (A 0) = some (.inl (G.2 0, 8200, .inl (F 0))) := up_ne hw_65 hk_10 (z_ne hk_10 hc_23 (by simp))
                  have hk_67 : w_64 (A 1) = some (.inl (G.2 0, 8200, .inl (F 1))) := up_ne hw_65 hk_11 (z_ne hk_11 hc_23 (by simp))
                  have hk_68 : w_64 (A 2) = some (.inl (G.2 0, 8200, .inl (F 2))) := up_ne hw_65 hk_12 (z_ne hk_12 hc_23 (by simp))
                  have hk_69 : w_64 (A 3) = some (.inl (G.2 0, 8200, .inl (F 3))) := up_ne hw_65 hk_13 (z_ne hk_13 hc_23 (by simp))
                  have hk_70 : w_64 (A 4) = some (.inl (G.2 0, 8200, .inl (F 4))) := up_ne hw_65 hk_14 (z_ne hk_14 hc_23 (by simp))
                  have hk_71 : w_64 (A 5) = some (.inl (G.2 0, 8200, .inl (F 5))) := up_ne hw_65 hk_15 (z_ne hk_15 hc_23 (by simp))
                  have hk_72 : w_64 (A 6) = some (.inl (G.2 0, 8200, .inl (F 6))) := up_ne hw_65 hk_16 (z_ne hk_16 hc_23 (by simp))
                  have hk_73 : w_64 (A 7) = some (.inl (G.2 1, 8200, .inr (.inl M))) := up_ne hw_65 hk_17 (z_ne hk_17 hc_23 (by simp))
                  have hk_74 : w_64 (A 8) = some (.inl (G.2 0, 8200, .inl (F 8))) := up_ne hw_65 hk_18 (z_ne hk_18 hc_23 (by simp))
                  have hk_75 : w_64 (A 9) = some (.inl (G.2 0, 101, .inl B)) := up_ne hw_65 hk_19 (z_ne hk_19 hc_23 (by simp))
                  have hk_76 : w_64 (A 10) = some (.inl (G.2 2, 101, .inl V)) := up_ne hw_65 hk_20 (z_ne hk_20 hc_23 (by simp))
                  have hk_77 : w_64 (A 11) = some (.inl (G.2 0, 16, .inl Z)) := up_ne hw_65 hk_21 (z_ne hk_21 hc_23 (by simp))
                  have hk_78 : w_64 (A 12) = some (.inl (G.2 1, 4, .inr (.inl ((gl F ps (z4 T) n).1)))) := up_ne hw_65 hk_22 (z_ne hk_22 hc_23 (by simp))
                  have hF := hF.put hw_65 (Or.inl (by simp))
                  have hc_79 : w_64 o = some (.inr (6, [.int (S 0), .ref (A 0), .ref (A 1), .ref (A 2), .ref (A 3), .ref (A 4), .ref (A 5), .ref (A 6), .ref (A 7), .ref (A 8), .int (S 1), .ref (A 9), .ref (A 10), .int (S 2), .ref (A 11), .long (((mw F ps i).1) + (wTerm F (ps i))), .long ((((F 2) (ps i)).toInt64) - (shS F (ps i))), .long ((mw F ps i).2.2), .long 0, .ref (A 12), .long ((gl F ps (z4 T) n).2)])) := up_self hw_65
                  refine lv_aload_n hx hb d_R_measureWide_115 rfl (lv_at hl 2 rfl) ?_
                  refine lv_iload_n hx hb d_R_measureWide_116 rfl (lv_at hl 1 rfl) ?_
                  refine iv_R_110 (As := [.int (nI (ps i))]) (rest := []) cx (r_isSolid l G n0 e0 w_64 o A S (vp_updL (vp_updL (mzL (mw F ps i).1 (mw F ps i).2.1 (mw F ps i).2.2 0 (gl F ps (z4 T) n).2) 0 (((mw F ps i).1) + (wTerm F (ps i)))) 1 ((((F 2) (ps i)).toInt64) - (shS F (ps i)))) hc_79 F hk_66 (ps i) (by omega)) hc_79 ⟨(Nat.le_of_ble_eq_true rfl), (Nat.le_of_ble_eq_true rfl)⟩ ⟨(Nat.le_of_ble_eq_true rfl), (Nat.le_of_ble_eq_true rfl)⟩ rfl hl.1 rfl (Nat.le_of_ble_eq_true rfl) d_R_measureWide_117 hZ hS (fun v w_80 H locs hp_81 hZ hS => ?_)
                  obtain ⟨rfl, hq⟩ := hp_81
                  subst w_80
                  refine W.eq (g2 := F0 m 120 ls [.int (zi (!decide (4 < F 0 (ps i))))]) rfl ?_
                  refine lv_if_eq (tgt := 164) hx hb d_R_measureWide_120 (by decide) (fun c120 => ?_) (fun c120 => ?_)
                  · exact absurd c120 c71
                  · refine lv_aload_n hx hb d_R_measureWide_123 rfl (lv_at hl 2 rfl) ?_
                    refine gf_R_19 cx hZ hc_79 rfl d_R_measureWide_124 ?_
                    refine lv_iload_n hx hb d_R_measureWide_127 rfl (lv_at hl 1 rfl) ?_
                    refine ld_i cx hZ hk_69 (vp_in_nI (by omega) (by omega)) d_R_measureWide_128 ?_
                    rw [show ((F 3) (nI (ps i)).toNatClampNeg : Int32) = (F 3) (ps i) from by rw [nI_clamp (by first | omega | (unfold stN; omega))]]
                    refine lc_R_86 cx d_R_measureWide_129 ?_
                    refine lv_icmp_eq (tgt := 164) hx hb d_R_measureWide_131 (by decide) (fun c131 => ?_) (fun c131 => ?_)
                    · refine lv_iload_n hx hb d_R_measureWide_164 rfl (lv_at hl 1 rfl) ?_
                      refine lv_aload_n hx hb d_R_measureWide_165 rfl (lv_at hl 2 rfl) ?_
                      refine gf_R_35 cx hZ hc_79 rfl d_R_measureWide_166 ?_
                      refine lv_iload_n hx hb d_R_measureWide_169 rfl (lv_at hl 1 rfl) ?_
                      refine ld_i cx hZ hk_74 (vp_in_nI (by omega) (by omega)) d_R_measureWide_170 ?_
                      rw [show ((F 8) (nI (ps i)).toNatClampNeg : Int32) = (F 8) (ps i) from by rw [nI_clamp (by first | omega | (unfold stN; omega))]]
                      refine lv_iadd hx hb d_R_measureWide_171 ?_
                      rw [show (((nI (ps i)) + ((F 8) (ps i))) : Int32) = nI (ps (i + 1)) from hps.step (by omega)]
                      refine lv_istore_n (lv' := [(2, .int (nI (ps (i + 1)))), (3, .long (shS F (ps i))), (0, .ref o), (1, .int (nI (ps 0)))]) hx hb d_R_measureWide_172 rfl hl (by decide) rfl (fun ls hl => ?_)
                      refine lv_goto (tgt := 7) hx hb d_R_measureWide_173 (by decide) ?_
                      exact ih (i + 1) _ _ _ _ (by omega) hZ hS hF (by rw [mw_s (upM_d c71 c82 c99) (upM_b c131)]; exact ⟨hc_79, ⟨hk_66, hk_67, hk_68, hk_69, hk_70, hk_71, hk_72, hk_73, hk_74⟩, hk_75, hk_76, hk_77, hk_78⟩) (lv_sub hl [0, 2, 3] rfl)
                    · refine lv_aload_n hx hb d_R_measureWide_134 rfl (lv_at hl 2 rfl) ?_
                      refine gf_R_19 cx hZ hc_79 rfl d_R_measureWide_135 ?_
                      refine lv_iload_n hx hb d_R_measureWide_138 rfl (lv_at hl 1 rfl) ?_
                      refine ld_i cx hZ hk_69 (vp_in_nI (by omega) (by omega)) d_R_measureWide_139 ?_
                      rw [show ((F 3) (nI (ps i)).toNatClampNeg : Int32) = (F 3) (ps i) from by rw [nI_clamp (by first | omega | (unfold stN; omega))]]
                      refine lv_i2l hx hb d_R_measureWide_140 rfl ?_
                      refine lv_lload_n hx hb d_R_measureWide_141 rfl (lv_at hl 0 rfl) ?_
                      refine lv_ladd hx hb d_R_measureWide_142 ?_
                      refine lv_aload_n hx hb d_R_measureWide_143 rfl (lv_at hl 2 rfl) ?_
                      refine gf_R_97 cx hZ hc_79 rfl d_R_measureWide_144 ?_
                      refine W.lcmp hx hb d_R_measureWide_147 ?_
                      refine lv_if_le (tgt := 164) hx hb d_R_measureWide_148 (by decide) (fun c148 => ?_) (fun c148 => ?_)
                      · have c148 := (lg_cmp_le _ _).mp c148
                        refine lv_iload_n hx hb d_R_measureWide_164 rfl (lv_at hl 1 rfl) ?_
                        refine lv_aload_n hx hb d_R_measureWide_165 rfl (lv_at hl 2 rfl) ?_
                        refine gf_R_35 cx hZ hc_79 rfl d_R_measureWide_166 ?_
                        refine lv_iload_n hx hb d_R_measureWide_169 rfl (lv_at hl 1 rfl) ?_
                        refine ld_i cx hZ hk_74 (vp_in_nI (by omega) (by omega)) d_R_measureWide_170 ?_
                        rw [show ((F 8) (nI (ps i)).toNatClampNeg : Int32) = (F 8) (ps i) from by rw [nI_clamp (by first | omega | (unfold stN; omega))]]
                        refine lv_iadd hx hb d_R_measureWide_171 ?_
                        rw [show (((nI (ps i)) + ((F 8) (ps i))) : Int32) = nI (ps (i + 1)) from hps.step (by omega)]
                        refine lv_istore_n (lv' := [(2, .int (nI (ps (i + 1)))), (3, .long (shS F (ps i))), (0, .ref o), (1, .int (nI (ps 0)))]) hx hb d_R_measureWide_172 rfl hl (by decide) rfl (fun ls hl => ?_)
                        refine lv_goto (tgt := 7) hx hb d_R_measureWide_173 (by decide) ?_
                        exact ih (i + 1) _ _ _ _ (by omega) hZ hS hF (by rw [mw_s (upM_d c71 c82 c99) (upM_c c148)]; exact ⟨hc_79, ⟨hk_66, hk_67, hk_68, hk_69, hk_70, hk_71, hk_72, hk_73, hk_74⟩, hk_75, hk_76, hk_77, hk_78⟩) (lv_sub hl [0, 2, 3] rfl)
                      · have c148 := fun q => c148 ((lg_cmp_le _ _).mpr q)
                        refine lv_aload_n hx hb d_R_measureWide_151 rfl (lv_at hl 2 rfl) ?_
                        refine lv_aload_n hx hb d_R_measureWide_152 rfl (lv_at hl 2 rfl) ?_
                        refine gf_R_19 cx hZ hc_79 rfl d_R_measureWide_153 ?_
                        refine lv_iload_n hx hb d_R_measureWide_156 rfl (lv_at hl 1 rfl) ?_
                        refine ld_i cx hZ hk_69 (vp_in_nI (by omega) (by omega)) d_R_measureWide_157 ?_
                        rw [show ((F 3) (nI (ps i)).toNatClampNeg : Int32) = (F 3) (ps i) from by rw [nI_clamp (by first | omega | (unfold stN; omega))]]
                        refine lv_i2l hx hb d_R_measureWide_158 rfl ?_
                        refine lv_lload_n hx hb d_R_measureWide_159 rfl (lv_at hl 0 rfl) ?_
                        refine lv_ladd hx hb d_R_measureWide_160 ?_
                        refine pf_R_97 cx hZ hS hc_79 (Nat.le_of_ble_eq_true rfl) d_R_measureWide_161 (fun w_82 H locs hw_83 hZ hS => ?_)
                        have hk_84 : w_82 (A 0) = some (.inl (G.2 0, 8200, .inl (F 0))) := up_ne hw_83 hk_66 (z_ne hk_66 hc_79 (by simp))
                        have hk_85 : w_82 (A 1) = some (.inl (G.2 0, 8200, .inl (F 1))) := up_ne hw_83 hk_67 (z_ne hk_67 hc_79 (by simp))
                        have hk_86 : w_82 (A 2) = some (.inl (G.2 0, 8200, .inl (F 2))) := up_ne hw_83 hk_68 (z_ne hk_68 hc_79 (by simp))
                        have hk_87 : w_82 (A 3) = some (.inl (G.2 0, 8200, .inl (F 3))) := up_ne hw_83 hk_69 (z_ne hk_69 hc_79 (by simp))
                        have hk_88 : w_82 (A 4) = some (.inl (G.2 0, 8200, .inl (F 4))) := up_ne hw_83 hk_70 (z_ne hk_70 hc_79 (by simp))
                        have hk_89 : w_82 (A 5) = some (.inl (G.2 0, 8200, .inl (F 5))) := up_ne hw_83 hk_71 (z_ne hk_71 hc_79 (by simp))
                        have hk_90 : w_82 (A 6) = some (.inl (G.2 0, 8200, .inl (F 6))) := up_ne hw_83 hk_72 (z_ne hk_72 hc_79 (by simp))
                        have hk_91 : w_82 (A 7) = some (.inl (G.2 1, 8200, .inr (.inl M))) := up_ne hw_83 hk_73 (z_ne hk_73 hc_79 (by simp))
                        have hk_92 : w_82 (A 8) = some (.inl (G.2 0, 8200, .inl (F 8))) := up_ne hw_83 hk_74 (z_ne hk_74 hc_79 (by simp))
                        have hk_93 : w_82 (A 9) = some (.inl (G.2 0, 101, .inl B)) := up_ne hw_83 hk_75 (z_ne hk_75 hc_79 (by simp))
                        have hk_94 : w_82 (A 10) = some (.inl (G.2 2, 101, .inl V)) := up_ne hw_83 hk_76 (z_ne hk_76 hc_79 (by simp))
                        have hk_95 : w_82 (A 11) = some (.inl (G.2 0, 16, .inl Z)) := up_ne hw_83 hk_77 (z_ne hk_77 hc_79 (by simp))
                        have hk_96 : w_82 (A 12) = some (.inl (G.2 1, 4, .inr (.inl ((gl F ps (z4 T) n).1)))) := up_ne hw_83 hk_78 (z_ne hk_78 hc_79 (by simp))
                        have hF := hF.put hw_83 (Or.inl (by simp))
                        have hc_97 : w_82 o = some (.inr (6, [.int (S 0), .ref (A 0), .ref (A 1), .ref (A 2), .ref (A 3), .ref (A 4), .ref (A 5), .ref (A 6), .ref (A 7), .ref (A 8), .int (S 1), .ref (A 9), .ref (A 10), .int (S 2), .ref (A 11), .long (((mw F ps i).1) + (wTerm F (ps i))), .long ((((F 2) (ps i)).toInt64) - (shS F (ps i))), .long ((((F 3) (ps i)).toInt64) + (shS F (ps i))), .long 0, .ref (A 12), .long ((gl F ps (z4 T) n).2)])) := up_self hw_83
                        refine lv_iload_n hx hb d_R_measureWide_164 rfl (lv_at hl 1 rfl) ?_
                        refine lv_aload_n hx hb d_R_measureWide_165 rfl (lv_at hl 2 rfl) ?_
                        refine gf_R_35 cx hZ hc_97 rfl d_R_measureWide_166 ?_
                        refine lv_iload_n hx hb d_R_measureWide_169 rfl (lv_at hl 1 rfl) ?_
                        refine ld_i cx hZ hk_92 (vp_in_nI (by omega) (by omega)) d_R_measureWide_170 ?_
                        rw [show ((F 8) (nI (ps i)).toNatClampNeg : Int32) = (F 8) (ps i) from by rw [nI_clamp (by first | omega | (unfold stN; omega))]]
                        refine lv_iadd hx hb d_R_measureWide_171 ?_
                        rw [show (((nI (ps i)) + ((F 8) (ps i))) : Int32) = nI (ps (i + 1)) from hps.step (by omega)]
                        refine lv_istore_n (lv' := [(2, .int (nI (ps (i + 1)))), (3, .long (shS F (ps i))), (0, .ref o), (1, .int (nI (ps 0)))]) hx hb d_R_measureWide_172 rfl hl (by decide) rfl (fun ls hl => ?_)
                        refine lv_goto (tgt := 7) hx hb d_R_measureWide_173 (by decide) ?_
                        exact ih (i + 1) _ _ _ _ (by omega) hZ hS hF (by rw [mw_s (upM_d c71 c82 c99) (upM_d c120 c131 c148)]; exact ⟨hc_97, ⟨hk_84, hk_85, hk_86, hk_87, hk_88, hk_89, hk_90, hk_91, hk_92⟩, hk_93, hk_94, hk_95, hk_96⟩) (lv_sub hl [0, 2, 3] rfl)
          refine lv_aload_n hx hb d_R_measureWide_46 rfl (lv_at hl 1 rfl) ?_
          refine lv_iload_n hx hb d_R_measureWide_47 rfl (lv_at hl 0 rfl) ?_
          refine iv_R_87 (As := [.int (nI (ps i))]) (rest := []) cx (r_isBox l G n0 e0 w_8 o A S (vp_updL (mzL (mw F ps i).1 (mw F ps i).2.1 (mw F ps i).2.2 0 (gl F ps (z4 T) n).2) 0 (((mw F ps i).1) + (wTerm F (ps i)))) hc_23 F hk_10 (ps i) (by omega)) hc_23 ⟨(Nat.le_of_ble_eq_true rfl), (Nat.le_of_ble_eq_true rfl)⟩ ⟨(Nat.le_of_ble_eq_true rfl), (Nat.le_of_ble_eq_true rfl)⟩ rfl hl.1 rfl (Nat.le_of_ble_eq_true rfl) d_R_measureWide_48 hZ hS (fun v w_98 H locs hp_99 hZ hS => ?_)
          obtain ⟨rfl, hq⟩ := hp_99
          subst w_98
          refine W.eq (g2 := F0 m 51 ls [.int (zi (decide (F 0 (ps i) = 2 ∨ F 0 (ps i) = 3)))]) rfl ?_
          refine lv_if_eq (tgt := 64) hx hb d_R_measureWide_51 (by decide) (fun c51 => ?_) (fun c51 => ?_)
          · refine lv_lconst (v := 0) hx hb d_R_measureWide_64 (by decide) ?_
            exact J_65 _ _ _ hZ hS (by rw [shS, if_neg (dz_f c51)])
          · refine lv_aload_n hx hb d_R_measureWide_54 rfl (lv_at hl 1 rfl) ?_
            refine gf_R_22 cx hZ hc_23 rfl d_R_measureWide_55 ?_
            refine lv_iload_n hx hb d_R_measureWide_58 rfl (lv_at hl 0 rfl) ?_
            refine ld_i cx hZ hk_14 (vp_in_nI (by omega) (by omega)) d_R_measureWide_59 ?_
            rw [show ((F 4) (nI (ps i)).toNatClampNeg : Int32) = (F 4) (ps i) from by rw [nI_clamp (by first | omega | (unfold stN; omega))]]
            refine lv_i2l hx hb d_R_measureWide_60 rfl ?_
            refine lv_goto (tgt := 65) hx hb d_R_measureWide_61 (by decide) ?_
            exact J_65 _ _ _ hZ hS (by rw [shS, if_pos (dz_t c51)])
        refine lv_aload_n hx hb d_R_measureWide_20 rfl (lv_at hl 1 rfl) ?_
        refine gf_R_7 cx hZ ho_7 rfl d_R_measureWide_21 ?_
        refine lv_iload_n hx hb d_R_measureWide_24 rfl (lv_at hl 0 rfl) ?_
        refine ld_i cx hZ h0_7 (vp_in_nI (by omega) (by omega)) d_R_measureWide_25 ?_
        rw [show ((F 0) (nI (ps i)).toNatClampNeg : Int32) = (F 0) (ps i) from by rw [nI_clamp (by first | omega | (unfold stN; omega))]]
        refine lv_bipush (v := 7) hx hb d_R_measureWide_26 (by decide) ?_
        refine lv_icmp_ne (tgt := 35) hx hb d_R_measureWide_28 (by decide) (fun c28 => ?_) (fun c28 => ?_)
        · refine lv_aload_n hx hb d_R_measureWide_35 rfl (lv_at hl 1 rfl) ?_
          refine gf_R_13 cx hZ ho_7 rfl d_R_measureWide_36 ?_
          refine lv_iload_n hx hb d_R_measureWide_39 rfl (lv_at hl 0 rfl) ?_
          refine ld_i cx hZ h1_7 (vp_in_nI (by omega) (by omega)) d_R_measureWide_40 ?_
          rw [show ((F 1) (nI (ps i)).toNatClampNeg : Int32) = (F 1) (ps i) from by rw [nI_clamp (by first | omega | (unfold stN; omega))]]
          refine lv_i2l hx hb d_R_measureWide_41 rfl ?_
          exact J_42 _ _ _ hZ hS (by rw [wTerm, if_neg c28])
        · refine lv_lconst (v := 0) hx hb d_R_measureWide_31 (by decide) ?_
          refine lv_goto (tgt := 42) hx hb d_R_measureWide_32 (by decide) ?_
          exact J_42 _ _ _ hZ hS (by rw [wTerm, if_pos c28])
  exact loop_7 (n) 0 _ _ _ _ (by omega) hZ hS hF ⟨ho_5, ⟨h0_5, h1_5, h2_5, h3_5, h4_5, h5_5, h6_5, h7_5, h8_5⟩, h9_5, h10_5, h11_5, h12_5⟩ (lv_sub hl [0, 1, 2] rfl)
set_option maxHeartbeats 4000000 in
set_option maxRecDepth 100000 in
theorem r_measureHigh (l : Launch) (G : zG) (n0 e0 : Nat) (w : zw) (o : Nat) (A : Nat → Nat) (S : Nat → Int32) (L : Nat → Int64) (F : Nat → Nat → Int32) (M : Nat → Int64) (B V Z : Nat → Int32) (T : Nat → Int64) (hr : RA G w o A S L F M B V Z T) (hA : ∀ i j, i < 13 → j < 13 → i ≠ j → A i ≠ A j) (ps : Nat → Nat) (n : Nat) (hps : SP (F 8) ps n) (hpe : ps n ≤ 8000) (hen : S 2 = nI (ps n)) (hor : ∀ j, j < n → F 0 (ps j) = 5 → vp_in (F 5 (ps j)) 4) (lim : Int32)  : Ct l G n0 e0 y_R_measureHigh b_R_measureHigh 7 (Option.none : Option FieldType) ({ frames := 1, cells := 0, slots := 0, locals := 25 }) [.ref o, .int (nI (ps 0)), .int lim] w (fun v w1 => v = none ∧ RA G w1 o A S (mzL (if (dpL F ps n) ≤ lim.toInt64 then (mh F ps n).1 - (dpL F ps n) else (mh F ps n).1 - (dpL F ps n) + ((dpL F ps n) - lim.toInt64)) 0 (if (dpL F ps n) ≤ lim.toInt64 then (dpL F ps n) else lim.toInt64) (mh F ps n).2 (gl F ps (z4 T) n).2) F M B V Z (gl F ps (z4 T) n).1 ∧ Fr (allR o A) w w1) := by
  refine z_ct (by decide) (Nat.le_of_ble_eq_true rfl) ?_
  intro p e s m below meth c ls cx hnm hZ hS hl
  have hx := cx.1
  have hb := cx.2.1
  have hl : lv_has ls 7 [(0, .ref o), (1, .int (nI (ps 0))), (2, .int lim)] := hl
  obtain ⟨ho, ⟨h0, h1, h2, h3, h4, h5, h6, h7, h8⟩, h9, h10, h11, h12⟩ := id hr
  have hbd : ∀ j, j < n → ps j < 8000 := fun j hj => by have := hps.lt hj; omega
  have hF : Fr [o, (A 0), (A 1), (A 2), (A 3), (A 4), (A 5), (A 6), (A 7), (A 8), (A 9), (A 10), (A 11), (A 12)] w w := Fr.rf
  refine lv_aload_n hx hb d_R_measureHigh_0 rfl (lv_at hl 0 rfl) ?_
  refine lv_iload_n hx hb d_R_measureHigh_1 rfl (lv_at hl 1 rfl) ?_
  refine iv_R_106 (As := [.int (nI (ps 0))]) (rest := []) cx (r_measure l G n0 e0 w o A S L F M B V Z T ⟨ho, ⟨h0, h1, h2, h3, h4, h5, h6, h7, h8⟩, h9, h10, h11, h12⟩ hA ps n hps hpe hen hor) ho ⟨(Nat.le_of_ble_eq_true rfl), (Nat.le_of_ble_eq_true rfl)⟩ ⟨(Nat.le_of_ble_eq_true rfl), (Nat.le_of_ble_eq_true rfl)⟩ rfl hl.1 rfl (Nat.le_of_ble_eq_true rfl) d_R_measureHigh_2 hZ hS (fun v w_1 H locs hp_2 hZ hS => ?_)
  obtain ⟨rfl, hr_3, hf_4⟩ := hp_2
  obtain ⟨ho_5, ⟨h0_5, h1_5, h2_5, h3_5, h4_5, h5_5, h6_5, h7_5, h8_5⟩, h9_5, h10_5, h11_5, h12_5⟩ := id hr_3
  have ho_5 : w_1 o = some (.inr (6, [.int (S 0), .ref (A 0), .ref (A 1), .ref (A 2), .ref (A 3), .ref (A 4), .ref (A 5), .ref (A 6), .ref (A 7), .ref (A 8), .int (S 1), .ref (A 9), .ref (A 10), .int (S 2), .ref (A 11), .long 0, .long 0, .long 0, .long 0, .ref (A 12), .long ((gl F ps (z4 T) n).2)])) := ho_5
  have hF := hF.call hf_4 (fun t ht => Or.inl ht)
  refine W.eq (g2 := F0 m 5 ls []) rfl ?_
  refine lv_iconst (v := -1) hx hb d_R_measureHigh_5 (by decide) ?_
  refine lv_istore_n (lv' := [(3, .int (-1)), (0, .ref o), (1, .int (nI (ps 0))), (2, .int lim)]) hx hb d_R_measureHigh_6 rfl hl (by decide) rfl (fun ls hl => ?_)
  refine lv_iload_n hx hb d_R_measureHigh_7 rfl (lv_at hl 2 rfl) ?_
  refine lv_istore (lv' := [(4, .int (nI (ps 0))), (3, .int (-1)), (0, .ref o), (1, .int (nI (ps 0))), (2, .int lim)]) hx hb d_R_measureHigh_8 hl (by decide) rfl (fun ls hl => ?_)
  have loop_10 : ∀ (j i : Nat) (w2 : zw) (H : Heap) (locs : List Loc) (ls : Array Slot), i + j = n → Zw G.1 vwC (zA n0) w2 H → va_S (zA n0) s.heap H locs → Fr [o, (A 0), (A 1), (A 2), (A 3), (A 4), (A 5), (A 6), (A 7), (A 8), (A 9), (A 10), (A 11), (A 12)] w w2 → RA G w2 o A S (mzL (mh F ps i).1 0 0 (mh F ps i).2 (gl F ps (z4 T) n).2) F M B V Z (gl F ps (z4 T) n).1 → lv_has ls 7 [(4, .int (nI (ps i))), (3, .int (lastI ps i)), (0, .ref o), (1, .int (nI (ps 0))), (2, .int lim)] → W p l e ({ frames := 1, cells := 0, slots := 0, locals := 25 }) s m [.ref o, .int (nI (ps 0)), .int lim].toArray below meth c H locs 0 0 (MQ below (zQ G.1 vwC n0 (fun v w1 => v = none ∧ RA G w1 o A S (mzL (if (dpL F ps n) ≤ lim.toInt64 then (mh F ps n).1 - (dpL F ps n) else (mh F ps n).1 - (dpL F ps n) + ((dpL F ps n) - lim.toInt64)) 0 (if (dpL F ps n) ≤ lim.toInt64 then (dpL F ps n) else lim.toInt64) (mh F ps n).2 (gl F ps (z4 T) n).2) F M B V Z (gl F ps (z4 T) n).1 ∧ Fr (allR o A) w w1)) [.ref o, .int (nI (ps 0)), .int lim].toArray s ({ frames := 1, cells := 0, slots := 0, locals := 25 } : Room).cells ({ frames := 1, cells := 0, slots := 0, locals := 25 } : Room).slots (zA n0)) (F0 m 10 ls []) := by
    intro j
    induction j with
    | zero =>
      intro i w2 H locs ls hik hZ hS hF hr2 hl
      have hin : n = i := by omega
      subst hin
      obtain ⟨ho_6, ⟨h0_6, h1_6, h2_6, h3_6, h4_6, h5_6, h6_6, h7_6, h8_6⟩, h9_6, h10_6, h11_6, h12_6⟩ := id hr2
      have ho_6 : w2 o = some (.inr (6, [.int (S 0), .ref (A 0), .ref (A 1), .ref (A 2), .ref (A 3), .ref (A 4), .ref (A 5), .ref (A 6), .ref (A 7), .ref (A 8), .int (S 1), .ref (A 9), .ref (A 10), .int (S 2), .ref (A 11), .long ((mh F ps n).1), .long 0, .long 0, .long ((mh F ps n).2), .ref (A 12), .long ((gl F ps (z4 T) n).2)])) := ho_6
      refine lv_iload hx hb d_R_measureHigh_10 (lv_at hl 0 rfl) ?_
      refine lv_aload_n hx hb d_R_measureHigh_12 rfl (lv_at hl 2 rfl) ?_
      refine gf_R_61 cx hZ ho_6 rfl d_R_measureHigh_13 ?_
      rw [show ((S 2) : Int32) = nI (ps n) from hen]
      refine lv_icmp_ge (tgt := 177) hx hb d_R_measureHigh_16 (by decide) (fun c16 => ?_) (fun c16 => ?_)
      · refine lv_aload_n hx hb d_R_measureHigh_177 rfl (lv_at hl 2 rfl) ?_
        refine lv_iload_n hx hb d_R_measureHigh_178 rfl (lv_at hl 1 rfl) ?_
        refine lv_if_lt (tgt := 200) hx hb d_R_measureHigh_179 (by decide) (fun c179 => ?_) (fun c179 => ?_)
        · refine lv_lconst (v := 0) hx hb d_R_measureHigh_200 (by decide) ?_
          refine pf_R_97 cx hZ hS ho_6 (Nat.le_of_ble_eq_true rfl) d_R_measureHigh_201 (fun w_7 H locs hw_8 hZ hS => ?_)
          have hk_9 : w_7 (A 0) = some (.inl (G.2 0, 8200, .inl (F 0))) := up_ne hw_8 h0_6 (z_ne h0_6 ho_6 (by simp))
          have hk_10 : w_7 (A 1) = some (.inl (G.2 0, 8200, .inl (F 1))) := up_ne hw_8 h1_6 (z_ne h1_6 ho_6 (by simp))
          have hk_11 : w_7 (A 2) = some (.inl (G.2 0, 8200, .inl (F 2))) := up_ne hw_8 h2_6 (z_ne h2_6 ho_6 (by simp))
          have hk_12 : w_7 (A 3) = some (.inl (G.2 0, 8200, .inl (F 3))) := up_ne hw_8 h3_6 (z_ne h3_6 ho_6 (by simp))
          have hk_13 : w_7 (A 4) = some (.inl (G.2 0, 8200, .inl (F 4))) := up_ne hw_8 h4_6 (z_ne h4_6 ho_6 (by simp))
          have hk_14 : w_7 (A 5) = some (.inl (G.2 0, 8200, .inl (F 5))) := up_ne hw_8 h5_6 (z_ne h5_6 ho_6 (by simp))
          have hk_15 : w_7 (A 6) = some (.inl (G.2 0, 8200, .inl (F 6))) := up_ne hw_8 h6_6 (z_ne h6_6 ho_6 (by simp))
          have hk_16 : w_7 (A 7) = some (.inl (G.2 1, 8200, .inr (.inl M))) := up_ne hw_8 h7_6 (z_ne h7_6 ho_6 (by simp))
          have hk_17 : w_7 (A 8) = some (.inl (G.2 0, 8200, .inl (F 8))) := up_ne hw_8 h8_6 (z_ne h8_6 ho_6 (by simp))
          have hk_18 : w_7 (A 9) = some (.inl (G.2 0, 101, .inl B)) := up_ne hw_8 h9_6 (z_ne h9_6 ho_6 (by simp))
          have hk_19 : w_7 (A 10) = some (.inl (G.2 2, 101, .inl V)) := up_ne hw_8 h10_6 (z_ne h10_6 ho_6 (by simp))
          have hk_20 : w_7 (A 11) = some (.inl (G.2 0, 16, .inl Z)) := up_ne hw_8 h11_6 (z_ne h11_6 ho_6 (by simp))
          have hk_21 : w_7 (A 12) = some (.inl (G.2 1, 4, .inr (.inl ((gl F ps (z4 T) n).1)))) := up_ne hw_8 h12_6 (z_ne h12_6 ho_6 (by simp))
          have hF := hF.put hw_8 (Or.inl (by simp))
          have hc_22 : w_7 o = some (.inr (6, [.int (S 0), .ref (A 0), .ref (A 1), .ref (A 2), .ref (A 3), .ref (A 4), .ref (A 5), .ref (A 6), .ref (A 7), .ref (A 8), .int (S 1), .ref (A 9), .ref (A 10), .int (S 2), .ref (A 11), .long ((mh F ps n).1), .long 0, .long 0, .long ((mh F ps n).2), .ref (A 12), .long ((gl F ps (z4 T) n).2)])) := up_self hw_8
          refine lv_aload_n hx hb d_R_measureHigh_204 rfl (lv_at hl 2 rfl) ?_
          refine lv_dup hx hb d_R_measureHigh_205 rfl ?_
          refine gf_R_90 cx hZ hc_22 rfl d_R_measureHigh_206 ?_
          refine lv_aload_n hx hb d_R_measureHigh_209 rfl (lv_at hl 2 rfl) ?_
          refine gf_R_97 cx hZ hc_22 rfl d_R_measureHigh_210 ?_
          refine lv_lsub hx hb d_R_measureHigh_213 ?_
          refine pf_R_90 cx hZ hS hc_22 (Nat.le_of_ble_eq_true rfl) d_R_measureHigh_214 (fun w_23 H locs hw_24 hZ hS => ?_)
          have hk_25 : w_23 (A 0) = some (.inl (G.2 0, 8200, .inl (F 0))) := up_ne hw_24 hk_9 (z_ne hk_9 hc_22 (by simp))
          have hk_26 : w_23 (A 1) = some (.inl (G.2 0, 8200, .inl (F 1))) := up_ne hw_24 hk_10 (z_ne hk_10 hc_22 (by simp))
          have hk_27 : w_23 (A 2) = some (.inl (G.2 0, 8200, .inl (F 2))) := up_ne hw_24 hk_11 (z_ne hk_11 hc_22 (by simp))
          have hk_28 : w_23 (A 3) = some (.inl (G.2 0, 8200, .inl (F 3))) := up_ne hw_24 hk_12 (z_ne hk_12 hc_22 (by simp))
          have hk_29 : w_23 (A 4) = some (.inl (G.2 0, 8200, .inl (F 4))) := up_ne hw_24 hk_13 (z_ne hk_13 hc_22 (by simp))
          have hk_30 : w_23 (A 5) = some (.inl (G.2 0, 8200, .inl (F 5))) := up_ne hw_24 hk_14 (z_ne hk_14 hc_22 (by simp))
          have hk_31 : w_23 (A 6) = some (.inl (G.2 0, 8200, .inl (F 6))) := up_ne hw_24 hk_15 (z_ne hk_15 hc_22 (by simp))
          have hk_32 : w_23 (A 7) = some (.inl (G.2 1, 8200, .inr (.inl M))) := up_ne hw_24 hk_16 (z_ne hk_16 hc_22 (by simp))
          have hk_33 : w_23 (A 8) = some (.inl (G.2 0, 8200, .inl (F 8))) := up_ne hw_24 hk_17 (z_ne hk_17 hc_22 (by simp))
          have hk_34 : w_23 (A 9) = some (.inl (G.2 0, 101, .inl B)) := up_ne hw_24 hk_18 (z_ne hk_18 hc_22 (by simp))
          have hk_35 : w_23 (A 10) = some (.inl (G.2 2, 101, .inl V)) := up_ne hw_24 hk_19 (z_ne hk_19 hc_22 (by simp))
          have hk_36 : w_23 (A 11) = some (.inl (G.2 0, 16, .inl Z)) := up_ne hw_24 hk_20 (z_ne hk_20 hc_22 (by simp))
          have hk_37 : w_23 (A 12) = some (.inl (G.2 1, 4, .inr (.inl ((gl F ps (z4 T) n).1)))) := up_ne hw_24 hk_21 (z_ne hk_21 hc_22 (by simp))
          have hF := hF.put hw_24 (Or.inl (by simp))
          have hc_38 : w_23 o = some (.inr (6, [.int (S 0), .ref (A 0), .ref (A 1), .ref (A 2), .ref (A 3), .ref (A 4), .ref (A 5), .ref (A 6), .ref (A 7), .ref (A 8), .int (S 1), .ref (A 9), .ref (A 10), .int (S 2), .ref (A 11), .long (((mh F ps n).1) - 0), .long 0, .long 0, .long ((mh F ps n).2), .ref (A 12), .long ((gl F ps (z4 T) n).2)])) := up_self hw_24
          refine lv_aload_n hx hb d_R_measureHigh_217 rfl (lv_at hl 2 rfl) ?_
          refine gf_R_97 cx hZ hc_38 rfl d_R_measureHigh_218 ?_
          refine lv_iload_n hx hb d_R_measureHigh_221 rfl (lv_at hl 4 rfl) ?_
          refine lv_i2l hx hb d_R_measureHigh_222 rfl ?_
          refine W.lcmp hx hb d_R_measureHigh_223 ?_
          refine lv_if_le (tgt := 249) hx hb d_R_measureHigh_224 (by decide) (fun c224 => ?_) (fun c224 => ?_)
          · have c224 := (lg_cmp_le _ _).mp c224
            exact z_vret cx.1 cx.2.1 cx.rt cx.lk hS hZ ⟨(Nat.le_of_ble_eq_true rfl), (Nat.le_of_ble_eq_true rfl)⟩ d_R_measureHigh_249 (⟨rfl, (by rw [show dpL F ps n = 0 from lastI_neg hbd c179, if_pos c224, if_pos c224]; exact ⟨hc_38, ⟨hk_25, hk_26, hk_27, hk_28, hk_29, hk_30, hk_31, hk_32, hk_33⟩, hk_34, hk_35, hk_36, hk_37⟩), hF⟩)
          · have c224 := fun q => c224 ((lg_cmp_le _ _).mpr q)
            refine lv_aload_n hx hb d_R_measureHigh_227 rfl (lv_at hl 2 rfl) ?_
            refine lv_dup hx hb d_R_measureHigh_228 rfl ?_
            refine gf_R_90 cx hZ hc_38 rfl d_R_measureHigh_229 ?_
            refine lv_aload_n hx hb d_R_measureHigh_232 rfl (lv_at hl 2 rfl) ?_
            refine gf_R_97 cx hZ hc_38 rfl d_R_measureHigh_233 ?_
            refine lv_iload_n hx hb d_R_measureHigh_236 rfl (lv_at hl 4 rfl) ?_
            refine lv_i2l hx hb d_R_measureHigh_237 rfl ?_
            refine lv_lsub hx hb d_R_measureHigh_238 ?_
            refine lv_ladd hx hb d_R_measureHigh_239 ?_
            refine pf_R_90 cx hZ hS hc_38 (Nat.le_of_ble_eq_true rfl) d_R_measureHigh_240 (fun w_39 H locs hw_40 hZ hS => ?_)
            have hk_41 : w_39 (A 0) = some (.inl (G.2 0, 8200, .inl (F 0))) := up_ne hw_40 hk_25 (z_ne hk_25 hc_38 (by simp))
            have hk_42 : w_39 (A 1) = some (.inl (G.2 0, 8200, .inl (F 1))) := up_ne hw_40 hk_26 (z_ne hk_26 hc_38 (by simp))
            have hk_43 : w_39 (A 2) = some (.inl (G.2 0, 8200, .inl (F 2))) := up_ne hw_40 hk_27 (z_ne hk_27 hc_38 (by simp))
            have hk_44 : w_39 (A 3) = some (.inl (G.2 0, 8200, .inl (F 3))) := up_ne hw_40 hk_28 (z_ne hk_28 hc_38 (by simp))
            have hk_45 : w_39 (A 4) = some (.inl (G.2 0, 8200, .inl (F 4))) := up_ne hw_40 hk_29 (z_ne hk_29 hc_38 (by simp))
            have hk_46 : w_39 (A 5) = some (.inl (G.2 0, 8200, .inl (F 5))) := up_ne hw_40 hk_30 (z_ne hk_30 hc_38 (by simp))
            have hk_47 : w_39 (A 6) = some (.inl (G.2 0, 8200, .inl (F 6))) := up_ne hw_40 hk_31 (z_ne hk_31 hc_38 (by simp))
            have hk_48 : w_39 (A 7) = some (.inl (G.2 1, 8200, .inr (.inl M))) := up_ne hw_40 hk_32 (z_ne hk_32 hc_38 (by simp))
            have hk_49 : w_39 (A 8) = some (.inl (G.2 0, 8200, .inl (F 8))) := up_ne hw_40 hk_33 (z_ne hk_33 hc_38 (by simp))
            have hk_50 : w_39 (A 9) = some (.inl (G.2 0, 101, .inl B)) := up_ne hw_40 hk_34 (z_ne hk_34 hc_38 (by simp))
            have hk_51 : w_39 (A 10) = some (.inl (G.2 2, 101, .inl V)) := up_ne hw_40 hk_35 (z_ne hk_35 hc_38 (by simp))
            have hk_52 : w_39 (A 11) = some (.inl (G.2 0, 16, .inl Z)) := up_ne hw_40 hk_36 (z_ne hk_36 hc_38 (by simp))
            have hk_53 : w_39 (A 12) = some (.inl (G.2 1, 4, .inr (.inl ((gl F ps (z4 T) n).1)))) := up_ne hw_40 hk_37 (z_ne hk_37 hc_38 (by simp))
            have hF := hF.put hw_40 (Or.inl (by simp))
            have hc_54 : w_39 o = some (.inr (6, [.int (S 0), .ref (A 0), .ref (A 1), .ref (A 2), .ref (A 3), .ref (A 4), .ref (A 5), .ref (A 6), .ref (A 7), .ref (A 8), .int (S 1), .ref (A 9), .ref (A 10), .int (S 2), .ref (A 11), .long ((((mh F ps n).1) - 0) + (0 - lim.toInt64)), .long 0, .long 0, .long ((mh F ps n).2), .ref (A 12), .long ((gl F ps (z4 T) n).2)])) := up_self hw_40
            refine lv_aload_n hx hb d_R_measureHigh_243 rfl (lv_at hl 2 rfl) ?_
            refine lv_iload_n hx hb d_R_measureHigh_244 rfl (lv_at hl 4 rfl) ?_
            refine lv_i2l hx hb d_R_measureHigh_245 rfl ?_
            refine pf_R_97 cx hZ hS hc_54 (Nat.le_of_ble_eq_true rfl) d_R_measureHigh_246 (fun w_55 H locs hw_56 hZ hS => ?_)
            have hk_57 : w_55 (A 0) = some (.inl (G.2 0, 8200, .inl (F 0))) := up_ne hw_56 hk_41 (z_ne hk_41 hc_54 (by simp))
            have hk_58 : w_55 (A 1) = some (.inl (G.2 0, 8200, .inl (F 1))) := up_ne hw_56 hk_42 (z_ne hk_42 hc_54 (by simp))
            have hk_59 : w_55 (A 2) = some (.inl (G.2 0, 8200, .inl (F 2))) := up_ne hw_56 hk_43 (z_ne hk_43 hc_54 (by simp))
            have hk_60 : w_55 (A 3) = some (.inl (G.2 0, 8200, .inl (F 3))) := up_ne hw_56 hk_44 (z_ne hk_44 hc_54 (by simp))
            have hk_61 : w_55 (A 4) = some (.inl (G.2 0, 8200, .inl (F 4))) := up_ne hw_56 hk_45 (z_ne hk_45 hc_54 (by simp))
            have hk_62 : w_55 (A 5) = some (.inl (G.2 0, 8200, .inl (F 5))) := up_ne hw_56 hk_46 (z_ne hk_46 hc_54 (by simp))
            have hk_63 : w_55 (A 6) = some (.inl (G.2 0, 8200, .inl (F 6))) := up_ne hw_56 hk_47 (z_ne hk_47 hc_54 (by simp))
            have hk_64 : w_55 (A 7) = some (.inl (G.2 1, 8200, .inr (.inl M))) := up_ne hw_56 hk_48 (z_ne hk_48 hc_54 (by simp))
            have hk_65 : w_55 (A 8) = some (.inl (G.2 0, 8200, .inl (F 8))) := up_ne hw_56 hk_49 (z_ne hk_49 hc_54 (by simp))
            have hk_66 : w_55 (A 9) = some (.inl (G.2 0, 101, .inl B)) := up_ne hw_56 hk_50 (z_ne hk_50 hc_54 (by simp))
            have hk_67 : w_55 (A 10) = some (.inl (G.2 2, 101, .inl V)) := up_ne hw_56 hk_51 (z_ne hk_51 hc_54 (by simp))
            have hk_68 : w_55 (A 11) = some (.inl (G.2 0, 16, .inl Z)) := up_ne hw_56 hk_52 (z_ne hk_52 hc_54 (by simp))
            have hk_69 : w_55 (A 12) = some (.inl (G.2 1, 4, .inr (.inl ((gl F ps (z4 T) n).1)))) := up_ne hw_56 hk_53 (z_ne hk_53 hc_54 (by simp))
            have hF := hF.put hw_56 (Or.inl (by simp))
            have hc_70 : w_55 o = some (.inr (6, [.int (S 0), .ref (A 0), .ref (A 1), .ref (A 2), .ref (A 3), .ref (A 4), .ref (A 5), .ref (A 6), .ref (A 7), .ref (A 8), .int (S 1), .ref (A 9), .ref (A 10), .int (S 2), .ref (A 11), .long ((((mh F ps n).1) - 0) + (0 - lim.toInt64)), .long 0, .long lim.toInt64, .long ((mh F ps n).2), .ref (A 12), .long ((gl F ps (z4 T) n).2)])) := up_self hw_56
            exact z_vret cx.1 cx.2.1 cx.rt cx.lk hS hZ ⟨(Nat.le_of_ble_eq_true rfl), (Nat.le_of_ble_eq_true rfl)⟩ d_R_measureHigh_249 (⟨rfl, (by rw [show dpL F ps n = 0 from lastI_neg hbd c179, if_neg c224, if_neg c224]; exact ⟨hc_70, ⟨hk_57, hk_58, hk_59, hk_60, hk_61, hk_62, hk_63, hk_64, hk_65⟩, hk_66, hk_67, hk_68, hk_69⟩), hF⟩)
        · obtain ⟨mm, em, el⟩ := lastI_of c179
          have hpm : ps mm < 8000 := by have := hps.lt (show mm < n by omega); omega
          rw [el] at hl
          refine lv_aload_n hx hb d_R_measureHigh_182 rfl (lv_at hl 2 rfl) ?_
          refine lv_iload_n hx hb d_R_measureHigh_183 rfl (lv_at hl 1 rfl) ?_
          refine iv_R_110 (As := [.int (nI (ps mm))]) (rest := [.ref o]) cx (r_isSolid l G n0 e0 w2 o A S (mzL (mh F ps n).1 0 0 (mh F ps n).2 (gl F ps (z4 T) n).2) ho_6 F h0_6 (ps mm) (by omega)) ho_6 ⟨(Nat.le_of_ble_eq_true rfl), (Nat.le_of_ble_eq_true rfl)⟩ ⟨(Nat.le_of_ble_eq_true rfl), (Nat.le_of_ble_eq_true rfl)⟩ rfl hl.1 rfl (Nat.le_of_ble_eq_true rfl) d_R_measureHigh_184 hZ hS (fun v w_71 H locs hp_72 hZ hS => ?_)
          obtain ⟨rfl, hq⟩ := hp_72
          subst w_71
          refine W.eq (g2 := F0 m 187 ls [.int (zi (!decide (4 < F 0 (ps mm)))), .ref o]) rfl ?_
          refine lv_if_eq (tgt := 200) hx hb d_R_measureHigh_187 (by decide) (fun c187 => ?_) (fun c187 => ?_)
          · refine lv_lconst (v := 0) hx hb d_R_measureHigh_200 (by decide) ?_
            refine pf_R_97 cx hZ hS ho_6 (Nat.le_of_ble_eq_true rfl) d_R_measureHigh_201 (fun w_73 H locs hw_74 hZ hS => ?_)
            have hk_75 : w_73 (A 0) = some (.inl (G.2 0, 8200, .inl (F 0))) := up_ne hw_74 h0_6 (z_ne h0_6 ho_6 (by simp))
            have hk_76 : w_73 (A 1) = some (.inl (G.2 0, 8200, .inl (F 1))) := up_ne hw_74 h1_6 (z_ne h1_6 ho_6 (by simp))
            have hk_77 : w_73 (A 2) = some (.inl (G.2 0, 8200, .inl (F 2))) := up_ne hw_74 h2_6 (z_ne h2_6 ho_6 (by simp))
            have hk_78 : w_73 (A 3) = some (.inl (G.2 0, 8200, .inl (F 3))) := up_ne hw_74 h3_6 (z_ne h3_6 ho_6 (by simp))
            have hk_79 : w_73 (A 4) = some (.inl (G.2 0, 8200, .inl (F 4))) := up_ne hw_74 h4_6 (z_ne h4_6 ho_6 (by simp))
            have hk_80 : w_73 (A 5) = some (.inl (G.2 0, 8200, .inl (F 5))) := up_ne hw_74 h5_6 (z_ne h5_6 ho_6 (by simp))
            have hk_81 : w_73 (A 6) = some (.inl (G.2 0, 8200, .inl (F 6))) := up_ne hw_74 h6_6 (z_ne h6_6 ho_6 (by simp))
            have hk_82 : w_73 (A 7) = some (.inl (G.2 1, 8200, .inr (.inl M))) := up_ne hw_74 h7_6 (z_ne h7_6 ho_6 (by simp))
            have hk_83 : w_73 (A 8) = some (.inl (G.2 0, 8200, .inl (F 8))) := up_ne hw_74 h8_6 (z_ne h8_6 ho_6 (by simp))
            have hk_84 : w_73 (A 9) = some (.inl (G.2 0, 101, .inl B)) := up_ne hw_74 h9_6 (z_ne h9_6 ho_6 (by simp))
            have hk_85 : w_73 (A 10) = some (.inl (G.2 2, 101, .inl V)) := up_ne hw_74 h10_6 (z_ne h10_6 ho_6 (by simp))
            have hk_86 : w_73 (A 11) = some (.inl (G.2 0, 16, .inl Z)) := up_ne hw_74 h11_6 (z_ne h11_6 ho_6 (by simp))
            have hk_87 : w_73 (A 12) = some (.inl (G.2 1, 4, .inr (.inl ((gl F ps (z4 T) n).1)))) := up_ne hw_74 h12_6 (z_ne h12_6 ho_6 (by simp))
            have hF := hF.put hw_74 (Or.inl (by simp))
            have hc_88 : w_73 o = some (.inr (6, [.int (S 0), .ref (A 0), .ref (A 1), .ref (A 2), .ref (A 3), .ref (A 4), .ref (A 5), .ref (A 6), .ref (A 7), .ref (A 8), .int (S 1), .ref (A 9), .ref (A 10), .int (S 2), .ref (A 11), .long ((mh F ps n).1), .long 0, .long 0, .long ((mh F ps n).2), .ref (A 12), .long ((gl F ps (z4 T) n).2)])) := up_self hw_74
            refine lv_aload_n hx hb d_R_measureHigh_204 rfl (lv_at hl 2 rfl) ?_
            refine lv_dup hx hb d_R_measureHigh_205 rfl ?_
            refine gf_R_90 cx hZ hc_88 rfl d_R_measureHigh_206 ?_
            refine lv_aload_n hx hb d_R_measureHigh_209 rfl (lv_at hl 2 rfl) ?_
            refine gf_R_97 cx hZ hc_88 rfl d_R_measureHigh_210 ?_
            refine lv_lsub hx hb d_R_measureHigh_213 ?_
            refine pf_R_90 cx hZ hS hc_88 (Nat.le_of_ble_eq_true rfl) d_R_measureHigh_214 (fun w_89 H locs hw_90 hZ hS => ?_)
            have hk_91 : w_89 (A 0) = some (.inl (G.2 0, 8200, .inl (F 0))) := up_ne hw_90 hk_75 (z_ne hk_75 hc_88 (by simp))
            have hk_92 : w_89 (A 1) = some (.inl (G.2 0, 8200, .inl (F 1))) := up_ne hw_90 hk_76 (z_ne hk_76 hc_88 (by simp))
            have hk_93 : w_89 (A 2) = some (.inl (G.2 0, 8200, .inl (F 2))) := up_ne hw_90 hk_77 (z_ne hk_77 hc_88 (by simp))
            have hk_94 : w_89 (A 3) = some (.inl (G.2 0, 8200, .inl (F 3))) := up_ne hw_90 hk_78 (z_ne hk_78 hc_88 (by simp))
            have hk_95 : w_89 (A 4) = some (.inl (G.2 0, 8200, .inl (F 4))) := up_ne hw_90 hk_79 (z_ne hk_79 hc_88 (by simp))
            have hk_96 : w_89 (A 5) = some (.inl (G.2 0, 8200, .inl (F 5))) := up_ne hw_90 hk_80 (z_ne hk_80 hc_88 (by simp))
            have hk_97 : w_89 (A 6) = some (.inl (G.2 0, 8200, .inl (F 6))) := up_ne hw_90 hk_81 (z_ne hk_81 hc_88 (by simp))
            have hk_98 : w_89 (A 7) = some (.inl (G.2 1, 8200, .inr (.inl M))) := up_ne hw_90 hk_82 (z_ne hk_82 hc_88 (by simp))
            have hk_99 : w_89 (A 8) = some (.inl (G.2 0, 8200, .inl (F 8))) := up_ne hw_90 hk_83 (z_ne hk_83 hc_88 (by simp))
            have hk_100 : w_89 (A 9) = some (.inl (G.2 0, 101, .inl B)) := up_ne hw_90 hk_84 (z_ne hk_84 hc_88 (by simp))
            have hk_101 : w_89 (A 10) = some (.inl (G.2 2, 101, .inl V)) := up_ne hw_90 hk_85 (z_ne hk_85 hc_88 (by simp))
            have hk_102 : w_89 (A 11) = some (.inl (G.2 0, 16, .inl Z)) := up_ne hw_90 hk_86 (z_ne hk_86 hc_88 (by simp))
            have hk_103 : w_89 (A 12) = some (.inl (G.2 1, 4, .inr (.inl ((gl F ps (z4 T) n).1)))) := up_ne hw_90 hk_87 (z_ne hk_87 hc_88 (by simp))
            have hF := hF.put hw_90 (Or.inl (by simp))
            have hc_104 : w_89 o = some (.inr (6, [.int (S 0), .ref (A 0), .ref (A 1), .ref (A 2), .ref (A 3), .ref (A 4), .ref (A 5), .ref (A 6), .ref (A 7), .ref (A 8), .int (S 1), .ref (A 9), .ref (A 10), .int (S 2), .ref (A 11), .long (((mh F ps n).1) - 0), .long 0, .long 0, .long ((mh F ps n).2), .ref (A 12), .long ((gl F ps (z4 T) n).2)])) := up_self hw_90
            refine lv_aload_n hx hb d_R_measureHigh_217 rfl (lv_at hl 2 rfl) ?_
            refine gf_R_97 cx hZ hc_104 rfl d_R_measureHigh_218 ?_
            refine lv_iload_n hx hb d_R_measureHigh_221 rfl (lv_at hl 4 rfl) ?_
            refine lv_i2l hx hb d_R_measureHigh_222 rfl ?_
            refine W.lcmp hx hb d_R_measureHigh_223 ?_
            refine lv_if_le (tgt := 249) hx hb d_R_measureHigh_224 (by decide) (fun c224 => ?_) (fun c224 => ?_)
            · have c224 := (lg_cmp_le _ _).mp c224
              exact z_vret cx.1 cx.2.1 cx.rt cx.lk hS hZ ⟨(Nat.le_of_ble_eq_true rfl), (Nat.le_of_ble_eq_true rfl)⟩ d_R_measureHigh_249 (⟨rfl, (by rw [show dpL F ps n = 0 from by rw [em, dpL, if_pos (sol_t c187)], if_pos c224, if_pos c224]; exact ⟨hc_104, ⟨hk_91, hk_92, hk_93, hk_94, hk_95, hk_96, hk_97, hk_98, hk_99⟩, hk_100, hk_101, hk_102, hk_103⟩), hF⟩)
            · have c224 := fun q => c224 ((lg_cmp_le _ _).mpr q)
              refine lv_aload_n hx hb d_R_measureHigh_227 rfl (lv_at hl 2 rfl) ?_
              refine lv_dup hx hb d_R_measureHigh_228 rfl ?_
              refine gf_R_90 cx hZ hc_104 rfl d_R_measureHigh_229 ?_
              refine lv_aload_n hx hb d_R_measureHigh_232 rfl (lv_at hl 2 rfl) ?_
              refine gf_R_97 cx hZ hc_104 rfl d_R_measureHigh_233 ?_
              refine lv_iload_n hx hb d_R_measureHigh_236 rfl (lv_at hl 4 rfl) ?_
              refine lv_i2l hx hb d_R_measureHigh_237 rfl ?_
              refine lv_lsub hx hb d_R_measureHigh_238 ?_
              refine lv_ladd hx hb d_R_measureHigh_239 ?_
              refine pf_R_90 cx hZ hS hc_104 (Nat.le_of_ble_eq_true rfl) d_R_measureHigh_240 (fun w_105 H locs hw_106 hZ hS => ?_)
              have hk_107 : w_105 (A 0) = some (.inl (G.2 0, 8200, .inl (F 0))) := up_ne hw_106 hk_91 (z_ne hk_91 hc_104 (by simp))
              have hk_108 : w_105 (A 1) = some (.inl (G.2 0, 8200, .inl (F 1))) := up_ne hw_106 hk_92 (z_ne hk_92 hc_104 (by simp))
              have hk_109 : w_105 (A 2) = some (.inl (G.2 0, 8200, .inl (F 2))) := up_ne hw_106 hk_93 (z_ne hk_93 hc_104 (by simp))
              have hk_110 : w_105 (A 3) = some (.inl (G.2 0, 8200, .inl (F 3))) := up_ne hw_106 hk_94 (z_ne hk_94 hc_104 (by simp))
              have hk_111 : w_105 (A 4) = some (.inl (G.2 0, 8200, .inl (F 4))) := up_ne hw_106 hk_95 (z_ne hk_95 hc_104 (by simp))
              have hk_112 : w_105 (A 5) = some (.inl (G.2 0, 8200, .inl (F 5))) := up_ne hw_106 hk_96 (z_ne hk_96 hc_104 (by simp))
              have hk_113 : w_105 (A 6) = some (.inl (G.2 0, 8200, .inl (F 6))) := up_ne hw_106 hk_97 (z_ne hk_97 hc_104 (by simp))
              have hk_114 : w_105 (A 7) = some (.inl (G.2 1, 8200, .inr (.inl M))) := up_ne hw_106 hk_98 (z_ne hk_98 hc_104 (by simp))
              have hk_115 : w_105 (A 8) = some (.inl (G.2 0, 8200, .inl (F 8))) := up_ne hw_106 hk_99 (z_ne hk_99 hc_104 (by simp))
              have hk_116 : w_105 (A 9) = some (.inl (G.2 0, 101, .inl B)) := up_ne hw_106 hk_100 (z_ne hk_100 hc_104 (by simp))
              have hk_117 : w_105 (A 10) = some (.inl (G.2 2, 101, .inl V)) := up_ne hw_106 hk_101 (z_ne hk_101 hc_104 (by simp))
              have hk_118 : w_105 (A 11) = some (.inl (G.2 0, 16, .inl Z)) := up_ne hw_106 hk_102 (z_ne hk_102 hc_104 (by simp))
              have hk_119 : w_105 (A 12) = some (.inl (G.2 1, 4, .inr (.inl ((gl F ps (z4 T) n).1)))) := up_ne hw_106 hk_103 (z_ne hk_103 hc_104 (by simp))
              have hF := hF.put hw_106 (Or.inl (by simp))
              have hc_120 : w_105 o = some (.inr (6, [.int (S 0), .ref (A 0), .ref (A 1), .ref (A 2), .ref (A 3), .ref (A 4), .ref (A 5), .ref (A 6), .ref (A 7), .ref (A 8), .int (S 1), .ref (A 9), .ref (A 10), .int (S 2), .ref (A 11), .long ((((mh F ps n).1) - 0) + (0 - lim.toInt64)), .long 0, .long 0, .long ((mh F ps n).2), .ref (A 12), .long ((gl F ps (z4 T) n).2)])) := up_self hw_106
              refine lv_aload_n hx hb d_R_measureHigh_243 rfl (lv_at hl 2 rfl) ?_
              refine lv_iload_n hx hb d_R_measureHigh_244 rfl (lv_at hl 4 rfl) ?_
              refine lv_i2l hx hb d_R_measureHigh_245 rfl ?_
              refine pf_R_97 cx hZ hS hc_120 (Nat.le_of_ble_eq_true rfl) d_R_measureHigh_246 (fun w_121 H locs hw_122 hZ hS => ?_)
              have hk_123 : w_121 (A 0) = some (.inl (G.2 0, 8200, .inl (F 0))) := up_ne hw_122 hk_107 (z_ne hk_107 hc_120 (by simp))
              have hk_124 : w_121 (A 1) = some (.inl (G.2 0, 8200, .inl (F 1))) := up_ne hw_122 hk_108 (z_ne hk_108 hc_120 (by simp))
              have hk_125 : w_121 (A 2) = some (.inl (G.2 0, 8200, .inl (F 2))) := up_ne hw_122 hk_109 (z_ne hk_109 hc_120 (by simp))
              have hk_126 : w_121 (A 3) = some (.inl (G.2 0, 8200, .inl (F 3))) := up_ne hw_122 hk_110 (z_ne hk_110 hc_120 (by simp))
              have hk_127 : w_121 (A 4) = some (.inl (G.2 0, 8200, .inl (F 4))) := up_ne hw_122 hk_111 (z_ne hk_111 hc_120 (by simp))
              have hk_128 : w_121 (A 5) = some (.inl (G.2 0, 8200, .inl (F 5))) := up_ne hw_122 hk_112 (z_ne hk_112 hc_120 (by simp))
              have hk_129 : w_121 (A 6) = some (.inl (G.2 0, 8200, .inl (F 6))) := up_ne hw_122 hk_113 (z_ne hk_113 hc_120 (by simp))
              have hk_130 : w_121 (A 7) = some (.inl (G.2 1, 8200, .inr (.inl M))) := up_ne hw_122 hk_114 (z_ne hk_114 hc_120 (by simp))
              have hk_131 : w_121 (A 8) = some (.inl (G.2 0, 8200, .inl (F 8))) := up_ne hw_122 hk_115 (z_ne hk_115 hc_120 (by simp))
              have hk_132 : w_121 (A 9) = some (.inl (G.2 0, 101, .inl B)) := up_ne hw_122 hk_116 (z_ne hk_116 hc_120 (by simp))
              have hk_133 : w_121 (A 10) = some (.inl (G.2 2, 101, .inl V)) := up_ne hw_122 hk_117 (z_ne hk_117 hc_120 (by simp))
              have hk_134 : w_121 (A 11) = some (.inl (G.2 0, 16, .inl Z)) := up_ne hw_122 hk_118 (z_ne hk_118 hc_120 (by simp))
              have hk_135 : w_121 (A 12) = some (.inl (G.2 1, 4, .inr (.inl ((gl F ps (z4 T) n).1)))) := up_ne hw_122 hk_119 (z_ne hk_119 hc_120 (by simp))
              have hF := hF.put hw_122 (Or.inl (by simp))
              have hc_136 : w_121 o = some (.inr (6, [.int (S 0), .ref (A 0), .ref (A 1), .ref (A 2), .ref (A 3), .ref (A 4), .ref (A 5), .ref (A 6), .ref (A 7), .ref (A 8), .int (S 1), .ref (A 9), .ref (A 10), .int (S 2), .ref (A 11), .long ((((mh F ps n).1) - 0) + (0 - lim.toInt64)), .long 0, .long lim.toInt64, .long ((mh F ps n).2), .ref (A 12), .long ((gl F ps (z4 T) n).2)])) := up_self hw_122
              exact z_vret cx.1 cx.2.1 cx.rt cx.lk hS hZ ⟨(Nat.le_of_ble_eq_true rfl), (Nat.le_of_ble_eq_true rfl)⟩ d_R_measureHigh_249 (⟨rfl, (by rw [show dpL F ps n = 0 from by rw [em, dpL, if_pos (sol_t c187)], if_neg c224, if_neg c224]; exact ⟨hc_136, ⟨hk_123, hk_124, hk_125, hk_126, hk_127, hk_128, hk_129, hk_130, hk_131⟩, hk_132, hk_133, hk_134, hk_135⟩), hF⟩)
          · refine lv_aload_n hx hb d_R_measureHigh_190 rfl (lv_at hl 2 rfl) ?_
            refine gf_R_19 cx hZ ho_6 rfl d_R_measureHigh_191 ?_
            refine lv_iload_n hx hb d_R_measureHigh_194 rfl (lv_at hl 1 rfl) ?_
            refine ld_i cx hZ h3_6 (vp_in_nI (by omega) (by omega)) d_R_measureHigh_195 ?_
            rw [show ((F 3) (nI (ps mm)).toNatClampNeg : Int32) = (F 3) (ps mm) from by rw [nI_clamp (by first | omega | (unfold stN; omega))]]
            refine lv_i2l hx hb d_R_measureHigh_196 rfl ?_
            refine lv_goto (tgt := 201) hx hb d_R_measureHigh_197 (by decide) ?_
            refine pf_R_97 cx hZ hS ho_6 (Nat.le_of_ble_eq_true rfl) d_R_measureHigh_201 (fun w_137 H locs hw_138 hZ hS => ?_)
            have hk_139 : w_137 (A 0) = some (.inl (G.2 0, 8200, .inl (F 0))) := up_ne hw_138 h0_6 (z_ne h0_6 ho_6 (by simp))
            have hk_140 : w_137 (A 1) = some (.inl (G.2 0, 8200, .inl (F 1))) := up_ne hw_138 h1_6 (z_ne h1_6 ho_6 (by simp))
            have hk_141 : w_137 (A 2) = some (.inl (G.2 0, 8200, .inl (F 2))) := up_ne hw_138 h2_6 (z_ne h2_6 ho_6 (by simp))
            have hk_142 : w_137 (A 3) = some (.inl (G.2 0, 8200, .inl (F 3))) := up_ne hw_138 h3_6 (z_ne h3_6 ho_6 (by simp))
            have hk_143 : w_137 (A 4) = some (.inl (G.2 0, 8200, .inl (F 4))) := up_ne hw_138 h4_6 (z_ne h4_6 ho_6 (by simp))
            have hk_144 : w_137 (A 5) = some (.inl (G.2 0, 8200, .inl (F 5))) := up_ne hw_138 h5_6 (z_ne h5_6 ho_6 (by simp))
            have hk_145 : w_137 (A 6) = some (.inl (G.2 0, 8200, .inl (F 6))) := up_ne hw_138 h6_6 (z_ne h6_6 ho_6 (by simp))
            have hk_146 : w_137 (A 7) = some (.inl (G.2 1, 8200, .inr (.inl M))) := up_ne hw_138 h7_6 (z_ne h7_6 ho_6 (by simp))
            have hk_147 : w_137 (A 8) = some (.inl (G.2 0, 8200, .inl (F 8))) := up_ne hw_138 h8_6 (z_ne h8_6 ho_6 (by simp))
            have hk_148 : w_137 (A 9) = some (.inl (G.2 0, 101, .inl B)) := up_ne hw_138 h9_6 (z_ne h9_6 ho_6 (by simp))
            have hk_149 : w_137 (A 10) = some (.inl (G.2 2, 101, .inl V)) := up_ne hw_138 h10_6 (z_ne h10_6 ho_6 (by simp))
            have hk_150 : w_137 (A 11) = some (.inl (G.2 0, 16, .inl Z)) := up_ne hw_138 h11_6 (z_ne h11_6 ho_6 (by simp))
            have hk_151 : w_137 (A 12) = some (.inl (G.2 1, 4, .inr (.inl ((gl F ps (z4 T) n).1)))) := up_ne hw_138 h12_6 (z_ne h12_6 ho_6 (by simp))
            have hF := hF.put hw_138 (Or.inl (by simp))
            have hc_152 : w_137 o = some (.inr (6, [.int (S 0), .ref (A 0), .ref (A 1), .ref (A 2), .ref (A 3), .ref (A 4), .ref (A 5), .ref (A 6), .ref (A 7), .ref (A 8), .int (S 1), .ref (A 9), .ref (A 10), .int (S 2), .ref (A 11), .long ((mh F ps n).1), .long 0, .long (((F 3) (ps mm)).toInt64), .long ((mh F ps n).2), .ref (A 12), .long ((gl F ps (z4 T) n).2)])) := up_self hw_138
            refine lv_aload_n hx hb d_R_measureHigh_204 rfl (lv_at hl 2 rfl) ?_
            refine lv_dup hx hb d_R_measureHigh_205 rfl ?_
            refine gf_R_90 cx hZ hc_152 rfl d_R_measureHigh_206 ?_
            refine lv_aload_n hx hb d_R_measureHigh_209 rfl (lv_at hl 2 rfl) ?_
            refine gf_R_97 cx hZ hc_152 rfl d_R_measureHigh_210 ?_
            refine lv_lsub hx hb d_R_measureHigh_213 ?_
            refine pf_R_90 cx hZ hS hc_152 (Nat.le_of_ble_eq_true rfl) d_R_measureHigh_214 (fun w_153 H locs hw_154 hZ hS => ?_)
            have hk_155 : w_153 (A 0) = some (.inl (G.2 0, 8200, .inl (F 0))) := up_ne hw_154 hk_139 (z_ne hk_139 hc_152 (by simp))
            have hk_156 : w_153 (A 1) = some (.inl (G.2 0, 8200, .inl (F 1))) := up_ne hw_154 hk_140 (z_ne hk_140 hc_152 (by simp))
            have hk_157 : w_153 (A 2) = some (.inl (G.2 0, 8200, .inl (F 2))) := up_ne hw_154 hk_141 (z_ne hk_141 hc_152 (by simp))
            have hk_158 : w_153 (A 3) = some (.inl (G.2 0, 8200, .inl (F 3))) := up_ne hw_154 hk_142 (z_ne hk_142 hc_152 (by simp))
            have hk_159 : w_153 (A 4) = some (.inl (G.2 0, 8200, .inl (F 4))) := up_ne hw_154 hk_143 (z_ne hk_143 hc_152 (by simp))
            have hk_160 : w_153 (A 5) = some (.inl (G.2 0, 8200, .inl (F 5))) := up_ne hw_154 hk_144 (z_ne hk_144 hc_152 (by simp))
            have hk_161 : w_153 (A 6) = some (.inl (G.2 0, 8200, .inl (F 6))) := up_ne hw_154 hk_145 (z_ne hk_145 hc_152 (by simp))
            have hk_162 : w_153 (A 7) = some (.inl (G.2 1, 8200, .inr (.inl M))) := up_ne hw_154 hk_146 (z_ne hk_146 hc_152 (by simp))
            have hk_163 : w_153 (A 8) = some (.inl (G.2 0, 8200, .inl (F 8))) := up_ne hw_154 hk_147 (z_ne hk_147 hc_152 (by simp))
            have hk_164 : w_153 (A 9) = some (.inl (G.2 0, 101, .inl B)) := up_ne hw_154 hk_148 (z_ne hk_148 hc_152 (by simp))
            have hk_165 : w_153 (A 10) = some (.inl (G.2 2, 101, .inl V)) := up_ne hw_154 hk_149 (z_ne hk_149 hc_152 (by simp))
            have hk_166 : w_153 (A 11) = some (.inl (G.2 0, 16, .inl Z)) := up_ne hw_154 hk_150 (z_ne hk_150 hc_152 (by simp))
            have hk_167 : w_153 (A 12) = some (.inl (G.2 1, 4, .inr (.inl ((gl F ps (z4 T) n).1)))) := up_ne hw_154 hk_151 (z_ne hk_151 hc_152 (by simp))
            have hF := hF.put hw_154 (Or.inl (by simp))
            have hc_168 : w_153 o = some (.inr (6, [.int (S 0), .ref (A 0), .ref (A 1), .ref (A 2), .ref (A 3), .ref (A 4), .ref (A 5), .ref (A 6), .ref (A 7), .ref (A 8), .int (S 1), .ref (A 9), .ref (A 10), .int (S 2), .ref (A 11), .long (((mh F ps n).1) - (((F 3) (ps mm)).toInt64)), .long 0, .long (((F 3) (ps mm)).toInt64), .long ((mh F ps n).2), .ref (A 12), .long ((gl F ps (z4 T) n).2)])) := up_self hw_154
            refine lv_aload_n hx hb d_R_measureHigh_217 rfl (lv_at hl 2 rfl) ?_
            refine gf_R_97 cx hZ hc_168 rfl d_R_measureHigh_218 ?_
            refine lv_iload_n hx hb d_R_measureHigh_221 rfl (lv_at hl 4 rfl) ?_
            refine lv_i2l hx hb d_R_measureHigh_222 rfl ?_
            refine W.lcmp hx hb d_R_measureHigh_223 ?_
            refine lv_if_le (tgt := 249) hx hb d_R_measureHigh_224 (by decide) (fun c224 => ?_) (fun c224 => ?_)
            · have c224 := (lg_cmp_le _ _).mp c224
              exact z_vret cx.1 cx.2.1 cx.rt cx.lk hS hZ ⟨(Nat.le_of_ble_eq_true rfl), (Nat.le_of_ble_eq_true rfl)⟩ d_R_measureHigh_249 (⟨rfl, (by rw [show dpL F ps n = (F 3 (ps mm)).toInt64 from by rw [em, dpL, if_neg (sol_f c187)], if_pos c224, if_pos c224]; exact ⟨hc_168, ⟨hk_155, hk_156, hk_157, hk_158, hk_159, hk_160, hk_161, hk_162, hk_163⟩, hk_164, hk_165, hk_166, hk_167⟩), hF⟩)
            · have c224 := fun q => c224 ((lg_cmp_le _ _).mpr q)
              refine lv_aload_n hx hb d_R_measureHigh_227 rfl (lv_at hl 2 rfl) ?_
              refine lv_dup hx hb d_R_measureHigh_228 rfl ?_
              refine gf_R_90 cx hZ hc_168 rfl d_R_measureHigh_229 ?_
              refine lv_aload_n hx hb d_R_measureHigh_232 rfl (lv_at hl 2 rfl) ?_
              refine gf_R_97 cx hZ hc_168 rfl d_R_measureHigh_233 ?_
              refine lv_iload_n hx hb d_R_measureHigh_236 rfl (lv_at hl 4 rfl) ?_
              refine lv_i2l hx hb d_R_measureHigh_237 rfl ?_
              refine lv_lsub hx hb d_R_measureHigh_238 ?_
              refine lv_ladd hx hb d_R_measureHigh_239 ?_
              refine pf_R_90 cx hZ hS hc_168 (Nat.le_of_ble_eq_true rfl) d_R_measureHigh_240 (fun w_169 H locs hw_170 hZ hS => ?_)
              have hk_171 : w_169 (A 0) = some (.inl (G.2 0, 8200, .inl (F 0))) := up_ne hw_170 hk_155 (z_ne hk_155 hc_168 (by simp))
              have hk_172 : w_169 (A 1) = some (.inl (G.2 0, 8200, .inl (F 1))) := up_ne hw_170 hk_156 (z_ne hk_156 hc_168 (by simp))
              have hk_173 : w_169 (A 2) = some (.inl (G.2 0, 8200, .inl (F 2))) := up_ne hw_170 hk_157 (z_ne hk_157 hc_168 (by simp))
              have hk_174 : w_169 (A 3) = some (.inl (G.2 0, 8200, .inl (F 3))) := up_ne hw_170 hk_158 (z_ne hk_158 hc_168 (by simp))
              have hk_175 : w_169 (A 4) = some (.inl (G.2 0, 8200, .inl (F 4))) := up_ne hw_170 hk_159 (z_ne hk_159 hc_168 (by simp))
              have hk_176 : w_169 (A 5) = some (.inl (G.2 0, 8200, .inl (F 5))) := up_ne hw_170 hk_160 (z_ne hk_160 hc_168 (by simp))
              have hk_177 : w_169 (A 6) = some (.inl (G.2 0, 8200, .inl (F 6))) := up_ne hw_170 hk_161 (z_ne hk_161 hc_168 (by simp))
              have hk_178 : w_169 (A 7) = some (.inl (G.2 1, 8200, .inr (.inl M))) := up_ne hw_170 hk_162 (z_ne hk_162 hc_168 (by simp))
              have hk_179 : w_169 (A 8) = some (.inl (G.2 0, 8200, .inl (F 8))) := up_ne hw_170 hk_163 (z_ne hk_163 hc_168 (by simp))
              have hk_180 : w_169 (A 9) = some (.inl (G.2 0, 101, .inl B)) := up_ne hw_170 hk_164 (z_ne hk_164 hc_168 (by simp))
              have hk_181 : w_169 (A 10) = some (.inl (G.2 2, 101, .inl V)) := up_ne hw_170 hk_165 (z_ne hk_165 hc_168 (by simp))
              have hk_182 : w_169 (A 11) = some (.inl (G.2 0, 16, .inl Z)) := up_ne hw_170 hk_166 (z_ne hk_166 hc_168 (by simp))
              have hk_183 : w_169 (A 12) = some (.inl (G.2 1, 4, .inr (.inl ((gl F ps (z4 T) n).1)))) := up_ne hw_170 hk_167 (z_ne hk_167 hc_168 (by simp))
              have hF := hF.put hw_170 (Or.inl (by simp))
              have hc_184 : w_169 o = some (.inr (6, [.int (S 0), .ref (A 0), .ref (A 1), .ref (A 2), .ref (A 3), .ref (A 4), .ref (A 5), .ref (A 6), .ref (A 7), .ref (A 8), .int (S 1), .ref (A 9), .ref (A 10), .int (S 2), .ref (A 11), .long ((((mh F ps n).1) - (((F 3) (ps mm)).toInt64)) + ((((F 3) (ps mm)).toInt64) - lim.toInt64)), .long 0, .long (((F 3) (ps mm)).toInt64), .long ((mh F ps n).2), .ref (A 12), .long ((gl F ps (z4 T) n).2)])) := up_self hw_170
              refine lv_aload_n hx hb d_R_measureHigh_243 rfl (lv_at hl 2 rfl) ?_
              refine lv_iload_n hx hb d_R_measureHigh_244 rfl (lv_at hl 4 rfl) ?_
              refine lv_i2l hx hb d_R_measureHigh_245 rfl ?_
              refine pf_R_97 cx hZ hS hc_184 (Nat.le_of_ble_eq_true rfl) d_R_measureHigh_246 (fun w_185 H locs hw_186 hZ hS => ?_)
              have hk_187 : w_185 (A 0) = some (.inl (G.2 0, 8200, .inl (F 0))) := up_ne hw_186 hk_171 (z_ne hk_171 hc_184 (by simp))
              have hk_188 : w_185 (A 1) = some (.inl (G.2 0, 8200, .inl (F 1))) := up_ne hw_186 hk_172 (z_ne hk_172 hc_184 (by simp))
              have hk_189 : w_185 (A 2) = some (.inl (G.2 0, 8200, .inl (F 2))) := up_ne hw_186 hk_173 (z_ne hk_173 hc_184 (by simp))
              have hk_190 : w_185 (A 3) = some (.inl (G.2 0, 8200, .inl (F 3))) := up_ne hw_186 hk_174 (z_ne hk_174 hc_184 (by simp))
              have hk_191 : w_185 (A 4) = some (.inl (G.2 0, 8200, .inl (F 4))) := up_ne hw_186 hk_175 (z_ne hk_175 hc_184 (by simp))
              have hk_192 : w_185 (A 5) = some (.inl (G.2 0, 8200, .inl (F 5))) := up_ne hw_186 hk_176 (z_ne hk_176 hc_184 (by simp))
              have hk_193 : w_185 (A 6) = some (.inl (G.2 0, 8200, .inl (F 6))) := up_ne hw_186 hk_177 (z_ne hk_177 hc_184 (by simp))
              have hk_194 : w_185 (A 7) = some (.inl (G.2 1, 8200, .inr (.inl M))) := up_ne hw_186 hk_178 (z_ne hk_178 hc_184 (by simp))
              have hk_195 : w_185 (A 8) = some (.inl (G.2 0, 8200, .inl (F 8))) := up_ne hw_186 hk_179 (z_ne hk_179 hc_184 (by simp))
              have hk_196 : w_185 (A 9) = some (.inl (G.2 0, 101, .inl B)) := up_ne hw_186 hk_180 (z_ne hk_180 hc_184 (by simp))
              have hk_197 : w_185 (A 10) = some (.inl (G.2 2, 101, .inl V)) := up_ne hw_186 hk_181 (z_ne hk_181 hc_184 (by simp))
              have hk_198 : w_185 (A 11) = some (.inl (G.2 0, 16, .inl Z)) := up_ne hw_186 hk_182 (z_ne hk_182 hc_184 (by simp))
              have hk_199 : w_185 (A 12) = some (.inl (G.2 1, 4, .inr (.inl ((gl F ps (z4 T) n).1)))) := up_ne hw_186 hk_183 (z_ne hk_183 hc_184 (by simp))
              have hF := hF.put hw_186 (Or.inl (by simp))
              have hc_200 : w_185 o = some (.inr (6, [.int (S 0), .ref (A 0), .ref (A 1), .ref (A 2), .ref (A 3), .ref (A 4), .ref (A 5), .ref (A 6), .ref (A 7), .ref (A 8), .int (S 1), .ref (A 9), .ref (A 10), .int (S 2), .ref (A 11), .long ((((mh F ps n).1) - (((F 3) (ps mm)).toInt64)) + ((((F 3) (ps mm)).toInt64) - lim.toInt64)), .long 0, .long lim.toInt64, .long ((mh F ps n).2), .ref (A 12), .long ((gl F ps (z4 T) n).2)])) := up_self hw_186
              exact z_vret cx.1 cx.2.1 cx.rt cx.lk hS hZ ⟨(Nat.le_of_ble_eq_true rfl), (Nat.le_of_ble_eq_true rfl)⟩ d_R_measureHigh_249 (⟨rfl, (by rw [show dpL F ps n = (F 3 (ps mm)).toInt64 from by rw [em, dpL, if_neg (sol_f c187)], if_neg c224, if_neg c224]; exact ⟨hc_200, ⟨hk_187, hk_188, hk_189, hk_190, hk_191, hk_192, hk_193, hk_194, hk_195⟩, hk_196, hk_197, hk_198, hk_199⟩), hF⟩)
      · exact absurd (nI_le (by omega) (by omega)) c16
    | succ j ih =>
      intro i w2 H locs ls hik hZ hS hF hr2 hl
      have hpi : ps i < 8000 := by have := hps.lt (show i < n by omega); omega
      obtain ⟨ho_201, ⟨h0_201, h1_201, h2_201, h3_201, h4_201, h5_201, h6_201, h7_201, h8_201⟩, h9_201, h10_201, h11_201, h12_201⟩ := id hr2
      have ho_201 : w2 o = some (.inr (6, [.int (S 0), .ref (A 0), .ref (A 1), .ref (A 2), .ref (A 3), .ref (A 4), .ref (A 5), .ref (A 6), .ref (A 7), .ref (A 8), .int (S 1), .ref (A 9), .ref (A 10), .int (S 2), .ref (A 11), .long ((mh F ps i).1), .long 0, .long 0, .long ((mh F ps i).2), .ref (A 12), .long ((gl F ps (z4 T) n).2)])) := ho_201
      refine lv_iload hx hb d_R_measureHigh_10 (lv_at hl 0 rfl) ?_
      refine lv_aload_n hx hb d_R_measureHigh_12 rfl (lv_at hl 2 rfl) ?_
      refine gf_R_61 cx hZ ho_201 rfl d_R_measureHigh_13 ?_
      rw [show ((S 2) : Int32) = nI (ps n) from hen]
      refine lv_icmp_ge (tgt := 177) hx hb d_R_measureHigh_16 (by decide) (fun c16 => ?_) (fun c16 => ?_)
      · exact absurd c16 (nI_ge (hps.lt (by omega)) (by omega))
      · have J_40 : ∀ (H : Heap) (locs : List Loc) (x40 : Int64), Zw G.1 vwC (zA n0) w2 H → va_S (zA n0) s.heap H locs → x40 = shS F (ps i) → W p l e ({ frames := 1, cells := 0, slots := 0, locals := 25 }) s m [.ref o, .int (nI (ps 0)), .int lim].toArray below meth c H locs 0 0 (MQ below (zQ G.1 vwC n0 (fun v w1 => v = none ∧ RA G w1 o A S (mzL (if (dpL F ps n) ≤ lim.toInt64 then (mh F ps n).1 - (dpL F ps n) else (mh F ps n).1 - (dpL F ps n) + ((dpL F ps n) - lim.toInt64)) 0 (if (dpL F ps n) ≤ lim.toInt64 then (dpL F ps n) else lim.toInt64) (mh F ps n).2 (gl F ps (z4 T) n).2) F M B V Z (gl F ps (z4 T) n).1 ∧ Fr (allR o A) w w1)) [.ref o, .int (nI (ps 0)), .int lim].toArray s ({ frames := 1, cells := 0, slots := 0, locals := 25 } : Room).cells ({ frames := 1, cells := 0, slots := 0, locals := 25 } : Room).slots (zA n0)) (F0 m 40 ls [.long x40]) := by
          intro H locs x40 hZ hS hx40
          subst hx40
          refine lv_lstore (lv' := [(5, .long (shS F (ps i))), (4, .int (nI (ps i))), (3, .int (lastI ps i)), (0, .ref o), (1, .int (nI (ps 0))), (2, .int lim)]) hx hb d_R_measureHigh_40 hl (by decide) rfl (fun ls hl => ?_)
          refine lv_aload_n hx hb d_R_measureHigh_42 rfl (lv_at hl 3 rfl) ?_
          refine lv_dup hx hb d_R_measureHigh_43 rfl ?_
          refine gf_R_90 cx hZ ho_201 rfl d_R_measureHigh_44 ?_
          have J_100 : ∀ (H : Heap) (locs : List Loc) (x100 : Int64), Zw G.1 vwC (zA n0) w2 H → va_S (zA n0) s.heap H locs → x100 = hTerm F (ps i) → W p l e ({ frames := 1, cells := 0, slots := 0, locals := 25 }) s m [.ref o, .int (nI (ps 0)), .int lim].toArray below meth c H locs 0 0 (MQ below (zQ G.1 vwC n0 (fun v w1 => v = none ∧ RA G w1 o A S (mzL (if (dpL F ps n) ≤ lim.toInt64 then (mh F ps n).1 - (dpL F ps n) else (mh F ps n).1 - (dpL F ps n) + ((dpL F ps n) - lim.toInt64)) 0 (if (dpL F ps n) ≤ lim.toInt64 then (dpL F ps n) else lim.toInt64) (mh F ps n).2 (gl F ps (z4 T) n).2) F M B V Z (gl F ps (z4 T) n).1 ∧ Fr (allR o A) w w1)) [.ref o, .int (nI (ps 0)), .int lim].toArray s ({ frames := 1, cells := 0, slots := 0, locals := 25 } : Room).cells ({ frames := 1, cells := 0, slots := 0, locals := 25 } : Room).slots (zA n0)) (F0 m 100 ls [.long x100, .long ((mh F ps i).1), .ref o]) := by
            intro H locs x100 hZ hS hx100
            subst hx100
            refine lv_ladd hx hb d_R_measureHigh_100 ?_
            refine pf_R_90 cx hZ hS ho_201 (Nat.le_of_ble_eq_true rfl) d_R_measureHigh_101 (fun w_202 H locs hw_203 hZ hS => ?_)
            have hk_204 : w_202 (A 0) = some (.inl (G.2 0, 8200, .inl (F 0))) := up_ne hw_203 h0_201 (z_ne h0_201 ho_201 (by simp))
            have hk_205 : w_202 (A 1) = some (.inl (G.2 0, 8200, .inl (F 1))) := up_ne hw_203 h1_201 (z_ne h1_201 ho_201 (by simp))
            have hk_206 : w_202 (A 2) = some (.inl (G.2 0, 8200, .inl (F 2))) := up_ne hw_203 h2_201 (z_ne h2_201 ho_201 (by simp))
            have hk_207 : w_202 (A 3) = some (.inl (G.2 0, 8200, .inl (F 3))) := up_ne hw_203 h3_201 (z_ne h3_201 ho_201 (by simp))
            have hk_208 : w_202 (A 4) = some (.inl (G.2 0, 8200, .inl (F 4))) := up_ne hw_203 h4_201 (z_ne h4_201 ho_201 (by simp))
            have hk_209 : w_202 (A 5) = some (.inl (G.2 0, 8200, .inl (F 5))) := up_ne hw_203 h5_201 (z_ne h5_201 ho_201 (by simp))
            have hk_210 : w_202 (A 6) = some (.inl (G.2 0, 8200, .inl (F 6))) := up_ne hw_203 h6_201 (z_ne h6_201 ho_201 (by simp))
            have hk_211 : w_202 (A 7) = some (.inl (G.2 1, 8200, .inr (.inl M))) := up_ne hw_203 h7_201 (z_ne h7_201 ho_201 (by simp))
            have hk_212 : w_202 (A 8) = some (.inl (G.2 0, 8200, .inl (F 8))) := up_ne hw_203 h8_201 (z_ne h8_201 ho_201 (by simp))
            have hk_213 : w_202 (A 9) = some (.inl (G.2 0, 101, .inl B)) := up_ne hw_203 h9_201 (z_ne h9_201 ho_201 (by simp))
            have hk_214 : w_202 (A 10) = some (.inl (G.2 2, 101, .inl V)) := up_ne hw_203 h10_201 (z_ne h10_201 ho_201 (by simp))
            have hk_215 : w_202 (A 11) = some (.inl (G.2 0, 16, .inl Z)) := up_ne hw_203 h11_201 (z_ne h11_201 ho_201 (by simp))
            have hk_216 : w_202 (A 12) = some (.inl (G.2 1, 4, .inr (.inl ((gl F ps (z4 T) n).1)))) := up_ne hw_203 h12_201 (z_ne h12_201 ho_201 (by simp))
            have hF := hF.put hw_203 (Or.inl (by simp))
            have hc_217 : w_202 o = some (.inr (6, [.int (S 0), .ref (A 0), .ref (A 1), .ref (A 2), .ref (A 3), .ref (A 4), .ref (A 5), .ref (A 6), .ref (A 7), .ref (A 8), .int (S 1), .ref (A 9), .ref (A 10), .int (S 2), .ref (A 11), .long (((mh F ps i).1) + (hTerm F (ps i))), .long 0, .long 0, .long ((mh F ps i).2), .ref (A 12), .long ((gl F ps (z4 T) n).2)])) := up_self hw_203
            refine lv_aload_n hx hb d_R_measureHigh_104 rfl (lv_at hl 3 rfl) ?_
            refine lv_iload hx hb d_R_measureHigh_105 (lv_at hl 1 rfl) ?_
            refine iv_R_110 (As := [.int (nI (ps i))]) (rest := []) cx (r_isSolid l G n0 e0 w_202 o A S (vp_updL (mzL (mh F ps i).1 0 0 (mh F ps i).2 (gl F ps (z4 T) n).2) 0 (((mh F ps i).1) + (hTerm F (ps i)))) hc_217 F hk_204 (ps i) (by omega)) hc_217 ⟨(Nat.le_of_ble_eq_true rfl), (Nat.le_of_ble_eq_true rfl)⟩ ⟨(Nat.le_of_ble_eq_true rfl), (Nat.le_of_ble_eq_true rfl)⟩ rfl hl.1 rfl (Nat.le_of_ble_eq_true rfl) d_R_measureHigh_107 hZ hS (fun v w_218 H locs hp_219 hZ hS => ?_)
            obtain ⟨rfl, hq⟩ := hp_219
            subst w_218
            refine W.eq (g2 := F0 m 110 ls [.int (zi (!decide (4 < F 0 (ps i))))]) rfl ?_
            refine lv_if_eq (tgt := 159) hx hb d_R_measureHigh_110 (by decide) (fun c110 => ?_) (fun c110 => ?_)
            · refine lv_iload hx hb d_R_measureHigh_159 (lv_at hl 1 rfl) ?_
              refine lv_istore_n (lv' := [(3, .int (nI (ps i))), (5, .long (shS F (ps i))), (4, .int (nI (ps i))), (0, .ref o), (1, .int (nI (ps 0))), (2, .int lim)]) hx hb d_R_measureHigh_161 rfl hl (by decide) rfl (fun ls hl => ?_)
              refine lv_iload hx hb d_R_measureHigh_162 (lv_at hl 2 rfl) ?_
              refine lv_aload_n hx hb d_R_measureHigh_164 rfl (lv_at hl 3 rfl) ?_
              refine gf_R_35 cx hZ hc_217 rfl d_R_measureHigh_165 ?_
              refine lv_iload hx hb d_R_measureHigh_168 (lv_at hl 2 rfl) ?_
              refine ld_i cx hZ hk_212 (vp_in_nI (by omega) (by omega)) d_R_measureHigh_170 ?_
              rw [show ((F 8) (nI (ps i)).toNatClampNeg : Int32) = (F 8) (ps i) from by rw [nI_clamp (by first | omega | (unfold stN; omega))]]
              refine lv_iadd hx hb d_R_measureHigh_171 ?_
              rw [show (((nI (ps i)) + ((F 8) (ps i))) : Int32) = nI (ps (i + 1)) from hps.step (by omega)]
              refine lv_istore (lv' := [(4, .int (nI (ps (i + 1)))), (3, .int (nI (ps i))), (5, .long (shS F (ps i))), (0, .ref o), (1, .int (nI (ps 0))), (2, .int lim)]) hx hb d_R_measureHigh_172 hl (by decide) rfl (fun ls hl => ?_)
              refine lv_goto (tgt := 10) hx hb d_R_measureHigh_174 (by decide) ?_
              exact ih (i + 1) _ _ _ _ (by omega) hZ hS hF (by rw [mh_s (upM_a c110)]; exact ⟨hc_217, ⟨hk_204, hk_205, hk_206, hk_207, hk_208, hk_209, hk_210, hk_211, hk_212⟩, hk_213, hk_214, hk_215, hk_216⟩) (lv_sub hl [0, 1, 3, 4, 5] rfl)
            · refine lv_aload_n hx hb d_R_measureHigh_113 rfl (lv_at hl 3 rfl) ?_
              refine gf_R_13 cx hZ hc_217 rfl d_R_measureHigh_114 ?_
              refine lv_iload hx hb d_R_measureHigh_117 (lv_at hl 1 rfl) ?_
              refine ld_i cx hZ hk_205 (vp_in_nI (by omega) (by omega)) d_R_measureHigh_119 ?_
              rw [show ((F 1) (nI (ps i)).toNatClampNeg : Int32) = (F 1) (ps i) from by rw [nI_clamp (by first | omega | (unfold stN; omega))]]
              refine lc_R_86 cx d_R_measureHigh_120 ?_
              refine lv_icmp_eq (tgt := 159) hx hb d_R_measureHigh_122 (by decide) (fun c122 => ?_) (fun c122 => ?_)
              · refine lv_iload hx hb d_R_measureHigh_159 (lv_at hl 1 rfl) ?_
                refine lv_istore_n (lv' := [(3, .int (nI (ps i))), (5, .long (shS F (ps i))), (4, .int (nI (ps i))), (0, .ref o), (1, .int (nI (ps 0))), (2, .int lim)]) hx hb d_R_measureHigh_161 rfl hl (by decide) rfl (fun ls hl => ?_)
                refine lv_iload hx hb d_R_measureHigh_162 (lv_at hl 2 rfl) ?_
                refine lv_aload_n hx hb d_R_measureHigh_164 rfl (lv_at hl 3 rfl) ?_
                refine gf_R_35 cx hZ hc_217 rfl d_R_measureHigh_165 ?_
                refine lv_iload hx hb d_R_measureHigh_168 (lv_at hl 2 rfl) ?_
                refine ld_i cx hZ hk_212 (vp_in_nI (by omega) (by omega)) d_R_measureHigh_170 ?_
                rw [show ((F 8) (nI (ps i)).toNatClampNeg : Int32) = (F 8) (ps i) from by rw [nI_clamp (by first | omega | (unfold stN; omega))]]
                refine lv_iadd hx hb d_R_measureHigh_171 ?_
                rw [show (((nI (ps i)) + ((F 8) (ps i))) : Int32) = nI (ps (i + 1)) from hps.step (by omega)]
                refine lv_istore (lv' := [(4, .int (nI (ps (i + 1)))), (3, .int (nI (ps i))), (5, .long (shS F (ps i))), (0, .ref o), (1, .int (nI (ps 0))), (2, .int lim)]) hx hb d_R_measureHigh_172 hl (by decide) rfl (fun ls hl => ?_)
                refine lv_goto (tgt := 10) hx hb d_R_measureHigh_174 (by decide) ?_
                exact ih (i + 1) _ _ _ _ (by omega) hZ hS hF (by rw [mh_s (upM_b c122)]; exact ⟨hc_217, ⟨hk_204, hk_205, hk_206, hk_207, hk_208, hk_209, hk_210, hk_211, hk_212⟩, hk_213, hk_214, hk_215, hk_216⟩) (lv_sub hl [0, 1, 3, 4, 5] rfl)
              · refine lv_aload_n hx hb d_R_measureHigh_125 rfl (lv_at hl 3 rfl) ?_
                refine gf_R_13 cx hZ hc_217 rfl d_R_measureHigh_126 ?_
                refine lv_iload hx hb d_R_measureHigh_129 (lv_at hl 1 rfl) ?_
                refine ld_i cx hZ hk_205 (vp_in_nI (by omega) (by omega)) d_R_measureHigh_131 ?_
                rw [show ((F 1) (nI (ps i)).toNatClampNeg : Int32) = (F 1) (ps i) from by rw [nI_clamp (by first | omega | (unfold stN; omega))]]
                refine lv_i2l hx hb d_R_measureHigh_132 rfl ?_
                refine lv_lload hx hb d_R_measureHigh_133 (lv_at hl 0 rfl) ?_
                refine lv_ladd hx hb d_R_measureHigh_135 ?_
                refine lv_aload_n hx hb d_R_measureHigh_136 rfl (lv_at hl 3 rfl) ?_
                refine gf_R_100 cx hZ hc_217 rfl d_R_measureHigh_137 ?_
                refine W.lcmp hx hb d_R_measureHigh_140 ?_
                refine lv_if_le (tgt := 159) hx hb d_R_measureHigh_141 (by decide) (fun c141 => ?_) (fun c141 => ?_)
                · have c141 := (lg_cmp_le _ _).mp c141
                  refine lv_iload hx hb d_R_measureHigh_159 (lv_at hl 1 rfl) ?_
                  refine lv_istore_n (lv' := [(3, .int (nI (ps i))), (5, .long (shS F (ps i))), (4, .int (nI (ps i))), (0, .ref o), (1, .int (nI (ps 0))), (2, .int lim)]) hx hb d_R_measureHigh_161 rfl hl (by decide) rfl (fun ls hl => ?_)
                  refine lv_iload hx hb d_R_measureHigh_162 (lv_at hl 2 rfl) ?_
                  refine lv_aload_n hx hb d_R_measureHigh_164 rfl (lv_at hl 3 rfl) ?_
                  refine gf_R_35 cx hZ hc_217 rfl d_R_measureHigh_165 ?_
                  refine lv_iload hx hb d_R_measureHigh_168 (lv_at hl 2 rfl) ?_
                  refine ld_i cx hZ hk_212 (vp_in_nI (by omega) (by omega)) d_R_measureHigh_170 ?_
                  rw [show ((F 8) (nI (ps i)).toNatClampNeg : Int32) = (F 8) (ps i) from by rw [nI_clamp (by first | omega | (unfold stN; omega))]]
                  refine lv_iadd hx hb d_R_measureHigh_171 ?_
                  rw [show (((nI (ps i)) + ((F 8) (ps i))) : Int32) = nI (ps (i + 1)) from hps.step (by omega)]
                  refine lv_istore (lv' := [(4, .int (nI (ps (i + 1)))), (3, .int (nI (ps i))), (5, .long (shS F (ps i))), (0, .ref o), (1, .int (nI (ps 0))), (2, .int lim)]) hx hb d_R_measureHigh_172 hl (by decide) rfl (fun ls hl => ?_)
                  refine lv_goto (tgt := 10) hx hb d_R_measureHigh_174 (by decide) ?_
                  exact ih (i + 1) _ _ _ _ (by omega) hZ hS hF (by rw [mh_s (upM_c c141)]; exact ⟨hc_217, ⟨hk_204, hk_205, hk_206, hk_207, hk_208, hk_209, hk_210, hk_211, hk_212⟩, hk_213, hk_214, hk_215, hk_216⟩) (lv_sub hl [0, 1, 3, 4, 5] rfl)
                · have c141 := fun q => c141 ((lg_cmp_le _ _).mpr q)
                  refine lv_aload_n hx hb d_R_measureHigh_144 rfl (lv_at hl 3 rfl) ?_
                  refine lv_aload_n hx hb d_R_measureHigh_145 rfl (lv_at hl 3 rfl) ?_
                  refine gf_R_13 cx hZ hc_217 rfl d_R_measureHigh_146 ?_
                  refine lv_iload hx hb d_R_measureHigh_149 (lv_at hl 1 rfl) ?_
                  refine ld_i cx hZ hk_205 (vp_in_nI (by omega) (by omega)) d_R_measureHigh_151 ?_
                  rw [show ((F 1) (nI (ps i)).toNatClampNeg : Int32) = (F 1) (ps i) from by rw [nI_clamp (by first | omega | (unfold stN; omega))]]
                  refine lv_i2l hx hb d_R_measureHigh_152 rfl ?_
                  refine lv_lload hx hb d_R_measureHigh_153 (lv_at hl 0 rfl) ?_
                  refine lv_ladd hx hb d_R_measureHigh_155 ?_
                  refine pf_R_100 cx hZ hS hc_217 (Nat.le_of_ble_eq_true rfl) d_R_measureHigh_156 (fun w_220 H locs hw_221 hZ hS => ?_)
                  have hk_222 : w_220 (A 0) = some (.inl (G.2 0, 8200, .inl (F 0))) := up_ne hw_221 hk_204 (z_ne hk_204 hc_217 (by simp))
                  have hk_223 : w_220 (A 1) = some (.inl (G.2 0, 8200, .inl (F 1))) := up_ne hw_221 hk_205 (z_ne hk_205 hc_217 (by simp))
                  have hk_224 : w_220 (A 2) = some (.inl (G.2 0, 8200, .inl (F 2))) := up_ne hw_221 hk_206 (z_ne hk_206 hc_217 (by simp))
                  have hk_225 : w_220 (A 3) = some (.inl (G.2 0, 8200, .inl (F 3))) := up_ne hw_221 hk_207 (z_ne hk_207 hc_217 (by simp))
                  have hk_226 : w_220 (A 4) = some (.inl (G.2 0, 8200, .inl (F 4))) := up_ne hw_221 hk_208 (z_ne hk_208 hc_217 (by simp))
                  have hk_227 : w_220 (A 5) = some (.inl (G.2 0, 8200, .inl (F 5))) := up_ne hw_221 hk_209 (z_ne hk_209 hc_217 (by simp))
                  have hk_228 : w_220 (A 6) = some (.inl (G.2 0, 8200, .inl (F 6))) := up_ne hw_221 hk_210 (z_ne hk_210 hc_217 (by simp))
                  have hk_229 : w_220 (A 7) = some (.inl (G.2 1, 8200, .inr (.inl M))) := up_ne hw_221 hk_211 (z_ne hk_211 hc_217 (by simp))
                  have hk_230 : w_220 (A 8) = some (.inl (G.2 0, 8200, .inl (F 8))) := up_ne hw_221 hk_212 (z_ne hk_212 hc_217 (by simp))
                  have hk_231 : w_220 (A 9) = some (.inl (G.2 0, 101, .inl B)) := up_ne hw_221 hk_213 (z_ne hk_213 hc_217 (by simp))
                  have hk_232 : w_220 (A 10) = some (.inl (G.2 2, 101, .inl V)) := up_ne hw_221 hk_214 (z_ne hk_214 hc_217 (by simp))
                  have hk_233 : w_220 (A 11) = some (.inl (G.2 0, 16, .inl Z)) := up_ne hw_221 hk_215 (z_ne hk_215 hc_217 (by simp))
                  have hk_234 : w_220 (A 12) = some (.inl (G.2 1, 4, .inr (.inl ((gl F ps (z4 T) n).1)))) := up_ne hw_221 hk_216 (z_ne hk_216 hc_217 (by simp))
                  have hF := hF.put hw_221 (Or.inl (by simp))
                  have hc_235 : w_220 o = some (.inr (6, [.int (S 0), .ref (A 0), .ref (A 1), .ref (A 2), .ref (A 3), .ref (A 4), .ref (A 5), .ref (A 6), .ref (A 7), .ref (A 8), .int (S 1), .ref (A 9), .ref (A 10), .int (S 2), .ref (A 11), .long (((mh F ps i).1) + (hTerm F (ps i))), .long 0, .long 0, .long ((((F 1) (ps i)).toInt64) + (shS F (ps i))), .ref (A 12), .long ((gl F ps (z4 T) n).2)])) := up_self hw_221
                  refine lv_iload hx hb d_R_measureHigh_159 (lv_at hl 1 rfl) ?_
                  refine lv_istore_n (lv' := [(3, .int (nI (ps i))), (5, .long (shS F (ps i))), (4, .int (nI (ps i))), (0, .ref o), (1, .int (nI (ps 0))), (2, .int lim)]) hx hb d_R_measureHigh_161 rfl hl (by decide) rfl (fun ls hl => ?_)
                  refine lv_iload hx hb d_R_measureHigh_162 (lv_at hl 2 rfl) ?_
                  refine lv_aload_n hx hb d_R_measureHigh_164 rfl (lv_at hl 3 rfl) ?_
                  refine gf_R_35 cx hZ hc_235 rfl d_R_measureHigh_165 ?_
                  refine lv_iload hx hb d_R_measureHigh_168 (lv_at hl 2 rfl) ?_
                  refine ld_i cx hZ hk_230 (vp_in_nI (by omega) (by omega)) d_R_measureHigh_170 ?_
                  rw [show ((F 8) (nI (ps i)).toNatClampNeg : Int32) = (F 8) (ps i) from by rw [nI_clamp (by first | omega | (unfold stN; omega))]]
                  refine lv_iadd hx hb d_R_measureHigh_171 ?_
                  rw [show (((nI (ps i)) + ((F 8) (ps i))) : Int32) = nI (ps (i + 1)) from hps.step (by omega)]
                  refine lv_istore (lv' := [(4, .int (nI (ps (i + 1)))), (3, .int (nI (ps i))), (5, .long (shS F (ps i))), (0, .ref o), (1, .int (nI (ps 0))), (2, .int lim)]) hx hb d_R_measureHigh_172 hl (by decide) rfl (fun ls hl => ?_)
                  refine lv_goto (tgt := 10) hx hb d_R_measureHigh_174 (by decide) ?_
                  exact ih (i + 1) _ _ _ _ (by omega) hZ hS hF (by rw [mh_s (upM_d c110 c122 c141)]; exact ⟨hc_235, ⟨hk_222, hk_223, hk_224, hk_225, hk_226, hk_227, hk_228, hk_229, hk_230⟩, hk_231, hk_232, hk_233, hk_234⟩) (lv_sub hl [0, 1, 3, 4, 5] rfl)
          refine lv_aload_n hx hb d_R_measureHigh_47 rfl (lv_at hl 3 rfl) ?_
          refine lv_iload hx hb d_R_measureHigh_48 (lv_at hl 1 rfl) ?_
          refine iv_R_110 (As := [.int (nI (ps i))]) (rest := [.long ((mh F ps i).1), .ref o]) cx (r_isSolid l G n0 e0 w2 o A S (mzL (mh F ps i).1 0 0 (mh F ps i).2 (gl F ps (z4 T) n).2) ho_201 F h0_201 (ps i) (by omega)) ho_201 ⟨(Nat.le_of_ble_eq_true rfl), (Nat.le_of_ble_eq_true rfl)⟩ ⟨(Nat.le_of_ble_eq_true rfl), (Nat.le_of_ble_eq_true rfl)⟩ rfl hl.1 rfl (Nat.le_of_ble_eq_true rfl) d_R_measureHigh_50 hZ hS (fun v w_236 H locs hp_237 hZ hS => ?_)
          obtain ⟨rfl, hq⟩ := hp_237
          subst w_236
          refine W.eq (g2 := F0 m 53 ls [.int (zi (!decide (4 < F 0 (ps i)))), .long ((mh F ps i).1), .ref o]) rfl ?_
          refine lv_if_eq (tgt := 76) hx hb d_R_measureHigh_53 (by decide) (fun c53 => ?_) (fun c53 => ?_)
          · refine lv_aload_n hx hb d_R_measureHigh_76 rfl (lv_at hl 3 rfl) ?_
            refine gf_R_7 cx hZ ho_201 rfl d_R_measureHigh_77 ?_
            refine lv_iload hx hb d_R_measureHigh_80 (lv_at hl 1 rfl) ?_
            refine ld_i cx hZ h0_201 (vp_in_nI (by omega) (by omega)) d_R_measureHigh_82 ?_
            rw [show ((F 0) (nI (ps i)).toNatClampNeg : Int32) = (F 0) (ps i) from by rw [nI_clamp (by first | omega | (unfold stN; omega))]]
            refine lv_bipush (v := 7) hx hb d_R_measureHigh_83 (by decide) ?_
            refine lv_icmp_ne (tgt := 92) hx hb d_R_measureHigh_85 (by decide) (fun c85 => ?_) (fun c85 => ?_)
            · refine lv_aload_n hx hb d_R_measureHigh_92 rfl (lv_at hl 3 rfl) ?_
              refine gf_R_13 cx hZ ho_201 rfl d_R_measureHigh_93 ?_
              refine lv_iload hx hb d_R_measureHigh_96 (lv_at hl 1 rfl) ?_
              refine ld_i cx hZ h1_201 (vp_in_nI (by omega) (by omega)) d_R_measureHigh_98 ?_
              rw [show ((F 1) (nI (ps i)).toNatClampNeg : Int32) = (F 1) (ps i) from by rw [nI_clamp (by first | omega | (unfold stN; omega))]]
              refine lv_i2l hx hb d_R_measureHigh_99 rfl ?_
              exact J_100 _ _ _ hZ hS (by rw [hTerm, if_pos (sol_t c53), wTerm, if_neg c85])
            · refine lv_lconst (v := 0) hx hb d_R_measureHigh_88 (by decide) ?_
              refine lv_goto (tgt := 100) hx hb d_R_measureHigh_89 (by decide) ?_
              exact J_100 _ _ _ hZ hS (by rw [hTerm, if_pos (sol_t c53), wTerm, if_pos c85])
          · refine lv_aload_n hx hb d_R_measureHigh_56 rfl (lv_at hl 3 rfl) ?_
            refine gf_R_16 cx hZ ho_201 rfl d_R_measureHigh_57 ?_
            refine lv_iload hx hb d_R_measureHigh_60 (lv_at hl 1 rfl) ?_
            refine ld_i cx hZ h2_201 (vp_in_nI (by omega) (by omega)) d_R_measureHigh_62 ?_
            rw [show ((F 2) (nI (ps i)).toNatClampNeg : Int32) = (F 2) (ps i) from by rw [nI_clamp (by first | omega | (unfold stN; omega))]]
            refine lv_i2l hx hb d_R_measureHigh_63 rfl ?_
            refine lv_aload_n hx hb d_R_measureHigh_64 rfl (lv_at hl 3 rfl) ?_
            refine gf_R_19 cx hZ ho_201 rfl d_R_measureHigh_65 ?_
            refine lv_iload hx hb d_R_measureHigh_68 (lv_at hl 1 rfl) ?_
            refine ld_i cx hZ h3_201 (vp_in_nI (by omega) (by omega)) d_R_measureHigh_70 ?_
            rw [show ((F 3) (nI (ps i)).toNatClampNeg : Int32) = (F 3) (ps i) from by rw [nI_clamp (by first | omega | (unfold stN; omega))]]
            refine lv_i2l hx hb d_R_measureHigh_71 rfl ?_
            refine lv_ladd hx hb d_R_measureHigh_72 ?_
            refine lv_goto (tgt := 100) hx hb d_R_measureHigh_73 (by decide) ?_
            exact J_100 _ _ _ hZ hS (by rw [hTerm, if_neg (sol_f c53)])
        refine lv_aload_n hx hb d_R_measureHigh_19 rfl (lv_at hl 2 rfl) ?_
        refine lv_iload hx hb d_R_measureHigh_20 (lv_at hl 0 rfl) ?_
        refine iv_R_87 (As := [.int (nI (ps i))]) (rest := []) cx (r_isBox l G n0 e0 w2 o A S (mzL (mh F ps i).1 0 0 (mh F ps i).2 (gl F ps (z4 T) n).2) ho_201 F h0_201 (ps i) (by omega)) ho_201 ⟨(Nat.le_of_ble_eq_true rfl), (Nat.le_of_ble_eq_true rfl)⟩ ⟨(Nat.le_of_ble_eq_true rfl), (Nat.le_of_ble_eq_true rfl)⟩ rfl hl.1 rfl (Nat.le_of_ble_eq_true rfl) d_R_measureHigh_22 hZ hS (fun v w_238 H locs hp_239 hZ hS => ?_)
        obtain ⟨rfl, hq⟩ := hp_239
        subst w_238
        refine W.eq (g2 := F0 m 25 ls [.int (zi (decide (F 0 (ps i) = 2 ∨ F 0 (ps i) = 3)))]) rfl ?_
        refine lv_if_eq (tgt := 39) hx hb d_R_measureHigh_25 (by decide) (fun c25 => ?_) (fun c25 => ?_)
        · refine lv_lconst (v := 0) hx hb d_R_measureHigh_39 (by decide) ?_
          exact J_40 _ _ _ hZ hS (by rw [shS, if_neg (dz_f c25)])
        · refine lv_aload_n hx hb d_R_measureHigh_28 rfl (lv_at hl 2 rfl) ?_
          refine gf_R_22 cx hZ ho_201 rfl d_R_measureHigh_29 ?_
          refine lv_iload hx hb d_R_measureHigh_32 (lv_at hl 0 rfl) ?_
          refine ld_i cx hZ h4_201 (vp_in_nI (by omega) (by omega)) d_R_measureHigh_34 ?_
          rw [show ((F 4) (nI (ps i)).toNatClampNeg : Int32) = (F 4) (ps i) from by rw [nI_clamp (by first | omega | (unfold stN; omega))]]
          refine lv_i2l hx hb d_R_measureHigh_35 rfl ?_
          refine lv_goto (tgt := 40) hx hb d_R_measureHigh_36 (by decide) ?_
          exact J_40 _ _ _ hZ hS (by rw [shS, if_pos (dz_t c25)])
  exact loop_10 (n) 0 _ _ _ _ (by omega) hZ hS hF ⟨ho_5, ⟨h0_5, h1_5, h2_5, h3_5, h4_5, h5_5, h6_5, h7_5, h8_5⟩, h9_5, h10_5, h11_5, h12_5⟩ (lv_sub hl [0, 1, 2, 3, 4] rfl)
