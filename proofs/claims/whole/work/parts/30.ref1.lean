theorem ld_z {p : Program} {l : Launch} {e : Env} {R : Room} {s : State} {m : MethodId} {args : Array Value} {below : List Frame} {meth : Method} {c : Code} {H : Heap} {locs : List Loc} {cells slots : Nat} {Q : State → Prop} {cc : ByteArray} {pc nL : Nat} {ls : Array Slot} {rest : List Value} {G : zG} {n0 e0 : Nat} {w : zw} {ret : Option FieldType} {a : Nat} {own : String} (cx : Cx G n0 e0 p s m args meth c cc nL own ret) (hZ : Zw G.1 vwC (zA n0) w H) {n : Nat} {f : Nat → Int32} (ha : w a = some (.inl (G.2 2, n, .inl f))) {i : Int32} (hin : vp_in i n) (hdg : decode cc pc = .ok (.baload, 1)) (kk : W p l e R s m args below meth c H locs cells slots Q (F0 m (pc + 1) ls (.int (f i.toNatClampNeg) :: rest))) : W p l e R s m args below meth c H locs cells slots Q (F0 m pc ls (.int i :: .ref a :: rest)) := by
  obtain ⟨ws, hP, hD, rfl⟩ := hZ
  obtain ⟨q0, hq⟩ := z_lk_of ha
  exact va_zald cx.1 cx.2.1 cx.K hP q0 2 hq rfl hin hdg kk
theorem st_z {p : Program} {l : Launch} {e : Env} {R : Room} {s : State} {m : MethodId} {args : Array Value} {below : List Frame} {meth : Method} {c : Code} {H : Heap} {locs : List Loc} {cells slots : Nat} {Q : State → Prop} {cc : ByteArray} {pc nL : Nat} {ls : Array Slot} {rest : List Value} {G : zG} {n0 e0 : Nat} {w : zw} {ret : Option FieldType} {a : Nat} {own : String} (cx : Cx G n0 e0 p s m args meth c cc nL own ret) (hZ : Zw G.1 vwC (zA n0) w H) (hS : va_S (zA n0) s.heap H locs) {n : Nat} {f : Nat → Int32} (ha : w a = some (.inl (G.2 2, n, .inl f))) {i x : Int32} (hin : vp_in i n) (hdg : decode cc pc = .ok (.bastore, 1)) (kk : ∀ (w1 : zw) (H1 : Heap) (locs1 : List Loc), w1 = va_up w a (some (.inl (G.2 2, n, .inl (upd f i.toNatClampNeg (vp_nar .boolean x))))) → Zw G.1 vwC (zA n0) w1 H1 → va_S (zA n0) s.heap H1 locs1 → W p l e R s m args below meth c H1 locs1 cells slots Q (F0 m (pc + 1) ls rest)) : W p l e R s m args below meth c H locs cells slots Q (F0 m pc ls (.int x :: .int i :: .ref a :: rest)) := by
  obtain ⟨ws, hP, hD, rfl⟩ := hZ
  obtain ⟨q0, hq⟩ := z_lk_of ha
  exact va_zast cx.1 cx.2.1 cx.K hP hD hS q0 2 hq rfl hin hdg (fun H1 locs1 hP1 hD1 hS1 => kk _ H1 locs1 rfl ⟨_, hP1, hD1, z_lk_set hD hq⟩ hS1)
/-- the reference's fields: arrays A (kind wide high deep shift order shrink more span begin vertical size stretches), ints S (thrown lists end), longs L (natural height depth width shrinks) -/
abbrev fR (A : Nat → Nat) (S : Nat → Int32) (L : Nat → Int64) : List Value := [.int (S 0), .ref (A 0), .ref (A 1), .ref (A 2), .ref (A 3), .ref (A 4), .ref (A 5), .ref (A 6), .ref (A 7), .ref (A 8), .int (S 1), .ref (A 9), .ref (A 10), .int (S 2), .ref (A 11), .long (L 0), .long (L 1), .long (L 2), .long (L 3), .ref (A 12), .long (L 4)]
theorem vnar_zi (b : Bool) : vp_nar .boolean (zi b) = zi b := by cases b <;> rfl
/-- a SIZE, of an int -/
theorem szI_lo {x : Int32} (h : x < -1073741823) : szI x = false := szL_lo (by rw [Int64.lt_iff_toInt_lt, Int32.toInt_toInt64]; rw [Int32.lt_iff_toInt_lt] at h; exact h)
theorem szI_hi {x : Int32} (h : 1073741823 < x) : szI x = false := szL_hi (by rw [Int64.lt_iff_toInt_lt, Int32.toInt_toInt64]; rw [Int32.lt_iff_toInt_lt] at h; exact h)
theorem szI_in {x : Int32} (h : ¬ x < -1073741823) (h2 : ¬ 1073741823 < x) : szI x = true := szL_in (by rw [Int64.lt_iff_toInt_lt, Int32.toInt_toInt64]; rw [Int32.lt_iff_toInt_lt] at h; exact h) (by rw [Int64.lt_iff_toInt_lt, Int32.toInt_toInt64]; rw [Int32.lt_iff_toInt_lt] at h2; exact h2)
def sumI (f : Nat → Int32) : Nat → Int32
  | 0 => 0
  | n + 1 => sumI f n + f n
theorem nI_ge16 {i : Nat} (h : 16 ≤ i) (h2 : i < 2 ^ 31) : (16 : Int32) ≤ nI i := by
  rw [show (16 : Int32) = nI 16 from by decide]; exact nI_le h h2
theorem nI_nge16 {i : Nat} (h : i < 16) : ¬ (16 : Int32) ≤ nI i := by
  rw [show (16 : Int32) = nI 16 from by decide]; exact nI_ge h (by decide)
theorem regB_in {k : Int32} (h : ¬ k < 0) (h2 : ¬ (16 : Int32) ≤ k) : regB k = true := by
  simp only [regB, Bool.and_eq_true, Bool.not_eq_true', decide_eq_false_iff_not, decide_eq_true_eq]
  exact ⟨h, Int32.not_le.mp h2⟩
theorem ne100 {k : Nat} (h : k < 100) : ¬ nI k = (100 : Int32) := by
  rw [show (100 : Int32) = nI 100 from by decide, nI_eq (by omega) (by decide)]; omega
set_option maxHeartbeats 4000000 in
set_option maxRecDepth 100000 in
theorem r_isSize (l : Launch) (G : zG) (n0 e0 : Nat) (x : Int32) (w : zw) : Ct l G n0 e0 y_R_isSize b_R_isSize 1 (Option.some FieldType.boolean) ({ frames := 0, cells := 0, slots := 0, locals := 0 }) [.int x] w (fun v w1 => v = some (.int (zi (szI x))) ∧ w1 = w) := by
  refine z_ct (by decide) (Nat.le_of_ble_eq_true rfl) ?_
  intro p e s m below meth c ls cx hnm hZ hS hl
  have hx := cx.1
  have hb := cx.2.1
  have hl : lv_has ls 1 [(0, .int x)] := hl
  refine lv_iload_n hx hb d_R_isSize_0 rfl (lv_at hl 0 rfl) ?_
  refine lc_R_55 cx d_R_isSize_1 ?_
  refine lv_icmp_lt (tgt := 16) hx hb d_R_isSize_3 (by decide) (fun c3 => ?_) (fun c3 => ?_)
  · refine lv_iconst (v := 0) hx hb d_R_isSize_16 (by decide) ?_
    exact z_zret cx.1 cx.2.1 cx.rt cx.lk (by first | rfl | (simp [narrow]; done) | simp_all [narrow]) hS hZ ⟨(Nat.le_of_ble_eq_true rfl), (Nat.le_of_ble_eq_true rfl)⟩ d_R_isSize_17 (by first | exact ⟨by rw [szI_lo c3]; rfl, rfl⟩ | exact ⟨by rw [szI_hi c9]; rfl, rfl⟩ | exact ⟨by rw [szI_in c3 c9]; rfl, rfl⟩)
  · refine lv_iload_n hx hb d_R_isSize_6 rfl (lv_at hl 0 rfl) ?_
    refine lc_R_56 cx d_R_isSize_7 ?_
    refine lv_icmp_gt (tgt := 16) hx hb d_R_isSize_9 (by decide) (fun c9 => ?_) (fun c9 => ?_)
    · refine lv_iconst (v := 0) hx hb d_R_isSize_16 (by decide) ?_
      exact z_zret cx.1 cx.2.1 cx.rt cx.lk (by first | rfl | (simp [narrow]; done) | simp_all [narrow]) hS hZ ⟨(Nat.le_of_ble_eq_true rfl), (Nat.le_of_ble_eq_true rfl)⟩ d_R_isSize_17 (by first | exact ⟨by rw [szI_lo c3]; rfl, rfl⟩ | exact ⟨by rw [szI_hi c9]; rfl, rfl⟩ | exact ⟨by rw [szI_in c3 c9]; rfl, rfl⟩)
    · refine lv_iconst (v := 1) hx hb d_R_isSize_12 (by decide) ?_
      refine lv_goto (tgt := 17) hx hb d_R_isSize_13 (by decide) ?_
      exact z_zret cx.1 cx.2.1 cx.rt cx.lk (by first | rfl | (simp [narrow]; done) | simp_all [narrow]) hS hZ ⟨(Nat.le_of_ble_eq_true rfl), (Nat.le_of_ble_eq_true rfl)⟩ d_R_isSize_17 (by first | exact ⟨by rw [szI_lo c3]; rfl, rfl⟩ | exact ⟨by rw [szI_hi c9]; rfl, rfl⟩ | exact ⟨by rw [szI_in c3 c9]; rfl, rfl⟩)
set_option maxHeartbeats 4000000 in
set_option maxRecDepth 100000 in
theorem r_isSizeLong (l : Launch) (G : zG) (n0 e0 : Nat) (x : Int64) (w : zw) : Ct l G n0 e0 y_R_isSizeLong b_R_isSizeLong 2 (Option.some FieldType.boolean) ({ frames := 0, cells := 0, slots := 0, locals := 0 }) [.long x] w (fun v w1 => v = some (.int (zi (szL x))) ∧ w1 = w) := by
  refine z_ct (by decide) (Nat.le_of_ble_eq_true rfl) ?_
  intro p e s m below meth c ls cx hnm hZ hS hl
  have hx := cx.1
  have hb := cx.2.1
  have hl : lv_has ls 2 [(0, .long x)] := hl
  refine lv_lload_n hx hb d_R_isSizeLong_0 rfl (lv_at hl 0 rfl) ?_
  refine lc_R_57 cx d_R_isSizeLong_1 ?_
  refine W.lcmp hx hb d_R_isSizeLong_4 ?_
  refine lv_if_lt (tgt := 20) hx hb d_R_isSizeLong_5 (by decide) (fun c5 => ?_) (fun c5 => ?_)
  · have c5 := (lg_cmp_lt _ _).mp c5
    refine lv_iconst (v := 0) hx hb d_R_isSizeLong_20 (by decide) ?_
    exact z_zret cx.1 cx.2.1 cx.rt cx.lk (by first | rfl | (simp [narrow]; done) | simp_all [narrow]) hS hZ ⟨(Nat.le_of_ble_eq_true rfl), (Nat.le_of_ble_eq_true rfl)⟩ d_R_isSizeLong_21 (by first | exact ⟨by rw [szL_lo c5]; rfl, rfl⟩ | exact ⟨by rw [szL_lo c4]; rfl, rfl⟩ | exact ⟨by rw [szL_hi c13]; rfl, rfl⟩ | exact ⟨by rw [szL_hi c12]; rfl, rfl⟩ | exact ⟨by rw [szL_in c5 c13]; rfl, rfl⟩ | exact ⟨by rw [szL_in c4 c12]; rfl, rfl⟩)
  · have c5 := fun q => c5 ((lg_cmp_lt _ _).mpr q)
    refine lv_lload_n hx hb d_R_isSizeLong_8 rfl (lv_at hl 0 rfl) ?_
    refine lc_R_59 cx d_R_isSizeLong_9 ?_
    refine W.lcmp hx hb d_R_isSizeLong_12 ?_
    refine lv_if_gt (tgt := 20) hx hb d_R_isSizeLong_13 (by decide) (fun c13 => ?_) (fun c13 => ?_)
    · have c13 := (lg_cmp_gt _ _).mp c13
      refine lv_iconst (v := 0) hx hb d_R_isSizeLong_20 (by decide) ?_
      exact z_zret cx.1 cx.2.1 cx.rt cx.lk (by first | rfl | (simp [narrow]; done) | simp_all [narrow]) hS hZ ⟨(Nat.le_of_ble_eq_true rfl), (Nat.le_of_ble_eq_true rfl)⟩ d_R_isSizeLong_21 (by first | exact ⟨by rw [szL_lo c5]; rfl, rfl⟩ | exact ⟨by rw [szL_lo c4]; rfl, rfl⟩ | exact ⟨by rw [szL_hi c13]; rfl, rfl⟩ | exact ⟨by rw [szL_hi c12]; rfl, rfl⟩ | exact ⟨by rw [szL_in c5 c13]; rfl, rfl⟩ | exact ⟨by rw [szL_in c4 c12]; rfl, rfl⟩)
    · have c13 := fun q => c13 ((lg_cmp_gt _ _).mpr q)
      refine lv_iconst (v := 1) hx hb d_R_isSizeLong_16 (by decide) ?_
      refine lv_goto (tgt := 21) hx hb d_R_isSizeLong_17 (by decide) ?_
      exact z_zret cx.1 cx.2.1 cx.rt cx.lk (by first | rfl | (simp [narrow]; done) | simp_all [narrow]) hS hZ ⟨(Nat.le_of_ble_eq_true rfl), (Nat.le_of_ble_eq_true rfl)⟩ d_R_isSizeLong_21 (by first | exact ⟨by rw [szL_lo c5]; rfl, rfl⟩ | exact ⟨by rw [szL_lo c4]; rfl, rfl⟩ | exact ⟨by rw [szL_hi c13]; rfl, rfl⟩ | exact ⟨by rw [szL_hi c12]; rfl, rfl⟩ | exact ⟨by rw [szL_in c5 c13]; rfl, rfl⟩ | exact ⟨by rw [szL_in c4 c12]; rfl, rfl⟩)
set_option maxHeartbeats 4000000 in
set_option maxRecDepth 100000 in
theorem r_thrown (l : Launch) (G : zG) (n0 e0 : Nat) (w : zw) (o : Nat) (A : Nat → Nat) (S : Nat → Int32) (L : Nat → Int64) (ho : w o = some (.inr (6, fR A S L)))  : Ct l G n0 e0 y_R_thrown b_R_thrown 1 (Option.some FieldType.int) ({ frames := 0, cells := 0, slots := 0, locals := 0 }) [.ref o] w (fun v w1 => v = some (.int (S 0)) ∧ w1 = w) := by
  refine z_ct (by decide) (Nat.le_of_ble_eq_true rfl) ?_
  intro p e s m below meth c ls cx hnm hZ hS hl
  have hx := cx.1
  have hb := cx.2.1
  have hl : lv_has ls 1 [(0, .ref o)] := hl
  refine lv_aload_n hx hb d_R_thrown_0 rfl (lv_at hl 0 rfl) ?_
  refine gf_R_51 cx hZ ho rfl d_R_thrown_1 ?_
  exact z_iret cx.1 cx.2.1 cx.rt cx.lk hS hZ ⟨(Nat.le_of_ble_eq_true rfl), (Nat.le_of_ble_eq_true rfl)⟩ d_R_thrown_4 (⟨rfl, rfl⟩)
set_option maxHeartbeats 4000000 in
set_option maxRecDepth 100000 in
theorem r_fails (l : Launch) (G : zG) (n0 e0 : Nat) (w : zw) (o : Nat) (A : Nat → Nat) (S : Nat → Int32) (L : Nat → Int64) (ho : w o = some (.inr (6, fR A S L))) (y : Int32) : Ct l G n0 e0 y_R_fails b_R_fails 2 (Option.some FieldType.int) ({ frames := 0, cells := 0, slots := 0, locals := 0 }) [.ref o, .int y] w (fun v w1 => v = some (.int 0) ∧ w1 o = some (.inr (6, fR A (upd S 0 y) L)) ∧ Fr [o] w w1) := by
  refine z_ct (by decide) (Nat.le_of_ble_eq_true rfl) ?_
  intro p e s m below meth c ls cx hnm hZ hS hl
  have hx := cx.1
  have hb := cx.2.1
  have hl : lv_has ls 2 [(0, .ref o), (1, .int y)] := hl
  have hF : Fr [o] w w := Fr.rf
  refine lv_aload_n hx hb d_R_fails_0 rfl (lv_at hl 0 rfl) ?_
  refine lv_iload_n hx hb d_R_fails_1 rfl (lv_at hl 1 rfl) ?_
  refine pf_R_51 cx hZ hS ho (Nat.le_of_ble_eq_true rfl) d_R_fails_2 (fun w_1 H locs hw_2 hZ hS => ?_)
  have hF := hF.put hw_2 (Or.inl (by simp))
  have hc_3 : w_1 o = some (.inr (6, [.int y, .ref (A 0), .ref (A 1), .ref (A 2), .ref (A 3), .ref (A 4), .ref (A 5), .ref (A 6), .ref (A 7), .ref (A 8), .int (S 1), .ref (A 9), .ref (A 10), .int (S 2), .ref (A 11), .long (L 0), .long (L 1), .long (L 2), .long (L 3), .ref (A 12), .long (L 4)])) := up_self hw_2
  refine lv_iconst (v := 0) hx hb d_R_fails_5 (by decide) ?_
  exact z_iret cx.1 cx.2.1 cx.rt cx.lk hS hZ ⟨(Nat.le_of_ble_eq_true rfl), (Nat.le_of_ble_eq_true rfl)⟩ d_R_fails_6 (⟨rfl, hc_3, hF⟩)
set_option maxHeartbeats 4000000 in
set_option maxRecDepth 100000 in
theorem r_shelved (l : Launch) (G : zG) (n0 e0 : Nat) (w : zw) (o : Nat) (A : Nat → Nat) (S : Nat → Int32) (L : Nat → Int64) (ho : w o = some (.inr (6, fR A S L))) (F : Nat → Nat → Int32) (h11 : w (A 11) = some (.inl (G.2 0, 16, .inl (F 11))))  : Ct l G n0 e0 y_R_shelved b_R_shelved 3 (Option.some FieldType.int) ({ frames := 0, cells := 0, slots := 0, locals := 0 }) [.ref o] w (fun v w1 => v = some (.int (sumI (F 11) 16)) ∧ w1 = w) := by
  refine z_ct (by decide) (Nat.le_of_ble_eq_true rfl) ?_
  intro p e s m below meth c ls cx hnm hZ hS hl
  have hx := cx.1
  have hb := cx.2.1
  have hl : lv_has ls 3 [(0, .ref o)] := hl
  refine lv_iconst (v := 0) hx hb d_R_shelved_0 (by decide) ?_
  refine lv_istore_n (lv' := [(1, .int 0), (0, .ref o)]) hx hb d_R_shelved_1 rfl hl (by decide) rfl (fun ls hl => ?_)
  refine lv_iconst (v := 0) hx hb d_R_shelved_2 (by decide) ?_
  refine lv_istore_n (lv' := [(2, .int 0), (1, .int 0), (0, .ref o)]) hx hb d_R_shelved_3 rfl hl (by decide) rfl (fun ls hl => ?_)
  have loop : ∀ (j i : Nat) (H : Heap) (locs : List Loc) (ls : Array Slot), i + j = 16 → Zw G.1 vwC (zA n0) w H → va_S (zA n0) s.heap H locs → lv_has ls 3 [(2, .int (nI i)), (1, .int (sumI (F 11) i)), (0, .ref o)] → W p l e ({ frames := 0, cells := 0, slots := 0, locals := 0 }) s m [.ref o].toArray below meth c H locs 0 0 (MQ below (zQ G.1 vwC n0 (fun v w1 => v = some (.int (sumI (F 11) 16)) ∧ w1 = w)) [.ref o].toArray s ({ frames := 0, cells := 0, slots := 0, locals := 0 } : Room).cells ({ frames := 0, cells := 0, slots := 0, locals := 0 } : Room).slots (zA n0)) (F0 m 4 ls []) := by
    intro j
    induction j with
    | zero =>
      intro i H locs ls hij hZ hS hl
      have hin : i = 16 := by omega
      subst hin
      refine lv_iload_n hx hb d_R_shelved_4 rfl (lv_at hl 0 rfl) ?_
      refine lv_bipush (v := 16) hx hb d_R_shelved_5 (by decide) ?_
      refine lv_icmp_ge (tgt := 25) hx hb d_R_shelved_7 (by decide) (fun c7 => ?_) (fun c7 => ?_)
      · refine lv_iload_n hx hb d_R_shelved_25 rfl (lv_at hl 1 rfl) ?_
        exact z_iret cx.1 cx.2.1 cx.rt cx.lk hS hZ ⟨(Nat.le_of_ble_eq_true rfl), (Nat.le_of_ble_eq_true rfl)⟩ d_R_shelved_26 (⟨rfl, rfl⟩)
      · exact absurd (nI_ge16 (by omega) (by omega)) c7
    | succ j ih =>
      intro i H locs ls hij hZ hS hl
      refine lv_iload_n hx hb d_R_shelved_4 rfl (lv_at hl 0 rfl) ?_
      refine lv_bipush (v := 16) hx hb d_R_shelved_5 (by decide) ?_
      refine lv_icmp_ge (tgt := 25) hx hb d_R_shelved_7 (by decide) (fun c7 => ?_) (fun c7 => ?_)
      · exact absurd c7 (nI_nge16 (by omega))
      · refine lv_iload_n hx hb d_R_shelved_10 rfl (lv_at hl 1 rfl) ?_
        refine lv_aload_n hx hb d_R_shelved_11 rfl (lv_at hl 2 rfl) ?_
        refine gf_R_45 cx hZ ho rfl d_R_shelved_12 ?_
        refine lv_iload_n hx hb d_R_shelved_15 rfl (lv_at hl 0 rfl) ?_
        refine ld_i cx hZ h11 (vp_in_nI (by omega) (by omega)) d_R_shelved_16 ?_
        rw [show (((F 11) (nI i).toNatClampNeg) : Int32) = F 11 i from by rw [nI_clamp (by omega)]]
        refine lv_iadd hx hb d_R_shelved_17 ?_
        refine lv_istore_n (lv' := [(1, .int ((sumI (F 11) i) + (F 11 i))), (2, .int (nI i)), (0, .ref o)]) hx hb d_R_shelved_18 rfl hl (by decide) rfl (fun ls hl => ?_)
        refine lv_iinc (v := ((nI i) + 1)) (lv' := [(2, .int ((nI i) + 1)), (1, .int ((sumI (F 11) i) + (F 11 i))), (0, .ref o)]) hx hb d_R_shelved_19 hl (k := 1) rfl rfl (by decide) rfl (fun ls hl => ?_)
        refine lv_goto (tgt := 4) hx hb d_R_shelved_22 (by decide) ?_
        exact ih (i + 1) _ _ _ (by omega) hZ hS (lv_sub hl [0, 1, 2] (by rw [← nI_1 i]; rfl))
  exact loop 16 0 _ _ _ (by omega) hZ hS (lv_sub hl [0, 1, 2] rfl)
set_option maxHeartbeats 4000000 in
set_option maxRecDepth 100000 in
theorem r_start (l : Launch) (G : zG) (n0 e0 : Nat) (w : zw) (o : Nat) (A : Nat → Nat) (S : Nat → Int32) (L : Nat → Int64) (ho : w o = some (.inr (6, fR A S L))) (F : Nat → Nat → Int32) (h11 : w (A 11) = some (.inl (G.2 0, 16, .inl (F 11)))) (k : Nat) (hk : k ≤ 16) : Ct l G n0 e0 y_R_start b_R_start 4 (Option.some FieldType.int) ({ frames := 0, cells := 0, slots := 0, locals := 0 }) [.ref o, .int (nI k)] w (fun v w1 => v = some (.int (4100 + sumI (F 11) k)) ∧ w1 = w) := by
  refine z_ct (by decide) (Nat.le_of_ble_eq_true rfl) ?_
  intro p e s m below meth c ls cx hnm hZ hS hl
  have hx := cx.1
  have hb := cx.2.1
  have hl : lv_has ls 4 [(0, .ref o), (1, .int (nI k))] := hl
  refine lv_sipush (v := 4100) hx hb d_R_start_0 (by decide) ?_
  refine lv_istore_n (lv' := [(2, .int 4100), (0, .ref o), (1, .int (nI k))]) hx hb d_R_start_3 rfl hl (by decide) rfl (fun ls hl => ?_)
  refine lv_iconst (v := 0) hx hb d_R_start_4 (by decide) ?_
  refine lv_istore_n (lv' := [(3, .int 0), (2, .int 4100), (0, .ref o), (1, .int (nI k))]) hx hb d_R_start_5 rfl hl (by decide) rfl (fun ls hl => ?_)
  have loop : ∀ (j i : Nat) (H : Heap) (locs : List Loc) (ls : Array Slot), i + j = k → Zw G.1 vwC (zA n0) w H → va_S (zA n0) s.heap H locs → lv_has ls 4 [(3, .int (nI i)), (2, .int (4100 + sumI (F 11) i)), (0, .ref o), (1, .int (nI k))] → W p l e ({ frames := 0, cells := 0, slots := 0, locals := 0 }) s m [.ref o, .int (nI k)].toArray below meth c H locs 0 0 (MQ below (zQ G.1 vwC n0 (fun v w1 => v = some (.int (4100 + sumI (F 11) k)) ∧ w1 = w)) [.ref o, .int (nI k)].toArray s ({ frames := 0, cells := 0, slots := 0, locals := 0 } : Room).cells ({ frames := 0, cells := 0, slots := 0, locals := 0 } : Room).slots (zA n0)) (F0 m 6 ls []) := by
    intro j
    induction j with
    | zero =>
      intro i H locs ls hij hZ hS hl
      have hin : i = k := by omega
      subst hin
      refine lv_iload_n hx hb d_R_start_6 rfl (lv_at hl 0 rfl) ?_
      refine lv_iload_n hx hb d_R_start_7 rfl (lv_at hl 3 rfl) ?_
      refine lv_icmp_ge (tgt := 26) hx hb d_R_start_8 (by decide) (fun c8 => ?_) (fun c8 => ?_)
      · refine lv_iload_n hx hb d_R_start_26 rfl (lv_at hl 1 rfl) ?_
        exact z_iret cx.1 cx.2.1 cx.rt cx.lk hS hZ ⟨(Nat.le_of_ble_eq_true rfl), (Nat.le_of_ble_eq_true rfl)⟩ d_R_start_27 (⟨rfl, rfl⟩)
      · exact absurd (nI_le (Nat.le_refl _) (by omega)) c8
    | succ j ih =>
      intro i H locs ls hij hZ hS hl
      refine lv_iload_n hx hb d_R_start_6 rfl (lv_at hl 0 rfl) ?_
      refine lv_iload_n hx hb d_R_start_7 rfl (lv_at hl 3 rfl) ?_
      refine lv_icmp_ge (tgt := 26) hx hb d_R_start_8 (by decide) (fun c8 => ?_) (fun c8 => ?_)
      · exact absurd c8 (nI_ge (by omega) (by omega))
      · refine lv_iload_n hx hb d_R_start_11 rfl (lv_at hl 1 rfl) ?_
        refine lv_aload_n hx hb d_R_start_12 rfl (lv_at hl 2 rfl) ?_
        refine gf_R_45 cx hZ ho rfl d_R_start_13 ?_
        refine lv_iload_n hx hb d_R_start_16 rfl (lv_at hl 0 rfl) ?_
        refine ld_i cx hZ h11 (vp_in_nI (by omega) (by omega)) d_R_start_17 ?_
        rw [show (((F 11) (nI i).toNatClampNeg) : Int32) = F 11 i from by rw [nI_clamp (by omega)]]
        refine lv_iadd hx hb d_R_start_18 ?_
        rw [show (((4100 + sumI (F 11) i) + (F 11 i)) : Int32) = 4100 + (sumI (F 11) i + F 11 i) from by rw [Int32.add_assoc]]
        refine lv_istore_n (lv' := [(2, .int (4100 + (sumI (F 11) i + F 11 i))), (3, .int (nI i)), (0, .ref o), (1, .int (nI k))]) hx hb d_R_start_19 rfl hl (by decide) rfl (fun ls hl => ?_)
        refine lv_iinc (v := ((nI i) + 1)) (lv' := [(3, .int ((nI i) + 1)), (2, .int (4100 + (sumI (F 11) i + F 11 i))), (0, .ref o), (1, .int (nI k))]) hx hb d_R_start_20 hl (k := 1) rfl rfl (by decide) rfl (fun ls hl => ?_)
        refine lv_goto (tgt := 6) hx hb d_R_start_23 (by decide) ?_
        exact ih (i + 1) _ _ _ (by omega) hZ hS (lv_sub hl [0, 1, 2, 3] (by rw [← nI_1 i, sumI]; rfl))
  exact loop k 0 _ _ _ (by omega) hZ hS (lv_sub hl [0, 1, 2, 3] (by rw [show (4100 : Int32) + sumI (F 11) 0 = 4100 from by simp [sumI]]; rfl))
set_option maxHeartbeats 4000000 in
set_option maxRecDepth 100000 in
theorem r_isBox (l : Launch) (G : zG) (n0 e0 : Nat) (w : zw) (o : Nat) (A : Nat → Nat) (S : Nat → Int32) (L : Nat → Int64) (ho : w o = some (.inr (6, fR A S L))) (F : Nat → Nat → Int32) (h0 : w (A 0) = some (.inl (G.2 0, 8200, .inl (F 0)))) (i : Nat) (hi : i < 8200) : Ct l G n0 e0 y_R_isBox b_R_isBox 2 (Option.some FieldType.boolean) ({ frames := 0, cells := 0, slots := 0, locals := 0 }) [.ref o, .int (nI i)] w (fun v w1 => v = some (.int (zi (decide (F 0 i = 2 ∨ F 0 i = 3)))) ∧ w1 = w) := by
  refine z_ct (by decide) (Nat.le_of_ble_eq_true rfl) ?_
  intro p e s m below meth c ls cx hnm hZ hS hl
  have hx := cx.1
  have hb := cx.2.1
  have hl : lv_has ls 2 [(0, .ref o), (1, .int (nI i))] := hl
  refine lv_aload_n hx hb d_R_isBox_0 rfl (lv_at hl 0 rfl) ?_
  refine gf_R_7 cx hZ ho rfl d_R_isBox_1 ?_
  refine lv_iload_n hx hb d_R_isBox_4 rfl (lv_at hl 1 rfl) ?_
  refine ld_i cx hZ h0 (vp_in_nI hi (by omega)) d_R_isBox_5 ?_
  rw [show (((F 0) (nI i).toNatClampNeg) : Int32) = F 0 i from by rw [nI_clamp (by omega)]]
  refine lv_iconst (v := 2) hx hb d_R_isBox_6 (by decide) ?_
  refine lv_icmp_eq (tgt := 20) hx hb d_R_isBox_7 (by decide) (fun c7 => ?_) (fun c7 => ?_)
  · refine lv_iconst (v := 1) hx hb d_R_isBox_20 (by decide) ?_
    refine lv_goto (tgt := 25) hx hb d_R_isBox_21 (by decide) ?_
    exact z_zret cx.1 cx.2.1 cx.rt cx.lk (by first | rfl | (simp [narrow]; done) | simp_all [narrow]) hS hZ ⟨(Nat.le_of_ble_eq_true rfl), (Nat.le_of_ble_eq_true rfl)⟩ d_R_isBox_25 (⟨by simp_all [zi], rfl⟩)
  · refine lv_aload_n hx hb d_R_isBox_10 rfl (lv_at hl 0 rfl) ?_
    refine gf_R_7 cx hZ ho rfl d_R_isBox_11 ?_
    refine lv_iload_n hx hb d_R_isBox_14 rfl (lv_at hl 1 rfl) ?_
    refine ld_i cx hZ h0 (vp_in_nI hi (by omega)) d_R_isBox_15 ?_
    rw [show (((F 0) (nI i).toNatClampNeg) : Int32) = F 0 i from by rw [nI_clamp (by omega)]]
    refine lv_iconst (v := 3) hx hb d_R_isBox_16 (by decide) ?_
    refine lv_icmp_ne (tgt := 24) hx hb d_R_isBox_17 (by decide) (fun c17 => ?_) (fun c17 => ?_)
    · refine lv_iconst (v := 0) hx hb d_R_isBox_24 (by decide) ?_
      exact z_zret cx.1 cx.2.1 cx.rt cx.lk (by first | rfl | (simp [narrow]; done) | simp_all [narrow]) hS hZ ⟨(Nat.le_of_ble_eq_true rfl), (Nat.le_of_ble_eq_true rfl)⟩ d_R_isBox_25 (⟨by simp_all [zi], rfl⟩)
    · refine lv_iconst (v := 1) hx hb d_R_isBox_20 (by decide) ?_
      refine lv_goto (tgt := 25) hx hb d_R_isBox_21 (by decide) ?_
      exact z_zret cx.1 cx.2.1 cx.rt cx.lk (by first | rfl | (simp [narrow]; done) | simp_all [narrow]) hS hZ ⟨(Nat.le_of_ble_eq_true rfl), (Nat.le_of_ble_eq_true rfl)⟩ d_R_isBox_25 (⟨by simp_all [zi], rfl⟩)
set_option maxHeartbeats 4000000 in
set_option maxRecDepth 100000 in
theorem r_isSolid (l : Launch) (G : zG) (n0 e0 : Nat) (w : zw) (o : Nat) (A : Nat → Nat) (S : Nat → Int32) (L : Nat → Int64) (ho : w o = some (.inr (6, fR A S L))) (F : Nat → Nat → Int32) (h0 : w (A 0) = some (.inl (G.2 0, 8200, .inl (F 0)))) (i : Nat) (hi : i < 8200) : Ct l G n0 e0 y_R_isSolid b_R_isSolid 2 (Option.some FieldType.boolean) ({ frames := 0, cells := 0, slots := 0, locals := 0 }) [.ref o, .int (nI i)] w (fun v w1 => v = some (.int (zi (!decide (4 < F 0 i)))) ∧ w1 = w) := by
  refine z_ct (by decide) (Nat.le_of_ble_eq_true rfl) ?_
  intro p e s m below meth c ls cx hnm hZ hS hl
  have hx := cx.1
  have hb := cx.2.1
  have hl : lv_has ls 2 [(0, .ref o), (1, .int (nI i))] := hl
  refine lv_aload_n hx hb d_R_isSolid_0 rfl (lv_at hl 0 rfl) ?_
  refine gf_R_7 cx hZ ho rfl d_R_isSolid_1 ?_
  refine lv_iload_n hx hb d_R_isSolid_4 rfl (lv_at hl 1 rfl) ?_
  refine ld_i cx hZ h0 (vp_in_nI hi (by omega)) d_R_isSolid_5 ?_
  rw [show (((F 0) (nI i).toNatClampNeg) : Int32) = F 0 i from by rw [nI_clamp (by omega)]]
  refine lv_iconst (v := 4) hx hb d_R_isSolid_6 (by decide) ?_
  refine lv_icmp_gt (tgt := 14) hx hb d_R_isSolid_7 (by decide) (fun c7 => ?_) (fun c7 => ?_)
  · refine lv_iconst (v := 0) hx hb d_R_isSolid_14 (by decide) ?_
    exact z_zret cx.1 cx.2.1 cx.rt cx.lk (by first | rfl | (simp [narrow]; done) | simp_all [narrow]) hS hZ ⟨(Nat.le_of_ble_eq_true rfl), (Nat.le_of_ble_eq_true rfl)⟩ d_R_isSolid_15 (⟨by simp [zi, c7], rfl⟩)
  · refine lv_iconst (v := 1) hx hb d_R_isSolid_10 (by decide) ?_
    refine lv_goto (tgt := 15) hx hb d_R_isSolid_11 (by decide) ?_
    exact z_zret cx.1 cx.2.1 cx.rt cx.lk (by first | rfl | (simp [narrow]; done) | simp_all [narrow]) hS hZ ⟨(Nat.le_of_ble_eq_true rfl), (Nat.le_of_ble_eq_true rfl)⟩ d_R_isSolid_15 (⟨by simp [zi, c7], rfl⟩)
set_option maxHeartbeats 4000000 in
set_option maxRecDepth 100000 in
theorem r_hasRoom (l : Launch) (G : zG) (n0 e0 : Nat) (w : zw) (o : Nat) (A : Nat → Nat) (S : Nat → Int32) (L : Nat → Int64) (ho : w o = some (.inr (6, fR A S L))) (F : Nat → Nat → Int32) (h11 : w (A 11) = some (.inl (G.2 0, 16, .inl (F 11)))) (n : Int32) : Ct l G n0 e0 y_R_hasRoom b_R_hasRoom 2 (Option.some FieldType.boolean) ({ frames := 1, cells := 0, slots := 0, locals := 22 }) [.ref o, .int n] w (fun v w1 => v = some (.int (zi (!decide (4000 < S 2 + sumI (F 11) 16 + n)))) ∧ w1 = w) := by
  refine z_ct (by decide) (Nat.le_of_ble_eq_true rfl) ?_
  intro p e s m below meth c ls cx hnm hZ hS hl
  have hx := cx.1
  have hb := cx.2.1
  have hl : lv_has ls 2 [(0, .ref o), (1, .int n)] := hl
  refine lv_aload_n hx hb d_R_hasRoom_0 rfl (lv_at hl 0 rfl) ?_
  refine gf_R_61 cx hZ ho rfl d_R_hasRoom_1 ?_
  refine lv_aload_n hx hb d_R_hasRoom_4 rfl (lv_at hl 0 rfl) ?_
  refine iv_R_64 (As := []) (rest := [.int (S 2)]) cx (r_shelved l G n0 e0 w o A S L ho F h11) ho ⟨(Nat.le_of_ble_eq_true rfl), (Nat.le_of_ble_eq_true rfl)⟩ ⟨(Nat.le_of_ble_eq_true rfl), (Nat.le_of_ble_eq_true rfl)⟩ rfl hl.1 rfl (Nat.le_of_ble_eq_true rfl) d_R_hasRoom_5 hZ hS (fun v w_1 H locs hp_2 hZ hS => ?_)
  obtain ⟨rfl, hq⟩ := hp_2
  subst w_1
  refine W.eq (g2 := F0 m 8 ls [.int (sumI (F 11) 16), .int (S 2)]) rfl ?_
  refine lv_iadd hx hb d_R_hasRoom_8 ?_
  refine lv_iload_n hx hb d_R_hasRoom_9 rfl (lv_at hl 1 rfl) ?_
  refine lv_iadd hx hb d_R_hasRoom_10 ?_
  refine lv_sipush (v := 4000) hx hb d_R_hasRoom_11 (by decide) ?_
  refine lv_icmp_gt (tgt := 21) hx hb d_R_hasRoom_14 (by decide) (fun c14 => ?_) (fun c14 => ?_)
  · refine lv_iconst (v := 0) hx hb d_R_hasRoom_21 (by decide) ?_
    exact z_zret cx.1 cx.2.1 cx.rt cx.lk (by first | rfl | (simp [narrow]; done) | simp_all [narrow]) hS hZ ⟨(Nat.le_of_ble_eq_true rfl), (Nat.le_of_ble_eq_true rfl)⟩ d_R_hasRoom_22 (⟨by simp [zi, c14], rfl⟩)
  · refine lv_iconst (v := 1) hx hb d_R_hasRoom_17 (by decide) ?_
    refine lv_goto (tgt := 22) hx hb d_R_hasRoom_18 (by decide) ?_
    exact z_zret cx.1 cx.2.1 cx.rt cx.lk (by first | rfl | (simp [narrow]; done) | simp_all [narrow]) hS hZ ⟨(Nat.le_of_ble_eq_true rfl), (Nat.le_of_ble_eq_true rfl)⟩ d_R_hasRoom_22 (⟨by simp [zi, c14], rfl⟩)
set_option maxHeartbeats 4000000 in
set_option maxRecDepth 100000 in
theorem r_isVertical_0 (l : Launch) (G : zG) (n0 e0 : Nat) (w : zw) (o : Nat) (A : Nat → Nat) (S : Nat → Int32) (L : Nat → Int64) (ho : w o = some (.inr (6, fR A S L))) (hl0 : S 1 ≤ 0) : Ct l G n0 e0 y_R_isVertical b_R_isVertical 1 (Option.some FieldType.boolean) ({ frames := 0, cells := 0, slots := 0, locals := 0 }) [.ref o] w (fun v w1 => v = some (.int 0) ∧ w1 = w) := by
  refine z_ct (by decide) (Nat.le_of_ble_eq_true rfl) ?_
  intro p e s m below meth c ls cx hnm hZ hS hl
  have hx := cx.1
  have hb := cx.2.1
  have hl : lv_has ls 1 [(0, .ref o)] := hl
  refine lv_aload_n hx hb d_R_isVertical_0 rfl (lv_at hl 0 rfl) ?_
  refine gf_R_68 cx hZ ho rfl d_R_isVertical_1 ?_
  refine lv_if_le (tgt := 25) hx hb d_R_isVertical_4 (by decide) (fun c4 => ?_) (fun c4 => ?_)
  · refine lv_iconst (v := 0) hx hb d_R_isVertical_25 (by decide) ?_
    exact z_zret cx.1 cx.2.1 cx.rt cx.lk (by first | rfl | (simp [narrow]; done) | simp_all [narrow]) hS hZ ⟨(Nat.le_of_ble_eq_true rfl), (Nat.le_of_ble_eq_true rfl)⟩ d_R_isVertical_26 (⟨rfl, rfl⟩)
  · exact absurd hl0 c4
set_option maxHeartbeats 4000000 in
set_option maxRecDepth 100000 in
theorem r_isVertical_1 (l : Launch) (G : zG) (n0 e0 : Nat) (w : zw) (o : Nat) (A : Nat → Nat) (S : Nat → Int32) (L : Nat → Int64) (ho : w o = some (.inr (6, fR A S L))) (F : Nat → Nat → Int32) (h10 : w (A 10) = some (.inl (G.2 2, 101, .inl (F 10)))) (k : Nat) (hk : k < 101) (hs1 : S 1 = nI (k + 1)) (b : Bool) (hfb : F 10 k = zi b) : Ct l G n0 e0 y_R_isVertical b_R_isVertical 1 (Option.some FieldType.boolean) ({ frames := 0, cells := 0, slots := 0, locals := 0 }) [.ref o] w (fun v w1 => v = some (.int (zi b)) ∧ w1 = w) := by
  refine z_ct (by decide) (Nat.le_of_ble_eq_true rfl) ?_
  intro p e s m below meth c ls cx hnm hZ hS hl
  have hx := cx.1
  have hb := cx.2.1
  have hl : lv_has ls 1 [(0, .ref o)] := hl
  refine lv_aload_n hx hb d_R_isVertical_0 rfl (lv_at hl 0 rfl) ?_
  refine gf_R_68 cx hZ ho rfl d_R_isVertical_1 ?_
  refine lv_if_le (tgt := 25) hx hb d_R_isVertical_4 (by decide) (fun c4 => ?_) (fun c4 => ?_)
  · exact absurd (hs1 ▸ c4) (nI_nle (by omega) (by omega))
  · refine lv_aload_n hx hb d_R_isVertical_7 rfl (lv_at hl 0 rfl) ?_
    refine gf_R_41 cx hZ ho rfl d_R_isVertical_8 ?_
    refine lv_aload_n hx hb d_R_isVertical_11 rfl (lv_at hl 0 rfl) ?_
    refine gf_R_68 cx hZ ho rfl d_R_isVertical_12 ?_
    refine lv_iconst (v := 1) hx hb d_R_isVertical_15 (by decide) ?_
    refine lv_isub hx hb d_R_isVertical_16 ?_
    rw [show (((S 1) - 1) : Int32) = nI k from by rw [hs1]; exact nI_pred k]
    refine ld_z cx hZ h10 (vp_in_nI hk (by omega)) d_R_isVertical_17 ?_
    rw [show (((F 10) (nI k).toNatClampNeg) : Int32) = zi b from by rw [nI_clamp (by omega)]; exact hfb]
    refine lv_if_eq (tgt := 25) hx hb d_R_isVertical_18 (by decide) (fun c18 => ?_) (fun c18 => ?_)
    · refine lv_iconst (v := 0) hx hb d_R_isVertical_25 (by decide) ?_
      exact z_zret cx.1 cx.2.1 cx.rt cx.lk (by first | rfl | (simp [narrow]; done) | simp_all [narrow]) hS hZ ⟨(Nat.le_of_ble_eq_true rfl), (Nat.le_of_ble_eq_true rfl)⟩ d_R_isVertical_26 (⟨by simp_all [zi_0, zi_n0, zi_t, zi_f], rfl⟩)
    · refine lv_iconst (v := 1) hx hb d_R_isVertical_21 (by decide) ?_
      refine lv_goto (tgt := 26) hx hb d_R_isVertical_22 (by decide) ?_
      exact z_zret cx.1 cx.2.1 cx.rt cx.lk (by first | rfl | (simp [narrow]; done) | simp_all [narrow]) hS hZ ⟨(Nat.le_of_ble_eq_true rfl), (Nat.le_of_ble_eq_true rfl)⟩ d_R_isVertical_26 (⟨by simp_all [zi_0, zi_n0, zi_t, zi_f], rfl⟩)
set_option maxHeartbeats 4000000 in
set_option maxRecDepth 100000 in
theorem r_isFull_out (l : Launch) (G : zG) (n0 e0 : Nat) (w : zw) (o : Nat) (A : Nat → Nat) (S : Nat → Int32) (L : Nat → Int64) (ho : w o = some (.inr (6, fR A S L))) (k : Int32) (hk : regB k = false) : Ct l G n0 e0 y_R_isFull b_R_isFull 2 (Option.some FieldType.boolean) ({ frames := 0, cells := 0, slots := 0, locals := 0 }) [.ref o, .int k] w (fun v w1 => v = some (.int 0) ∧ w1 = w) := by
  refine z_ct (by decide) (Nat.le_of_ble_eq_true rfl) ?_
  intro p e s m below meth c ls cx hnm hZ hS hl
  have hx := cx.1
  have hb := cx.2.1
  have hl : lv_has ls 2 [(0, .ref o), (1, .int k)] := hl
  refine lv_iload_n hx hb d_R_isFull_0 rfl (lv_at hl 1 rfl) ?_
  refine lv_if_lt (tgt := 37) hx hb d_R_isFull_1 (by decide) (fun c1 => ?_) (fun c1 => ?_)
  · refine lv_iconst (v := 0) hx hb d_R_isFull_37 (by decide) ?_
    exact z_zret cx.1 cx.2.1 cx.rt cx.lk (by first | rfl | (simp [narrow]; done) | simp_all [narrow]) hS hZ ⟨(Nat.le_of_ble_eq_true rfl), (Nat.le_of_ble_eq_true rfl)⟩ d_R_isFull_38 (⟨rfl, rfl⟩)
  · refine lv_iload_n hx hb d_R_isFull_4 rfl (lv_at hl 1 rfl) ?_
    refine lv_bipush (v := 16) hx hb d_R_isFull_5 (by decide) ?_
    refine lv_icmp_ge (tgt := 37) hx hb d_R_isFull_7 (by decide) (fun c7 => ?_) (fun c7 => ?_)
    · refine lv_iconst (v := 0) hx hb d_R_isFull_37 (by decide) ?_
      exact z_zret cx.1 cx.2.1 cx.rt cx.lk (by first | rfl | (simp [narrow]; done) | simp_all [narrow]) hS hZ ⟨(Nat.le_of_ble_eq_true rfl), (Nat.le_of_ble_eq_true rfl)⟩ d_R_isFull_38 (⟨rfl, rfl⟩)
    · exact absurd (regB_in c1 c7) (by rw [hk]; decide)
set_option maxHeartbeats 4000000 in
set_option maxRecDepth 100000 in
theorem r_isFull_in (l : Launch) (G : zG) (n0 e0 : Nat) (w : zw) (o : Nat) (A : Nat → Nat) (S : Nat → Int32) (L : Nat → Int64) (ho : w o = some (.inr (6, fR A S L))) (F : Nat → Nat → Int32) (h11 : w (A 11) = some (.inl (G.2 0, 16, .inl (F 11)))) (k : Nat) (hk : k < 16) : Ct l G n0 e0 y_R_isFull b_R_isFull 2 (Option.some FieldType.boolean) ({ frames := 0, cells := 0, slots := 0, locals := 0 }) [.ref o, .int (nI k)] w (fun v w1 => v = some (.int (zi (!decide (F 11 k ≤ 0)))) ∧ w1 = w) := by
  refine z_ct (by decide) (Nat.le_of_ble_eq_true rfl) ?_
  intro p e s m below meth c ls cx hnm hZ hS hl
  have hx := cx.1
  have hb := cx.2.1
  have hl : lv_has ls 2 [(0, .ref o), (1, .int (nI k))] := hl
  refine lv_iload_n hx hb d_R_isFull_0 rfl (lv_at hl 1 rfl) ?_
  refine lv_if_lt (tgt := 37) hx hb d_R_isFull_1 (by decide) (fun c1 => ?_) (fun c1 => ?_)
  · exact absurd c1 (nI_pos (by omega))
  · refine lv_iload_n hx hb d_R_isFull_4 rfl (lv_at hl 1 rfl) ?_
    refine lv_bipush (v := 16) hx hb d_R_isFull_5 (by decide) ?_
    refine lv_icmp_ge (tgt := 37) hx hb d_R_isFull_7 (by decide) (fun c7 => ?_) (fun c7 => ?_)
    · exact absurd c7 (nI_nge16 hk)
    · refine lv_aload_n hx hb d_R_isFull_10 rfl (lv_at hl 0 rfl) ?_
      refine gf_R_45 cx hZ ho rfl d_R_isFull_11 ?_
      refine lv_iload_n hx hb d_R_isFull_14 rfl (lv_at hl 1 rfl) ?_
      refine lv_if_lt (tgt := 28) hx hb d_R_isFull_15 (by decide) (fun c15 => ?_) (fun c15 => ?_)
      · exact absurd c15 (nI_pos (by omega))
      · refine lv_iload_n hx hb d_R_isFull_18 rfl (lv_at hl 1 rfl) ?_
        refine lv_bipush (v := 16) hx hb d_R_isFull_19 (by decide) ?_
        refine lv_icmp_ge (tgt := 28) hx hb d_R_isFull_21 (by decide) (fun c21 => ?_) (fun c21 => ?_)
        · exact absurd c21 (nI_nge16 hk)
        · refine lv_iload_n hx hb d_R_isFull_24 rfl (lv_at hl 1 rfl) ?_
          refine lv_goto (tgt := 29) hx hb d_R_isFull_25 (by decide) ?_
          refine ld_i cx hZ h11 (vp_in_nI hk (by omega)) d_R_isFull_29 ?_
          rw [show (((F 11) (nI k).toNatClampNeg) : Int32) = F 11 k from by rw [nI_clamp (by omega)]]
          refine lv_if_le (tgt := 37) hx hb d_R_isFull_30 (by decide) (fun c30 => ?_) (fun c30 => ?_)
          · refine lv_iconst (v := 0) hx hb d_R_isFull_37 (by decide) ?_
            exact z_zret cx.1 cx.2.1 cx.rt cx.lk (by first | rfl | (simp [narrow]; done) | simp_all [narrow]) hS hZ ⟨(Nat.le_of_ble_eq_true rfl), (Nat.le_of_ble_eq_true rfl)⟩ d_R_isFull_38 (⟨by simp [zi, c30], rfl⟩)
          · refine lv_iconst (v := 1) hx hb d_R_isFull_33 (by decide) ?_
            refine lv_goto (tgt := 38) hx hb d_R_isFull_34 (by decide) ?_
            exact z_zret cx.1 cx.2.1 cx.rt cx.lk (by first | rfl | (simp [narrow]; done) | simp_all [narrow]) hS hZ ⟨(Nat.le_of_ble_eq_true rfl), (Nat.le_of_ble_eq_true rfl)⟩ d_R_isFull_38 (⟨by simp [zi, c30], rfl⟩)
set_option maxHeartbeats 4000000 in
set_option maxRecDepth 100000 in
theorem r_open_no (l : Launch) (G : zG) (n0 e0 : Nat) (w : zw) (o : Nat) (A : Nat → Nat) (S : Nat → Int32) (L : Nat → Int64) (ho : w o = some (.inr (6, fR A S L))) (vt : Bool) (hs1 : S 1 = 100) : Ct l G n0 e0 y_R_open b_R_open 2 (Option.some FieldType.boolean) ({ frames := 0, cells := 0, slots := 0, locals := 0 }) [.ref o, .int (zi vt)] w (fun v w1 => v = some (.int 0) ∧ w1 o = some (.inr (6, fR A (upd S 0 0) L)) ∧ Fr [o] w w1) := by
  refine z_ct (by decide) (Nat.le_of_ble_eq_true rfl) ?_
  intro p e s m below meth c ls cx hnm hZ hS hl
  have hx := cx.1
  have hb := cx.2.1
  have hl : lv_has ls 2 [(0, .ref o), (1, .int (zi vt))] := hl
  have hF : Fr [o] w w := Fr.rf
  refine lv_aload_n hx hb d_R_open_0 rfl (lv_at hl 0 rfl) ?_
  refine lv_iconst (v := 0) hx hb d_R_open_1 (by decide) ?_
  refine pf_R_51 cx hZ hS ho (Nat.le_of_ble_eq_true rfl) d_R_open_2 (fun w_1 H locs hw_2 hZ hS => ?_)
  have hF := hF.put hw_2 (Or.inl (by simp))
  have hc_3 : w_1 o = some (.inr (6, [.int 0, .ref (A 0), .ref (A 1), .ref (A 2), .ref (A 3), .ref (A 4), .ref (A 5), .ref (A 6), .ref (A 7), .ref (A 8), .int (S 1), .ref (A 9), .ref (A 10), .int (S 2), .ref (A 11), .long (L 0), .long (L 1), .long (L 2), .long (L 3), .ref (A 12), .long (L 4)])) := up_self hw_2
  refine lv_aload_n hx hb d_R_open_5 rfl (lv_at hl 0 rfl) ?_
  refine gf_R_68 cx hZ hc_3 rfl d_R_open_6 ?_
  refine lv_bipush (v := 100) hx hb d_R_open_9 (by decide) ?_
  refine lv_icmp_ne (tgt := 16) hx hb d_R_open_11 (by decide) (fun c11 => ?_) (fun c11 => ?_)
  · exact absurd hs1 c11
  · refine lv_iconst (v := 0) hx hb d_R_open_14 (by decide) ?_
    exact z_zret cx.1 cx.2.1 cx.rt cx.lk (by first | rfl | (simp [narrow]; done) | simp_all [narrow]) hS hZ ⟨(Nat.le_of_ble_eq_true rfl), (Nat.le_of_ble_eq_true rfl)⟩ d_R_open_15 (⟨rfl, hc_3, hF⟩)
set_option maxHeartbeats 4000000 in
set_option maxRecDepth 100000 in
theorem r_open (l : Launch) (G : zG) (n0 e0 : Nat) (w : zw) (o : Nat) (A : Nat → Nat) (S : Nat → Int32) (L : Nat → Int64) (ho : w o = some (.inr (6, fR A S L))) (F : Nat → Nat → Int32) (h9 : w (A 9) = some (.inl (G.2 0, 101, .inl (F 9)))) (h10 : w (A 10) = some (.inl (G.2 2, 101, .inl (F 10)))) (hA : ∀ i j, i < 13 → j < 13 → i ≠ j → A i ≠ A j) (vt : Bool) (k : Nat) (hk : k < 100) (hs1 : S 1 = nI k) : Ct l G n0 e0 y_R_open b_R_open 2 (Option.some FieldType.boolean) ({ frames := 0, cells := 0, slots := 0, locals := 0 }) [.ref o, .int (zi vt)] w (fun v w1 => v = some (.int 1) ∧ w1 (A 9) = some (.inl (G.2 0, 101, .inl (upd (F 9) k (S 2)))) ∧ w1 (A 10) = some (.inl (G.2 2, 101, .inl (upd (F 10) k (zi vt)))) ∧ w1 o = some (.inr (6, fR A (upd (upd S 0 0) 1 (nI (k + 1))) L)) ∧ Fr [o, A 9, A 10] w w1) := by
  refine z_ct (by decide) (Nat.le_of_ble_eq_true rfl) ?_
  intro p e s m below meth c ls cx hnm hZ hS hl
  have hx := cx.1
  have hb := cx.2.1
  have hl : lv_has ls 2 [(0, .ref o), (1, .int (zi vt))] := hl
  have hF : Fr [o, (A 9), (A 10)] w w := Fr.rf
  refine lv_aload_n hx hb d_R_open_0 rfl (lv_at hl 0 rfl) ?_
  refine lv_iconst (v := 0) hx hb d_R_open_1 (by decide) ?_
  refine pf_R_51 cx hZ hS ho (Nat.le_of_ble_eq_true rfl) d_R_open_2 (fun w_1 H locs hw_2 hZ hS => ?_)
  have hk_3 : w_1 (A 9) = some (.inl (G.2 0, 101, .inl (F 9))) := up_ne hw_2 h9 (z_ne h9 ho (by simp))
  have hk_4 : w_1 (A 10) = some (.inl (G.2 2, 101, .inl (F 10))) := up_ne hw_2 h10 (z_ne h10 ho (by simp))
  have hF := hF.put hw_2 (Or.inl (by simp))
  have hc_5 : w_1 o = some (.inr (6, [.int 0, .ref (A 0), .ref (A 1), .ref (A 2), .ref (A 3), .ref (A 4), .ref (A 5), .ref (A 6), .ref (A 7), .ref (A 8), .int (S 1), .ref (A 9), .ref (A 10), .int (S 2), .ref (A 11), .long (L 0), .long (L 1), .long (L 2), .long (L 3), .ref (A 12), .long (L 4)])) := up_self hw_2
  refine lv_aload_n hx hb d_R_open_5 rfl (lv_at hl 0 rfl) ?_
  refine gf_R_68 cx hZ hc_5 rfl d_R_open_6 ?_
  refine lv_bipush (v := 100) hx hb d_R_open_9 (by decide) ?_
  refine lv_icmp_ne (tgt := 16) hx hb d_R_open_11 (by decide) (fun c11 => ?_) (fun c11 => ?_)
  · refine lv_aload_n hx hb d_R_open_16 rfl (lv_at hl 0 rfl) ?_
    refine gf_R_38 cx hZ hc_5 rfl d_R_open_17 ?_
    refine lv_aload_n hx hb d_R_open_20 rfl (lv_at hl 0 rfl) ?_
    refine gf_R_68 cx hZ hc_5 rfl d_R_open_21 ?_
    refine lv_aload_n hx hb d_R_open_24 rfl (lv_at hl 0 rfl) ?_
    refine gf_R_61 cx hZ hc_5 rfl d_R_open_25 ?_
    refine st_i cx hZ hS hk_3 (by rw [hs1]; exact vp_in_nI (by omega) (by omega)) d_R_open_28 (fun w_6 H locs hw_7 hZ hS => ?_)
    have hk_8 : w_6 o = some (.inr (6, [.int 0, .ref (A 0), .ref (A 1), .ref (A 2), .ref (A 3), .ref (A 4), .ref (A 5), .ref (A 6), .ref (A 7), .ref (A 8), .int (S 1), .ref (A 9), .ref (A 10), .int (S 2), .ref (A 11), .long (L 0), .long (L 1), .long (L 2), .long (L 3), .ref (A 12), .long (L 4)])) := up_ne hw_7 hc_5 (z_ne hc_5 hk_3 (by simp))
    have hk_9 : w_6 (A 10) = some (.inl (G.2 2, 101, .inl (F 10))) := up_ne hw_7 hk_4 ((hA 10 9 (by decide) (by decide) (by decide)))
    have hF := hF.put hw_7 (Or.inl (by simp))
    have hc_10 : w_6 (A 9) = some (.inl (G.2 0, 101, .inl (upd (F 9) (S 1).toNatClampNeg (S 2)))) := up_self hw_7
    refine lv_aload_n hx hb d_R_open_29 rfl (lv_at hl 0 rfl) ?_
    refine gf_R_41 cx hZ hk_8 rfl d_R_open_30 ?_
    refine lv_aload_n hx hb d_R_open_33 rfl (lv_at hl 0 rfl) ?_
    refine gf_R_68 cx hZ hk_8 rfl d_R_open_34 ?_
    refine lv_iload_n hx hb d_R_open_37 rfl (lv_at hl 1 rfl) ?_
    refine st_z cx hZ hS hk_9 (by rw [hs1]; exact vp_in_nI (by omega) (by omega)) d_R_open_38 (fun w_11 H locs hw_12 hZ hS => ?_)
    have hk_13 : w_11 o = some (.inr (6, [.int 0, .ref (A 0), .ref (A 1), .ref (A 2), .ref (A 3), .ref (A 4), .ref (A 5), .ref (A 6), .ref (A 7), .ref (A 8), .int (S 1), .ref (A 9), .ref (A 10), .int (S 2), .ref (A 11), .long (L 0), .long (L 1), .long (L 2), .long (L 3), .ref (A 12), .long (L 4)])) := up_ne hw_12 hk_8 (z_ne hk_8 hk_9 (by simp))
    have hk_14 : w_11 (A 9) = some (.inl (G.2 0, 101, .inl (upd (F 9) (S 1).toNatClampNeg (S 2)))) := up_ne hw_12 hc_10 ((hA 9 10 (by decide) (by decide) (by decide)))
    have hF := hF.put hw_12 (Or.inl (by simp))
    have hc_15 : w_11 (A 10) = some (.inl (G.2 2, 101, .inl (upd (F 10) (S 1).toNatClampNeg (vp_nar .boolean (zi vt))))) := up_self hw_12
    refine lv_aload_n hx hb d_R_open_39 rfl (lv_at hl 0 rfl) ?_
    refine lv_dup hx hb d_R_open_40 rfl ?_
    refine gf_R_68 cx hZ hk_13 rfl d_R_open_41 ?_
    refine lv_iconst (v := 1) hx hb d_R_open_44 (by decide) ?_
    refine lv_iadd hx hb d_R_open_45 ?_
    rw [show (((S 1) + 1) : Int32) = nI (k + 1) from by rw [hs1]; exact nI_1 k]
    refine pf_R_68 cx hZ hS hk_13 (Nat.le_of_ble_eq_true rfl) d_R_open_46 (fun w_16 H locs hw_17 hZ hS => ?_)
    have hk_18 : w_16 (A 9) = some (.inl (G.2 0, 101, .inl (upd (F 9) (S 1).toNatClampNeg (S 2)))) := up_ne hw_17 hk_14 (z_ne hk_14 hk_13 (by simp))
    have hk_19 : w_16 (A 10) = some (.inl (G.2 2, 101, .inl (upd (F 10) (S 1).toNatClampNeg (vp_nar .boolean (zi vt))))) := up_ne hw_17 hc_15 (z_ne hc_15 hk_13 (by simp))
    have hF := hF.put hw_17 (Or.inl (by simp))
    have hc_20 : w_16 o = some (.inr (6, [.int 0, .ref (A 0), .ref (A 1), .ref (A 2), .ref (A 3), .ref (A 4), .ref (A 5), .ref (A 6), .ref (A 7), .ref (A 8), .int (nI (k + 1)), .ref (A 9), .ref (A 10), .int (S 2), .ref (A 11), .long (L 0), .long (L 1), .long (L 2), .long (L 3), .ref (A 12), .long (L 4)])) := up_self hw_17
    refine lv_iconst (v := 1) hx hb d_R_open_49 (by decide) ?_
    exact z_zret cx.1 cx.2.1 cx.rt cx.lk (by first | rfl | (simp [narrow]; done) | simp_all [narrow]) hS hZ ⟨(Nat.le_of_ble_eq_true rfl), (Nat.le_of_ble_eq_true rfl)⟩ d_R_open_50 (⟨rfl, (by have := hk_18; rw [hs1, nI_clamp (by omega)] at this; exact this), (by have := hk_19; rw [hs1, nI_clamp (by omega), vnar_zi] at this; exact this), hc_20, hF⟩)
  · exact absurd (hs1 ▸ c11) (ne100 hk)
